theorem dX0_init_0 : decode cX0_init 0 = .ok (.aload_n 0, 1) := by decide +kernel
theorem dX0_init_1 : decode cX0_init 1 = .ok (.invokespecial 3, 3) := by decide +kernel
theorem dX0_init_4 : decode cX0_init 4 = .ok (.aload_n 0, 1) := by decide +kernel
theorem dX0_init_5 : decode cX0_init 5 = .ok (.bipush 8, 2) := by decide +kernel
theorem dX0_init_7 : decode cX0_init 7 = .ok (.newarray .int, 2) := by decide +kernel
theorem dX0_init_9 : decode cX0_init 9 = .ok (.putfield 9, 3) := by decide +kernel
theorem dX0_init_12 : decode cX0_init 12 = .ok (.aload_n 0, 1) := by decide +kernel
theorem dX0_init_13 : decode cX0_init 13 = .ok (.iconst 0, 1) := by decide +kernel
theorem dX0_init_14 : decode cX0_init 14 = .ok (.putfield 15, 3) := by decide +kernel
theorem dX0_init_17 : decode cX0_init 17 = .ok (.aload_n 0, 1) := by decide +kernel
theorem dX0_init_18 : decode cX0_init 18 = .ok (.iconst 4, 1) := by decide +kernel
theorem dX0_init_19 : decode cX0_init 19 = .ok (.putfield 19, 3) := by decide +kernel
theorem dX0_init_22 : decode cX0_init 22 = .ok (.return_, 1) := by decide +kernel
theorem dX0_copyFrom_0 : decode cX0_copyFrom 0 = .ok (.aload_n 0, 1) := by decide +kernel
theorem dX0_copyFrom_1 : decode cX0_copyFrom 1 = .ok (.aload_n 1, 1) := by decide +kernel
theorem dX0_copyFrom_2 : decode cX0_copyFrom 2 = .ok (.getfield 15, 3) := by decide +kernel
theorem dX0_copyFrom_5 : decode cX0_copyFrom 5 = .ok (.putfield 15, 3) := by decide +kernel
theorem dX0_copyFrom_8 : decode cX0_copyFrom 8 = .ok (.aload_n 0, 1) := by decide +kernel
theorem dX0_copyFrom_9 : decode cX0_copyFrom 9 = .ok (.aload_n 1, 1) := by decide +kernel
theorem dX0_copyFrom_10 : decode cX0_copyFrom 10 = .ok (.getfield 19, 3) := by decide +kernel
theorem dX0_copyFrom_13 : decode cX0_copyFrom 13 = .ok (.putfield 19, 3) := by decide +kernel
theorem dX0_copyFrom_16 : decode cX0_copyFrom 16 = .ok (.aload_n 1, 1) := by decide +kernel
theorem dX0_copyFrom_17 : decode cX0_copyFrom 17 = .ok (.getfield 9, 3) := by decide +kernel
theorem dX0_copyFrom_20 : decode cX0_copyFrom 20 = .ok (.iconst 0, 1) := by decide +kernel
theorem dX0_copyFrom_21 : decode cX0_copyFrom 21 = .ok (.aload_n 0, 1) := by decide +kernel
theorem dX0_copyFrom_22 : decode cX0_copyFrom 22 = .ok (.getfield 9, 3) := by decide +kernel
theorem dX0_copyFrom_25 : decode cX0_copyFrom 25 = .ok (.iconst 0, 1) := by decide +kernel
theorem dX0_copyFrom_26 : decode cX0_copyFrom 26 = .ok (.aload_n 0, 1) := by decide +kernel
theorem dX0_copyFrom_27 : decode cX0_copyFrom 27 = .ok (.getfield 15, 3) := by decide +kernel
theorem dX0_copyFrom_30 : decode cX0_copyFrom 30 = .ok (.invokestatic 22, 3) := by decide +kernel
theorem dX0_copyFrom_33 : decode cX0_copyFrom 33 = .ok (.return_, 1) := by decide +kernel
theorem dX0_use_0 : decode cX0_use 0 = .ok (.aload_n 0, 1) := by decide +kernel
theorem dX0_use_1 : decode cX0_use 1 = .ok (.iload_n 1, 1) := by decide +kernel
theorem dX0_use_2 : decode cX0_use 2 = .ok (.iload_n 1, 1) := by decide +kernel
theorem dX0_use_3 : decode cX0_use 3 = .ok (.invokevirtual 28, 3) := by decide +kernel
theorem dX0_use_6 : decode cX0_use 6 = .ok (.ifCond .le 7, 3) := by decide +kernel
theorem dX0_use_9 : decode cX0_use 9 = .ok (.iconst 1, 1) := by decide +kernel
theorem dX0_use_10 : decode cX0_use 10 = .ok (.goto 4, 3) := by decide +kernel
theorem dX0_use_13 : decode cX0_use 13 = .ok (.iconst 0, 1) := by decide +kernel
theorem dX0_use_14 : decode cX0_use 14 = .ok (.istore_n 2, 1) := by decide +kernel
theorem dX0_use_15 : decode cX0_use 15 = .ok (.aload_n 0, 1) := by decide +kernel
theorem dX0_use_16 : decode cX0_use 16 = .ok (.getfield 19, 3) := by decide +kernel
theorem dX0_use_19 : decode cX0_use 19 = .ok (.ifCond .le 33, 3) := by decide +kernel
theorem dX0_use_22 : decode cX0_use 22 = .ok (.aload_n 0, 1) := by decide +kernel
theorem dX0_use_23 : decode cX0_use 23 = .ok (.aload_n 0, 1) := by decide +kernel
theorem dX0_use_24 : decode cX0_use 24 = .ok (.getfield 19, 3) := by decide +kernel
theorem dX0_use_27 : decode cX0_use 27 = .ok (.iconst 1, 1) := by decide +kernel
theorem dX0_use_28 : decode cX0_use 28 = .ok (.isub, 1) := by decide +kernel
theorem dX0_use_29 : decode cX0_use 29 = .ok (.invokevirtual 32, 3) := by decide +kernel
theorem dX0_use_32 : decode cX0_use 32 = .ok (.aload_n 0, 1) := by decide +kernel
theorem dX0_use_33 : decode cX0_use 33 = .ok (.getfield 9, 3) := by decide +kernel
theorem dX0_use_36 : decode cX0_use 36 = .ok (.aload_n 0, 1) := by decide +kernel
theorem dX0_use_37 : decode cX0_use 37 = .ok (.getfield 15, 3) := by decide +kernel
theorem dX0_use_40 : decode cX0_use 40 = .ok (.iload_n 1, 1) := by decide +kernel
theorem dX0_use_41 : decode cX0_use 41 = .ok (.iastore, 1) := by decide +kernel
theorem dX0_use_42 : decode cX0_use 42 = .ok (.aload_n 0, 1) := by decide +kernel
theorem dX0_use_43 : decode cX0_use 43 = .ok (.dup, 1) := by decide +kernel
theorem dX0_use_44 : decode cX0_use 44 = .ok (.getfield 15, 3) := by decide +kernel
theorem dX0_use_47 : decode cX0_use 47 = .ok (.iconst 1, 1) := by decide +kernel
theorem dX0_use_48 : decode cX0_use 48 = .ok (.iadd, 1) := by decide +kernel
theorem dX0_use_49 : decode cX0_use 49 = .ok (.putfield 15, 3) := by decide +kernel
theorem dX0_use_52 : decode cX0_use 52 = .ok (.iload_n 2, 1) := by decide +kernel
theorem dX0_use_53 : decode cX0_use 53 = .ok (.ireturn, 1) := by decide +kernel
theorem dX0_dropList_0 : decode cX0_dropList 0 = .ok (.aload_n 0, 1) := by decide +kernel
theorem dX0_dropList_1 : decode cX0_dropList 1 = .ok (.bipush 100, 2) := by decide +kernel
theorem dX0_dropList_3 : decode cX0_dropList 3 = .ok (.iload_n 1, 1) := by decide +kernel
theorem dX0_dropList_4 : decode cX0_dropList 4 = .ok (.imul, 1) := by decide +kernel
theorem dX0_dropList_5 : decode cX0_dropList 5 = .ok (.bipush 100, 2) := by decide +kernel
theorem dX0_dropList_7 : decode cX0_dropList 7 = .ok (.iload_n 1, 1) := by decide +kernel
theorem dX0_dropList_8 : decode cX0_dropList 8 = .ok (.imul, 1) := by decide +kernel
theorem dX0_dropList_9 : decode cX0_dropList 9 = .ok (.bipush 100, 2) := by decide +kernel
theorem dX0_dropList_11 : decode cX0_dropList 11 = .ok (.iadd, 1) := by decide +kernel
theorem dX0_dropList_12 : decode cX0_dropList 12 = .ok (.iconst 1, 1) := by decide +kernel
theorem dX0_dropList_13 : decode cX0_dropList 13 = .ok (.isub, 1) := by decide +kernel
theorem dX0_dropList_14 : decode cX0_dropList 14 = .ok (.invokevirtual 28, 3) := by decide +kernel
theorem dX0_dropList_17 : decode cX0_dropList 17 = .ok (.pop, 1) := by decide +kernel
theorem dX0_dropList_18 : decode cX0_dropList 18 = .ok (.return_, 1) := by decide +kernel
theorem dX0_resize_0 : decode cX0_resize 0 = .ok (.aload_n 0, 1) := by decide +kernel
theorem dX0_resize_1 : decode cX0_resize 1 = .ok (.iload_n 1, 1) := by decide +kernel
theorem dX0_resize_2 : decode cX0_resize 2 = .ok (.invokevirtual 32, 3) := by decide +kernel
theorem dX0_resize_5 : decode cX0_resize 5 = .ok (.aload_n 0, 1) := by decide +kernel
theorem dX0_resize_6 : decode cX0_resize 6 = .ok (.iload_n 1, 1) := by decide +kernel
theorem dX0_resize_7 : decode cX0_resize 7 = .ok (.putfield 19, 3) := by decide +kernel
theorem dX0_resize_10 : decode cX0_resize 10 = .ok (.return_, 1) := by decide +kernel
theorem dX0_dropBetween_0 : decode cX0_dropBetween 0 = .ok (.aload_n 0, 1) := by decide +kernel
theorem dX0_dropBetween_1 : decode cX0_dropBetween 1 = .ok (.getfield 15, 3) := by decide +kernel
theorem dX0_dropBetween_4 : decode cX0_dropBetween 4 = .ok (.istore_n 3, 1) := by decide +kernel
theorem dX0_dropBetween_5 : decode cX0_dropBetween 5 = .ok (.iconst 0, 1) := by decide +kernel
theorem dX0_dropBetween_6 : decode cX0_dropBetween 6 = .ok (.istore 4, 2) := by decide +kernel
theorem dX0_dropBetween_8 : decode cX0_dropBetween 8 = .ok (.iconst 0, 1) := by decide +kernel
theorem dX0_dropBetween_9 : decode cX0_dropBetween 9 = .ok (.istore 5, 2) := by decide +kernel
theorem dX0_dropBetween_11 : decode cX0_dropBetween 11 = .ok (.iload 5, 2) := by decide +kernel
theorem dX0_dropBetween_13 : decode cX0_dropBetween 13 = .ok (.iload_n 3, 1) := by decide +kernel
theorem dX0_dropBetween_14 : decode cX0_dropBetween 14 = .ok (.if_icmp .ge 48, 3) := by decide +kernel
theorem dX0_dropBetween_17 : decode cX0_dropBetween 17 = .ok (.aload_n 0, 1) := by decide +kernel
theorem dX0_dropBetween_18 : decode cX0_dropBetween 18 = .ok (.getfield 9, 3) := by decide +kernel
theorem dX0_dropBetween_21 : decode cX0_dropBetween 21 = .ok (.iload 5, 2) := by decide +kernel
theorem dX0_dropBetween_23 : decode cX0_dropBetween 23 = .ok (.iaload, 1) := by decide +kernel
theorem dX0_dropBetween_24 : decode cX0_dropBetween 24 = .ok (.iload_n 1, 1) := by decide +kernel
theorem dX0_dropBetween_25 : decode cX0_dropBetween 25 = .ok (.if_icmp .lt 14, 3) := by decide +kernel
theorem dX0_dropBetween_28 : decode cX0_dropBetween 28 = .ok (.aload_n 0, 1) := by decide +kernel
theorem dX0_dropBetween_29 : decode cX0_dropBetween 29 = .ok (.getfield 9, 3) := by decide +kernel
theorem dX0_dropBetween_32 : decode cX0_dropBetween 32 = .ok (.iload 5, 2) := by decide +kernel
theorem dX0_dropBetween_34 : decode cX0_dropBetween 34 = .ok (.iaload, 1) := by decide +kernel
theorem dX0_dropBetween_35 : decode cX0_dropBetween 35 = .ok (.iload_n 2, 1) := by decide +kernel
theorem dX0_dropBetween_36 : decode cX0_dropBetween 36 = .ok (.if_icmp .le 20, 3) := by decide +kernel
theorem dX0_dropBetween_39 : decode cX0_dropBetween 39 = .ok (.aload_n 0, 1) := by decide +kernel
theorem dX0_dropBetween_40 : decode cX0_dropBetween 40 = .ok (.getfield 9, 3) := by decide +kernel
theorem dX0_dropBetween_43 : decode cX0_dropBetween 43 = .ok (.iload 4, 2) := by decide +kernel
theorem dX0_dropBetween_45 : decode cX0_dropBetween 45 = .ok (.aload_n 0, 1) := by decide +kernel
theorem dX0_dropBetween_46 : decode cX0_dropBetween 46 = .ok (.getfield 9, 3) := by decide +kernel
theorem dX0_dropBetween_49 : decode cX0_dropBetween 49 = .ok (.iload 5, 2) := by decide +kernel
theorem dX0_dropBetween_51 : decode cX0_dropBetween 51 = .ok (.iaload, 1) := by decide +kernel
theorem dX0_dropBetween_52 : decode cX0_dropBetween 52 = .ok (.iastore, 1) := by decide +kernel
theorem dX0_dropBetween_53 : decode cX0_dropBetween 53 = .ok (.iinc 4 1, 3) := by decide +kernel
theorem dX0_dropBetween_56 : decode cX0_dropBetween 56 = .ok (.iinc 5 1, 3) := by decide +kernel
theorem dX0_dropBetween_59 : decode cX0_dropBetween 59 = .ok (.goto (-48), 3) := by decide +kernel
theorem dX0_dropBetween_62 : decode cX0_dropBetween 62 = .ok (.aload_n 0, 1) := by decide +kernel
theorem dX0_dropBetween_63 : decode cX0_dropBetween 63 = .ok (.iload 4, 2) := by decide +kernel
theorem dX0_dropBetween_65 : decode cX0_dropBetween 65 = .ok (.putfield 15, 3) := by decide +kernel
theorem dX0_dropBetween_68 : decode cX0_dropBetween 68 = .ok (.iload_n 3, 1) := by decide +kernel
theorem dX0_dropBetween_69 : decode cX0_dropBetween 69 = .ok (.iload 4, 2) := by decide +kernel
theorem dX0_dropBetween_71 : decode cX0_dropBetween 71 = .ok (.isub, 1) := by decide +kernel
theorem dX0_dropBetween_72 : decode cX0_dropBetween 72 = .ok (.ireturn, 1) := by decide +kernel
theorem dX0_shrinkTo_0 : decode cX0_shrinkTo 0 = .ok (.aload_n 0, 1) := by decide +kernel
theorem dX0_shrinkTo_1 : decode cX0_shrinkTo 1 = .ok (.getfield 15, 3) := by decide +kernel
theorem dX0_shrinkTo_4 : decode cX0_shrinkTo 4 = .ok (.iload_n 1, 1) := by decide +kernel
theorem dX0_shrinkTo_5 : decode cX0_shrinkTo 5 = .ok (.isub, 1) := by decide +kernel
theorem dX0_shrinkTo_6 : decode cX0_shrinkTo 6 = .ok (.istore_n 2, 1) := by decide +kernel
theorem dX0_shrinkTo_7 : decode cX0_shrinkTo 7 = .ok (.iload_n 2, 1) := by decide +kernel
theorem dX0_shrinkTo_8 : decode cX0_shrinkTo 8 = .ok (.ifCond .le 22, 3) := by decide +kernel
theorem dX0_shrinkTo_11 : decode cX0_shrinkTo 11 = .ok (.aload_n 0, 1) := by decide +kernel
theorem dX0_shrinkTo_12 : decode cX0_shrinkTo 12 = .ok (.getfield 9, 3) := by decide +kernel
theorem dX0_shrinkTo_15 : decode cX0_shrinkTo 15 = .ok (.iload_n 2, 1) := by decide +kernel
theorem dX0_shrinkTo_16 : decode cX0_shrinkTo 16 = .ok (.aload_n 0, 1) := by decide +kernel
theorem dX0_shrinkTo_17 : decode cX0_shrinkTo 17 = .ok (.getfield 9, 3) := by decide +kernel
theorem dX0_shrinkTo_20 : decode cX0_shrinkTo 20 = .ok (.iconst 0, 1) := by decide +kernel
theorem dX0_shrinkTo_21 : decode cX0_shrinkTo 21 = .ok (.iload_n 1, 1) := by decide +kernel
theorem dX0_shrinkTo_22 : decode cX0_shrinkTo 22 = .ok (.invokestatic 22, 3) := by decide +kernel
theorem dX0_shrinkTo_25 : decode cX0_shrinkTo 25 = .ok (.aload_n 0, 1) := by decide +kernel
theorem dX0_shrinkTo_26 : decode cX0_shrinkTo 26 = .ok (.iload_n 1, 1) := by decide +kernel
theorem dX0_shrinkTo_27 : decode cX0_shrinkTo 27 = .ok (.putfield 15, 3) := by decide +kernel
theorem dX0_shrinkTo_30 : decode cX0_shrinkTo 30 = .ok (.return_, 1) := by decide +kernel
theorem dX1_init_0 : decode cX1_init 0 = .ok (.aload_n 0, 1) := by decide +kernel
theorem dX1_init_1 : decode cX1_init 1 = .ok (.invokespecial 3, 3) := by decide +kernel
theorem dX1_init_4 : decode cX1_init 4 = .ok (.aload_n 0, 1) := by decide +kernel
theorem dX1_init_5 : decode cX1_init 5 = .ok (.sipush 538, 3) := by decide +kernel
theorem dX1_init_8 : decode cX1_init 8 = .ok (.newarray .int, 2) := by decide +kernel
theorem dX1_init_10 : decode cX1_init 10 = .ok (.putfield 9, 3) := by decide +kernel
theorem dX1_init_13 : decode cX1_init 13 = .ok (.aload_n 0, 1) := by decide +kernel
theorem dX1_init_14 : decode cX1_init 14 = .ok (.iconst 0, 1) := by decide +kernel
theorem dX1_init_15 : decode cX1_init 15 = .ok (.putfield 15, 3) := by decide +kernel
theorem dX1_init_18 : decode cX1_init 18 = .ok (.return_, 1) := by decide +kernel
theorem dX1_bitAt_0 : decode cX1_bitAt 0 = .ok (.iload_n 1, 1) := by decide +kernel
theorem dX1_bitAt_1 : decode cX1_bitAt 1 = .ok (.ifCond .lt 20, 3) := by decide +kernel
theorem dX1_bitAt_4 : decode cX1_bitAt 4 = .ok (.iload_n 1, 1) := by decide +kernel
theorem dX1_bitAt_5 : decode cX1_bitAt 5 = .ok (.aload_n 0, 1) := by decide +kernel
theorem dX1_bitAt_6 : decode cX1_bitAt 6 = .ok (.getfield 15, 3) := by decide +kernel
theorem dX1_bitAt_9 : decode cX1_bitAt 9 = .ok (.if_icmp .ge 12, 3) := by decide +kernel
theorem dX1_bitAt_12 : decode cX1_bitAt 12 = .ok (.aload_n 0, 1) := by decide +kernel
theorem dX1_bitAt_13 : decode cX1_bitAt 13 = .ok (.getfield 9, 3) := by decide +kernel
theorem dX1_bitAt_16 : decode cX1_bitAt 16 = .ok (.iload_n 1, 1) := by decide +kernel
theorem dX1_bitAt_17 : decode cX1_bitAt 17 = .ok (.iaload, 1) := by decide +kernel
theorem dX1_bitAt_18 : decode cX1_bitAt 18 = .ok (.goto 4, 3) := by decide +kernel
theorem dX1_bitAt_21 : decode cX1_bitAt 21 = .ok (.iconst 0, 1) := by decide +kernel
theorem dX1_bitAt_22 : decode cX1_bitAt 22 = .ok (.ireturn, 1) := by decide +kernel
theorem dX1_write_0 : decode cX1_write 0 = .ok (.aload_n 0, 1) := by decide +kernel
theorem dX1_write_1 : decode cX1_write 1 = .ok (.iconst 0, 1) := by decide +kernel
theorem dX1_write_2 : decode cX1_write 2 = .ok (.putfield 15, 3) := by decide +kernel
theorem dX1_write_5 : decode cX1_write 5 = .ok (.iconst 0, 1) := by decide +kernel
theorem dX1_write_6 : decode cX1_write 6 = .ok (.istore_n 2, 1) := by decide +kernel
theorem dX1_write_7 : decode cX1_write 7 = .ok (.iconst 0, 1) := by decide +kernel
theorem dX1_write_8 : decode cX1_write 8 = .ok (.istore_n 3, 1) := by decide +kernel
theorem dX1_write_9 : decode cX1_write 9 = .ok (.iload_n 3, 1) := by decide +kernel
theorem dX1_write_10 : decode cX1_write 10 = .ok (.aload_n 1, 1) := by decide +kernel
theorem dX1_write_11 : decode cX1_write 11 = .ok (.getfield 19, 3) := by decide +kernel
theorem dX1_write_14 : decode cX1_write 14 = .ok (.if_icmp .ge 68, 3) := by decide +kernel
theorem dX1_write_17 : decode cX1_write 17 = .ok (.aload_n 1, 1) := by decide +kernel
theorem dX1_write_18 : decode cX1_write 18 = .ok (.iload_n 3, 1) := by decide +kernel
theorem dX1_write_19 : decode cX1_write 19 = .ok (.iconst 0, 1) := by decide +kernel
theorem dX1_write_20 : decode cX1_write 20 = .ok (.invokevirtual 24, 3) := by decide +kernel
theorem dX1_write_23 : decode cX1_write 23 = .ok (.istore 4, 2) := by decide +kernel
theorem dX1_write_25 : decode cX1_write 25 = .ok (.aload_n 0, 1) := by decide +kernel
theorem dX1_write_26 : decode cX1_write 26 = .ok (.aload_n 1, 1) := by decide +kernel
theorem dX1_write_27 : decode cX1_write 27 = .ok (.iload_n 3, 1) := by decide +kernel
theorem dX1_write_28 : decode cX1_write 28 = .ok (.invokevirtual 28, 3) := by decide +kernel
theorem dX1_write_31 : decode cX1_write 31 = .ok (.iload 4, 2) := by decide +kernel
theorem dX1_write_33 : decode cX1_write 33 = .ok (.iconst 1, 1) := by decide +kernel
theorem dX1_write_34 : decode cX1_write 34 = .ok (.if_icmp .ne 13, 3) := by decide +kernel
theorem dX1_write_37 : decode cX1_write 37 = .ok (.aload_n 0, 1) := by decide +kernel
theorem dX1_write_38 : decode cX1_write 38 = .ok (.aload_n 1, 1) := by decide +kernel
theorem dX1_write_39 : decode cX1_write 39 = .ok (.iload_n 3, 1) := by decide +kernel
theorem dX1_write_40 : decode cX1_write 40 = .ok (.iload_n 2, 1) := by decide +kernel
theorem dX1_write_41 : decode cX1_write 41 = .ok (.invokevirtual 32, 3) := by decide +kernel
theorem dX1_write_44 : decode cX1_write 44 = .ok (.goto 23, 3) := by decide +kernel
theorem dX1_write_47 : decode cX1_write 47 = .ok (.iload 4, 2) := by decide +kernel
theorem dX1_write_49 : decode cX1_write 49 = .ok (.iconst 2, 1) := by decide +kernel
theorem dX1_write_50 : decode cX1_write 50 = .ok (.if_icmp .ne 17, 3) := by decide +kernel
theorem dX1_write_53 : decode cX1_write 53 = .ok (.aload_n 0, 1) := by decide +kernel
theorem dX1_write_54 : decode cX1_write 54 = .ok (.aload_n 1, 1) := by decide +kernel
theorem dX1_write_55 : decode cX1_write 55 = .ok (.iload_n 3, 1) := by decide +kernel
theorem dX1_write_56 : decode cX1_write 56 = .ok (.iload_n 2, 1) := by decide +kernel
theorem dX1_write_57 : decode cX1_write 57 = .ok (.invokevirtual 36, 3) := by decide +kernel
theorem dX1_write_60 : decode cX1_write 60 = .ok (.aload_n 0, 1) := by decide +kernel
theorem dX1_write_61 : decode cX1_write 61 = .ok (.aload_n 1, 1) := by decide +kernel
theorem dX1_write_62 : decode cX1_write 62 = .ok (.iload_n 3, 1) := by decide +kernel
theorem dX1_write_63 : decode cX1_write 63 = .ok (.iload_n 2, 1) := by decide +kernel
theorem dX1_write_64 : decode cX1_write 64 = .ok (.invokevirtual 39, 3) := by decide +kernel
theorem dX1_write_67 : decode cX1_write 67 = .ok (.iload_n 2, 1) := by decide +kernel
theorem dX1_write_68 : decode cX1_write 68 = .ok (.aload_n 1, 1) := by decide +kernel
theorem dX1_write_69 : decode cX1_write 69 = .ok (.iload_n 3, 1) := by decide +kernel
theorem dX1_write_70 : decode cX1_write 70 = .ok (.iconst 1, 1) := by decide +kernel
theorem dX1_write_71 : decode cX1_write 71 = .ok (.invokevirtual 24, 3) := by decide +kernel
theorem dX1_write_74 : decode cX1_write 74 = .ok (.iadd, 1) := by decide +kernel
theorem dX1_write_75 : decode cX1_write 75 = .ok (.istore_n 2, 1) := by decide +kernel
theorem dX1_write_76 : decode cX1_write 76 = .ok (.iinc 3 1, 3) := by decide +kernel
theorem dX1_write_79 : decode cX1_write 79 = .ok (.goto (-70), 3) := by decide +kernel
theorem dX1_write_82 : decode cX1_write 82 = .ok (.return_, 1) := by decide +kernel
theorem dX1_put_0 : decode cX1_put 0 = .ok (.iconst 0, 1) := by decide +kernel
theorem dX1_put_1 : decode cX1_put 1 = .ok (.istore_n 3, 1) := by decide +kernel
theorem dX1_put_2 : decode cX1_put 2 = .ok (.iload_n 3, 1) := by decide +kernel
theorem dX1_put_3 : decode cX1_put 3 = .ok (.iload_n 2, 1) := by decide +kernel
theorem dX1_put_4 : decode cX1_put 4 = .ok (.if_icmp .ge 43, 3) := by decide +kernel
theorem dX1_put_7 : decode cX1_put 7 = .ok (.aload_n 0, 1) := by decide +kernel
theorem dX1_put_8 : decode cX1_put 8 = .ok (.getfield 15, 3) := by decide +kernel
theorem dX1_put_11 : decode cX1_put 11 = .ok (.sipush 538, 3) := by decide +kernel
theorem dX1_put_14 : decode cX1_put 14 = .ok (.if_icmp .ge 33, 3) := by decide +kernel
theorem dX1_put_17 : decode cX1_put 17 = .ok (.aload_n 0, 1) := by decide +kernel
theorem dX1_put_18 : decode cX1_put 18 = .ok (.getfield 9, 3) := by decide +kernel
theorem dX1_put_21 : decode cX1_put 21 = .ok (.aload_n 0, 1) := by decide +kernel
theorem dX1_put_22 : decode cX1_put 22 = .ok (.getfield 15, 3) := by decide +kernel
theorem dX1_put_25 : decode cX1_put 25 = .ok (.iload_n 1, 1) := by decide +kernel
theorem dX1_put_26 : decode cX1_put 26 = .ok (.iload_n 3, 1) := by decide +kernel
theorem dX1_put_27 : decode cX1_put 27 = .ok (.ishr, 1) := by decide +kernel
theorem dX1_put_28 : decode cX1_put 28 = .ok (.iconst 1, 1) := by decide +kernel
theorem dX1_put_29 : decode cX1_put 29 = .ok (.iand, 1) := by decide +kernel
theorem dX1_put_30 : decode cX1_put 30 = .ok (.iastore, 1) := by decide +kernel
theorem dX1_put_31 : decode cX1_put 31 = .ok (.aload_n 0, 1) := by decide +kernel
theorem dX1_put_32 : decode cX1_put 32 = .ok (.dup, 1) := by decide +kernel
theorem dX1_put_33 : decode cX1_put 33 = .ok (.getfield 15, 3) := by decide +kernel
theorem dX1_put_36 : decode cX1_put 36 = .ok (.iconst 1, 1) := by decide +kernel
theorem dX1_put_37 : decode cX1_put 37 = .ok (.iadd, 1) := by decide +kernel
theorem dX1_put_38 : decode cX1_put 38 = .ok (.putfield 15, 3) := by decide +kernel
theorem dX1_put_41 : decode cX1_put 41 = .ok (.iinc 3 1, 3) := by decide +kernel
theorem dX1_put_44 : decode cX1_put 44 = .ok (.goto (-42), 3) := by decide +kernel
theorem dX1_put_47 : decode cX1_put 47 = .ok (.return_, 1) := by decide +kernel
theorem dX1_setBit_0 : decode cX1_setBit 0 = .ok (.iload_n 1, 1) := by decide +kernel
theorem dX1_setBit_1 : decode cX1_setBit 1 = .ok (.ifCond .lt 18, 3) := by decide +kernel
theorem dX1_setBit_4 : decode cX1_setBit 4 = .ok (.iload_n 1, 1) := by decide +kernel
theorem dX1_setBit_5 : decode cX1_setBit 5 = .ok (.aload_n 0, 1) := by decide +kernel
theorem dX1_setBit_6 : decode cX1_setBit 6 = .ok (.getfield 15, 3) := by decide +kernel
theorem dX1_setBit_9 : decode cX1_setBit 9 = .ok (.if_icmp .ge 10, 3) := by decide +kernel
theorem dX1_setBit_12 : decode cX1_setBit 12 = .ok (.aload_n 0, 1) := by decide +kernel
theorem dX1_setBit_13 : decode cX1_setBit 13 = .ok (.getfield 9, 3) := by decide +kernel
theorem dX1_setBit_16 : decode cX1_setBit 16 = .ok (.iload_n 1, 1) := by decide +kernel
theorem dX1_setBit_17 : decode cX1_setBit 17 = .ok (.iconst 1, 1) := by decide +kernel
theorem dX1_setBit_18 : decode cX1_setBit 18 = .ok (.iastore, 1) := by decide +kernel
theorem dX1_setBit_19 : decode cX1_setBit 19 = .ok (.return_, 1) := by decide +kernel
theorem dX1_putHeader_0 : decode cX1_putHeader 0 = .ok (.aload_n 0, 1) := by decide +kernel
theorem dX1_putHeader_1 : decode cX1_putHeader 1 = .ok (.aload_n 1, 1) := by decide +kernel
theorem dX1_putHeader_2 : decode cX1_putHeader 2 = .ok (.iload_n 2, 1) := by decide +kernel
theorem dX1_putHeader_3 : decode cX1_putHeader 3 = .ok (.iconst 0, 1) := by decide +kernel
theorem dX1_putHeader_4 : decode cX1_putHeader 4 = .ok (.invokevirtual 24, 3) := by decide +kernel
theorem dX1_putHeader_7 : decode cX1_putHeader 7 = .ok (.iconst 2, 1) := by decide +kernel
theorem dX1_putHeader_8 : decode cX1_putHeader 8 = .ok (.invokevirtual 42, 3) := by decide +kernel
theorem dX1_putHeader_11 : decode cX1_putHeader 11 = .ok (.aload_n 0, 1) := by decide +kernel
theorem dX1_putHeader_12 : decode cX1_putHeader 12 = .ok (.aload_n 1, 1) := by decide +kernel
theorem dX1_putHeader_13 : decode cX1_putHeader 13 = .ok (.iload_n 2, 1) := by decide +kernel
theorem dX1_putHeader_14 : decode cX1_putHeader 14 = .ok (.iconst 1, 1) := by decide +kernel
theorem dX1_putHeader_15 : decode cX1_putHeader 15 = .ok (.invokevirtual 24, 3) := by decide +kernel
theorem dX1_putHeader_18 : decode cX1_putHeader 18 = .ok (.iconst 1, 1) := by decide +kernel
theorem dX1_putHeader_19 : decode cX1_putHeader 19 = .ok (.isub, 1) := by decide +kernel
theorem dX1_putHeader_20 : decode cX1_putHeader 20 = .ok (.bipush 6, 2) := by decide +kernel
theorem dX1_putHeader_22 : decode cX1_putHeader 22 = .ok (.invokevirtual 42, 3) := by decide +kernel
theorem dX1_putHeader_25 : decode cX1_putHeader 25 = .ok (.aload_n 0, 1) := by decide +kernel
theorem dX1_putHeader_26 : decode cX1_putHeader 26 = .ok (.aload_n 1, 1) := by decide +kernel
theorem dX1_putHeader_27 : decode cX1_putHeader 27 = .ok (.iload_n 2, 1) := by decide +kernel
theorem dX1_putHeader_28 : decode cX1_putHeader 28 = .ok (.iconst 2, 1) := by decide +kernel
theorem dX1_putHeader_29 : decode cX1_putHeader 29 = .ok (.invokevirtual 24, 3) := by decide +kernel
theorem dX1_putHeader_32 : decode cX1_putHeader 32 = .ok (.bipush 9, 2) := by decide +kernel
theorem dX1_putHeader_34 : decode cX1_putHeader 34 = .ok (.invokevirtual 42, 3) := by decide +kernel
theorem dX1_putHeader_37 : decode cX1_putHeader 37 = .ok (.aload_n 0, 1) := by decide +kernel
theorem dX1_putHeader_38 : decode cX1_putHeader 38 = .ok (.aload_n 1, 1) := by decide +kernel
theorem dX1_putHeader_39 : decode cX1_putHeader 39 = .ok (.iload_n 2, 1) := by decide +kernel
theorem dX1_putHeader_40 : decode cX1_putHeader 40 = .ok (.invokevirtual 46, 3) := by decide +kernel
theorem dX1_putHeader_43 : decode cX1_putHeader 43 = .ok (.iconst 1, 1) := by decide +kernel
theorem dX1_putHeader_44 : decode cX1_putHeader 44 = .ok (.isub, 1) := by decide +kernel
theorem dX1_putHeader_45 : decode cX1_putHeader 45 = .ok (.bipush 9, 2) := by decide +kernel
theorem dX1_putHeader_47 : decode cX1_putHeader 47 = .ok (.invokevirtual 42, 3) := by decide +kernel
theorem dX1_putHeader_50 : decode cX1_putHeader 50 = .ok (.return_, 1) := by decide +kernel
theorem dX1_putBitmap_0 : decode cX1_putBitmap 0 = .ok (.aload_n 0, 1) := by decide +kernel
theorem dX1_putBitmap_1 : decode cX1_putBitmap 1 = .ok (.getfield 15, 3) := by decide +kernel
theorem dX1_putBitmap_4 : decode cX1_putBitmap 4 = .ok (.istore 4, 2) := by decide +kernel
theorem dX1_putBitmap_6 : decode cX1_putBitmap 6 = .ok (.aload_n 1, 1) := by decide +kernel
theorem dX1_putBitmap_7 : decode cX1_putBitmap 7 = .ok (.iload_n 2, 1) := by decide +kernel
theorem dX1_putBitmap_8 : decode cX1_putBitmap 8 = .ok (.iconst 2, 1) := by decide +kernel
theorem dX1_putBitmap_9 : decode cX1_putBitmap 9 = .ok (.invokevirtual 24, 3) := by decide +kernel
theorem dX1_putBitmap_12 : decode cX1_putBitmap 12 = .ok (.istore 5, 2) := by decide +kernel
theorem dX1_putBitmap_14 : decode cX1_putBitmap 14 = .ok (.aload_n 1, 1) := by decide +kernel
theorem dX1_putBitmap_15 : decode cX1_putBitmap 15 = .ok (.iload_n 2, 1) := by decide +kernel
theorem dX1_putBitmap_16 : decode cX1_putBitmap 16 = .ok (.iconst 1, 1) := by decide +kernel
theorem dX1_putBitmap_17 : decode cX1_putBitmap 17 = .ok (.invokevirtual 24, 3) := by decide +kernel
theorem dX1_putBitmap_20 : decode cX1_putBitmap 20 = .ok (.istore 6, 2) := by decide +kernel
theorem dX1_putBitmap_22 : decode cX1_putBitmap 22 = .ok (.aload_n 0, 1) := by decide +kernel
theorem dX1_putBitmap_23 : decode cX1_putBitmap 23 = .ok (.iconst 0, 1) := by decide +kernel
theorem dX1_putBitmap_24 : decode cX1_putBitmap 24 = .ok (.aload_n 1, 1) := by decide +kernel
theorem dX1_putBitmap_25 : decode cX1_putBitmap 25 = .ok (.iload_n 2, 1) := by decide +kernel
theorem dX1_putBitmap_26 : decode cX1_putBitmap 26 = .ok (.invokevirtual 46, 3) := by decide +kernel
theorem dX1_putBitmap_29 : decode cX1_putBitmap 29 = .ok (.invokevirtual 42, 3) := by decide +kernel
theorem dX1_putBitmap_32 : decode cX1_putBitmap 32 = .ok (.iconst 0, 1) := by decide +kernel
theorem dX1_putBitmap_33 : decode cX1_putBitmap 33 = .ok (.istore 7, 2) := by decide +kernel
theorem dX1_putBitmap_35 : decode cX1_putBitmap 35 = .ok (.iload 7, 2) := by decide +kernel
theorem dX1_putBitmap_37 : decode cX1_putBitmap 37 = .ok (.iload 6, 2) := by decide +kernel
theorem dX1_putBitmap_39 : decode cX1_putBitmap 39 = .ok (.if_icmp .ge 27, 3) := by decide +kernel
theorem dX1_putBitmap_42 : decode cX1_putBitmap 42 = .ok (.aload_n 0, 1) := by decide +kernel
theorem dX1_putBitmap_43 : decode cX1_putBitmap 43 = .ok (.iload 4, 2) := by decide +kernel
theorem dX1_putBitmap_45 : decode cX1_putBitmap 45 = .ok (.aload_n 1, 1) := by decide +kernel
theorem dX1_putBitmap_46 : decode cX1_putBitmap 46 = .ok (.iload_n 3, 1) := by decide +kernel
theorem dX1_putBitmap_47 : decode cX1_putBitmap 47 = .ok (.iload 7, 2) := by decide +kernel
theorem dX1_putBitmap_49 : decode cX1_putBitmap 49 = .ok (.iadd, 1) := by decide +kernel
theorem dX1_putBitmap_50 : decode cX1_putBitmap 50 = .ok (.invokevirtual 50, 3) := by decide +kernel
theorem dX1_putBitmap_53 : decode cX1_putBitmap 53 = .ok (.iadd, 1) := by decide +kernel
theorem dX1_putBitmap_54 : decode cX1_putBitmap 54 = .ok (.iload 5, 2) := by decide +kernel
theorem dX1_putBitmap_56 : decode cX1_putBitmap 56 = .ok (.isub, 1) := by decide +kernel
theorem dX1_putBitmap_57 : decode cX1_putBitmap 57 = .ok (.invokevirtual 53, 3) := by decide +kernel
theorem dX1_putBitmap_60 : decode cX1_putBitmap 60 = .ok (.iinc 7 1, 3) := by decide +kernel
theorem dX1_putBitmap_63 : decode cX1_putBitmap 63 = .ok (.goto (-28), 3) := by decide +kernel
theorem dX1_putBitmap_66 : decode cX1_putBitmap 66 = .ok (.return_, 1) := by decide +kernel
theorem dX1_putHighParts_0 : decode cX1_putHighParts 0 = .ok (.aload_n 0, 1) := by decide +kernel
theorem dX1_putHighParts_1 : decode cX1_putHighParts 1 = .ok (.getfield 15, 3) := by decide +kernel
theorem dX1_putHighParts_4 : decode cX1_putHighParts 4 = .ok (.istore 4, 2) := by decide +kernel
theorem dX1_putHighParts_6 : decode cX1_putHighParts 6 = .ok (.aload_n 1, 1) := by decide +kernel
theorem dX1_putHighParts_7 : decode cX1_putHighParts 7 = .ok (.iload_n 2, 1) := by decide +kernel
theorem dX1_putHighParts_8 : decode cX1_putHighParts 8 = .ok (.iconst 2, 1) := by decide +kernel
theorem dX1_putHighParts_9 : decode cX1_putHighParts 9 = .ok (.invokevirtual 24, 3) := by decide +kernel
theorem dX1_putHighParts_12 : decode cX1_putHighParts 12 = .ok (.istore 5, 2) := by decide +kernel
theorem dX1_putHighParts_14 : decode cX1_putHighParts 14 = .ok (.aload_n 1, 1) := by decide +kernel
theorem dX1_putHighParts_15 : decode cX1_putHighParts 15 = .ok (.iload_n 2, 1) := by decide +kernel
theorem dX1_putHighParts_16 : decode cX1_putHighParts 16 = .ok (.iconst 1, 1) := by decide +kernel
theorem dX1_putHighParts_17 : decode cX1_putHighParts 17 = .ok (.invokevirtual 24, 3) := by decide +kernel
theorem dX1_putHighParts_20 : decode cX1_putHighParts 20 = .ok (.istore 6, 2) := by decide +kernel
theorem dX1_putHighParts_22 : decode cX1_putHighParts 22 = .ok (.aload_n 1, 1) := by decide +kernel
theorem dX1_putHighParts_23 : decode cX1_putHighParts 23 = .ok (.iload_n 2, 1) := by decide +kernel
theorem dX1_putHighParts_24 : decode cX1_putHighParts 24 = .ok (.iconst 5, 1) := by decide +kernel
theorem dX1_putHighParts_25 : decode cX1_putHighParts 25 = .ok (.invokevirtual 24, 3) := by decide +kernel
theorem dX1_putHighParts_28 : decode cX1_putHighParts 28 = .ok (.istore 7, 2) := by decide +kernel
theorem dX1_putHighParts_30 : decode cX1_putHighParts 30 = .ok (.aload_n 0, 1) := by decide +kernel
theorem dX1_putHighParts_31 : decode cX1_putHighParts 31 = .ok (.iconst 0, 1) := by decide +kernel
theorem dX1_putHighParts_32 : decode cX1_putHighParts 32 = .ok (.iload 6, 2) := by decide +kernel
theorem dX1_putHighParts_34 : decode cX1_putHighParts 34 = .ok (.aload_n 1, 1) := by decide +kernel
theorem dX1_putHighParts_35 : decode cX1_putHighParts 35 = .ok (.iload_n 2, 1) := by decide +kernel
theorem dX1_putHighParts_36 : decode cX1_putHighParts 36 = .ok (.invokevirtual 46, 3) := by decide +kernel
theorem dX1_putHighParts_39 : decode cX1_putHighParts 39 = .ok (.iload 7, 2) := by decide +kernel
theorem dX1_putHighParts_41 : decode cX1_putHighParts 41 = .ok (.invokestatic 57, 3) := by decide +kernel
theorem dX1_putHighParts_44 : decode cX1_putHighParts 44 = .ok (.invokevirtual 42, 3) := by decide +kernel
theorem dX1_putHighParts_47 : decode cX1_putHighParts 47 = .ok (.iconst 0, 1) := by decide +kernel
theorem dX1_putHighParts_48 : decode cX1_putHighParts 48 = .ok (.istore 8, 2) := by decide +kernel
theorem dX1_putHighParts_50 : decode cX1_putHighParts 50 = .ok (.iload 8, 2) := by decide +kernel
theorem dX1_putHighParts_52 : decode cX1_putHighParts 52 = .ok (.iload 6, 2) := by decide +kernel
theorem dX1_putHighParts_54 : decode cX1_putHighParts 54 = .ok (.if_icmp .ge 33, 3) := by decide +kernel
theorem dX1_putHighParts_57 : decode cX1_putHighParts 57 = .ok (.aload_n 0, 1) := by decide +kernel
theorem dX1_putHighParts_58 : decode cX1_putHighParts 58 = .ok (.iload 4, 2) := by decide +kernel
theorem dX1_putHighParts_60 : decode cX1_putHighParts 60 = .ok (.iload 8, 2) := by decide +kernel
theorem dX1_putHighParts_62 : decode cX1_putHighParts 62 = .ok (.iadd, 1) := by decide +kernel
theorem dX1_putHighParts_63 : decode cX1_putHighParts 63 = .ok (.aload_n 1, 1) := by decide +kernel
theorem dX1_putHighParts_64 : decode cX1_putHighParts 64 = .ok (.iload_n 3, 1) := by decide +kernel
theorem dX1_putHighParts_65 : decode cX1_putHighParts 65 = .ok (.iload 8, 2) := by decide +kernel
theorem dX1_putHighParts_67 : decode cX1_putHighParts 67 = .ok (.iadd, 1) := by decide +kernel
theorem dX1_putHighParts_68 : decode cX1_putHighParts 68 = .ok (.invokevirtual 50, 3) := by decide +kernel
theorem dX1_putHighParts_71 : decode cX1_putHighParts 71 = .ok (.iload 5, 2) := by decide +kernel
theorem dX1_putHighParts_73 : decode cX1_putHighParts 73 = .ok (.isub, 1) := by decide +kernel
theorem dX1_putHighParts_74 : decode cX1_putHighParts 74 = .ok (.iload 7, 2) := by decide +kernel
theorem dX1_putHighParts_76 : decode cX1_putHighParts 76 = .ok (.ishr, 1) := by decide +kernel
theorem dX1_putHighParts_77 : decode cX1_putHighParts 77 = .ok (.iadd, 1) := by decide +kernel
theorem dX1_putHighParts_78 : decode cX1_putHighParts 78 = .ok (.invokevirtual 53, 3) := by decide +kernel
theorem dX1_putHighParts_81 : decode cX1_putHighParts 81 = .ok (.iinc 8 1, 3) := by decide +kernel
theorem dX1_putHighParts_84 : decode cX1_putHighParts 84 = .ok (.goto (-34), 3) := by decide +kernel
theorem dX1_putHighParts_87 : decode cX1_putHighParts 87 = .ok (.return_, 1) := by decide +kernel
theorem dX1_putLowParts_0 : decode cX1_putLowParts 0 = .ok (.aload_n 1, 1) := by decide +kernel
theorem dX1_putLowParts_1 : decode cX1_putLowParts 1 = .ok (.iload_n 2, 1) := by decide +kernel
theorem dX1_putLowParts_2 : decode cX1_putLowParts 2 = .ok (.iconst 2, 1) := by decide +kernel
theorem dX1_putLowParts_3 : decode cX1_putLowParts 3 = .ok (.invokevirtual 24, 3) := by decide +kernel
theorem dX1_putLowParts_6 : decode cX1_putLowParts 6 = .ok (.istore 4, 2) := by decide +kernel
theorem dX1_putLowParts_8 : decode cX1_putLowParts 8 = .ok (.aload_n 1, 1) := by decide +kernel
theorem dX1_putLowParts_9 : decode cX1_putLowParts 9 = .ok (.iload_n 2, 1) := by decide +kernel
theorem dX1_putLowParts_10 : decode cX1_putLowParts 10 = .ok (.iconst 1, 1) := by decide +kernel
theorem dX1_putLowParts_11 : decode cX1_putLowParts 11 = .ok (.invokevirtual 24, 3) := by decide +kernel
theorem dX1_putLowParts_14 : decode cX1_putLowParts 14 = .ok (.istore 5, 2) := by decide +kernel
theorem dX1_putLowParts_16 : decode cX1_putLowParts 16 = .ok (.aload_n 1, 1) := by decide +kernel
theorem dX1_putLowParts_17 : decode cX1_putLowParts 17 = .ok (.iload_n 2, 1) := by decide +kernel
theorem dX1_putLowParts_18 : decode cX1_putLowParts 18 = .ok (.iconst 5, 1) := by decide +kernel
theorem dX1_putLowParts_19 : decode cX1_putLowParts 19 = .ok (.invokevirtual 24, 3) := by decide +kernel
theorem dX1_putLowParts_22 : decode cX1_putLowParts 22 = .ok (.istore 6, 2) := by decide +kernel
theorem dX1_putLowParts_24 : decode cX1_putLowParts 24 = .ok (.iconst 0, 1) := by decide +kernel
theorem dX1_putLowParts_25 : decode cX1_putLowParts 25 = .ok (.istore 7, 2) := by decide +kernel
theorem dX1_putLowParts_27 : decode cX1_putLowParts 27 = .ok (.iload 7, 2) := by decide +kernel
theorem dX1_putLowParts_29 : decode cX1_putLowParts 29 = .ok (.iload 5, 2) := by decide +kernel
theorem dX1_putLowParts_31 : decode cX1_putLowParts 31 = .ok (.if_icmp .ge 26, 3) := by decide +kernel
theorem dX1_putLowParts_34 : decode cX1_putLowParts 34 = .ok (.aload_n 0, 1) := by decide +kernel
theorem dX1_putLowParts_35 : decode cX1_putLowParts 35 = .ok (.aload_n 1, 1) := by decide +kernel
theorem dX1_putLowParts_36 : decode cX1_putLowParts 36 = .ok (.iload_n 3, 1) := by decide +kernel
theorem dX1_putLowParts_37 : decode cX1_putLowParts 37 = .ok (.iload 7, 2) := by decide +kernel
theorem dX1_putLowParts_39 : decode cX1_putLowParts 39 = .ok (.iadd, 1) := by decide +kernel
theorem dX1_putLowParts_40 : decode cX1_putLowParts 40 = .ok (.invokevirtual 50, 3) := by decide +kernel
theorem dX1_putLowParts_43 : decode cX1_putLowParts 43 = .ok (.iload 4, 2) := by decide +kernel
theorem dX1_putLowParts_45 : decode cX1_putLowParts 45 = .ok (.isub, 1) := by decide +kernel
theorem dX1_putLowParts_46 : decode cX1_putLowParts 46 = .ok (.iload 6, 2) := by decide +kernel
theorem dX1_putLowParts_48 : decode cX1_putLowParts 48 = .ok (.invokevirtual 42, 3) := by decide +kernel
theorem dX1_putLowParts_51 : decode cX1_putLowParts 51 = .ok (.iinc 7 1, 3) := by decide +kernel
theorem dX1_putLowParts_54 : decode cX1_putLowParts 54 = .ok (.goto (-27), 3) := by decide +kernel
theorem dX1_putLowParts_57 : decode cX1_putLowParts 57 = .ok (.return_, 1) := by decide +kernel
theorem dX2_init_0 : decode cX2_init 0 = .ok (.aload_n 0, 1) := by decide +kernel
theorem dX2_init_1 : decode cX2_init 1 = .ok (.invokespecial 3, 3) := by decide +kernel
theorem dX2_init_4 : decode cX2_init 4 = .ok (.aload_n 0, 1) := by decide +kernel
theorem dX2_init_5 : decode cX2_init 5 = .ok (.iconst 4, 1) := by decide +kernel
theorem dX2_init_6 : decode cX2_init 6 = .ok (.anewarray 9, 3) := by decide +kernel
theorem dX2_init_9 : decode cX2_init 9 = .ok (.putfield 11, 3) := by decide +kernel
theorem dX2_init_12 : decode cX2_init 12 = .ok (.aload_n 0, 1) := by decide +kernel
theorem dX2_init_13 : decode cX2_init 13 = .ok (.iconst 0, 1) := by decide +kernel
theorem dX2_init_14 : decode cX2_init 14 = .ok (.putfield 17, 3) := by decide +kernel
theorem dX2_init_17 : decode cX2_init 17 = .ok (.aload_n 0, 1) := by decide +kernel
theorem dX2_init_18 : decode cX2_init 18 = .ok (.iconst 0, 1) := by decide +kernel
theorem dX2_init_19 : decode cX2_init 19 = .ok (.putfield 21, 3) := by decide +kernel
theorem dX2_init_22 : decode cX2_init 22 = .ok (.iconst 0, 1) := by decide +kernel
theorem dX2_init_23 : decode cX2_init 23 = .ok (.istore_n 1, 1) := by decide +kernel
theorem dX2_init_24 : decode cX2_init 24 = .ok (.iload_n 1, 1) := by decide +kernel
theorem dX2_init_25 : decode cX2_init 25 = .ok (.iconst 4, 1) := by decide +kernel
theorem dX2_init_26 : decode cX2_init 26 = .ok (.if_icmp .ge 22, 3) := by decide +kernel
theorem dX2_init_29 : decode cX2_init 29 = .ok (.aload_n 0, 1) := by decide +kernel
theorem dX2_init_30 : decode cX2_init 30 = .ok (.getfield 11, 3) := by decide +kernel
theorem dX2_init_33 : decode cX2_init 33 = .ok (.iload_n 1, 1) := by decide +kernel
theorem dX2_init_34 : decode cX2_init 34 = .ok (.new 9, 3) := by decide +kernel
theorem dX2_init_37 : decode cX2_init 37 = .ok (.dup, 1) := by decide +kernel
theorem dX2_init_38 : decode cX2_init 38 = .ok (.invokespecial 24, 3) := by decide +kernel
theorem dX2_init_41 : decode cX2_init 41 = .ok (.aastore, 1) := by decide +kernel
theorem dX2_init_42 : decode cX2_init 42 = .ok (.iinc 1 1, 3) := by decide +kernel
theorem dX2_init_45 : decode cX2_init 45 = .ok (.goto (-21), 3) := by decide +kernel
theorem dX2_init_48 : decode cX2_init 48 = .ok (.return_, 1) := by decide +kernel
theorem dX2_save_0 : decode cX2_save 0 = .ok (.aload_n 0, 1) := by decide +kernel
theorem dX2_save_1 : decode cX2_save 1 = .ok (.getfield 11, 3) := by decide +kernel
theorem dX2_save_4 : decode cX2_save 4 = .ok (.aload_n 0, 1) := by decide +kernel
theorem dX2_save_5 : decode cX2_save 5 = .ok (.getfield 17, 3) := by decide +kernel
theorem dX2_save_8 : decode cX2_save 8 = .ok (.aaload, 1) := by decide +kernel
theorem dX2_save_9 : decode cX2_save 9 = .ok (.aload_n 1, 1) := by decide +kernel
theorem dX2_save_10 : decode cX2_save 10 = .ok (.invokevirtual 25, 3) := by decide +kernel
theorem dX2_save_13 : decode cX2_save 13 = .ok (.aload_n 0, 1) := by decide +kernel
theorem dX2_save_14 : decode cX2_save 14 = .ok (.aload_n 0, 1) := by decide +kernel
theorem dX2_save_15 : decode cX2_save 15 = .ok (.getfield 17, 3) := by decide +kernel
theorem dX2_save_18 : decode cX2_save 18 = .ok (.iconst 1, 1) := by decide +kernel
theorem dX2_save_19 : decode cX2_save 19 = .ok (.iadd, 1) := by decide +kernel
theorem dX2_save_20 : decode cX2_save 20 = .ok (.iconst 4, 1) := by decide +kernel
theorem dX2_save_21 : decode cX2_save 21 = .ok (.if_icmp .ge 12, 3) := by decide +kernel
theorem dX2_save_24 : decode cX2_save 24 = .ok (.aload_n 0, 1) := by decide +kernel
theorem dX2_save_25 : decode cX2_save 25 = .ok (.getfield 17, 3) := by decide +kernel
theorem dX2_save_28 : decode cX2_save 28 = .ok (.iconst 1, 1) := by decide +kernel
theorem dX2_save_29 : decode cX2_save 29 = .ok (.iadd, 1) := by decide +kernel
theorem dX2_save_30 : decode cX2_save 30 = .ok (.goto 4, 3) := by decide +kernel
theorem dX2_save_33 : decode cX2_save 33 = .ok (.iconst 0, 1) := by decide +kernel
theorem dX2_save_34 : decode cX2_save 34 = .ok (.putfield 17, 3) := by decide +kernel
theorem dX2_save_37 : decode cX2_save 37 = .ok (.aload_n 0, 1) := by decide +kernel
theorem dX2_save_38 : decode cX2_save 38 = .ok (.aload_n 0, 1) := by decide +kernel
theorem dX2_save_39 : decode cX2_save 39 = .ok (.getfield 21, 3) := by decide +kernel
theorem dX2_save_42 : decode cX2_save 42 = .ok (.iconst 4, 1) := by decide +kernel
theorem dX2_save_43 : decode cX2_save 43 = .ok (.if_icmp .ge 12, 3) := by decide +kernel
theorem dX2_save_46 : decode cX2_save 46 = .ok (.aload_n 0, 1) := by decide +kernel
theorem dX2_save_47 : decode cX2_save 47 = .ok (.getfield 21, 3) := by decide +kernel
theorem dX2_save_50 : decode cX2_save 50 = .ok (.iconst 1, 1) := by decide +kernel
theorem dX2_save_51 : decode cX2_save 51 = .ok (.iadd, 1) := by decide +kernel
theorem dX2_save_52 : decode cX2_save 52 = .ok (.goto 4, 3) := by decide +kernel
theorem dX2_save_55 : decode cX2_save 55 = .ok (.iconst 4, 1) := by decide +kernel
theorem dX2_save_56 : decode cX2_save 56 = .ok (.putfield 21, 3) := by decide +kernel
theorem dX2_save_59 : decode cX2_save 59 = .ok (.return_, 1) := by decide +kernel
theorem dX2_restore_0 : decode cX2_restore 0 = .ok (.aload_n 0, 1) := by decide +kernel
theorem dX2_restore_1 : decode cX2_restore 1 = .ok (.aload_n 0, 1) := by decide +kernel
theorem dX2_restore_2 : decode cX2_restore 2 = .ok (.getfield 17, 3) := by decide +kernel
theorem dX2_restore_5 : decode cX2_restore 5 = .ok (.ifCond .le 12, 3) := by decide +kernel
theorem dX2_restore_8 : decode cX2_restore 8 = .ok (.aload_n 0, 1) := by decide +kernel
theorem dX2_restore_9 : decode cX2_restore 9 = .ok (.getfield 17, 3) := by decide +kernel
theorem dX2_restore_12 : decode cX2_restore 12 = .ok (.iconst 1, 1) := by decide +kernel
theorem dX2_restore_13 : decode cX2_restore 13 = .ok (.isub, 1) := by decide +kernel
theorem dX2_restore_14 : decode cX2_restore 14 = .ok (.goto 4, 3) := by decide +kernel
theorem dX2_restore_17 : decode cX2_restore 17 = .ok (.iconst 3, 1) := by decide +kernel
theorem dX2_restore_18 : decode cX2_restore 18 = .ok (.putfield 17, 3) := by decide +kernel
theorem dX2_restore_21 : decode cX2_restore 21 = .ok (.aload_n 1, 1) := by decide +kernel
theorem dX2_restore_22 : decode cX2_restore 22 = .ok (.aload_n 0, 1) := by decide +kernel
theorem dX2_restore_23 : decode cX2_restore 23 = .ok (.getfield 11, 3) := by decide +kernel
theorem dX2_restore_26 : decode cX2_restore 26 = .ok (.aload_n 0, 1) := by decide +kernel
theorem dX2_restore_27 : decode cX2_restore 27 = .ok (.getfield 17, 3) := by decide +kernel
theorem dX2_restore_30 : decode cX2_restore 30 = .ok (.aaload, 1) := by decide +kernel
theorem dX2_restore_31 : decode cX2_restore 31 = .ok (.invokevirtual 25, 3) := by decide +kernel
theorem dX2_restore_34 : decode cX2_restore 34 = .ok (.aload_n 0, 1) := by decide +kernel
theorem dX2_restore_35 : decode cX2_restore 35 = .ok (.dup, 1) := by decide +kernel
theorem dX2_restore_36 : decode cX2_restore 36 = .ok (.getfield 21, 3) := by decide +kernel
theorem dX2_restore_39 : decode cX2_restore 39 = .ok (.iconst 1, 1) := by decide +kernel
theorem dX2_restore_40 : decode cX2_restore 40 = .ok (.isub, 1) := by decide +kernel
theorem dX2_restore_41 : decode cX2_restore 41 = .ok (.putfield 21, 3) := by decide +kernel
theorem dX2_restore_44 : decode cX2_restore 44 = .ok (.return_, 1) := by decide +kernel
theorem dX3_init_0 : decode cX3_init 0 = .ok (.aload_n 0, 1) := by decide +kernel
theorem dX3_init_1 : decode cX3_init 1 = .ok (.invokespecial 3, 3) := by decide +kernel
theorem dX3_init_4 : decode cX3_init 4 = .ok (.aload_n 0, 1) := by decide +kernel
theorem dX3_init_5 : decode cX3_init 5 = .ok (.bipush 65, 2) := by decide +kernel
theorem dX3_init_7 : decode cX3_init 7 = .ok (.newarray .int, 2) := by decide +kernel
theorem dX3_init_9 : decode cX3_init 9 = .ok (.putfield 9, 3) := by decide +kernel
theorem dX3_init_12 : decode cX3_init 12 = .ok (.aload_n 0, 1) := by decide +kernel
theorem dX3_init_13 : decode cX3_init 13 = .ok (.bipush 65, 2) := by decide +kernel
theorem dX3_init_15 : decode cX3_init 15 = .ok (.newarray .int, 2) := by decide +kernel
theorem dX3_init_17 : decode cX3_init 17 = .ok (.putfield 15, 3) := by decide +kernel
theorem dX3_init_20 : decode cX3_init 20 = .ok (.return_, 1) := by decide +kernel
theorem dX3_divide_0 : decode cX3_divide 0 = .ok (.aload_n 1, 1) := by decide +kernel
theorem dX3_divide_1 : decode cX3_divide 1 = .ok (.getfield 18, 3) := by decide +kernel
theorem dX3_divide_4 : decode cX3_divide 4 = .ok (.istore_n 2, 1) := by decide +kernel
theorem dX3_divide_5 : decode cX3_divide 5 = .ok (.aload_n 0, 1) := by decide +kernel
theorem dX3_divide_6 : decode cX3_divide 6 = .ok (.getfield 9, 3) := by decide +kernel
theorem dX3_divide_9 : decode cX3_divide 9 = .ok (.iload_n 2, 1) := by decide +kernel
theorem dX3_divide_10 : decode cX3_divide 10 = .ok (.iconst 0, 1) := by decide +kernel
theorem dX3_divide_11 : decode cX3_divide 11 = .ok (.iastore, 1) := by decide +kernel
theorem dX3_divide_12 : decode cX3_divide 12 = .ok (.iload_n 2, 1) := by decide +kernel
theorem dX3_divide_13 : decode cX3_divide 13 = .ok (.iconst 1, 1) := by decide +kernel
theorem dX3_divide_14 : decode cX3_divide 14 = .ok (.isub, 1) := by decide +kernel
theorem dX3_divide_15 : decode cX3_divide 15 = .ok (.istore_n 3, 1) := by decide +kernel
theorem dX3_divide_16 : decode cX3_divide 16 = .ok (.iload_n 3, 1) := by decide +kernel
theorem dX3_divide_17 : decode cX3_divide 17 = .ok (.ifCond .lt 15, 3) := by decide +kernel
theorem dX3_divide_20 : decode cX3_divide 20 = .ok (.aload_n 0, 1) := by decide +kernel
theorem dX3_divide_21 : decode cX3_divide 21 = .ok (.aload_n 1, 1) := by decide +kernel
theorem dX3_divide_22 : decode cX3_divide 22 = .ok (.iload_n 3, 1) := by decide +kernel
theorem dX3_divide_23 : decode cX3_divide 23 = .ok (.invokevirtual 24, 3) := by decide +kernel
theorem dX3_divide_26 : decode cX3_divide 26 = .ok (.iinc 3 (-1), 3) := by decide +kernel
theorem dX3_divide_29 : decode cX3_divide 29 = .ok (.goto (-13), 3) := by decide +kernel
theorem dX3_divide_32 : decode cX3_divide 32 = .ok (.aload_n 1, 1) := by decide +kernel
theorem dX3_divide_33 : decode cX3_divide 33 = .ok (.iconst 0, 1) := by decide +kernel
theorem dX3_divide_34 : decode cX3_divide 34 = .ok (.putfield 28, 3) := by decide +kernel
theorem dX3_divide_37 : decode cX3_divide 37 = .ok (.iconst 0, 1) := by decide +kernel
theorem dX3_divide_38 : decode cX3_divide 38 = .ok (.istore_n 3, 1) := by decide +kernel
theorem dX3_divide_39 : decode cX3_divide 39 = .ok (.iconst 0, 1) := by decide +kernel
theorem dX3_divide_40 : decode cX3_divide 40 = .ok (.istore 4, 2) := by decide +kernel
theorem dX3_divide_42 : decode cX3_divide 42 = .ok (.iload 4, 2) := by decide +kernel
theorem dX3_divide_44 : decode cX3_divide 44 = .ok (.iload_n 2, 1) := by decide +kernel
theorem dX3_divide_45 : decode cX3_divide 45 = .ok (.if_icmp .ge 32, 3) := by decide +kernel
theorem dX3_divide_48 : decode cX3_divide 48 = .ok (.iload_n 3, 1) := by decide +kernel
theorem dX3_divide_49 : decode cX3_divide 49 = .ok (.iload_n 2, 1) := by decide +kernel
theorem dX3_divide_50 : decode cX3_divide 50 = .ok (.if_icmp .ge 27, 3) := by decide +kernel
theorem dX3_divide_53 : decode cX3_divide 53 = .ok (.aload_n 1, 1) := by decide +kernel
theorem dX3_divide_54 : decode cX3_divide 54 = .ok (.iload_n 3, 1) := by decide +kernel
theorem dX3_divide_55 : decode cX3_divide 55 = .ok (.aload_n 0, 1) := by decide +kernel
theorem dX3_divide_56 : decode cX3_divide 56 = .ok (.getfield 15, 3) := by decide +kernel
theorem dX3_divide_59 : decode cX3_divide 59 = .ok (.iload_n 3, 1) := by decide +kernel
theorem dX3_divide_60 : decode cX3_divide 60 = .ok (.iaload, 1) := by decide +kernel
theorem dX3_divide_61 : decode cX3_divide 61 = .ok (.invokevirtual 31, 3) := by decide +kernel
theorem dX3_divide_64 : decode cX3_divide 64 = .ok (.aload_n 0, 1) := by decide +kernel
theorem dX3_divide_65 : decode cX3_divide 65 = .ok (.getfield 15, 3) := by decide +kernel
theorem dX3_divide_68 : decode cX3_divide 68 = .ok (.iload_n 3, 1) := by decide +kernel
theorem dX3_divide_69 : decode cX3_divide 69 = .ok (.iaload, 1) := by decide +kernel
theorem dX3_divide_70 : decode cX3_divide 70 = .ok (.istore_n 3, 1) := by decide +kernel
theorem dX3_divide_71 : decode cX3_divide 71 = .ok (.iinc 4 1, 3) := by decide +kernel
theorem dX3_divide_74 : decode cX3_divide 74 = .ok (.goto (-32), 3) := by decide +kernel
theorem dX3_divide_77 : decode cX3_divide 77 = .ok (.return_, 1) := by decide +kernel
theorem dX3_chooseEnd_0 : decode cX3_chooseEnd 0 = .ok (.iconst 0, 1) := by decide +kernel
theorem dX3_chooseEnd_1 : decode cX3_chooseEnd 1 = .ok (.istore_n 3, 1) := by decide +kernel
theorem dX3_chooseEnd_2 : decode cX3_chooseEnd 2 = .ok (.iload_n 2, 1) := by decide +kernel
theorem dX3_chooseEnd_3 : decode cX3_chooseEnd 3 = .ok (.iconst 1, 1) := by decide +kernel
theorem dX3_chooseEnd_4 : decode cX3_chooseEnd 4 = .ok (.iadd, 1) := by decide +kernel
theorem dX3_chooseEnd_5 : decode cX3_chooseEnd 5 = .ok (.istore 4, 2) := by decide +kernel
theorem dX3_chooseEnd_7 : decode cX3_chooseEnd 7 = .ok (.iload 4, 2) := by decide +kernel
theorem dX3_chooseEnd_9 : decode cX3_chooseEnd 9 = .ok (.aload_n 1, 1) := by decide +kernel
theorem dX3_chooseEnd_10 : decode cX3_chooseEnd 10 = .ok (.getfield 18, 3) := by decide +kernel
theorem dX3_chooseEnd_13 : decode cX3_chooseEnd 13 = .ok (.if_icmp .gt 68, 3) := by decide +kernel
theorem dX3_chooseEnd_16 : decode cX3_chooseEnd 16 = .ok (.iload 4, 2) := by decide +kernel
theorem dX3_chooseEnd_18 : decode cX3_chooseEnd 18 = .ok (.iload_n 2, 1) := by decide +kernel
theorem dX3_chooseEnd_19 : decode cX3_chooseEnd 19 = .ok (.isub, 1) := by decide +kernel
theorem dX3_chooseEnd_20 : decode cX3_chooseEnd 20 = .ok (.aload_n 1, 1) := by decide +kernel
theorem dX3_chooseEnd_21 : decode cX3_chooseEnd 21 = .ok (.iload_n 2, 1) := by decide +kernel
theorem dX3_chooseEnd_22 : decode cX3_chooseEnd 22 = .ok (.iload 4, 2) := by decide +kernel
theorem dX3_chooseEnd_24 : decode cX3_chooseEnd 24 = .ok (.invokevirtual 35, 3) := by decide +kernel
theorem dX3_chooseEnd_27 : decode cX3_chooseEnd 27 = .ok (.invokestatic 39, 3) := by decide +kernel
theorem dX3_chooseEnd_30 : decode cX3_chooseEnd 30 = .ok (.istore 5, 2) := by decide +kernel
theorem dX3_chooseEnd_32 : decode cX3_chooseEnd 32 = .ok (.iload 5, 2) := by decide +kernel
theorem dX3_chooseEnd_34 : decode cX3_chooseEnd 34 = .ok (.sipush 128, 3) := by decide +kernel
theorem dX3_chooseEnd_37 : decode cX3_chooseEnd 37 = .ok (.imul, 1) := by decide +kernel
theorem dX3_chooseEnd_38 : decode cX3_chooseEnd 38 = .ok (.iconst 1, 1) := by decide +kernel
theorem dX3_chooseEnd_39 : decode cX3_chooseEnd 39 = .ok (.iadd, 1) := by decide +kernel
theorem dX3_chooseEnd_40 : decode cX3_chooseEnd 40 = .ok (.aload_n 0, 1) := by decide +kernel
theorem dX3_chooseEnd_41 : decode cX3_chooseEnd 41 = .ok (.getfield 9, 3) := by decide +kernel
theorem dX3_chooseEnd_44 : decode cX3_chooseEnd 44 = .ok (.iload 4, 2) := by decide +kernel
theorem dX3_chooseEnd_46 : decode cX3_chooseEnd 46 = .ok (.iaload, 1) := by decide +kernel
theorem dX3_chooseEnd_47 : decode cX3_chooseEnd 47 = .ok (.iadd, 1) := by decide +kernel
theorem dX3_chooseEnd_48 : decode cX3_chooseEnd 48 = .ok (.istore 6, 2) := by decide +kernel
theorem dX3_chooseEnd_50 : decode cX3_chooseEnd 50 = .ok (.iload 4, 2) := by decide +kernel
theorem dX3_chooseEnd_52 : decode cX3_chooseEnd 52 = .ok (.iload_n 2, 1) := by decide +kernel
theorem dX3_chooseEnd_53 : decode cX3_chooseEnd 53 = .ok (.iconst 1, 1) := by decide +kernel
theorem dX3_chooseEnd_54 : decode cX3_chooseEnd 54 = .ok (.iadd, 1) := by decide +kernel
theorem dX3_chooseEnd_55 : decode cX3_chooseEnd 55 = .ok (.if_icmp .eq 9, 3) := by decide +kernel
theorem dX3_chooseEnd_58 : decode cX3_chooseEnd 58 = .ok (.iload 6, 2) := by decide +kernel
theorem dX3_chooseEnd_60 : decode cX3_chooseEnd 60 = .ok (.iload_n 3, 1) := by decide +kernel
theorem dX3_chooseEnd_61 : decode cX3_chooseEnd 61 = .ok (.if_icmp .ge 14, 3) := by decide +kernel
theorem dX3_chooseEnd_64 : decode cX3_chooseEnd 64 = .ok (.iload 6, 2) := by decide +kernel
theorem dX3_chooseEnd_66 : decode cX3_chooseEnd 66 = .ok (.istore_n 3, 1) := by decide +kernel
theorem dX3_chooseEnd_67 : decode cX3_chooseEnd 67 = .ok (.aload_n 0, 1) := by decide +kernel
theorem dX3_chooseEnd_68 : decode cX3_chooseEnd 68 = .ok (.getfield 15, 3) := by decide +kernel
theorem dX3_chooseEnd_71 : decode cX3_chooseEnd 71 = .ok (.iload_n 2, 1) := by decide +kernel
theorem dX3_chooseEnd_72 : decode cX3_chooseEnd 72 = .ok (.iload 4, 2) := by decide +kernel
theorem dX3_chooseEnd_74 : decode cX3_chooseEnd 74 = .ok (.iastore, 1) := by decide +kernel
theorem dX3_chooseEnd_75 : decode cX3_chooseEnd 75 = .ok (.iinc 4 1, 3) := by decide +kernel
theorem dX3_chooseEnd_78 : decode cX3_chooseEnd 78 = .ok (.goto (-71), 3) := by decide +kernel
theorem dX3_chooseEnd_81 : decode cX3_chooseEnd 81 = .ok (.aload_n 0, 1) := by decide +kernel
theorem dX3_chooseEnd_82 : decode cX3_chooseEnd 82 = .ok (.getfield 9, 3) := by decide +kernel
theorem dX3_chooseEnd_85 : decode cX3_chooseEnd 85 = .ok (.iload_n 2, 1) := by decide +kernel
theorem dX3_chooseEnd_86 : decode cX3_chooseEnd 86 = .ok (.iload_n 3, 1) := by decide +kernel
theorem dX3_chooseEnd_87 : decode cX3_chooseEnd 87 = .ok (.iastore, 1) := by decide +kernel
theorem dX3_chooseEnd_88 : decode cX3_chooseEnd 88 = .ok (.return_, 1) := by decide +kernel
theorem dX4_init_0 : decode cX4_init 0 = .ok (.aload_n 0, 1) := by decide +kernel
theorem dX4_init_1 : decode cX4_init 1 = .ok (.invokespecial 3, 3) := by decide +kernel
theorem dX4_init_4 : decode cX4_init 4 = .ok (.aload_n 0, 1) := by decide +kernel
theorem dX4_init_5 : decode cX4_init 5 = .ok (.bipush 64, 2) := by decide +kernel
theorem dX4_init_7 : decode cX4_init 7 = .ok (.newarray .int, 2) := by decide +kernel
theorem dX4_init_9 : decode cX4_init 9 = .ok (.putfield 9, 3) := by decide +kernel
theorem dX4_init_12 : decode cX4_init 12 = .ok (.aload_n 0, 1) := by decide +kernel
theorem dX4_init_13 : decode cX4_init 13 = .ok (.iconst 0, 1) := by decide +kernel
theorem dX4_init_14 : decode cX4_init 14 = .ok (.putfield 15, 3) := by decide +kernel
theorem dX4_init_17 : decode cX4_init 17 = .ok (.aload_n 0, 1) := by decide +kernel
theorem dX4_init_18 : decode cX4_init 18 = .ok (.sipush 384, 3) := by decide +kernel
theorem dX4_init_21 : decode cX4_init 21 = .ok (.newarray .int, 2) := by decide +kernel
theorem dX4_init_23 : decode cX4_init 23 = .ok (.putfield 19, 3) := by decide +kernel
theorem dX4_init_26 : decode cX4_init 26 = .ok (.aload_n 0, 1) := by decide +kernel
theorem dX4_init_27 : decode cX4_init 27 = .ok (.iconst 0, 1) := by decide +kernel
theorem dX4_init_28 : decode cX4_init 28 = .ok (.putfield 22, 3) := by decide +kernel
theorem dX4_init_31 : decode cX4_init 31 = .ok (.return_, 1) := by decide +kernel
theorem dX4_copyFrom_0 : decode cX4_copyFrom 0 = .ok (.aload_n 0, 1) := by decide +kernel
theorem dX4_copyFrom_1 : decode cX4_copyFrom 1 = .ok (.aload_n 1, 1) := by decide +kernel
theorem dX4_copyFrom_2 : decode cX4_copyFrom 2 = .ok (.getfield 15, 3) := by decide +kernel
theorem dX4_copyFrom_5 : decode cX4_copyFrom 5 = .ok (.putfield 15, 3) := by decide +kernel
theorem dX4_copyFrom_8 : decode cX4_copyFrom 8 = .ok (.aload_n 1, 1) := by decide +kernel
theorem dX4_copyFrom_9 : decode cX4_copyFrom 9 = .ok (.getfield 9, 3) := by decide +kernel
theorem dX4_copyFrom_12 : decode cX4_copyFrom 12 = .ok (.iconst 0, 1) := by decide +kernel
theorem dX4_copyFrom_13 : decode cX4_copyFrom 13 = .ok (.aload_n 0, 1) := by decide +kernel
theorem dX4_copyFrom_14 : decode cX4_copyFrom 14 = .ok (.getfield 9, 3) := by decide +kernel
theorem dX4_copyFrom_17 : decode cX4_copyFrom 17 = .ok (.iconst 0, 1) := by decide +kernel
theorem dX4_copyFrom_18 : decode cX4_copyFrom 18 = .ok (.aload_n 0, 1) := by decide +kernel
theorem dX4_copyFrom_19 : decode cX4_copyFrom 19 = .ok (.getfield 15, 3) := by decide +kernel
theorem dX4_copyFrom_22 : decode cX4_copyFrom 22 = .ok (.invokestatic 25, 3) := by decide +kernel
theorem dX4_copyFrom_25 : decode cX4_copyFrom 25 = .ok (.aload_n 0, 1) := by decide +kernel
theorem dX4_copyFrom_26 : decode cX4_copyFrom 26 = .ok (.aload_n 1, 1) := by decide +kernel
theorem dX4_copyFrom_27 : decode cX4_copyFrom 27 = .ok (.getfield 22, 3) := by decide +kernel
theorem dX4_copyFrom_30 : decode cX4_copyFrom 30 = .ok (.putfield 22, 3) := by decide +kernel
theorem dX4_copyFrom_33 : decode cX4_copyFrom 33 = .ok (.aload_n 1, 1) := by decide +kernel
theorem dX4_copyFrom_34 : decode cX4_copyFrom 34 = .ok (.getfield 19, 3) := by decide +kernel
theorem dX4_copyFrom_37 : decode cX4_copyFrom 37 = .ok (.iconst 0, 1) := by decide +kernel
theorem dX4_copyFrom_38 : decode cX4_copyFrom 38 = .ok (.aload_n 0, 1) := by decide +kernel
theorem dX4_copyFrom_39 : decode cX4_copyFrom 39 = .ok (.getfield 19, 3) := by decide +kernel
theorem dX4_copyFrom_42 : decode cX4_copyFrom 42 = .ok (.iconst 0, 1) := by decide +kernel
theorem dX4_copyFrom_43 : decode cX4_copyFrom 43 = .ok (.aload_n 0, 1) := by decide +kernel
theorem dX4_copyFrom_44 : decode cX4_copyFrom 44 = .ok (.getfield 22, 3) := by decide +kernel
theorem dX4_copyFrom_47 : decode cX4_copyFrom 47 = .ok (.bipush 6, 2) := by decide +kernel
theorem dX4_copyFrom_49 : decode cX4_copyFrom 49 = .ok (.imul, 1) := by decide +kernel
theorem dX4_copyFrom_50 : decode cX4_copyFrom 50 = .ok (.invokestatic 25, 3) := by decide +kernel
theorem dX4_copyFrom_53 : decode cX4_copyFrom 53 = .ok (.return_, 1) := by decide +kernel
theorem dX4_replace_0 : decode cX4_replace 0 = .ok (.aload_n 0, 1) := by decide +kernel
theorem dX4_replace_1 : decode cX4_replace 1 = .ok (.iload_n 2, 1) := by decide +kernel
theorem dX4_replace_2 : decode cX4_replace 2 = .ok (.putfield 15, 3) := by decide +kernel
theorem dX4_replace_5 : decode cX4_replace 5 = .ok (.aload_n 1, 1) := by decide +kernel
theorem dX4_replace_6 : decode cX4_replace 6 = .ok (.iconst 0, 1) := by decide +kernel
theorem dX4_replace_7 : decode cX4_replace 7 = .ok (.aload_n 0, 1) := by decide +kernel
theorem dX4_replace_8 : decode cX4_replace 8 = .ok (.getfield 9, 3) := by decide +kernel
theorem dX4_replace_11 : decode cX4_replace 11 = .ok (.iconst 0, 1) := by decide +kernel
theorem dX4_replace_12 : decode cX4_replace 12 = .ok (.iload_n 2, 1) := by decide +kernel
theorem dX4_replace_13 : decode cX4_replace 13 = .ok (.invokestatic 25, 3) := by decide +kernel
theorem dX4_replace_16 : decode cX4_replace 16 = .ok (.return_, 1) := by decide +kernel
theorem dX4_push_0 : decode cX4_push 0 = .ok (.aload_n 0, 1) := by decide +kernel
theorem dX4_push_1 : decode cX4_push 1 = .ok (.getfield 15, 3) := by decide +kernel
theorem dX4_push_4 : decode cX4_push 4 = .ok (.bipush 64, 2) := by decide +kernel
theorem dX4_push_6 : decode cX4_push 6 = .ok (.if_icmp .ge 23, 3) := by decide +kernel
theorem dX4_push_9 : decode cX4_push 9 = .ok (.aload_n 0, 1) := by decide +kernel
theorem dX4_push_10 : decode cX4_push 10 = .ok (.getfield 9, 3) := by decide +kernel
theorem dX4_push_13 : decode cX4_push 13 = .ok (.aload_n 0, 1) := by decide +kernel
theorem dX4_push_14 : decode cX4_push 14 = .ok (.getfield 15, 3) := by decide +kernel
theorem dX4_push_17 : decode cX4_push 17 = .ok (.iload_n 1, 1) := by decide +kernel
theorem dX4_push_18 : decode cX4_push 18 = .ok (.iastore, 1) := by decide +kernel
theorem dX4_push_19 : decode cX4_push 19 = .ok (.aload_n 0, 1) := by decide +kernel
theorem dX4_push_20 : decode cX4_push 20 = .ok (.dup, 1) := by decide +kernel
theorem dX4_push_21 : decode cX4_push 21 = .ok (.getfield 15, 3) := by decide +kernel
theorem dX4_push_24 : decode cX4_push 24 = .ok (.iconst 1, 1) := by decide +kernel
theorem dX4_push_25 : decode cX4_push 25 = .ok (.iadd, 1) := by decide +kernel
theorem dX4_push_26 : decode cX4_push 26 = .ok (.putfield 15, 3) := by decide +kernel
theorem dX4_push_29 : decode cX4_push 29 = .ok (.return_, 1) := by decide +kernel
theorem dX4_documentAt_0 : decode cX4_documentAt 0 = .ok (.iload_n 1, 1) := by decide +kernel
theorem dX4_documentAt_1 : decode cX4_documentAt 1 = .ok (.ifCond .lt 20, 3) := by decide +kernel
theorem dX4_documentAt_4 : decode cX4_documentAt 4 = .ok (.iload_n 1, 1) := by decide +kernel
theorem dX4_documentAt_5 : decode cX4_documentAt 5 = .ok (.aload_n 0, 1) := by decide +kernel
theorem dX4_documentAt_6 : decode cX4_documentAt 6 = .ok (.getfield 15, 3) := by decide +kernel
theorem dX4_documentAt_9 : decode cX4_documentAt 9 = .ok (.if_icmp .ge 12, 3) := by decide +kernel
theorem dX4_documentAt_12 : decode cX4_documentAt 12 = .ok (.aload_n 0, 1) := by decide +kernel
theorem dX4_documentAt_13 : decode cX4_documentAt 13 = .ok (.getfield 9, 3) := by decide +kernel
theorem dX4_documentAt_16 : decode cX4_documentAt 16 = .ok (.iload_n 1, 1) := by decide +kernel
theorem dX4_documentAt_17 : decode cX4_documentAt 17 = .ok (.iaload, 1) := by decide +kernel
theorem dX4_documentAt_18 : decode cX4_documentAt 18 = .ok (.goto 4, 3) := by decide +kernel
theorem dX4_documentAt_21 : decode cX4_documentAt 21 = .ok (.iconst (-1), 1) := by decide +kernel
theorem dX4_documentAt_22 : decode cX4_documentAt 22 = .ok (.ireturn, 1) := by decide +kernel
theorem dX4_lastDocument_0 : decode cX4_lastDocument 0 = .ok (.aload_n 0, 1) := by decide +kernel
theorem dX4_lastDocument_1 : decode cX4_lastDocument 1 = .ok (.aload_n 0, 1) := by decide +kernel
theorem dX4_lastDocument_2 : decode cX4_lastDocument 2 = .ok (.getfield 15, 3) := by decide +kernel
theorem dX4_lastDocument_5 : decode cX4_lastDocument 5 = .ok (.iconst 1, 1) := by decide +kernel
theorem dX4_lastDocument_6 : decode cX4_lastDocument 6 = .ok (.isub, 1) := by decide +kernel
theorem dX4_lastDocument_7 : decode cX4_lastDocument 7 = .ok (.invokevirtual 31, 3) := by decide +kernel
theorem dX4_lastDocument_10 : decode cX4_lastDocument 10 = .ok (.ireturn, 1) := by decide +kernel
theorem dX4_countBelow_0 : decode cX4_countBelow 0 = .ok (.iconst 0, 1) := by decide +kernel
theorem dX4_countBelow_1 : decode cX4_countBelow 1 = .ok (.istore_n 2, 1) := by decide +kernel
theorem dX4_countBelow_2 : decode cX4_countBelow 2 = .ok (.iload_n 2, 1) := by decide +kernel
theorem dX4_countBelow_3 : decode cX4_countBelow 3 = .ok (.aload_n 0, 1) := by decide +kernel
theorem dX4_countBelow_4 : decode cX4_countBelow 4 = .ok (.getfield 15, 3) := by decide +kernel
theorem dX4_countBelow_7 : decode cX4_countBelow 7 = .ok (.if_icmp .ge 19, 3) := by decide +kernel
theorem dX4_countBelow_10 : decode cX4_countBelow 10 = .ok (.aload_n 0, 1) := by decide +kernel
theorem dX4_countBelow_11 : decode cX4_countBelow 11 = .ok (.getfield 9, 3) := by decide +kernel
theorem dX4_countBelow_14 : decode cX4_countBelow 14 = .ok (.iload_n 2, 1) := by decide +kernel
theorem dX4_countBelow_15 : decode cX4_countBelow 15 = .ok (.iaload, 1) := by decide +kernel
theorem dX4_countBelow_16 : decode cX4_countBelow 16 = .ok (.iload_n 1, 1) := by decide +kernel
theorem dX4_countBelow_17 : decode cX4_countBelow 17 = .ok (.if_icmp .ge 9, 3) := by decide +kernel
theorem dX4_countBelow_20 : decode cX4_countBelow 20 = .ok (.iinc 2 1, 3) := by decide +kernel
theorem dX4_countBelow_23 : decode cX4_countBelow 23 = .ok (.goto (-21), 3) := by decide +kernel
theorem dX4_countBelow_26 : decode cX4_countBelow 26 = .ok (.iload_n 2, 1) := by decide +kernel
theorem dX4_countBelow_27 : decode cX4_countBelow 27 = .ok (.ireturn, 1) := by decide +kernel
theorem dX4_widthBetween_0 : decode cX4_widthBetween 0 = .ok (.aload_n 0, 1) := by decide +kernel
theorem dX4_widthBetween_1 : decode cX4_widthBetween 1 = .ok (.iload_n 2, 1) := by decide +kernel
theorem dX4_widthBetween_2 : decode cX4_widthBetween 2 = .ok (.iconst 1, 1) := by decide +kernel
theorem dX4_widthBetween_3 : decode cX4_widthBetween 3 = .ok (.isub, 1) := by decide +kernel
theorem dX4_widthBetween_4 : decode cX4_widthBetween 4 = .ok (.invokevirtual 31, 3) := by decide +kernel
theorem dX4_widthBetween_7 : decode cX4_widthBetween 7 = .ok (.aload_n 0, 1) := by decide +kernel
theorem dX4_widthBetween_8 : decode cX4_widthBetween 8 = .ok (.iload_n 1, 1) := by decide +kernel
theorem dX4_widthBetween_9 : decode cX4_widthBetween 9 = .ok (.invokevirtual 31, 3) := by decide +kernel
theorem dX4_widthBetween_12 : decode cX4_widthBetween 12 = .ok (.isub, 1) := by decide +kernel
theorem dX4_widthBetween_13 : decode cX4_widthBetween 13 = .ok (.iconst 1, 1) := by decide +kernel
theorem dX4_widthBetween_14 : decode cX4_widthBetween 14 = .ok (.iadd, 1) := by decide +kernel
theorem dX4_widthBetween_15 : decode cX4_widthBetween 15 = .ok (.ireturn, 1) := by decide +kernel
theorem dX4_sizeInParts_0 : decode cX4_sizeInParts 0 = .ok (.iconst 0, 1) := by decide +kernel
theorem dX4_sizeInParts_1 : decode cX4_sizeInParts 1 = .ok (.istore_n 2, 1) := by decide +kernel
theorem dX4_sizeInParts_2 : decode cX4_sizeInParts 2 = .ok (.iconst 0, 1) := by decide +kernel
theorem dX4_sizeInParts_3 : decode cX4_sizeInParts 3 = .ok (.istore_n 3, 1) := by decide +kernel
theorem dX4_sizeInParts_4 : decode cX4_sizeInParts 4 = .ok (.iload_n 3, 1) := by decide +kernel
theorem dX4_sizeInParts_5 : decode cX4_sizeInParts 5 = .ok (.bipush 64, 2) := by decide +kernel
theorem dX4_sizeInParts_7 : decode cX4_sizeInParts 7 = .ok (.if_icmp .ge 67, 3) := by decide +kernel
theorem dX4_sizeInParts_10 : decode cX4_sizeInParts 10 = .ok (.iload_n 3, 1) := by decide +kernel
theorem dX4_sizeInParts_11 : decode cX4_sizeInParts 11 = .ok (.iload_n 1, 1) := by decide +kernel
theorem dX4_sizeInParts_12 : decode cX4_sizeInParts 12 = .ok (.imul, 1) := by decide +kernel
theorem dX4_sizeInParts_13 : decode cX4_sizeInParts 13 = .ok (.aload_n 0, 1) := by decide +kernel
theorem dX4_sizeInParts_14 : decode cX4_sizeInParts 14 = .ok (.getfield 15, 3) := by decide +kernel
theorem dX4_sizeInParts_17 : decode cX4_sizeInParts 17 = .ok (.if_icmp .ge 57, 3) := by decide +kernel
theorem dX4_sizeInParts_20 : decode cX4_sizeInParts 20 = .ok (.iload_n 3, 1) := by decide +kernel
theorem dX4_sizeInParts_21 : decode cX4_sizeInParts 21 = .ok (.iload_n 1, 1) := by decide +kernel
theorem dX4_sizeInParts_22 : decode cX4_sizeInParts 22 = .ok (.imul, 1) := by decide +kernel
theorem dX4_sizeInParts_23 : decode cX4_sizeInParts 23 = .ok (.istore 4, 2) := by decide +kernel
theorem dX4_sizeInParts_25 : decode cX4_sizeInParts 25 = .ok (.iload 4, 2) := by decide +kernel
theorem dX4_sizeInParts_27 : decode cX4_sizeInParts 27 = .ok (.iload_n 1, 1) := by decide +kernel
theorem dX4_sizeInParts_28 : decode cX4_sizeInParts 28 = .ok (.iadd, 1) := by decide +kernel
theorem dX4_sizeInParts_29 : decode cX4_sizeInParts 29 = .ok (.aload_n 0, 1) := by decide +kernel
theorem dX4_sizeInParts_30 : decode cX4_sizeInParts 30 = .ok (.getfield 15, 3) := by decide +kernel
theorem dX4_sizeInParts_33 : decode cX4_sizeInParts 33 = .ok (.if_icmp .ge 10, 3) := by decide +kernel
theorem dX4_sizeInParts_36 : decode cX4_sizeInParts 36 = .ok (.iload 4, 2) := by decide +kernel
theorem dX4_sizeInParts_38 : decode cX4_sizeInParts 38 = .ok (.iload_n 1, 1) := by decide +kernel
theorem dX4_sizeInParts_39 : decode cX4_sizeInParts 39 = .ok (.iadd, 1) := by decide +kernel
theorem dX4_sizeInParts_40 : decode cX4_sizeInParts 40 = .ok (.goto 7, 3) := by decide +kernel
theorem dX4_sizeInParts_43 : decode cX4_sizeInParts 43 = .ok (.aload_n 0, 1) := by decide +kernel
theorem dX4_sizeInParts_44 : decode cX4_sizeInParts 44 = .ok (.getfield 15, 3) := by decide +kernel
theorem dX4_sizeInParts_47 : decode cX4_sizeInParts 47 = .ok (.istore 5, 2) := by decide +kernel
theorem dX4_sizeInParts_49 : decode cX4_sizeInParts 49 = .ok (.iload_n 2, 1) := by decide +kernel
theorem dX4_sizeInParts_50 : decode cX4_sizeInParts 50 = .ok (.iload 5, 2) := by decide +kernel
theorem dX4_sizeInParts_52 : decode cX4_sizeInParts 52 = .ok (.iload 4, 2) := by decide +kernel
theorem dX4_sizeInParts_54 : decode cX4_sizeInParts 54 = .ok (.isub, 1) := by decide +kernel
theorem dX4_sizeInParts_55 : decode cX4_sizeInParts 55 = .ok (.aload_n 0, 1) := by decide +kernel
theorem dX4_sizeInParts_56 : decode cX4_sizeInParts 56 = .ok (.iload 4, 2) := by decide +kernel
theorem dX4_sizeInParts_58 : decode cX4_sizeInParts 58 = .ok (.iload 5, 2) := by decide +kernel
theorem dX4_sizeInParts_60 : decode cX4_sizeInParts 60 = .ok (.invokevirtual 35, 3) := by decide +kernel
theorem dX4_sizeInParts_63 : decode cX4_sizeInParts 63 = .ok (.invokestatic 39, 3) := by decide +kernel
theorem dX4_sizeInParts_66 : decode cX4_sizeInParts 66 = .ok (.iadd, 1) := by decide +kernel
theorem dX4_sizeInParts_67 : decode cX4_sizeInParts 67 = .ok (.istore_n 2, 1) := by decide +kernel
theorem dX4_sizeInParts_68 : decode cX4_sizeInParts 68 = .ok (.iinc 3 1, 3) := by decide +kernel
theorem dX4_sizeInParts_71 : decode cX4_sizeInParts 71 = .ok (.goto (-67), 3) := by decide +kernel
theorem dX4_sizeInParts_74 : decode cX4_sizeInParts 74 = .ok (.iload_n 2, 1) := by decide +kernel
theorem dX4_sizeInParts_75 : decode cX4_sizeInParts 75 = .ok (.ireturn, 1) := by decide +kernel
theorem dX4_codeSize_0 : decode cX4_codeSize 0 = .ok (.iconst 0, 1) := by decide +kernel
theorem dX4_codeSize_1 : decode cX4_codeSize 1 = .ok (.istore_n 1, 1) := by decide +kernel
theorem dX4_codeSize_2 : decode cX4_codeSize 2 = .ok (.iconst 0, 1) := by decide +kernel
theorem dX4_codeSize_3 : decode cX4_codeSize 3 = .ok (.istore_n 2, 1) := by decide +kernel
theorem dX4_codeSize_4 : decode cX4_codeSize 4 = .ok (.iload_n 2, 1) := by decide +kernel
theorem dX4_codeSize_5 : decode cX4_codeSize 5 = .ok (.aload_n 0, 1) := by decide +kernel
theorem dX4_codeSize_6 : decode cX4_codeSize 6 = .ok (.getfield 22, 3) := by decide +kernel
theorem dX4_codeSize_9 : decode cX4_codeSize 9 = .ok (.if_icmp .ge 18, 3) := by decide +kernel
theorem dX4_codeSize_12 : decode cX4_codeSize 12 = .ok (.iload_n 1, 1) := by decide +kernel
theorem dX4_codeSize_13 : decode cX4_codeSize 13 = .ok (.aload_n 0, 1) := by decide +kernel
theorem dX4_codeSize_14 : decode cX4_codeSize 14 = .ok (.iload_n 2, 1) := by decide +kernel
theorem dX4_codeSize_15 : decode cX4_codeSize 15 = .ok (.iconst 4, 1) := by decide +kernel
theorem dX4_codeSize_16 : decode cX4_codeSize 16 = .ok (.invokevirtual 44, 3) := by decide +kernel
theorem dX4_codeSize_19 : decode cX4_codeSize 19 = .ok (.iadd, 1) := by decide +kernel
theorem dX4_codeSize_20 : decode cX4_codeSize 20 = .ok (.istore_n 1, 1) := by decide +kernel
theorem dX4_codeSize_21 : decode cX4_codeSize 21 = .ok (.iinc 2 1, 3) := by decide +kernel
theorem dX4_codeSize_24 : decode cX4_codeSize 24 = .ok (.goto (-20), 3) := by decide +kernel
theorem dX4_codeSize_27 : decode cX4_codeSize 27 = .ok (.iload_n 1, 1) := by decide +kernel
theorem dX4_codeSize_28 : decode cX4_codeSize 28 = .ok (.ireturn, 1) := by decide +kernel
theorem dX4_factOf_0 : decode cX4_factOf 0 = .ok (.aload_n 0, 1) := by decide +kernel
theorem dX4_factOf_1 : decode cX4_factOf 1 = .ok (.getfield 19, 3) := by decide +kernel
theorem dX4_factOf_4 : decode cX4_factOf 4 = .ok (.iload_n 1, 1) := by decide +kernel
theorem dX4_factOf_5 : decode cX4_factOf 5 = .ok (.bipush 6, 2) := by decide +kernel
theorem dX4_factOf_7 : decode cX4_factOf 7 = .ok (.imul, 1) := by decide +kernel
theorem dX4_factOf_8 : decode cX4_factOf 8 = .ok (.iload_n 2, 1) := by decide +kernel
theorem dX4_factOf_9 : decode cX4_factOf 9 = .ok (.iadd, 1) := by decide +kernel
theorem dX4_factOf_10 : decode cX4_factOf 10 = .ok (.iaload, 1) := by decide +kernel
theorem dX4_factOf_11 : decode cX4_factOf 11 = .ok (.ireturn, 1) := by decide +kernel
theorem dX4_widthOf_0 : decode cX4_widthOf 0 = .ok (.aload_n 0, 1) := by decide +kernel
theorem dX4_widthOf_1 : decode cX4_widthOf 1 = .ok (.iload_n 1, 1) := by decide +kernel
theorem dX4_widthOf_2 : decode cX4_widthOf 2 = .ok (.iconst 3, 1) := by decide +kernel
theorem dX4_widthOf_3 : decode cX4_widthOf 3 = .ok (.invokevirtual 44, 3) := by decide +kernel
theorem dX4_widthOf_6 : decode cX4_widthOf 6 = .ok (.aload_n 0, 1) := by decide +kernel
theorem dX4_widthOf_7 : decode cX4_widthOf 7 = .ok (.iload_n 1, 1) := by decide +kernel
theorem dX4_widthOf_8 : decode cX4_widthOf 8 = .ok (.iconst 2, 1) := by decide +kernel
theorem dX4_widthOf_9 : decode cX4_widthOf 9 = .ok (.invokevirtual 44, 3) := by decide +kernel
theorem dX4_widthOf_12 : decode cX4_widthOf 12 = .ok (.isub, 1) := by decide +kernel
theorem dX4_widthOf_13 : decode cX4_widthOf 13 = .ok (.iconst 1, 1) := by decide +kernel
theorem dX4_widthOf_14 : decode cX4_widthOf 14 = .ok (.iadd, 1) := by decide +kernel
theorem dX4_widthOf_15 : decode cX4_widthOf 15 = .ok (.ireturn, 1) := by decide +kernel
theorem dX4_addPart_0 : decode cX4_addPart 0 = .ok (.iload_n 2, 1) := by decide +kernel
theorem dX4_addPart_1 : decode cX4_addPart 1 = .ok (.iload_n 1, 1) := by decide +kernel
theorem dX4_addPart_2 : decode cX4_addPart 2 = .ok (.isub, 1) := by decide +kernel
theorem dX4_addPart_3 : decode cX4_addPart 3 = .ok (.istore_n 3, 1) := by decide +kernel
theorem dX4_addPart_4 : decode cX4_addPart 4 = .ok (.aload_n 0, 1) := by decide +kernel
theorem dX4_addPart_5 : decode cX4_addPart 5 = .ok (.iload_n 1, 1) := by decide +kernel
theorem dX4_addPart_6 : decode cX4_addPart 6 = .ok (.iload_n 2, 1) := by decide +kernel
theorem dX4_addPart_7 : decode cX4_addPart 7 = .ok (.invokevirtual 35, 3) := by decide +kernel
theorem dX4_addPart_10 : decode cX4_addPart 10 = .ok (.istore 4, 2) := by decide +kernel
theorem dX4_addPart_12 : decode cX4_addPart 12 = .ok (.iload_n 3, 1) := by decide +kernel
theorem dX4_addPart_13 : decode cX4_addPart 13 = .ok (.iload 4, 2) := by decide +kernel
theorem dX4_addPart_15 : decode cX4_addPart 15 = .ok (.invokestatic 39, 3) := by decide +kernel
theorem dX4_addPart_18 : decode cX4_addPart 18 = .ok (.istore 5, 2) := by decide +kernel
theorem dX4_addPart_20 : decode cX4_addPart 20 = .ok (.iload_n 3, 1) := by decide +kernel
theorem dX4_addPart_21 : decode cX4_addPart 21 = .ok (.iload 4, 2) := by decide +kernel
theorem dX4_addPart_23 : decode cX4_addPart 23 = .ok (.iload 5, 2) := by decide +kernel
theorem dX4_addPart_25 : decode cX4_addPart 25 = .ok (.invokestatic 47, 3) := by decide +kernel
theorem dX4_addPart_28 : decode cX4_addPart 28 = .ok (.istore 6, 2) := by decide +kernel
theorem dX4_addPart_30 : decode cX4_addPart 30 = .ok (.aload_n 0, 1) := by decide +kernel
theorem dX4_addPart_31 : decode cX4_addPart 31 = .ok (.getfield 22, 3) := by decide +kernel
theorem dX4_addPart_34 : decode cX4_addPart 34 = .ok (.bipush 6, 2) := by decide +kernel
theorem dX4_addPart_36 : decode cX4_addPart 36 = .ok (.imul, 1) := by decide +kernel
theorem dX4_addPart_37 : decode cX4_addPart 37 = .ok (.istore 7, 2) := by decide +kernel
theorem dX4_addPart_39 : decode cX4_addPart 39 = .ok (.aload_n 0, 1) := by decide +kernel
theorem dX4_addPart_40 : decode cX4_addPart 40 = .ok (.getfield 19, 3) := by decide +kernel
theorem dX4_addPart_43 : decode cX4_addPart 43 = .ok (.iload 7, 2) := by decide +kernel
theorem dX4_addPart_45 : decode cX4_addPart 45 = .ok (.iconst 0, 1) := by decide +kernel
theorem dX4_addPart_46 : decode cX4_addPart 46 = .ok (.iadd, 1) := by decide +kernel
theorem dX4_addPart_47 : decode cX4_addPart 47 = .ok (.iload 6, 2) := by decide +kernel
theorem dX4_addPart_49 : decode cX4_addPart 49 = .ok (.iastore, 1) := by decide +kernel
theorem dX4_addPart_50 : decode cX4_addPart 50 = .ok (.aload_n 0, 1) := by decide +kernel
theorem dX4_addPart_51 : decode cX4_addPart 51 = .ok (.getfield 19, 3) := by decide +kernel
theorem dX4_addPart_54 : decode cX4_addPart 54 = .ok (.iload 7, 2) := by decide +kernel
theorem dX4_addPart_56 : decode cX4_addPart 56 = .ok (.iconst 1, 1) := by decide +kernel
theorem dX4_addPart_57 : decode cX4_addPart 57 = .ok (.iadd, 1) := by decide +kernel
theorem dX4_addPart_58 : decode cX4_addPart 58 = .ok (.iload_n 3, 1) := by decide +kernel
theorem dX4_addPart_59 : decode cX4_addPart 59 = .ok (.iastore, 1) := by decide +kernel
theorem dX4_addPart_60 : decode cX4_addPart 60 = .ok (.aload_n 0, 1) := by decide +kernel
theorem dX4_addPart_61 : decode cX4_addPart 61 = .ok (.getfield 19, 3) := by decide +kernel
theorem dX4_addPart_64 : decode cX4_addPart 64 = .ok (.iload 7, 2) := by decide +kernel
theorem dX4_addPart_66 : decode cX4_addPart 66 = .ok (.iconst 2, 1) := by decide +kernel
theorem dX4_addPart_67 : decode cX4_addPart 67 = .ok (.iadd, 1) := by decide +kernel
theorem dX4_addPart_68 : decode cX4_addPart 68 = .ok (.aload_n 0, 1) := by decide +kernel
theorem dX4_addPart_69 : decode cX4_addPart 69 = .ok (.iload_n 1, 1) := by decide +kernel
theorem dX4_addPart_70 : decode cX4_addPart 70 = .ok (.invokevirtual 31, 3) := by decide +kernel
theorem dX4_addPart_73 : decode cX4_addPart 73 = .ok (.iastore, 1) := by decide +kernel
theorem dX4_addPart_74 : decode cX4_addPart 74 = .ok (.aload_n 0, 1) := by decide +kernel
theorem dX4_addPart_75 : decode cX4_addPart 75 = .ok (.getfield 19, 3) := by decide +kernel
theorem dX4_addPart_78 : decode cX4_addPart 78 = .ok (.iload 7, 2) := by decide +kernel
theorem dX4_addPart_80 : decode cX4_addPart 80 = .ok (.iconst 3, 1) := by decide +kernel
theorem dX4_addPart_81 : decode cX4_addPart 81 = .ok (.iadd, 1) := by decide +kernel
theorem dX4_addPart_82 : decode cX4_addPart 82 = .ok (.aload_n 0, 1) := by decide +kernel
theorem dX4_addPart_83 : decode cX4_addPart 83 = .ok (.iload_n 2, 1) := by decide +kernel
theorem dX4_addPart_84 : decode cX4_addPart 84 = .ok (.iconst 1, 1) := by decide +kernel
theorem dX4_addPart_85 : decode cX4_addPart 85 = .ok (.isub, 1) := by decide +kernel
theorem dX4_addPart_86 : decode cX4_addPart 86 = .ok (.invokevirtual 31, 3) := by decide +kernel
theorem dX4_addPart_89 : decode cX4_addPart 89 = .ok (.iastore, 1) := by decide +kernel
theorem dX4_addPart_90 : decode cX4_addPart 90 = .ok (.aload_n 0, 1) := by decide +kernel
theorem dX4_addPart_91 : decode cX4_addPart 91 = .ok (.getfield 19, 3) := by decide +kernel
theorem dX4_addPart_94 : decode cX4_addPart 94 = .ok (.iload 7, 2) := by decide +kernel
theorem dX4_addPart_96 : decode cX4_addPart 96 = .ok (.iconst 4, 1) := by decide +kernel
theorem dX4_addPart_97 : decode cX4_addPart 97 = .ok (.iadd, 1) := by decide +kernel
theorem dX4_addPart_98 : decode cX4_addPart 98 = .ok (.iload 5, 2) := by decide +kernel
theorem dX4_addPart_100 : decode cX4_addPart 100 = .ok (.iastore, 1) := by decide +kernel
theorem dX4_addPart_101 : decode cX4_addPart 101 = .ok (.aload_n 0, 1) := by decide +kernel
theorem dX4_addPart_102 : decode cX4_addPart 102 = .ok (.getfield 19, 3) := by decide +kernel
theorem dX4_addPart_105 : decode cX4_addPart 105 = .ok (.iload 7, 2) := by decide +kernel
theorem dX4_addPart_107 : decode cX4_addPart 107 = .ok (.iconst 5, 1) := by decide +kernel
theorem dX4_addPart_108 : decode cX4_addPart 108 = .ok (.iadd, 1) := by decide +kernel
theorem dX4_addPart_109 : decode cX4_addPart 109 = .ok (.iload 6, 2) := by decide +kernel
theorem dX4_addPart_111 : decode cX4_addPart 111 = .ok (.iconst 2, 1) := by decide +kernel
theorem dX4_addPart_112 : decode cX4_addPart 112 = .ok (.if_icmp .ne 12, 3) := by decide +kernel
theorem dX4_addPart_115 : decode cX4_addPart 115 = .ok (.iload_n 3, 1) := by decide +kernel
theorem dX4_addPart_116 : decode cX4_addPart 116 = .ok (.iload 4, 2) := by decide +kernel
theorem dX4_addPart_118 : decode cX4_addPart 118 = .ok (.invokestatic 51, 3) := by decide +kernel
theorem dX4_addPart_121 : decode cX4_addPart 121 = .ok (.goto 4, 3) := by decide +kernel
theorem dX4_addPart_124 : decode cX4_addPart 124 = .ok (.iconst 0, 1) := by decide +kernel
theorem dX4_addPart_125 : decode cX4_addPart 125 = .ok (.iastore, 1) := by decide +kernel
theorem dX4_addPart_126 : decode cX4_addPart 126 = .ok (.aload_n 0, 1) := by decide +kernel
theorem dX4_addPart_127 : decode cX4_addPart 127 = .ok (.dup, 1) := by decide +kernel
theorem dX4_addPart_128 : decode cX4_addPart 128 = .ok (.getfield 22, 3) := by decide +kernel
theorem dX4_addPart_131 : decode cX4_addPart 131 = .ok (.iconst 1, 1) := by decide +kernel
theorem dX4_addPart_132 : decode cX4_addPart 132 = .ok (.iadd, 1) := by decide +kernel
theorem dX4_addPart_133 : decode cX4_addPart 133 = .ok (.putfield 22, 3) := by decide +kernel
theorem dX4_addPart_136 : decode cX4_addPart 136 = .ok (.return_, 1) := by decide +kernel
theorem dX4_readsInside_0 : decode cX4_readsInside 0 = .ok (.aload_n 0, 1) := by decide +kernel
theorem dX4_readsInside_1 : decode cX4_readsInside 1 = .ok (.iload_n 1, 1) := by decide +kernel
theorem dX4_readsInside_2 : decode cX4_readsInside 2 = .ok (.iconst 2, 1) := by decide +kernel
theorem dX4_readsInside_3 : decode cX4_readsInside 3 = .ok (.invokevirtual 44, 3) := by decide +kernel
theorem dX4_readsInside_6 : decode cX4_readsInside 6 = .ok (.istore 4, 2) := by decide +kernel
theorem dX4_readsInside_8 : decode cX4_readsInside 8 = .ok (.aload_n 0, 1) := by decide +kernel
theorem dX4_readsInside_9 : decode cX4_readsInside 9 = .ok (.iload_n 1, 1) := by decide +kernel
theorem dX4_readsInside_10 : decode cX4_readsInside 10 = .ok (.iconst 0, 1) := by decide +kernel
theorem dX4_readsInside_11 : decode cX4_readsInside 11 = .ok (.invokevirtual 44, 3) := by decide +kernel
theorem dX4_readsInside_14 : decode cX4_readsInside 14 = .ok (.istore 5, 2) := by decide +kernel
theorem dX4_readsInside_16 : decode cX4_readsInside 16 = .ok (.iload 5, 2) := by decide +kernel
theorem dX4_readsInside_18 : decode cX4_readsInside 18 = .ok (.iconst 1, 1) := by decide +kernel
theorem dX4_readsInside_19 : decode cX4_readsInside 19 = .ok (.if_icmp .ne 25, 3) := by decide +kernel
theorem dX4_readsInside_22 : decode cX4_readsInside 22 = .ok (.aload_n 0, 1) := by decide +kernel
theorem dX4_readsInside_23 : decode cX4_readsInside 23 = .ok (.iload_n 3, 1) := by decide +kernel
theorem dX4_readsInside_24 : decode cX4_readsInside 24 = .ok (.invokevirtual 31, 3) := by decide +kernel
theorem dX4_readsInside_27 : decode cX4_readsInside 27 = .ok (.iload 4, 2) := by decide +kernel
theorem dX4_readsInside_29 : decode cX4_readsInside 29 = .ok (.isub, 1) := by decide +kernel
theorem dX4_readsInside_30 : decode cX4_readsInside 30 = .ok (.bipush 8, 2) := by decide +kernel
theorem dX4_readsInside_32 : decode cX4_readsInside 32 = .ok (.idiv, 1) := by decide +kernel
theorem dX4_readsInside_33 : decode cX4_readsInside 33 = .ok (.iload_n 2, 1) := by decide +kernel
theorem dX4_readsInside_34 : decode cX4_readsInside 34 = .ok (.iload 4, 2) := by decide +kernel
theorem dX4_readsInside_36 : decode cX4_readsInside 36 = .ok (.isub, 1) := by decide +kernel
theorem dX4_readsInside_37 : decode cX4_readsInside 37 = .ok (.bipush 8, 2) := by decide +kernel
theorem dX4_readsInside_39 : decode cX4_readsInside 39 = .ok (.idiv, 1) := by decide +kernel
theorem dX4_readsInside_40 : decode cX4_readsInside 40 = .ok (.isub, 1) := by decide +kernel
theorem dX4_readsInside_41 : decode cX4_readsInside 41 = .ok (.iconst 1, 1) := by decide +kernel
theorem dX4_readsInside_42 : decode cX4_readsInside 42 = .ok (.iadd, 1) := by decide +kernel
theorem dX4_readsInside_43 : decode cX4_readsInside 43 = .ok (.ireturn, 1) := by decide +kernel
theorem dX4_readsInside_44 : decode cX4_readsInside 44 = .ok (.iload 5, 2) := by decide +kernel
theorem dX4_readsInside_46 : decode cX4_readsInside 46 = .ok (.iconst 2, 1) := by decide +kernel
theorem dX4_readsInside_47 : decode cX4_readsInside 47 = .ok (.if_icmp .ne 39, 3) := by decide +kernel
theorem dX4_readsInside_50 : decode cX4_readsInside 50 = .ok (.aload_n 0, 1) := by decide +kernel
theorem dX4_readsInside_51 : decode cX4_readsInside 51 = .ok (.iload_n 1, 1) := by decide +kernel
theorem dX4_readsInside_52 : decode cX4_readsInside 52 = .ok (.iconst 5, 1) := by decide +kernel
theorem dX4_readsInside_53 : decode cX4_readsInside 53 = .ok (.invokevirtual 44, 3) := by decide +kernel
theorem dX4_readsInside_56 : decode cX4_readsInside 56 = .ok (.istore 6, 2) := by decide +kernel
theorem dX4_readsInside_58 : decode cX4_readsInside 58 = .ok (.iload 4, 2) := by decide +kernel
theorem dX4_readsInside_60 : decode cX4_readsInside 60 = .ok (.iload_n 2, 1) := by decide +kernel
theorem dX4_readsInside_61 : decode cX4_readsInside 61 = .ok (.iload 4, 2) := by decide +kernel
theorem dX4_readsInside_63 : decode cX4_readsInside 63 = .ok (.isub, 1) := by decide +kernel
theorem dX4_readsInside_64 : decode cX4_readsInside 64 = .ok (.iload 6, 2) := by decide +kernel
theorem dX4_readsInside_66 : decode cX4_readsInside 66 = .ok (.ishr, 1) := by decide +kernel
theorem dX4_readsInside_67 : decode cX4_readsInside 67 = .ok (.iload 6, 2) := by decide +kernel
theorem dX4_readsInside_69 : decode cX4_readsInside 69 = .ok (.ishl, 1) := by decide +kernel
theorem dX4_readsInside_70 : decode cX4_readsInside 70 = .ok (.iadd, 1) := by decide +kernel
theorem dX4_readsInside_71 : decode cX4_readsInside 71 = .ok (.istore 7, 2) := by decide +kernel
theorem dX4_readsInside_73 : decode cX4_readsInside 73 = .ok (.iconst 1, 1) := by decide +kernel
theorem dX4_readsInside_74 : decode cX4_readsInside 74 = .ok (.iload_n 3, 1) := by decide +kernel
theorem dX4_readsInside_75 : decode cX4_readsInside 75 = .ok (.iadd, 1) := by decide +kernel
theorem dX4_readsInside_76 : decode cX4_readsInside 76 = .ok (.aload_n 0, 1) := by decide +kernel
theorem dX4_readsInside_77 : decode cX4_readsInside 77 = .ok (.iload 7, 2) := by decide +kernel
theorem dX4_readsInside_79 : decode cX4_readsInside 79 = .ok (.invokevirtual 54, 3) := by decide +kernel
theorem dX4_readsInside_82 : decode cX4_readsInside 82 = .ok (.isub, 1) := by decide +kernel
theorem dX4_readsInside_83 : decode cX4_readsInside 83 = .ok (.iconst 1, 1) := by decide +kernel
theorem dX4_readsInside_84 : decode cX4_readsInside 84 = .ok (.iadd, 1) := by decide +kernel
theorem dX4_readsInside_85 : decode cX4_readsInside 85 = .ok (.ireturn, 1) := by decide +kernel
theorem dX4_readsInside_86 : decode cX4_readsInside 86 = .ok (.iconst 0, 1) := by decide +kernel
theorem dX4_readsInside_87 : decode cX4_readsInside 87 = .ok (.ireturn, 1) := by decide +kernel
theorem dX5_lowBits_0 : decode cX5_lowBits 0 = .ok (.iconst 0, 1) := by decide +kernel
theorem dX5_lowBits_1 : decode cX5_lowBits 1 = .ok (.istore_n 2, 1) := by decide +kernel
theorem dX5_lowBits_2 : decode cX5_lowBits 2 = .ok (.iload_n 2, 1) := by decide +kernel
theorem dX5_lowBits_3 : decode cX5_lowBits 3 = .ok (.bipush 9, 2) := by decide +kernel
theorem dX5_lowBits_5 : decode cX5_lowBits 5 = .ok (.if_icmp .ge 18, 3) := by decide +kernel
theorem dX5_lowBits_8 : decode cX5_lowBits 8 = .ok (.iload_n 0, 1) := by decide +kernel
theorem dX5_lowBits_9 : decode cX5_lowBits 9 = .ok (.iload_n 2, 1) := by decide +kernel
theorem dX5_lowBits_10 : decode cX5_lowBits 10 = .ok (.iconst 1, 1) := by decide +kernel
theorem dX5_lowBits_11 : decode cX5_lowBits 11 = .ok (.iadd, 1) := by decide +kernel
theorem dX5_lowBits_12 : decode cX5_lowBits 12 = .ok (.ishl, 1) := by decide +kernel
theorem dX5_lowBits_13 : decode cX5_lowBits 13 = .ok (.iload_n 1, 1) := by decide +kernel
theorem dX5_lowBits_14 : decode cX5_lowBits 14 = .ok (.if_icmp .gt 9, 3) := by decide +kernel
theorem dX5_lowBits_17 : decode cX5_lowBits 17 = .ok (.iinc 2 1, 3) := by decide +kernel
theorem dX5_lowBits_20 : decode cX5_lowBits 20 = .ok (.goto (-18), 3) := by decide +kernel
theorem dX5_lowBits_23 : decode cX5_lowBits 23 = .ok (.iload_n 2, 1) := by decide +kernel
theorem dX5_lowBits_24 : decode cX5_lowBits 24 = .ok (.ireturn, 1) := by decide +kernel
theorem dX5_highLength_0 : decode cX5_highLength 0 = .ok (.iload_n 0, 1) := by decide +kernel
theorem dX5_highLength_1 : decode cX5_highLength 1 = .ok (.iload_n 1, 1) := by decide +kernel
theorem dX5_highLength_2 : decode cX5_highLength 2 = .ok (.iconst 1, 1) := by decide +kernel
theorem dX5_highLength_3 : decode cX5_highLength 3 = .ok (.isub, 1) := by decide +kernel
theorem dX5_highLength_4 : decode cX5_highLength 4 = .ok (.iload_n 2, 1) := by decide +kernel
theorem dX5_highLength_5 : decode cX5_highLength 5 = .ok (.ishr, 1) := by decide +kernel
theorem dX5_highLength_6 : decode cX5_highLength 6 = .ok (.iadd, 1) := by decide +kernel
theorem dX5_highLength_7 : decode cX5_highLength 7 = .ok (.iconst 1, 1) := by decide +kernel
theorem dX5_highLength_8 : decode cX5_highLength 8 = .ok (.iadd, 1) := by decide +kernel
theorem dX5_highLength_9 : decode cX5_highLength 9 = .ok (.ireturn, 1) := by decide +kernel
theorem dX5_bestSize_0 : decode cX5_bestSize 0 = .ok (.iload_n 0, 1) := by decide +kernel
theorem dX5_bestSize_1 : decode cX5_bestSize 1 = .ok (.iload_n 1, 1) := by decide +kernel
theorem dX5_bestSize_2 : decode cX5_bestSize 2 = .ok (.if_icmp .ne 6, 3) := by decide +kernel
theorem dX5_bestSize_5 : decode cX5_bestSize 5 = .ok (.bipush 26, 2) := by decide +kernel
theorem dX5_bestSize_7 : decode cX5_bestSize 7 = .ok (.ireturn, 1) := by decide +kernel
theorem dX5_bestSize_8 : decode cX5_bestSize 8 = .ok (.iload_n 0, 1) := by decide +kernel
theorem dX5_bestSize_9 : decode cX5_bestSize 9 = .ok (.iload_n 1, 1) := by decide +kernel
theorem dX5_bestSize_10 : decode cX5_bestSize 10 = .ok (.invokestatic 11, 3) := by decide +kernel
theorem dX5_bestSize_13 : decode cX5_bestSize 13 = .ok (.istore_n 2, 1) := by decide +kernel
theorem dX5_bestSize_14 : decode cX5_bestSize 14 = .ok (.iload_n 0, 1) := by decide +kernel
theorem dX5_bestSize_15 : decode cX5_bestSize 15 = .ok (.iload_n 1, 1) := by decide +kernel
theorem dX5_bestSize_16 : decode cX5_bestSize 16 = .ok (.iload_n 2, 1) := by decide +kernel
theorem dX5_bestSize_17 : decode cX5_bestSize 17 = .ok (.invokestatic 15, 3) := by decide +kernel
theorem dX5_bestSize_20 : decode cX5_bestSize 20 = .ok (.iload_n 0, 1) := by decide +kernel
theorem dX5_bestSize_21 : decode cX5_bestSize 21 = .ok (.iload_n 2, 1) := by decide +kernel
theorem dX5_bestSize_22 : decode cX5_bestSize 22 = .ok (.imul, 1) := by decide +kernel
theorem dX5_bestSize_23 : decode cX5_bestSize 23 = .ok (.iadd, 1) := by decide +kernel
theorem dX5_bestSize_24 : decode cX5_bestSize 24 = .ok (.istore_n 3, 1) := by decide +kernel
theorem dX5_bestSize_25 : decode cX5_bestSize 25 = .ok (.bipush 26, 2) := by decide +kernel
theorem dX5_bestSize_27 : decode cX5_bestSize 27 = .ok (.iload_n 3, 1) := by decide +kernel
theorem dX5_bestSize_28 : decode cX5_bestSize 28 = .ok (.iload_n 1, 1) := by decide +kernel
theorem dX5_bestSize_29 : decode cX5_bestSize 29 = .ok (.if_icmp .ge 7, 3) := by decide +kernel
theorem dX5_bestSize_32 : decode cX5_bestSize 32 = .ok (.iload_n 3, 1) := by decide +kernel
theorem dX5_bestSize_33 : decode cX5_bestSize 33 = .ok (.goto 4, 3) := by decide +kernel
theorem dX5_bestSize_36 : decode cX5_bestSize 36 = .ok (.iload_n 1, 1) := by decide +kernel
theorem dX5_bestSize_37 : decode cX5_bestSize 37 = .ok (.iadd, 1) := by decide +kernel
theorem dX5_bestSize_38 : decode cX5_bestSize 38 = .ok (.ireturn, 1) := by decide +kernel
theorem dX5_bestKind_0 : decode cX5_bestKind 0 = .ok (.iload_n 0, 1) := by decide +kernel
theorem dX5_bestKind_1 : decode cX5_bestKind 1 = .ok (.iload_n 1, 1) := by decide +kernel
theorem dX5_bestKind_2 : decode cX5_bestKind 2 = .ok (.if_icmp .ne 5, 3) := by decide +kernel
theorem dX5_bestKind_5 : decode cX5_bestKind 5 = .ok (.iconst 0, 1) := by decide +kernel
theorem dX5_bestKind_6 : decode cX5_bestKind 6 = .ok (.ireturn, 1) := by decide +kernel
theorem dX5_bestKind_7 : decode cX5_bestKind 7 = .ok (.iload_n 2, 1) := by decide +kernel
theorem dX5_bestKind_8 : decode cX5_bestKind 8 = .ok (.bipush 26, 2) := by decide +kernel
theorem dX5_bestKind_10 : decode cX5_bestKind 10 = .ok (.iload_n 1, 1) := by decide +kernel
theorem dX5_bestKind_11 : decode cX5_bestKind 11 = .ok (.iadd, 1) := by decide +kernel
theorem dX5_bestKind_12 : decode cX5_bestKind 12 = .ok (.if_icmp .ge 7, 3) := by decide +kernel
theorem dX5_bestKind_15 : decode cX5_bestKind 15 = .ok (.iconst 2, 1) := by decide +kernel
theorem dX5_bestKind_16 : decode cX5_bestKind 16 = .ok (.goto 4, 3) := by decide +kernel
theorem dX5_bestKind_19 : decode cX5_bestKind 19 = .ok (.iconst 1, 1) := by decide +kernel
theorem dX5_bestKind_20 : decode cX5_bestKind 20 = .ok (.ireturn, 1) := by decide +kernel
theorem dX6_init_0 : decode cX6_init 0 = .ok (.aload_n 0, 1) := by decide +kernel
theorem dX6_init_1 : decode cX6_init 1 = .ok (.invokespecial 3, 3) := by decide +kernel
theorem dX6_init_4 : decode cX6_init 4 = .ok (.aload_n 0, 1) := by decide +kernel
theorem dX6_init_5 : decode cX6_init 5 = .ok (.iconst 4, 1) := by decide +kernel
theorem dX6_init_6 : decode cX6_init 6 = .ok (.anewarray 9, 3) := by decide +kernel
theorem dX6_init_9 : decode cX6_init 9 = .ok (.putfield 11, 3) := by decide +kernel
theorem dX6_init_12 : decode cX6_init 12 = .ok (.aload_n 0, 1) := by decide +kernel
theorem dX6_init_13 : decode cX6_init 13 = .ok (.new 17, 3) := by decide +kernel
theorem dX6_init_16 : decode cX6_init 16 = .ok (.dup, 1) := by decide +kernel
theorem dX6_init_17 : decode cX6_init 17 = .ok (.invokespecial 19, 3) := by decide +kernel
theorem dX6_init_20 : decode cX6_init 20 = .ok (.putfield 20, 3) := by decide +kernel
theorem dX6_init_23 : decode cX6_init 23 = .ok (.aload_n 0, 1) := by decide +kernel
theorem dX6_init_24 : decode cX6_init 24 = .ok (.iconst 0, 1) := by decide +kernel
theorem dX6_init_25 : decode cX6_init 25 = .ok (.putfield 24, 3) := by decide +kernel
theorem dX6_init_28 : decode cX6_init 28 = .ok (.aload_n 0, 1) := by decide +kernel
theorem dX6_init_29 : decode cX6_init 29 = .ok (.iconst 0, 1) := by decide +kernel
theorem dX6_init_30 : decode cX6_init 30 = .ok (.putfield 28, 3) := by decide +kernel
theorem dX6_init_33 : decode cX6_init 33 = .ok (.iconst 0, 1) := by decide +kernel
theorem dX6_init_34 : decode cX6_init 34 = .ok (.istore_n 1, 1) := by decide +kernel
theorem dX6_init_35 : decode cX6_init 35 = .ok (.iload_n 1, 1) := by decide +kernel
theorem dX6_init_36 : decode cX6_init 36 = .ok (.iconst 4, 1) := by decide +kernel
theorem dX6_init_37 : decode cX6_init 37 = .ok (.if_icmp .ge 22, 3) := by decide +kernel
theorem dX6_init_40 : decode cX6_init 40 = .ok (.aload_n 0, 1) := by decide +kernel
theorem dX6_init_41 : decode cX6_init 41 = .ok (.getfield 11, 3) := by decide +kernel
theorem dX6_init_44 : decode cX6_init 44 = .ok (.iload_n 1, 1) := by decide +kernel
theorem dX6_init_45 : decode cX6_init 45 = .ok (.new 9, 3) := by decide +kernel
theorem dX6_init_48 : decode cX6_init 48 = .ok (.dup, 1) := by decide +kernel
theorem dX6_init_49 : decode cX6_init 49 = .ok (.invokespecial 31, 3) := by decide +kernel
theorem dX6_init_52 : decode cX6_init 52 = .ok (.aastore, 1) := by decide +kernel
theorem dX6_init_53 : decode cX6_init 53 = .ok (.iinc 1 1, 3) := by decide +kernel
theorem dX6_init_56 : decode cX6_init 56 = .ok (.goto (-21), 3) := by decide +kernel
theorem dX6_init_59 : decode cX6_init 59 = .ok (.return_, 1) := by decide +kernel
theorem dX6_copyFrom_0 : decode cX6_copyFrom 0 = .ok (.iconst 0, 1) := by decide +kernel
theorem dX6_copyFrom_1 : decode cX6_copyFrom 1 = .ok (.istore_n 2, 1) := by decide +kernel
theorem dX6_copyFrom_2 : decode cX6_copyFrom 2 = .ok (.iload_n 2, 1) := by decide +kernel
theorem dX6_copyFrom_3 : decode cX6_copyFrom 3 = .ok (.iconst 4, 1) := by decide +kernel
theorem dX6_copyFrom_4 : decode cX6_copyFrom 4 = .ok (.if_icmp .ge 24, 3) := by decide +kernel
theorem dX6_copyFrom_7 : decode cX6_copyFrom 7 = .ok (.aload_n 0, 1) := by decide +kernel
theorem dX6_copyFrom_8 : decode cX6_copyFrom 8 = .ok (.getfield 11, 3) := by decide +kernel
theorem dX6_copyFrom_11 : decode cX6_copyFrom 11 = .ok (.iload_n 2, 1) := by decide +kernel
theorem dX6_copyFrom_12 : decode cX6_copyFrom 12 = .ok (.aaload, 1) := by decide +kernel
theorem dX6_copyFrom_13 : decode cX6_copyFrom 13 = .ok (.aload_n 1, 1) := by decide +kernel
theorem dX6_copyFrom_14 : decode cX6_copyFrom 14 = .ok (.getfield 11, 3) := by decide +kernel
theorem dX6_copyFrom_17 : decode cX6_copyFrom 17 = .ok (.iload_n 2, 1) := by decide +kernel
theorem dX6_copyFrom_18 : decode cX6_copyFrom 18 = .ok (.aaload, 1) := by decide +kernel
theorem dX6_copyFrom_19 : decode cX6_copyFrom 19 = .ok (.invokevirtual 32, 3) := by decide +kernel
theorem dX6_copyFrom_22 : decode cX6_copyFrom 22 = .ok (.iinc 2 1, 3) := by decide +kernel
theorem dX6_copyFrom_25 : decode cX6_copyFrom 25 = .ok (.goto (-23), 3) := by decide +kernel
theorem dX6_copyFrom_28 : decode cX6_copyFrom 28 = .ok (.aload_n 0, 1) := by decide +kernel
theorem dX6_copyFrom_29 : decode cX6_copyFrom 29 = .ok (.getfield 20, 3) := by decide +kernel
theorem dX6_copyFrom_32 : decode cX6_copyFrom 32 = .ok (.aload_n 1, 1) := by decide +kernel
theorem dX6_copyFrom_33 : decode cX6_copyFrom 33 = .ok (.getfield 20, 3) := by decide +kernel
theorem dX6_copyFrom_36 : decode cX6_copyFrom 36 = .ok (.invokevirtual 36, 3) := by decide +kernel
theorem dX6_copyFrom_39 : decode cX6_copyFrom 39 = .ok (.aload_n 0, 1) := by decide +kernel
theorem dX6_copyFrom_40 : decode cX6_copyFrom 40 = .ok (.aload_n 1, 1) := by decide +kernel
theorem dX6_copyFrom_41 : decode cX6_copyFrom 41 = .ok (.getfield 24, 3) := by decide +kernel
theorem dX6_copyFrom_44 : decode cX6_copyFrom 44 = .ok (.putfield 24, 3) := by decide +kernel
theorem dX6_copyFrom_47 : decode cX6_copyFrom 47 = .ok (.aload_n 0, 1) := by decide +kernel
theorem dX6_copyFrom_48 : decode cX6_copyFrom 48 = .ok (.aload_n 1, 1) := by decide +kernel
theorem dX6_copyFrom_49 : decode cX6_copyFrom 49 = .ok (.getfield 28, 3) := by decide +kernel
theorem dX6_copyFrom_52 : decode cX6_copyFrom 52 = .ok (.putfield 28, 3) := by decide +kernel
theorem dX6_copyFrom_55 : decode cX6_copyFrom 55 = .ok (.return_, 1) := by decide +kernel
theorem dX6_query_0 : decode cX6_query 0 = .ok (.aload_n 0, 1) := by decide +kernel
theorem dX6_query_1 : decode cX6_query 1 = .ok (.getfield 11, 3) := by decide +kernel
theorem dX6_query_4 : decode cX6_query 4 = .ok (.iload_n 1, 1) := by decide +kernel
theorem dX6_query_5 : decode cX6_query 5 = .ok (.aaload, 1) := by decide +kernel
theorem dX6_query_6 : decode cX6_query 6 = .ok (.astore_n 3, 1) := by decide +kernel
theorem dX6_query_7 : decode cX6_query 7 = .ok (.iconst 0, 1) := by decide +kernel
theorem dX6_query_8 : decode cX6_query 8 = .ok (.istore 4, 2) := by decide +kernel
theorem dX6_query_10 : decode cX6_query 10 = .ok (.iload 4, 2) := by decide +kernel
theorem dX6_query_12 : decode cX6_query 12 = .ok (.aload_n 3, 1) := by decide +kernel
theorem dX6_query_13 : decode cX6_query 13 = .ok (.getfield 39, 3) := by decide +kernel
theorem dX6_query_16 : decode cX6_query 16 = .ok (.if_icmp .ge 59, 3) := by decide +kernel
theorem dX6_query_19 : decode cX6_query 19 = .ok (.aload_n 0, 1) := by decide +kernel
theorem dX6_query_20 : decode cX6_query 20 = .ok (.dup, 1) := by decide +kernel
theorem dX6_query_21 : decode cX6_query 21 = .ok (.getfield 24, 3) := by decide +kernel
theorem dX6_query_24 : decode cX6_query 24 = .ok (.iconst 1, 1) := by decide +kernel
theorem dX6_query_25 : decode cX6_query 25 = .ok (.iadd, 1) := by decide +kernel
theorem dX6_query_26 : decode cX6_query 26 = .ok (.putfield 24, 3) := by decide +kernel
theorem dX6_query_29 : decode cX6_query 29 = .ok (.aload_n 3, 1) := by decide +kernel
theorem dX6_query_30 : decode cX6_query 30 = .ok (.iload 4, 2) := by decide +kernel
theorem dX6_query_32 : decode cX6_query 32 = .ok (.iconst 3, 1) := by decide +kernel
theorem dX6_query_33 : decode cX6_query 33 = .ok (.invokevirtual 42, 3) := by decide +kernel
theorem dX6_query_36 : decode cX6_query 36 = .ok (.iload_n 2, 1) := by decide +kernel
theorem dX6_query_37 : decode cX6_query 37 = .ok (.if_icmp .lt 32, 3) := by decide +kernel
theorem dX6_query_40 : decode cX6_query 40 = .ok (.aload_n 3, 1) := by decide +kernel
theorem dX6_query_41 : decode cX6_query 41 = .ok (.iload 4, 2) := by decide +kernel
theorem dX6_query_43 : decode cX6_query 43 = .ok (.iconst 2, 1) := by decide +kernel
theorem dX6_query_44 : decode cX6_query 44 = .ok (.invokevirtual 42, 3) := by decide +kernel
theorem dX6_query_47 : decode cX6_query 47 = .ok (.istore 5, 2) := by decide +kernel
theorem dX6_query_49 : decode cX6_query 49 = .ok (.iload_n 2, 1) := by decide +kernel
theorem dX6_query_50 : decode cX6_query 50 = .ok (.iload 5, 2) := by decide +kernel
theorem dX6_query_52 : decode cX6_query 52 = .ok (.if_icmp .gt 8, 3) := by decide +kernel
theorem dX6_query_55 : decode cX6_query 55 = .ok (.iload 5, 2) := by decide +kernel
theorem dX6_query_57 : decode cX6_query 57 = .ok (.goto 11, 3) := by decide +kernel
theorem dX6_query_60 : decode cX6_query 60 = .ok (.aload_n 0, 1) := by decide +kernel
theorem dX6_query_61 : decode cX6_query 61 = .ok (.iload_n 1, 1) := by decide +kernel
theorem dX6_query_62 : decode cX6_query 62 = .ok (.iload 4, 2) := by decide +kernel
theorem dX6_query_64 : decode cX6_query 64 = .ok (.iload_n 2, 1) := by decide +kernel
theorem dX6_query_65 : decode cX6_query 65 = .ok (.invokevirtual 46, 3) := by decide +kernel
theorem dX6_query_68 : decode cX6_query 68 = .ok (.ireturn, 1) := by decide +kernel
theorem dX6_query_69 : decode cX6_query 69 = .ok (.iinc 4 1, 3) := by decide +kernel
theorem dX6_query_72 : decode cX6_query 72 = .ok (.goto (-62), 3) := by decide +kernel
theorem dX6_query_75 : decode cX6_query 75 = .ok (.iconst (-1), 1) := by decide +kernel
theorem dX6_query_76 : decode cX6_query 76 = .ok (.ireturn, 1) := by decide +kernel
theorem dX6_queryInside_0 : decode cX6_queryInside 0 = .ok (.aload_n 0, 1) := by decide +kernel
theorem dX6_queryInside_1 : decode cX6_queryInside 1 = .ok (.getfield 11, 3) := by decide +kernel
theorem dX6_queryInside_4 : decode cX6_queryInside 4 = .ok (.iload_n 1, 1) := by decide +kernel
theorem dX6_queryInside_5 : decode cX6_queryInside 5 = .ok (.aaload, 1) := by decide +kernel
theorem dX6_queryInside_6 : decode cX6_queryInside 6 = .ok (.astore 4, 2) := by decide +kernel
theorem dX6_queryInside_8 : decode cX6_queryInside 8 = .ok (.aload 4, 2) := by decide +kernel
theorem dX6_queryInside_10 : decode cX6_queryInside 10 = .ok (.iload_n 3, 1) := by decide +kernel
theorem dX6_queryInside_11 : decode cX6_queryInside 11 = .ok (.invokevirtual 50, 3) := by decide +kernel
theorem dX6_queryInside_14 : decode cX6_queryInside 14 = .ok (.istore 5, 2) := by decide +kernel
theorem dX6_queryInside_16 : decode cX6_queryInside 16 = .ok (.aload_n 0, 1) := by decide +kernel
theorem dX6_queryInside_17 : decode cX6_queryInside 17 = .ok (.getfield 20, 3) := by decide +kernel
theorem dX6_queryInside_20 : decode cX6_queryInside 20 = .ok (.bipush 100, 2) := by decide +kernel
theorem dX6_queryInside_22 : decode cX6_queryInside 22 = .ok (.iload_n 1, 1) := by decide +kernel
theorem dX6_queryInside_23 : decode cX6_queryInside 23 = .ok (.imul, 1) := by decide +kernel
theorem dX6_queryInside_24 : decode cX6_queryInside 24 = .ok (.iload_n 2, 1) := by decide +kernel
theorem dX6_queryInside_25 : decode cX6_queryInside 25 = .ok (.iadd, 1) := by decide +kernel
theorem dX6_queryInside_26 : decode cX6_queryInside 26 = .ok (.invokevirtual 54, 3) := by decide +kernel
theorem dX6_queryInside_29 : decode cX6_queryInside 29 = .ok (.ifCond .eq 16, 3) := by decide +kernel
theorem dX6_queryInside_32 : decode cX6_queryInside 32 = .ok (.aload_n 0, 1) := by decide +kernel
theorem dX6_queryInside_33 : decode cX6_queryInside 33 = .ok (.dup, 1) := by decide +kernel
theorem dX6_queryInside_34 : decode cX6_queryInside 34 = .ok (.getfield 28, 3) := by decide +kernel
theorem dX6_queryInside_37 : decode cX6_queryInside 37 = .ok (.iconst 1, 1) := by decide +kernel
theorem dX6_queryInside_38 : decode cX6_queryInside 38 = .ok (.iadd, 1) := by decide +kernel
theorem dX6_queryInside_39 : decode cX6_queryInside 39 = .ok (.putfield 28, 3) := by decide +kernel
theorem dX6_queryInside_42 : decode cX6_queryInside 42 = .ok (.goto 21, 3) := by decide +kernel
theorem dX6_queryInside_45 : decode cX6_queryInside 45 = .ok (.aload_n 0, 1) := by decide +kernel
theorem dX6_queryInside_46 : decode cX6_queryInside 46 = .ok (.dup, 1) := by decide +kernel
theorem dX6_queryInside_47 : decode cX6_queryInside 47 = .ok (.getfield 24, 3) := by decide +kernel
theorem dX6_queryInside_50 : decode cX6_queryInside 50 = .ok (.aload 4, 2) := by decide +kernel
theorem dX6_queryInside_52 : decode cX6_queryInside 52 = .ok (.iload_n 2, 1) := by decide +kernel
theorem dX6_queryInside_53 : decode cX6_queryInside 53 = .ok (.iload_n 3, 1) := by decide +kernel
theorem dX6_queryInside_54 : decode cX6_queryInside 54 = .ok (.iload 5, 2) := by decide +kernel
theorem dX6_queryInside_56 : decode cX6_queryInside 56 = .ok (.invokevirtual 58, 3) := by decide +kernel
theorem dX6_queryInside_59 : decode cX6_queryInside 59 = .ok (.iadd, 1) := by decide +kernel
theorem dX6_queryInside_60 : decode cX6_queryInside 60 = .ok (.putfield 24, 3) := by decide +kernel
theorem dX6_queryInside_63 : decode cX6_queryInside 63 = .ok (.aload 4, 2) := by decide +kernel
theorem dX6_queryInside_65 : decode cX6_queryInside 65 = .ok (.iload 5, 2) := by decide +kernel
theorem dX6_queryInside_67 : decode cX6_queryInside 67 = .ok (.invokevirtual 61, 3) := by decide +kernel
theorem dX6_queryInside_70 : decode cX6_queryInside 70 = .ok (.ireturn, 1) := by decide +kernel
theorem dX7_init_0 : decode cX7_init 0 = .ok (.aload_n 0, 1) := by decide +kernel
theorem dX7_init_1 : decode cX7_init 1 = .ok (.invokespecial 3, 3) := by decide +kernel
theorem dX7_init_4 : decode cX7_init 4 = .ok (.aload_n 0, 1) := by decide +kernel
theorem dX7_init_5 : decode cX7_init 5 = .ok (.new 9, 3) := by decide +kernel
theorem dX7_init_8 : decode cX7_init 8 = .ok (.dup, 1) := by decide +kernel
theorem dX7_init_9 : decode cX7_init 9 = .ok (.invokespecial 11, 3) := by decide +kernel
theorem dX7_init_12 : decode cX7_init 12 = .ok (.putfield 12, 3) := by decide +kernel
theorem dX7_init_15 : decode cX7_init 15 = .ok (.aload_n 0, 1) := by decide +kernel
theorem dX7_init_16 : decode cX7_init 16 = .ok (.new 16, 3) := by decide +kernel
theorem dX7_init_19 : decode cX7_init 19 = .ok (.dup, 1) := by decide +kernel
theorem dX7_init_20 : decode cX7_init 20 = .ok (.invokespecial 18, 3) := by decide +kernel
theorem dX7_init_23 : decode cX7_init 23 = .ok (.putfield 19, 3) := by decide +kernel
theorem dX7_init_26 : decode cX7_init 26 = .ok (.aload_n 0, 1) := by decide +kernel
theorem dX7_init_27 : decode cX7_init 27 = .ok (.new 23, 3) := by decide +kernel
theorem dX7_init_30 : decode cX7_init 30 = .ok (.dup, 1) := by decide +kernel
theorem dX7_init_31 : decode cX7_init 31 = .ok (.invokespecial 25, 3) := by decide +kernel
theorem dX7_init_34 : decode cX7_init 34 = .ok (.putfield 26, 3) := by decide +kernel
theorem dX7_init_37 : decode cX7_init 37 = .ok (.aload_n 0, 1) := by decide +kernel
theorem dX7_init_38 : decode cX7_init 38 = .ok (.new 30, 3) := by decide +kernel
theorem dX7_init_41 : decode cX7_init 41 = .ok (.dup, 1) := by decide +kernel
theorem dX7_init_42 : decode cX7_init 42 = .ok (.invokespecial 32, 3) := by decide +kernel
theorem dX7_init_45 : decode cX7_init 45 = .ok (.putfield 33, 3) := by decide +kernel
theorem dX7_init_48 : decode cX7_init 48 = .ok (.aload_n 0, 1) := by decide +kernel
theorem dX7_init_49 : decode cX7_init 49 = .ok (.iconst 4, 1) := by decide +kernel
theorem dX7_init_50 : decode cX7_init 50 = .ok (.newarray .int, 2) := by decide +kernel
theorem dX7_init_52 : decode cX7_init 52 = .ok (.putfield 37, 3) := by decide +kernel
theorem dX7_init_55 : decode cX7_init 55 = .ok (.aload_n 0, 1) := by decide +kernel
theorem dX7_init_56 : decode cX7_init 56 = .ok (.sipush 128, 3) := by decide +kernel
theorem dX7_init_59 : decode cX7_init 59 = .ok (.newarray .int, 2) := by decide +kernel
theorem dX7_init_61 : decode cX7_init 61 = .ok (.putfield 41, 3) := by decide +kernel
theorem dX7_init_64 : decode cX7_init 64 = .ok (.return_, 1) := by decide +kernel
theorem dX7_append_0 : decode cX7_append 0 = .ok (.aload_n 0, 1) := by decide +kernel
theorem dX7_append_1 : decode cX7_append 1 = .ok (.iload_n 1, 1) := by decide +kernel
theorem dX7_append_2 : decode cX7_append 2 = .ok (.iload_n 2, 1) := by decide +kernel
theorem dX7_append_3 : decode cX7_append 3 = .ok (.iconst 1, 1) := by decide +kernel
theorem dX7_append_4 : decode cX7_append 4 = .ok (.iconst 1, 1) := by decide +kernel
theorem dX7_append_5 : decode cX7_append 5 = .ok (.invokevirtual 44, 3) := by decide +kernel
theorem dX7_append_8 : decode cX7_append 8 = .ok (.ireturn, 1) := by decide +kernel
theorem dX7_appendRange_0 : decode cX7_appendRange 0 = .ok (.aload_n 0, 1) := by decide +kernel
theorem dX7_appendRange_1 : decode cX7_appendRange 1 = .ok (.iload_n 1, 1) := by decide +kernel
theorem dX7_appendRange_2 : decode cX7_appendRange 2 = .ok (.invokevirtual 48, 3) := by decide +kernel
theorem dX7_appendRange_5 : decode cX7_appendRange 5 = .ok (.astore 5, 2) := by decide +kernel
theorem dX7_appendRange_7 : decode cX7_appendRange 7 = .ok (.iload_n 2, 1) := by decide +kernel
theorem dX7_appendRange_8 : decode cX7_appendRange 8 = .ok (.iload_n 3, 1) := by decide +kernel
theorem dX7_appendRange_9 : decode cX7_appendRange 9 = .ok (.iload 4, 2) := by decide +kernel
theorem dX7_appendRange_11 : decode cX7_appendRange 11 = .ok (.invokestatic 52, 3) := by decide +kernel
theorem dX7_appendRange_14 : decode cX7_appendRange 14 = .ok (.iload_n 2, 1) := by decide +kernel
theorem dX7_appendRange_15 : decode cX7_appendRange 15 = .ok (.aload 5, 2) := by decide +kernel
theorem dX7_appendRange_17 : decode cX7_appendRange 17 = .ok (.invokevirtual 56, 3) := by decide +kernel
theorem dX7_appendRange_20 : decode cX7_appendRange 20 = .ok (.if_icmp .gt 13, 3) := by decide +kernel
theorem dX7_appendRange_23 : decode cX7_appendRange 23 = .ok (.new 62, 3) := by decide +kernel
theorem dX7_appendRange_26 : decode cX7_appendRange 26 = .ok (.dup, 1) := by decide +kernel
theorem dX7_appendRange_27 : decode cX7_appendRange 27 = .ok (.ldc 64, 2) := by decide +kernel
theorem dX7_appendRange_29 : decode cX7_appendRange 29 = .ok (.invokespecial 66, 3) := by decide +kernel
theorem dX7_appendRange_32 : decode cX7_appendRange 32 = .ok (.athrow, 1) := by decide +kernel
theorem dX7_appendRange_33 : decode cX7_appendRange 33 = .ok (.aload 5, 2) := by decide +kernel
theorem dX7_appendRange_35 : decode cX7_appendRange 35 = .ok (.getfield 69, 3) := by decide +kernel
theorem dX7_appendRange_38 : decode cX7_appendRange 38 = .ok (.iload 4, 2) := by decide +kernel
theorem dX7_appendRange_40 : decode cX7_appendRange 40 = .ok (.iadd, 1) := by decide +kernel
theorem dX7_appendRange_41 : decode cX7_appendRange 41 = .ok (.bipush 64, 2) := by decide +kernel
theorem dX7_appendRange_43 : decode cX7_appendRange 43 = .ok (.if_icmp .le 13, 3) := by decide +kernel
theorem dX7_appendRange_46 : decode cX7_appendRange 46 = .ok (.new 73, 3) := by decide +kernel
theorem dX7_appendRange_49 : decode cX7_appendRange 49 = .ok (.dup, 1) := by decide +kernel
theorem dX7_appendRange_50 : decode cX7_appendRange 50 = .ok (.ldc 75, 2) := by decide +kernel
theorem dX7_appendRange_52 : decode cX7_appendRange 52 = .ok (.invokespecial 77, 3) := by decide +kernel
theorem dX7_appendRange_55 : decode cX7_appendRange 55 = .ok (.athrow, 1) := by decide +kernel
theorem dX7_appendRange_56 : decode cX7_appendRange 56 = .ok (.aload_n 0, 1) := by decide +kernel
theorem dX7_appendRange_57 : decode cX7_appendRange 57 = .ok (.getfield 19, 3) := by decide +kernel
theorem dX7_appendRange_60 : decode cX7_appendRange 60 = .ok (.aload_n 0, 1) := by decide +kernel
theorem dX7_appendRange_61 : decode cX7_appendRange 61 = .ok (.getfield 12, 3) := by decide +kernel
theorem dX7_appendRange_64 : decode cX7_appendRange 64 = .ok (.invokevirtual 78, 3) := by decide +kernel
theorem dX7_appendRange_67 : decode cX7_appendRange 67 = .ok (.iconst 0, 1) := by decide +kernel
theorem dX7_appendRange_68 : decode cX7_appendRange 68 = .ok (.istore 6, 2) := by decide +kernel
theorem dX7_appendRange_70 : decode cX7_appendRange 70 = .ok (.iload 6, 2) := by decide +kernel
theorem dX7_appendRange_72 : decode cX7_appendRange 72 = .ok (.iload 4, 2) := by decide +kernel
theorem dX7_appendRange_74 : decode cX7_appendRange 74 = .ok (.if_icmp .ge 20, 3) := by decide +kernel
theorem dX7_appendRange_77 : decode cX7_appendRange 77 = .ok (.aload 5, 2) := by decide +kernel
theorem dX7_appendRange_79 : decode cX7_appendRange 79 = .ok (.iload_n 2, 1) := by decide +kernel
theorem dX7_appendRange_80 : decode cX7_appendRange 80 = .ok (.iload 6, 2) := by decide +kernel
theorem dX7_appendRange_82 : decode cX7_appendRange 82 = .ok (.iload_n 3, 1) := by decide +kernel
theorem dX7_appendRange_83 : decode cX7_appendRange 83 = .ok (.imul, 1) := by decide +kernel
theorem dX7_appendRange_84 : decode cX7_appendRange 84 = .ok (.iadd, 1) := by decide +kernel
theorem dX7_appendRange_85 : decode cX7_appendRange 85 = .ok (.invokevirtual 82, 3) := by decide +kernel
theorem dX7_appendRange_88 : decode cX7_appendRange 88 = .ok (.iinc 6 1, 3) := by decide +kernel
theorem dX7_appendRange_91 : decode cX7_appendRange 91 = .ok (.goto (-21), 3) := by decide +kernel
theorem dX7_appendRange_94 : decode cX7_appendRange 94 = .ok (.aload_n 0, 1) := by decide +kernel
theorem dX7_appendRange_95 : decode cX7_appendRange 95 = .ok (.iload_n 1, 1) := by decide +kernel
theorem dX7_appendRange_96 : decode cX7_appendRange 96 = .ok (.invokevirtual 86, 3) := by decide +kernel
theorem dX7_appendRange_99 : decode cX7_appendRange 99 = .ok (.aload 5, 2) := by decide +kernel
theorem dX7_appendRange_101 : decode cX7_appendRange 101 = .ok (.getfield 69, 3) := by decide +kernel
theorem dX7_appendRange_104 : decode cX7_appendRange 104 = .ok (.ireturn, 1) := by decide +kernel
theorem dX7_clear_0 : decode cX7_clear 0 = .ok (.aload_n 0, 1) := by decide +kernel
theorem dX7_clear_1 : decode cX7_clear 1 = .ok (.iload_n 1, 1) := by decide +kernel
theorem dX7_clear_2 : decode cX7_clear 2 = .ok (.invokevirtual 48, 3) := by decide +kernel
theorem dX7_clear_5 : decode cX7_clear 5 = .ok (.getfield 69, 3) := by decide +kernel
theorem dX7_clear_8 : decode cX7_clear 8 = .ok (.istore_n 2, 1) := by decide +kernel
theorem dX7_clear_9 : decode cX7_clear 9 = .ok (.aload_n 0, 1) := by decide +kernel
theorem dX7_clear_10 : decode cX7_clear 10 = .ok (.getfield 19, 3) := by decide +kernel
theorem dX7_clear_13 : decode cX7_clear 13 = .ok (.aload_n 0, 1) := by decide +kernel
theorem dX7_clear_14 : decode cX7_clear 14 = .ok (.getfield 12, 3) := by decide +kernel
theorem dX7_clear_17 : decode cX7_clear 17 = .ok (.invokevirtual 78, 3) := by decide +kernel
theorem dX7_clear_20 : decode cX7_clear 20 = .ok (.aload_n 0, 1) := by decide +kernel
theorem dX7_clear_21 : decode cX7_clear 21 = .ok (.iload_n 1, 1) := by decide +kernel
theorem dX7_clear_22 : decode cX7_clear 22 = .ok (.iconst 0, 1) := by decide +kernel
theorem dX7_clear_23 : decode cX7_clear 23 = .ok (.invokevirtual 89, 3) := by decide +kernel
theorem dX7_clear_26 : decode cX7_clear 26 = .ok (.pop, 1) := by decide +kernel
theorem dX7_clear_27 : decode cX7_clear 27 = .ok (.iload_n 2, 1) := by decide +kernel
theorem dX7_clear_28 : decode cX7_clear 28 = .ok (.ireturn, 1) := by decide +kernel
theorem dX7_size_0 : decode cX7_size 0 = .ok (.aload_n 0, 1) := by decide +kernel
theorem dX7_size_1 : decode cX7_size 1 = .ok (.iload_n 1, 1) := by decide +kernel
theorem dX7_size_2 : decode cX7_size 2 = .ok (.invokevirtual 48, 3) := by decide +kernel
theorem dX7_size_5 : decode cX7_size 5 = .ok (.getfield 69, 3) := by decide +kernel
theorem dX7_size_8 : decode cX7_size 8 = .ok (.ireturn, 1) := by decide +kernel
theorem dX7_document_0 : decode cX7_document 0 = .ok (.aload_n 0, 1) := by decide +kernel
theorem dX7_document_1 : decode cX7_document 1 = .ok (.iload_n 1, 1) := by decide +kernel
theorem dX7_document_2 : decode cX7_document 2 = .ok (.invokevirtual 48, 3) := by decide +kernel
theorem dX7_document_5 : decode cX7_document 5 = .ok (.astore_n 3, 1) := by decide +kernel
theorem dX7_document_6 : decode cX7_document 6 = .ok (.iload_n 2, 1) := by decide +kernel
theorem dX7_document_7 : decode cX7_document 7 = .ok (.aload_n 3, 1) := by decide +kernel
theorem dX7_document_8 : decode cX7_document 8 = .ok (.getfield 69, 3) := by decide +kernel
theorem dX7_document_11 : decode cX7_document 11 = .ok (.invokestatic 93, 3) := by decide +kernel
theorem dX7_document_14 : decode cX7_document 14 = .ok (.aload_n 3, 1) := by decide +kernel
theorem dX7_document_15 : decode cX7_document 15 = .ok (.iload_n 2, 1) := by decide +kernel
theorem dX7_document_16 : decode cX7_document 16 = .ok (.invokevirtual 97, 3) := by decide +kernel
theorem dX7_document_19 : decode cX7_document 19 = .ok (.ireturn, 1) := by decide +kernel
theorem dX7_rank_0 : decode cX7_rank 0 = .ok (.aload_n 0, 1) := by decide +kernel
theorem dX7_rank_1 : decode cX7_rank 1 = .ok (.iload_n 1, 1) := by decide +kernel
theorem dX7_rank_2 : decode cX7_rank 2 = .ok (.invokevirtual 48, 3) := by decide +kernel
theorem dX7_rank_5 : decode cX7_rank 5 = .ok (.astore_n 3, 1) := by decide +kernel
theorem dX7_rank_6 : decode cX7_rank 6 = .ok (.iload_n 2, 1) := by decide +kernel
theorem dX7_rank_7 : decode cX7_rank 7 = .ok (.iconst 0, 1) := by decide +kernel
theorem dX7_rank_8 : decode cX7_rank 8 = .ok (.sipush 512, 3) := by decide +kernel
theorem dX7_rank_11 : decode cX7_rank 11 = .ok (.invokestatic 101, 3) := by decide +kernel
theorem dX7_rank_14 : decode cX7_rank 14 = .ok (.aload_n 3, 1) := by decide +kernel
theorem dX7_rank_15 : decode cX7_rank 15 = .ok (.iload_n 2, 1) := by decide +kernel
theorem dX7_rank_16 : decode cX7_rank 16 = .ok (.invokevirtual 104, 3) := by decide +kernel
theorem dX7_rank_19 : decode cX7_rank 19 = .ok (.ireturn, 1) := by decide +kernel
theorem dX7_partitions_0 : decode cX7_partitions 0 = .ok (.aload_n 0, 1) := by decide +kernel
theorem dX7_partitions_1 : decode cX7_partitions 1 = .ok (.iload_n 1, 1) := by decide +kernel
theorem dX7_partitions_2 : decode cX7_partitions 2 = .ok (.invokevirtual 48, 3) := by decide +kernel
theorem dX7_partitions_5 : decode cX7_partitions 5 = .ok (.getfield 107, 3) := by decide +kernel
theorem dX7_partitions_8 : decode cX7_partitions 8 = .ok (.ireturn, 1) := by decide +kernel
theorem dX7_partition_0 : decode cX7_partition 0 = .ok (.aload_n 0, 1) := by decide +kernel
theorem dX7_partition_1 : decode cX7_partition 1 = .ok (.iload_n 1, 1) := by decide +kernel
theorem dX7_partition_2 : decode cX7_partition 2 = .ok (.invokevirtual 48, 3) := by decide +kernel
theorem dX7_partition_5 : decode cX7_partition 5 = .ok (.astore 4, 2) := by decide +kernel
theorem dX7_partition_7 : decode cX7_partition 7 = .ok (.iload_n 2, 1) := by decide +kernel
theorem dX7_partition_8 : decode cX7_partition 8 = .ok (.aload 4, 2) := by decide +kernel
theorem dX7_partition_10 : decode cX7_partition 10 = .ok (.getfield 107, 3) := by decide +kernel
theorem dX7_partition_13 : decode cX7_partition 13 = .ok (.invokestatic 93, 3) := by decide +kernel
theorem dX7_partition_16 : decode cX7_partition 16 = .ok (.iload_n 3, 1) := by decide +kernel
theorem dX7_partition_17 : decode cX7_partition 17 = .ok (.iconst 0, 1) := by decide +kernel
theorem dX7_partition_18 : decode cX7_partition 18 = .ok (.iconst 5, 1) := by decide +kernel
theorem dX7_partition_19 : decode cX7_partition 19 = .ok (.invokestatic 101, 3) := by decide +kernel
theorem dX7_partition_22 : decode cX7_partition 22 = .ok (.aload 4, 2) := by decide +kernel
theorem dX7_partition_24 : decode cX7_partition 24 = .ok (.iload_n 2, 1) := by decide +kernel
theorem dX7_partition_25 : decode cX7_partition 25 = .ok (.iload_n 3, 1) := by decide +kernel
theorem dX7_partition_26 : decode cX7_partition 26 = .ok (.invokevirtual 110, 3) := by decide +kernel
theorem dX7_partition_29 : decode cX7_partition 29 = .ok (.ireturn, 1) := by decide +kernel
theorem dX7_codeLength_0 : decode cX7_codeLength 0 = .ok (.aload_n 0, 1) := by decide +kernel
theorem dX7_codeLength_1 : decode cX7_codeLength 1 = .ok (.iload_n 1, 1) := by decide +kernel
theorem dX7_codeLength_2 : decode cX7_codeLength 2 = .ok (.invokevirtual 48, 3) := by decide +kernel
theorem dX7_codeLength_5 : decode cX7_codeLength 5 = .ok (.invokevirtual 113, 3) := by decide +kernel
theorem dX7_codeLength_8 : decode cX7_codeLength 8 = .ok (.ireturn, 1) := by decide +kernel
theorem dX7_codeBit_0 : decode cX7_codeBit 0 = .ok (.aload_n 0, 1) := by decide +kernel
theorem dX7_codeBit_1 : decode cX7_codeBit 1 = .ok (.iload_n 1, 1) := by decide +kernel
theorem dX7_codeBit_2 : decode cX7_codeBit 2 = .ok (.invokevirtual 48, 3) := by decide +kernel
theorem dX7_codeBit_5 : decode cX7_codeBit 5 = .ok (.astore_n 3, 1) := by decide +kernel
theorem dX7_codeBit_6 : decode cX7_codeBit 6 = .ok (.iload_n 2, 1) := by decide +kernel
theorem dX7_codeBit_7 : decode cX7_codeBit 7 = .ok (.aload_n 3, 1) := by decide +kernel
theorem dX7_codeBit_8 : decode cX7_codeBit 8 = .ok (.invokevirtual 113, 3) := by decide +kernel
theorem dX7_codeBit_11 : decode cX7_codeBit 11 = .ok (.invokestatic 93, 3) := by decide +kernel
theorem dX7_codeBit_14 : decode cX7_codeBit 14 = .ok (.aload_n 0, 1) := by decide +kernel
theorem dX7_codeBit_15 : decode cX7_codeBit 15 = .ok (.getfield 33, 3) := by decide +kernel
theorem dX7_codeBit_18 : decode cX7_codeBit 18 = .ok (.aload_n 3, 1) := by decide +kernel
theorem dX7_codeBit_19 : decode cX7_codeBit 19 = .ok (.invokevirtual 116, 3) := by decide +kernel
theorem dX7_codeBit_22 : decode cX7_codeBit 22 = .ok (.aload_n 0, 1) := by decide +kernel
theorem dX7_codeBit_23 : decode cX7_codeBit 23 = .ok (.getfield 33, 3) := by decide +kernel
theorem dX7_codeBit_26 : decode cX7_codeBit 26 = .ok (.iload_n 2, 1) := by decide +kernel
theorem dX7_codeBit_27 : decode cX7_codeBit 27 = .ok (.invokevirtual 120, 3) := by decide +kernel
theorem dX7_codeBit_30 : decode cX7_codeBit 30 = .ok (.ireturn, 1) := by decide +kernel
theorem dX7_fixedLength_0 : decode cX7_fixedLength 0 = .ok (.aload_n 0, 1) := by decide +kernel
theorem dX7_fixedLength_1 : decode cX7_fixedLength 1 = .ok (.iload_n 1, 1) := by decide +kernel
theorem dX7_fixedLength_2 : decode cX7_fixedLength 2 = .ok (.invokevirtual 48, 3) := by decide +kernel
theorem dX7_fixedLength_5 : decode cX7_fixedLength 5 = .ok (.astore_n 3, 1) := by decide +kernel
theorem dX7_fixedLength_6 : decode cX7_fixedLength 6 = .ok (.iload_n 2, 1) := by decide +kernel
theorem dX7_fixedLength_7 : decode cX7_fixedLength 7 = .ok (.iconst 1, 1) := by decide +kernel
theorem dX7_fixedLength_8 : decode cX7_fixedLength 8 = .ok (.bipush 64, 2) := by decide +kernel
theorem dX7_fixedLength_10 : decode cX7_fixedLength 10 = .ok (.invokestatic 101, 3) := by decide +kernel
theorem dX7_fixedLength_13 : decode cX7_fixedLength 13 = .ok (.aload_n 3, 1) := by decide +kernel
theorem dX7_fixedLength_14 : decode cX7_fixedLength 14 = .ok (.iload_n 2, 1) := by decide +kernel
theorem dX7_fixedLength_15 : decode cX7_fixedLength 15 = .ok (.invokevirtual 123, 3) := by decide +kernel
theorem dX7_fixedLength_18 : decode cX7_fixedLength 18 = .ok (.ireturn, 1) := by decide +kernel
theorem dX7_bitsPerDocument_0 : decode cX7_bitsPerDocument 0 = .ok (.aload_n 0, 1) := by decide +kernel
theorem dX7_bitsPerDocument_1 : decode cX7_bitsPerDocument 1 = .ok (.iload_n 1, 1) := by decide +kernel
theorem dX7_bitsPerDocument_2 : decode cX7_bitsPerDocument 2 = .ok (.invokevirtual 48, 3) := by decide +kernel
theorem dX7_bitsPerDocument_5 : decode cX7_bitsPerDocument 5 = .ok (.astore_n 2, 1) := by decide +kernel
theorem dX7_bitsPerDocument_6 : decode cX7_bitsPerDocument 6 = .ok (.aload_n 2, 1) := by decide +kernel
theorem dX7_bitsPerDocument_7 : decode cX7_bitsPerDocument 7 = .ok (.getfield 69, 3) := by decide +kernel
theorem dX7_bitsPerDocument_10 : decode cX7_bitsPerDocument 10 = .ok (.ifCond .ne 5, 3) := by decide +kernel
theorem dX7_bitsPerDocument_13 : decode cX7_bitsPerDocument 13 = .ok (.dconst 0, 1) := by decide +kernel
theorem dX7_bitsPerDocument_14 : decode cX7_bitsPerDocument 14 = .ok (.dreturn, 1) := by decide +kernel
theorem dX7_bitsPerDocument_15 : decode cX7_bitsPerDocument 15 = .ok (.aload_n 2, 1) := by decide +kernel
theorem dX7_bitsPerDocument_16 : decode cX7_bitsPerDocument 16 = .ok (.invokevirtual 113, 3) := by decide +kernel
theorem dX7_bitsPerDocument_19 : decode cX7_bitsPerDocument 19 = .ok (.i2d, 1) := by decide +kernel
theorem dX7_bitsPerDocument_20 : decode cX7_bitsPerDocument 20 = .ok (.aload_n 2, 1) := by decide +kernel
theorem dX7_bitsPerDocument_21 : decode cX7_bitsPerDocument 21 = .ok (.getfield 69, 3) := by decide +kernel
theorem dX7_bitsPerDocument_24 : decode cX7_bitsPerDocument 24 = .ok (.i2d, 1) := by decide +kernel
theorem dX7_bitsPerDocument_25 : decode cX7_bitsPerDocument 25 = .ok (.ddiv, 1) := by decide +kernel
theorem dX7_bitsPerDocument_26 : decode cX7_bitsPerDocument 26 = .ok (.dreturn, 1) := by decide +kernel
theorem dX7_nextAtLeast_0 : decode cX7_nextAtLeast 0 = .ok (.iload_n 1, 1) := by decide +kernel
theorem dX7_nextAtLeast_1 : decode cX7_nextAtLeast 1 = .ok (.invokestatic 126, 3) := by decide +kernel
theorem dX7_nextAtLeast_4 : decode cX7_nextAtLeast 4 = .ok (.iload_n 2, 1) := by decide +kernel
theorem dX7_nextAtLeast_5 : decode cX7_nextAtLeast 5 = .ok (.iconst 0, 1) := by decide +kernel
theorem dX7_nextAtLeast_6 : decode cX7_nextAtLeast 6 = .ok (.sipush 511, 3) := by decide +kernel
theorem dX7_nextAtLeast_9 : decode cX7_nextAtLeast 9 = .ok (.invokestatic 101, 3) := by decide +kernel
theorem dX7_nextAtLeast_12 : decode cX7_nextAtLeast 12 = .ok (.aload_n 0, 1) := by decide +kernel
theorem dX7_nextAtLeast_13 : decode cX7_nextAtLeast 13 = .ok (.getfield 19, 3) := by decide +kernel
theorem dX7_nextAtLeast_16 : decode cX7_nextAtLeast 16 = .ok (.aload_n 0, 1) := by decide +kernel
theorem dX7_nextAtLeast_17 : decode cX7_nextAtLeast 17 = .ok (.getfield 12, 3) := by decide +kernel
theorem dX7_nextAtLeast_20 : decode cX7_nextAtLeast 20 = .ok (.invokevirtual 78, 3) := by decide +kernel
theorem dX7_nextAtLeast_23 : decode cX7_nextAtLeast 23 = .ok (.aload_n 0, 1) := by decide +kernel
theorem dX7_nextAtLeast_24 : decode cX7_nextAtLeast 24 = .ok (.getfield 12, 3) := by decide +kernel
theorem dX7_nextAtLeast_27 : decode cX7_nextAtLeast 27 = .ok (.iload_n 1, 1) := by decide +kernel
theorem dX7_nextAtLeast_28 : decode cX7_nextAtLeast 28 = .ok (.iload_n 2, 1) := by decide +kernel
theorem dX7_nextAtLeast_29 : decode cX7_nextAtLeast 29 = .ok (.invokevirtual 129, 3) := by decide +kernel
theorem dX7_nextAtLeast_32 : decode cX7_nextAtLeast 32 = .ok (.ireturn, 1) := by decide +kernel
theorem dX7_countIntersection_0 : decode cX7_countIntersection 0 = .ok (.iload_n 1, 1) := by decide +kernel
theorem dX7_countIntersection_1 : decode cX7_countIntersection 1 = .ok (.invokestatic 132, 3) := by decide +kernel
theorem dX7_countIntersection_4 : decode cX7_countIntersection 4 = .ok (.aload_n 0, 1) := by decide +kernel
theorem dX7_countIntersection_5 : decode cX7_countIntersection 5 = .ok (.getfield 19, 3) := by decide +kernel
theorem dX7_countIntersection_8 : decode cX7_countIntersection 8 = .ok (.aload_n 0, 1) := by decide +kernel
theorem dX7_countIntersection_9 : decode cX7_countIntersection 9 = .ok (.getfield 12, 3) := by decide +kernel
theorem dX7_countIntersection_12 : decode cX7_countIntersection 12 = .ok (.invokevirtual 78, 3) := by decide +kernel
theorem dX7_countIntersection_15 : decode cX7_countIntersection 15 = .ok (.aload_n 0, 1) := by decide +kernel
theorem dX7_countIntersection_16 : decode cX7_countIntersection 16 = .ok (.iload_n 1, 1) := by decide +kernel
theorem dX7_countIntersection_17 : decode cX7_countIntersection 17 = .ok (.invokevirtual 135, 3) := by decide +kernel
theorem dX7_countIntersection_20 : decode cX7_countIntersection 20 = .ok (.ireturn, 1) := by decide +kernel
theorem dX7_intersect_0 : decode cX7_intersect 0 = .ok (.iload_n 1, 1) := by decide +kernel
theorem dX7_intersect_1 : decode cX7_intersect 1 = .ok (.invokestatic 132, 3) := by decide +kernel
theorem dX7_intersect_4 : decode cX7_intersect 4 = .ok (.iload_n 2, 1) := by decide +kernel
theorem dX7_intersect_5 : decode cX7_intersect 5 = .ok (.invokestatic 126, 3) := by decide +kernel
theorem dX7_intersect_8 : decode cX7_intersect 8 = .ok (.aload_n 0, 1) := by decide +kernel
theorem dX7_intersect_9 : decode cX7_intersect 9 = .ok (.getfield 19, 3) := by decide +kernel
theorem dX7_intersect_12 : decode cX7_intersect 12 = .ok (.aload_n 0, 1) := by decide +kernel
theorem dX7_intersect_13 : decode cX7_intersect 13 = .ok (.getfield 12, 3) := by decide +kernel
theorem dX7_intersect_16 : decode cX7_intersect 16 = .ok (.invokevirtual 78, 3) := by decide +kernel
theorem dX7_intersect_19 : decode cX7_intersect 19 = .ok (.aload_n 0, 1) := by decide +kernel
theorem dX7_intersect_20 : decode cX7_intersect 20 = .ok (.iload_n 2, 1) := by decide +kernel
theorem dX7_intersect_21 : decode cX7_intersect 21 = .ok (.aload_n 0, 1) := by decide +kernel
theorem dX7_intersect_22 : decode cX7_intersect 22 = .ok (.iload_n 1, 1) := by decide +kernel
theorem dX7_intersect_23 : decode cX7_intersect 23 = .ok (.invokevirtual 135, 3) := by decide +kernel
theorem dX7_intersect_26 : decode cX7_intersect 26 = .ok (.invokevirtual 89, 3) := by decide +kernel
theorem dX7_intersect_29 : decode cX7_intersect 29 = .ok (.ireturn, 1) := by decide +kernel
theorem dX7_unite_0 : decode cX7_unite 0 = .ok (.iload_n 3, 1) := by decide +kernel
theorem dX7_unite_1 : decode cX7_unite 1 = .ok (.invokestatic 126, 3) := by decide +kernel
theorem dX7_unite_4 : decode cX7_unite 4 = .ok (.aload_n 0, 1) := by decide +kernel
theorem dX7_unite_5 : decode cX7_unite 5 = .ok (.aload_n 0, 1) := by decide +kernel
theorem dX7_unite_6 : decode cX7_unite 6 = .ok (.iload_n 1, 1) := by decide +kernel
theorem dX7_unite_7 : decode cX7_unite 7 = .ok (.invokevirtual 48, 3) := by decide +kernel
theorem dX7_unite_10 : decode cX7_unite 10 = .ok (.aload_n 0, 1) := by decide +kernel
theorem dX7_unite_11 : decode cX7_unite 11 = .ok (.iload_n 2, 1) := by decide +kernel
theorem dX7_unite_12 : decode cX7_unite 12 = .ok (.invokevirtual 48, 3) := by decide +kernel
theorem dX7_unite_15 : decode cX7_unite 15 = .ok (.invokevirtual 138, 3) := by decide +kernel
theorem dX7_unite_18 : decode cX7_unite 18 = .ok (.istore 4, 2) := by decide +kernel
theorem dX7_unite_20 : decode cX7_unite 20 = .ok (.iload 4, 2) := by decide +kernel
theorem dX7_unite_22 : decode cX7_unite 22 = .ok (.bipush 64, 2) := by decide +kernel
theorem dX7_unite_24 : decode cX7_unite 24 = .ok (.if_icmp .le 13, 3) := by decide +kernel
theorem dX7_unite_27 : decode cX7_unite 27 = .ok (.new 73, 3) := by decide +kernel
theorem dX7_unite_30 : decode cX7_unite 30 = .ok (.dup, 1) := by decide +kernel
theorem dX7_unite_31 : decode cX7_unite 31 = .ok (.ldc 142, 2) := by decide +kernel
theorem dX7_unite_33 : decode cX7_unite 33 = .ok (.invokespecial 77, 3) := by decide +kernel
theorem dX7_unite_36 : decode cX7_unite 36 = .ok (.athrow, 1) := by decide +kernel
theorem dX7_unite_37 : decode cX7_unite 37 = .ok (.aload_n 0, 1) := by decide +kernel
theorem dX7_unite_38 : decode cX7_unite 38 = .ok (.getfield 19, 3) := by decide +kernel
theorem dX7_unite_41 : decode cX7_unite 41 = .ok (.aload_n 0, 1) := by decide +kernel
theorem dX7_unite_42 : decode cX7_unite 42 = .ok (.getfield 12, 3) := by decide +kernel
theorem dX7_unite_45 : decode cX7_unite 45 = .ok (.invokevirtual 78, 3) := by decide +kernel
theorem dX7_unite_48 : decode cX7_unite 48 = .ok (.aload_n 0, 1) := by decide +kernel
theorem dX7_unite_49 : decode cX7_unite 49 = .ok (.iload_n 3, 1) := by decide +kernel
theorem dX7_unite_50 : decode cX7_unite 50 = .ok (.iload 4, 2) := by decide +kernel
theorem dX7_unite_52 : decode cX7_unite 52 = .ok (.invokevirtual 89, 3) := by decide +kernel
theorem dX7_unite_55 : decode cX7_unite 55 = .ok (.ireturn, 1) := by decide +kernel
theorem dX7_subtract_0 : decode cX7_subtract 0 = .ok (.iload_n 3, 1) := by decide +kernel
theorem dX7_subtract_1 : decode cX7_subtract 1 = .ok (.invokestatic 126, 3) := by decide +kernel
theorem dX7_subtract_4 : decode cX7_subtract 4 = .ok (.aload_n 0, 1) := by decide +kernel
theorem dX7_subtract_5 : decode cX7_subtract 5 = .ok (.aload_n 0, 1) := by decide +kernel
theorem dX7_subtract_6 : decode cX7_subtract 6 = .ok (.iload_n 1, 1) := by decide +kernel
theorem dX7_subtract_7 : decode cX7_subtract 7 = .ok (.invokevirtual 48, 3) := by decide +kernel
theorem dX7_subtract_10 : decode cX7_subtract 10 = .ok (.aload_n 0, 1) := by decide +kernel
theorem dX7_subtract_11 : decode cX7_subtract 11 = .ok (.iload_n 2, 1) := by decide +kernel
theorem dX7_subtract_12 : decode cX7_subtract 12 = .ok (.invokevirtual 48, 3) := by decide +kernel
theorem dX7_subtract_15 : decode cX7_subtract 15 = .ok (.invokevirtual 144, 3) := by decide +kernel
theorem dX7_subtract_18 : decode cX7_subtract 18 = .ok (.istore 4, 2) := by decide +kernel
theorem dX7_subtract_20 : decode cX7_subtract 20 = .ok (.aload_n 0, 1) := by decide +kernel
theorem dX7_subtract_21 : decode cX7_subtract 21 = .ok (.getfield 19, 3) := by decide +kernel
theorem dX7_subtract_24 : decode cX7_subtract 24 = .ok (.aload_n 0, 1) := by decide +kernel
theorem dX7_subtract_25 : decode cX7_subtract 25 = .ok (.getfield 12, 3) := by decide +kernel
theorem dX7_subtract_28 : decode cX7_subtract 28 = .ok (.invokevirtual 78, 3) := by decide +kernel
theorem dX7_subtract_31 : decode cX7_subtract 31 = .ok (.aload_n 0, 1) := by decide +kernel
theorem dX7_subtract_32 : decode cX7_subtract 32 = .ok (.iload_n 3, 1) := by decide +kernel
theorem dX7_subtract_33 : decode cX7_subtract 33 = .ok (.iload 4, 2) := by decide +kernel
theorem dX7_subtract_35 : decode cX7_subtract 35 = .ok (.invokevirtual 89, 3) := by decide +kernel
theorem dX7_subtract_38 : decode cX7_subtract 38 = .ok (.ireturn, 1) := by decide +kernel
theorem dX7_reads_0 : decode cX7_reads 0 = .ok (.aload_n 0, 1) := by decide +kernel
theorem dX7_reads_1 : decode cX7_reads 1 = .ok (.getfield 12, 3) := by decide +kernel
theorem dX7_reads_4 : decode cX7_reads 4 = .ok (.getfield 147, 3) := by decide +kernel
theorem dX7_reads_7 : decode cX7_reads 7 = .ok (.ireturn, 1) := by decide +kernel
theorem dX7_hits_0 : decode cX7_hits 0 = .ok (.aload_n 0, 1) := by decide +kernel
theorem dX7_hits_1 : decode cX7_hits 1 = .ok (.getfield 12, 3) := by decide +kernel
theorem dX7_hits_4 : decode cX7_hits 4 = .ok (.getfield 150, 3) := by decide +kernel
theorem dX7_hits_7 : decode cX7_hits 7 = .ok (.ireturn, 1) := by decide +kernel
theorem dX7_setCapacity_0 : decode cX7_setCapacity 0 = .ok (.iload_n 1, 1) := by decide +kernel
theorem dX7_setCapacity_1 : decode cX7_setCapacity 1 = .ok (.iconst 0, 1) := by decide +kernel
theorem dX7_setCapacity_2 : decode cX7_setCapacity 2 = .ok (.bipush 8, 2) := by decide +kernel
theorem dX7_setCapacity_4 : decode cX7_setCapacity 4 = .ok (.invokestatic 101, 3) := by decide +kernel
theorem dX7_setCapacity_7 : decode cX7_setCapacity 7 = .ok (.aload_n 0, 1) := by decide +kernel
theorem dX7_setCapacity_8 : decode cX7_setCapacity 8 = .ok (.getfield 19, 3) := by decide +kernel
theorem dX7_setCapacity_11 : decode cX7_setCapacity 11 = .ok (.aload_n 0, 1) := by decide +kernel
theorem dX7_setCapacity_12 : decode cX7_setCapacity 12 = .ok (.getfield 12, 3) := by decide +kernel
theorem dX7_setCapacity_15 : decode cX7_setCapacity 15 = .ok (.invokevirtual 78, 3) := by decide +kernel
theorem dX7_setCapacity_18 : decode cX7_setCapacity 18 = .ok (.aload_n 0, 1) := by decide +kernel
theorem dX7_setCapacity_19 : decode cX7_setCapacity 19 = .ok (.getfield 12, 3) := by decide +kernel
theorem dX7_setCapacity_22 : decode cX7_setCapacity 22 = .ok (.getfield 153, 3) := by decide +kernel
theorem dX7_setCapacity_25 : decode cX7_setCapacity 25 = .ok (.getfield 157, 3) := by decide +kernel
theorem dX7_setCapacity_28 : decode cX7_setCapacity 28 = .ok (.istore_n 2, 1) := by decide +kernel
theorem dX7_setCapacity_29 : decode cX7_setCapacity 29 = .ok (.aload_n 0, 1) := by decide +kernel
theorem dX7_setCapacity_30 : decode cX7_setCapacity 30 = .ok (.getfield 12, 3) := by decide +kernel
theorem dX7_setCapacity_33 : decode cX7_setCapacity 33 = .ok (.getfield 153, 3) := by decide +kernel
theorem dX7_setCapacity_36 : decode cX7_setCapacity 36 = .ok (.iload_n 1, 1) := by decide +kernel
theorem dX7_setCapacity_37 : decode cX7_setCapacity 37 = .ok (.invokevirtual 162, 3) := by decide +kernel
theorem dX7_setCapacity_40 : decode cX7_setCapacity 40 = .ok (.iload_n 2, 1) := by decide +kernel
theorem dX7_setCapacity_41 : decode cX7_setCapacity 41 = .ok (.ireturn, 1) := by decide +kernel
theorem dX7_cached_0 : decode cX7_cached 0 = .ok (.aload_n 0, 1) := by decide +kernel
theorem dX7_cached_1 : decode cX7_cached 1 = .ok (.getfield 12, 3) := by decide +kernel
theorem dX7_cached_4 : decode cX7_cached 4 = .ok (.getfield 153, 3) := by decide +kernel
theorem dX7_cached_7 : decode cX7_cached 7 = .ok (.getfield 165, 3) := by decide +kernel
theorem dX7_cached_10 : decode cX7_cached 10 = .ok (.ireturn, 1) := by decide +kernel
theorem dX7_cachedAt_0 : decode cX7_cachedAt 0 = .ok (.iload_n 1, 1) := by decide +kernel
theorem dX7_cachedAt_1 : decode cX7_cachedAt 1 = .ok (.aload_n 0, 1) := by decide +kernel
theorem dX7_cachedAt_2 : decode cX7_cachedAt 2 = .ok (.getfield 12, 3) := by decide +kernel
theorem dX7_cachedAt_5 : decode cX7_cachedAt 5 = .ok (.getfield 153, 3) := by decide +kernel
theorem dX7_cachedAt_8 : decode cX7_cachedAt 8 = .ok (.getfield 165, 3) := by decide +kernel
theorem dX7_cachedAt_11 : decode cX7_cachedAt 11 = .ok (.invokestatic 93, 3) := by decide +kernel
theorem dX7_cachedAt_14 : decode cX7_cachedAt 14 = .ok (.aload_n 0, 1) := by decide +kernel
theorem dX7_cachedAt_15 : decode cX7_cachedAt 15 = .ok (.getfield 12, 3) := by decide +kernel
theorem dX7_cachedAt_18 : decode cX7_cachedAt 18 = .ok (.getfield 153, 3) := by decide +kernel
theorem dX7_cachedAt_21 : decode cX7_cachedAt 21 = .ok (.getfield 166, 3) := by decide +kernel
theorem dX7_cachedAt_24 : decode cX7_cachedAt 24 = .ok (.iload_n 1, 1) := by decide +kernel
theorem dX7_cachedAt_25 : decode cX7_cachedAt 25 = .ok (.iaload, 1) := by decide +kernel
theorem dX7_cachedAt_26 : decode cX7_cachedAt 26 = .ok (.ireturn, 1) := by decide +kernel
theorem dX7_undo_0 : decode cX7_undo 0 = .ok (.aload_n 0, 1) := by decide +kernel
theorem dX7_undo_1 : decode cX7_undo 1 = .ok (.getfield 19, 3) := by decide +kernel
theorem dX7_undo_4 : decode cX7_undo 4 = .ok (.getfield 169, 3) := by decide +kernel
theorem dX7_undo_7 : decode cX7_undo 7 = .ok (.ifCond .ne 13, 3) := by decide +kernel
theorem dX7_undo_10 : decode cX7_undo 10 = .ok (.new 73, 3) := by decide +kernel
theorem dX7_undo_13 : decode cX7_undo 13 = .ok (.dup, 1) := by decide +kernel
theorem dX7_undo_14 : decode cX7_undo 14 = .ok (.ldc 170, 2) := by decide +kernel
theorem dX7_undo_16 : decode cX7_undo 16 = .ok (.invokespecial 77, 3) := by decide +kernel
theorem dX7_undo_19 : decode cX7_undo 19 = .ok (.athrow, 1) := by decide +kernel
theorem dX7_undo_20 : decode cX7_undo 20 = .ok (.aload_n 0, 1) := by decide +kernel
theorem dX7_undo_21 : decode cX7_undo 21 = .ok (.getfield 19, 3) := by decide +kernel
theorem dX7_undo_24 : decode cX7_undo 24 = .ok (.aload_n 0, 1) := by decide +kernel
theorem dX7_undo_25 : decode cX7_undo 25 = .ok (.getfield 12, 3) := by decide +kernel
theorem dX7_undo_28 : decode cX7_undo 28 = .ok (.invokevirtual 172, 3) := by decide +kernel
theorem dX7_undo_31 : decode cX7_undo 31 = .ok (.aload_n 0, 1) := by decide +kernel
theorem dX7_undo_32 : decode cX7_undo 32 = .ok (.getfield 19, 3) := by decide +kernel
theorem dX7_undo_35 : decode cX7_undo 35 = .ok (.getfield 169, 3) := by decide +kernel
theorem dX7_undo_38 : decode cX7_undo 38 = .ok (.ireturn, 1) := by decide +kernel
theorem dX7_digest_0 : decode cX7_digest 0 = .ok (.ldc2_w 175, 3) := by decide +kernel
theorem dX7_digest_3 : decode cX7_digest 3 = .ok (.lstore_n 1, 1) := by decide +kernel
theorem dX7_digest_4 : decode cX7_digest 4 = .ok (.iconst 0, 1) := by decide +kernel
theorem dX7_digest_5 : decode cX7_digest 5 = .ok (.istore_n 3, 1) := by decide +kernel
theorem dX7_digest_6 : decode cX7_digest 6 = .ok (.iload_n 3, 1) := by decide +kernel
theorem dX7_digest_7 : decode cX7_digest 7 = .ok (.iconst 4, 1) := by decide +kernel
theorem dX7_digest_8 : decode cX7_digest 8 = .ok (.if_icmp .ge 24, 3) := by decide +kernel
theorem dX7_digest_11 : decode cX7_digest 11 = .ok (.aload_n 0, 1) := by decide +kernel
theorem dX7_digest_12 : decode cX7_digest 12 = .ok (.lload_n 1, 1) := by decide +kernel
theorem dX7_digest_13 : decode cX7_digest 13 = .ok (.aload_n 0, 1) := by decide +kernel
theorem dX7_digest_14 : decode cX7_digest 14 = .ok (.getfield 12, 3) := by decide +kernel
theorem dX7_digest_17 : decode cX7_digest 17 = .ok (.getfield 177, 3) := by decide +kernel
theorem dX7_digest_20 : decode cX7_digest 20 = .ok (.iload_n 3, 1) := by decide +kernel
theorem dX7_digest_21 : decode cX7_digest 21 = .ok (.aaload, 1) := by decide +kernel
theorem dX7_digest_22 : decode cX7_digest 22 = .ok (.invokevirtual 181, 3) := by decide +kernel
theorem dX7_digest_25 : decode cX7_digest 25 = .ok (.lstore_n 1, 1) := by decide +kernel
theorem dX7_digest_26 : decode cX7_digest 26 = .ok (.iinc 3 1, 3) := by decide +kernel
theorem dX7_digest_29 : decode cX7_digest 29 = .ok (.goto (-23), 3) := by decide +kernel
theorem dX7_digest_32 : decode cX7_digest 32 = .ok (.lload_n 1, 1) := by decide +kernel
theorem dX7_digest_33 : decode cX7_digest 33 = .ok (.aload_n 0, 1) := by decide +kernel
theorem dX7_digest_34 : decode cX7_digest 34 = .ok (.getfield 12, 3) := by decide +kernel
theorem dX7_digest_37 : decode cX7_digest 37 = .ok (.getfield 153, 3) := by decide +kernel
theorem dX7_digest_40 : decode cX7_digest 40 = .ok (.getfield 157, 3) := by decide +kernel
theorem dX7_digest_43 : decode cX7_digest 43 = .ok (.invokestatic 185, 3) := by decide +kernel
theorem dX7_digest_46 : decode cX7_digest 46 = .ok (.lstore_n 1, 1) := by decide +kernel
theorem dX7_digest_47 : decode cX7_digest 47 = .ok (.lload_n 1, 1) := by decide +kernel
theorem dX7_digest_48 : decode cX7_digest 48 = .ok (.aload_n 0, 1) := by decide +kernel
theorem dX7_digest_49 : decode cX7_digest 49 = .ok (.getfield 12, 3) := by decide +kernel
theorem dX7_digest_52 : decode cX7_digest 52 = .ok (.getfield 153, 3) := by decide +kernel
theorem dX7_digest_55 : decode cX7_digest 55 = .ok (.getfield 165, 3) := by decide +kernel
theorem dX7_digest_58 : decode cX7_digest 58 = .ok (.invokestatic 185, 3) := by decide +kernel
theorem dX7_digest_61 : decode cX7_digest 61 = .ok (.lstore_n 1, 1) := by decide +kernel
theorem dX7_digest_62 : decode cX7_digest 62 = .ok (.lload_n 1, 1) := by decide +kernel
theorem dX7_digest_63 : decode cX7_digest 63 = .ok (.aload_n 0, 1) := by decide +kernel
theorem dX7_digest_64 : decode cX7_digest 64 = .ok (.getfield 12, 3) := by decide +kernel
theorem dX7_digest_67 : decode cX7_digest 67 = .ok (.getfield 153, 3) := by decide +kernel
theorem dX7_digest_70 : decode cX7_digest 70 = .ok (.getfield 166, 3) := by decide +kernel
theorem dX7_digest_73 : decode cX7_digest 73 = .ok (.aload_n 0, 1) := by decide +kernel
theorem dX7_digest_74 : decode cX7_digest 74 = .ok (.getfield 12, 3) := by decide +kernel
theorem dX7_digest_77 : decode cX7_digest 77 = .ok (.getfield 153, 3) := by decide +kernel
theorem dX7_digest_80 : decode cX7_digest 80 = .ok (.getfield 165, 3) := by decide +kernel
theorem dX7_digest_83 : decode cX7_digest 83 = .ok (.invokestatic 189, 3) := by decide +kernel
theorem dX7_digest_86 : decode cX7_digest 86 = .ok (.lstore_n 1, 1) := by decide +kernel
theorem dX7_digest_87 : decode cX7_digest 87 = .ok (.lload_n 1, 1) := by decide +kernel
theorem dX7_digest_88 : decode cX7_digest 88 = .ok (.aload_n 0, 1) := by decide +kernel
theorem dX7_digest_89 : decode cX7_digest 89 = .ok (.getfield 12, 3) := by decide +kernel
theorem dX7_digest_92 : decode cX7_digest 92 = .ok (.getfield 147, 3) := by decide +kernel
theorem dX7_digest_95 : decode cX7_digest 95 = .ok (.invokestatic 185, 3) := by decide +kernel
theorem dX7_digest_98 : decode cX7_digest 98 = .ok (.lstore_n 1, 1) := by decide +kernel
theorem dX7_digest_99 : decode cX7_digest 99 = .ok (.lload_n 1, 1) := by decide +kernel
theorem dX7_digest_100 : decode cX7_digest 100 = .ok (.aload_n 0, 1) := by decide +kernel
theorem dX7_digest_101 : decode cX7_digest 101 = .ok (.getfield 12, 3) := by decide +kernel
theorem dX7_digest_104 : decode cX7_digest 104 = .ok (.getfield 150, 3) := by decide +kernel
theorem dX7_digest_107 : decode cX7_digest 107 = .ok (.invokestatic 185, 3) := by decide +kernel
theorem dX7_digest_110 : decode cX7_digest 110 = .ok (.lstore_n 1, 1) := by decide +kernel
theorem dX7_digest_111 : decode cX7_digest 111 = .ok (.lload_n 1, 1) := by decide +kernel
theorem dX7_digest_112 : decode cX7_digest 112 = .ok (.aload_n 0, 1) := by decide +kernel
theorem dX7_digest_113 : decode cX7_digest 113 = .ok (.getfield 19, 3) := by decide +kernel
theorem dX7_digest_116 : decode cX7_digest 116 = .ok (.getfield 169, 3) := by decide +kernel
theorem dX7_digest_119 : decode cX7_digest 119 = .ok (.invokestatic 185, 3) := by decide +kernel
theorem dX7_digest_122 : decode cX7_digest 122 = .ok (.lreturn, 1) := by decide +kernel
theorem dX7_requireList_0 : decode cX7_requireList 0 = .ok (.iload_n 0, 1) := by decide +kernel
theorem dX7_requireList_1 : decode cX7_requireList 1 = .ok (.iconst 4, 1) := by decide +kernel
theorem dX7_requireList_2 : decode cX7_requireList 2 = .ok (.invokestatic 93, 3) := by decide +kernel
theorem dX7_requireList_5 : decode cX7_requireList 5 = .ok (.return_, 1) := by decide +kernel
theorem dX7_requireIndex_0 : decode cX7_requireIndex 0 = .ok (.iload_n 0, 1) := by decide +kernel
theorem dX7_requireIndex_1 : decode cX7_requireIndex 1 = .ok (.ifCond .lt 8, 3) := by decide +kernel
theorem dX7_requireIndex_4 : decode cX7_requireIndex 4 = .ok (.iload_n 0, 1) := by decide +kernel
theorem dX7_requireIndex_5 : decode cX7_requireIndex 5 = .ok (.iload_n 1, 1) := by decide +kernel
theorem dX7_requireIndex_6 : decode cX7_requireIndex 6 = .ok (.if_icmp .lt 13, 3) := by decide +kernel
theorem dX7_requireIndex_9 : decode cX7_requireIndex 9 = .ok (.new 193, 3) := by decide +kernel
theorem dX7_requireIndex_12 : decode cX7_requireIndex 12 = .ok (.dup, 1) := by decide +kernel
theorem dX7_requireIndex_13 : decode cX7_requireIndex 13 = .ok (.ldc 195, 2) := by decide +kernel
theorem dX7_requireIndex_15 : decode cX7_requireIndex 15 = .ok (.invokespecial 197, 3) := by decide +kernel
theorem dX7_requireIndex_18 : decode cX7_requireIndex 18 = .ok (.athrow, 1) := by decide +kernel
theorem dX7_requireIndex_19 : decode cX7_requireIndex 19 = .ok (.return_, 1) := by decide +kernel
theorem dX7_requireBetween_0 : decode cX7_requireBetween 0 = .ok (.iload_n 0, 1) := by decide +kernel
theorem dX7_requireBetween_1 : decode cX7_requireBetween 1 = .ok (.iload_n 1, 1) := by decide +kernel
theorem dX7_requireBetween_2 : decode cX7_requireBetween 2 = .ok (.if_icmp .lt 8, 3) := by decide +kernel
theorem dX7_requireBetween_5 : decode cX7_requireBetween 5 = .ok (.iload_n 0, 1) := by decide +kernel
theorem dX7_requireBetween_6 : decode cX7_requireBetween 6 = .ok (.iload_n 2, 1) := by decide +kernel
theorem dX7_requireBetween_7 : decode cX7_requireBetween 7 = .ok (.if_icmp .le 13, 3) := by decide +kernel
theorem dX7_requireBetween_10 : decode cX7_requireBetween 10 = .ok (.new 62, 3) := by decide +kernel
theorem dX7_requireBetween_13 : decode cX7_requireBetween 13 = .ok (.dup, 1) := by decide +kernel
theorem dX7_requireBetween_14 : decode cX7_requireBetween 14 = .ok (.ldc 198, 2) := by decide +kernel
theorem dX7_requireBetween_16 : decode cX7_requireBetween 16 = .ok (.invokespecial 66, 3) := by decide +kernel
theorem dX7_requireBetween_19 : decode cX7_requireBetween 19 = .ok (.athrow, 1) := by decide +kernel
theorem dX7_requireBetween_20 : decode cX7_requireBetween 20 = .ok (.return_, 1) := by decide +kernel
theorem dX7_requireRange_0 : decode cX7_requireRange 0 = .ok (.iload_n 0, 1) := by decide +kernel
theorem dX7_requireRange_1 : decode cX7_requireRange 1 = .ok (.iconst 0, 1) := by decide +kernel
theorem dX7_requireRange_2 : decode cX7_requireRange 2 = .ok (.sipush 511, 3) := by decide +kernel
theorem dX7_requireRange_5 : decode cX7_requireRange 5 = .ok (.invokestatic 101, 3) := by decide +kernel
theorem dX7_requireRange_8 : decode cX7_requireRange 8 = .ok (.iload_n 1, 1) := by decide +kernel
theorem dX7_requireRange_9 : decode cX7_requireRange 9 = .ok (.iconst 1, 1) := by decide +kernel
theorem dX7_requireRange_10 : decode cX7_requireRange 10 = .ok (.sipush 511, 3) := by decide +kernel
theorem dX7_requireRange_13 : decode cX7_requireRange 13 = .ok (.invokestatic 101, 3) := by decide +kernel
theorem dX7_requireRange_16 : decode cX7_requireRange 16 = .ok (.iload_n 2, 1) := by decide +kernel
theorem dX7_requireRange_17 : decode cX7_requireRange 17 = .ok (.iconst 1, 1) := by decide +kernel
theorem dX7_requireRange_18 : decode cX7_requireRange 18 = .ok (.bipush 64, 2) := by decide +kernel
theorem dX7_requireRange_20 : decode cX7_requireRange 20 = .ok (.invokestatic 101, 3) := by decide +kernel
theorem dX7_requireRange_23 : decode cX7_requireRange 23 = .ok (.iload_n 0, 1) := by decide +kernel
theorem dX7_requireRange_24 : decode cX7_requireRange 24 = .ok (.iload_n 1, 1) := by decide +kernel
theorem dX7_requireRange_25 : decode cX7_requireRange 25 = .ok (.iload_n 2, 1) := by decide +kernel
theorem dX7_requireRange_26 : decode cX7_requireRange 26 = .ok (.iconst 1, 1) := by decide +kernel
theorem dX7_requireRange_27 : decode cX7_requireRange 27 = .ok (.isub, 1) := by decide +kernel
theorem dX7_requireRange_28 : decode cX7_requireRange 28 = .ok (.imul, 1) := by decide +kernel
theorem dX7_requireRange_29 : decode cX7_requireRange 29 = .ok (.iadd, 1) := by decide +kernel
theorem dX7_requireRange_30 : decode cX7_requireRange 30 = .ok (.iconst 0, 1) := by decide +kernel
theorem dX7_requireRange_31 : decode cX7_requireRange 31 = .ok (.sipush 511, 3) := by decide +kernel
theorem dX7_requireRange_34 : decode cX7_requireRange 34 = .ok (.invokestatic 101, 3) := by decide +kernel
theorem dX7_requireRange_37 : decode cX7_requireRange 37 = .ok (.return_, 1) := by decide +kernel
theorem dX7_requireSet_0 : decode cX7_requireSet 0 = .ok (.iload_n 0, 1) := by decide +kernel
theorem dX7_requireSet_1 : decode cX7_requireSet 1 = .ok (.iconst 1, 1) := by decide +kernel
theorem dX7_requireSet_2 : decode cX7_requireSet 2 = .ok (.bipush 15, 2) := by decide +kernel
theorem dX7_requireSet_4 : decode cX7_requireSet 4 = .ok (.invokestatic 101, 3) := by decide +kernel
theorem dX7_requireSet_7 : decode cX7_requireSet 7 = .ok (.return_, 1) := by decide +kernel
theorem dX7_listAt_0 : decode cX7_listAt 0 = .ok (.iload_n 1, 1) := by decide +kernel
theorem dX7_listAt_1 : decode cX7_listAt 1 = .ok (.invokestatic 126, 3) := by decide +kernel
theorem dX7_listAt_4 : decode cX7_listAt 4 = .ok (.aload_n 0, 1) := by decide +kernel
theorem dX7_listAt_5 : decode cX7_listAt 5 = .ok (.getfield 12, 3) := by decide +kernel
theorem dX7_listAt_8 : decode cX7_listAt 8 = .ok (.getfield 177, 3) := by decide +kernel
theorem dX7_listAt_11 : decode cX7_listAt 11 = .ok (.iload_n 1, 1) := by decide +kernel
theorem dX7_listAt_12 : decode cX7_listAt 12 = .ok (.aaload, 1) := by decide +kernel
theorem dX7_listAt_13 : decode cX7_listAt 13 = .ok (.areturn, 1) := by decide +kernel
theorem dX7_recode_0 : decode cX7_recode 0 = .ok (.aload_n 0, 1) := by decide +kernel
theorem dX7_recode_1 : decode cX7_recode 1 = .ok (.getfield 26, 3) := by decide +kernel
theorem dX7_recode_4 : decode cX7_recode 4 = .ok (.aload_n 0, 1) := by decide +kernel
theorem dX7_recode_5 : decode cX7_recode 5 = .ok (.getfield 12, 3) := by decide +kernel
theorem dX7_recode_8 : decode cX7_recode 8 = .ok (.getfield 177, 3) := by decide +kernel
theorem dX7_recode_11 : decode cX7_recode 11 = .ok (.iload_n 1, 1) := by decide +kernel
theorem dX7_recode_12 : decode cX7_recode 12 = .ok (.aaload, 1) := by decide +kernel
theorem dX7_recode_13 : decode cX7_recode 13 = .ok (.invokevirtual 200, 3) := by decide +kernel
theorem dX7_recode_16 : decode cX7_recode 16 = .ok (.aload_n 0, 1) := by decide +kernel
theorem dX7_recode_17 : decode cX7_recode 17 = .ok (.getfield 12, 3) := by decide +kernel
theorem dX7_recode_20 : decode cX7_recode 20 = .ok (.getfield 153, 3) := by decide +kernel
theorem dX7_recode_23 : decode cX7_recode 23 = .ok (.iload_n 1, 1) := by decide +kernel
theorem dX7_recode_24 : decode cX7_recode 24 = .ok (.invokevirtual 203, 3) := by decide +kernel
theorem dX7_recode_27 : decode cX7_recode 27 = .ok (.return_, 1) := by decide +kernel
theorem dX7_writeResult_0 : decode cX7_writeResult 0 = .ok (.aload_n 0, 1) := by decide +kernel
theorem dX7_writeResult_1 : decode cX7_writeResult 1 = .ok (.getfield 12, 3) := by decide +kernel
theorem dX7_writeResult_4 : decode cX7_writeResult 4 = .ok (.getfield 177, 3) := by decide +kernel
theorem dX7_writeResult_7 : decode cX7_writeResult 7 = .ok (.iload_n 1, 1) := by decide +kernel
theorem dX7_writeResult_8 : decode cX7_writeResult 8 = .ok (.aaload, 1) := by decide +kernel
theorem dX7_writeResult_9 : decode cX7_writeResult 9 = .ok (.aload_n 0, 1) := by decide +kernel
theorem dX7_writeResult_10 : decode cX7_writeResult 10 = .ok (.getfield 41, 3) := by decide +kernel
theorem dX7_writeResult_13 : decode cX7_writeResult 13 = .ok (.iload_n 2, 1) := by decide +kernel
theorem dX7_writeResult_14 : decode cX7_writeResult 14 = .ok (.invokevirtual 206, 3) := by decide +kernel
theorem dX7_writeResult_17 : decode cX7_writeResult 17 = .ok (.aload_n 0, 1) := by decide +kernel
theorem dX7_writeResult_18 : decode cX7_writeResult 18 = .ok (.iload_n 1, 1) := by decide +kernel
theorem dX7_writeResult_19 : decode cX7_writeResult 19 = .ok (.invokevirtual 86, 3) := by decide +kernel
theorem dX7_writeResult_22 : decode cX7_writeResult 22 = .ok (.iload_n 2, 1) := by decide +kernel
theorem dX7_writeResult_23 : decode cX7_writeResult 23 = .ok (.ireturn, 1) := by decide +kernel
theorem dX7_mergeIntoResult_0 : decode cX7_mergeIntoResult 0 = .ok (.iconst 0, 1) := by decide +kernel
theorem dX7_mergeIntoResult_1 : decode cX7_mergeIntoResult 1 = .ok (.istore_n 3, 1) := by decide +kernel
theorem dX7_mergeIntoResult_2 : decode cX7_mergeIntoResult 2 = .ok (.iconst 0, 1) := by decide +kernel
theorem dX7_mergeIntoResult_3 : decode cX7_mergeIntoResult 3 = .ok (.istore 4, 2) := by decide +kernel
theorem dX7_mergeIntoResult_5 : decode cX7_mergeIntoResult 5 = .ok (.iconst 0, 1) := by decide +kernel
theorem dX7_mergeIntoResult_6 : decode cX7_mergeIntoResult 6 = .ok (.istore 5, 2) := by decide +kernel
theorem dX7_mergeIntoResult_8 : decode cX7_mergeIntoResult 8 = .ok (.iload 5, 2) := by decide +kernel
theorem dX7_mergeIntoResult_10 : decode cX7_mergeIntoResult 10 = .ok (.aload_n 0, 1) := by decide +kernel
theorem dX7_mergeIntoResult_11 : decode cX7_mergeIntoResult 11 = .ok (.getfield 41, 3) := by decide +kernel
theorem dX7_mergeIntoResult_14 : decode cX7_mergeIntoResult 14 = .ok (.arraylength, 1) := by decide +kernel
theorem dX7_mergeIntoResult_15 : decode cX7_mergeIntoResult 15 = .ok (.if_icmp .ge 123, 3) := by decide +kernel
theorem dX7_mergeIntoResult_18 : decode cX7_mergeIntoResult 18 = .ok (.iload_n 3, 1) := by decide +kernel
theorem dX7_mergeIntoResult_19 : decode cX7_mergeIntoResult 19 = .ok (.aload_n 1, 1) := by decide +kernel
theorem dX7_mergeIntoResult_20 : decode cX7_mergeIntoResult 20 = .ok (.getfield 69, 3) := by decide +kernel
theorem dX7_mergeIntoResult_23 : decode cX7_mergeIntoResult 23 = .ok (.if_icmp .lt 12, 3) := by decide +kernel
theorem dX7_mergeIntoResult_26 : decode cX7_mergeIntoResult 26 = .ok (.iload 4, 2) := by decide +kernel
theorem dX7_mergeIntoResult_28 : decode cX7_mergeIntoResult 28 = .ok (.aload_n 2, 1) := by decide +kernel
theorem dX7_mergeIntoResult_29 : decode cX7_mergeIntoResult 29 = .ok (.getfield 69, 3) := by decide +kernel
theorem dX7_mergeIntoResult_32 : decode cX7_mergeIntoResult 32 = .ok (.if_icmp .ge 106, 3) := by decide +kernel
theorem dX7_mergeIntoResult_35 : decode cX7_mergeIntoResult 35 = .ok (.iload_n 3, 1) := by decide +kernel
theorem dX7_mergeIntoResult_36 : decode cX7_mergeIntoResult 36 = .ok (.aload_n 1, 1) := by decide +kernel
theorem dX7_mergeIntoResult_37 : decode cX7_mergeIntoResult 37 = .ok (.getfield 69, 3) := by decide +kernel
theorem dX7_mergeIntoResult_40 : decode cX7_mergeIntoResult 40 = .ok (.if_icmp .ge 11, 3) := by decide +kernel
theorem dX7_mergeIntoResult_43 : decode cX7_mergeIntoResult 43 = .ok (.aload_n 1, 1) := by decide +kernel
theorem dX7_mergeIntoResult_44 : decode cX7_mergeIntoResult 44 = .ok (.iload_n 3, 1) := by decide +kernel
theorem dX7_mergeIntoResult_45 : decode cX7_mergeIntoResult 45 = .ok (.invokevirtual 97, 3) := by decide +kernel
theorem dX7_mergeIntoResult_48 : decode cX7_mergeIntoResult 48 = .ok (.goto 6, 3) := by decide +kernel
theorem dX7_mergeIntoResult_51 : decode cX7_mergeIntoResult 51 = .ok (.sipush 512, 3) := by decide +kernel
theorem dX7_mergeIntoResult_54 : decode cX7_mergeIntoResult 54 = .ok (.istore 6, 2) := by decide +kernel
theorem dX7_mergeIntoResult_56 : decode cX7_mergeIntoResult 56 = .ok (.iload 4, 2) := by decide +kernel
theorem dX7_mergeIntoResult_58 : decode cX7_mergeIntoResult 58 = .ok (.aload_n 2, 1) := by decide +kernel
theorem dX7_mergeIntoResult_59 : decode cX7_mergeIntoResult 59 = .ok (.getfield 69, 3) := by decide +kernel
theorem dX7_mergeIntoResult_62 : decode cX7_mergeIntoResult 62 = .ok (.if_icmp .ge 12, 3) := by decide +kernel
theorem dX7_mergeIntoResult_65 : decode cX7_mergeIntoResult 65 = .ok (.aload_n 2, 1) := by decide +kernel
theorem dX7_mergeIntoResult_66 : decode cX7_mergeIntoResult 66 = .ok (.iload 4, 2) := by decide +kernel
theorem dX7_mergeIntoResult_68 : decode cX7_mergeIntoResult 68 = .ok (.invokevirtual 97, 3) := by decide +kernel
theorem dX7_mergeIntoResult_71 : decode cX7_mergeIntoResult 71 = .ok (.goto 6, 3) := by decide +kernel
theorem dX7_mergeIntoResult_74 : decode cX7_mergeIntoResult 74 = .ok (.sipush 512, 3) := by decide +kernel
theorem dX7_mergeIntoResult_77 : decode cX7_mergeIntoResult 77 = .ok (.istore 7, 2) := by decide +kernel
theorem dX7_mergeIntoResult_79 : decode cX7_mergeIntoResult 79 = .ok (.aload_n 0, 1) := by decide +kernel
theorem dX7_mergeIntoResult_80 : decode cX7_mergeIntoResult 80 = .ok (.getfield 41, 3) := by decide +kernel
theorem dX7_mergeIntoResult_83 : decode cX7_mergeIntoResult 83 = .ok (.iload 5, 2) := by decide +kernel
theorem dX7_mergeIntoResult_85 : decode cX7_mergeIntoResult 85 = .ok (.iload 6, 2) := by decide +kernel
theorem dX7_mergeIntoResult_87 : decode cX7_mergeIntoResult 87 = .ok (.iload 7, 2) := by decide +kernel
theorem dX7_mergeIntoResult_89 : decode cX7_mergeIntoResult 89 = .ok (.if_icmp .gt 8, 3) := by decide +kernel
theorem dX7_mergeIntoResult_92 : decode cX7_mergeIntoResult 92 = .ok (.iload 6, 2) := by decide +kernel
theorem dX7_mergeIntoResult_94 : decode cX7_mergeIntoResult 94 = .ok (.goto 5, 3) := by decide +kernel
theorem dX7_mergeIntoResult_97 : decode cX7_mergeIntoResult 97 = .ok (.iload 7, 2) := by decide +kernel
theorem dX7_mergeIntoResult_99 : decode cX7_mergeIntoResult 99 = .ok (.iastore, 1) := by decide +kernel
theorem dX7_mergeIntoResult_100 : decode cX7_mergeIntoResult 100 = .ok (.iload_n 3, 1) := by decide +kernel
theorem dX7_mergeIntoResult_101 : decode cX7_mergeIntoResult 101 = .ok (.iload 6, 2) := by decide +kernel
theorem dX7_mergeIntoResult_103 : decode cX7_mergeIntoResult 103 = .ok (.iload 7, 2) := by decide +kernel
theorem dX7_mergeIntoResult_105 : decode cX7_mergeIntoResult 105 = .ok (.if_icmp .gt 7, 3) := by decide +kernel
theorem dX7_mergeIntoResult_108 : decode cX7_mergeIntoResult 108 = .ok (.iconst 1, 1) := by decide +kernel
theorem dX7_mergeIntoResult_109 : decode cX7_mergeIntoResult 109 = .ok (.goto 4, 3) := by decide +kernel
theorem dX7_mergeIntoResult_112 : decode cX7_mergeIntoResult 112 = .ok (.iconst 0, 1) := by decide +kernel
theorem dX7_mergeIntoResult_113 : decode cX7_mergeIntoResult 113 = .ok (.iadd, 1) := by decide +kernel
theorem dX7_mergeIntoResult_114 : decode cX7_mergeIntoResult 114 = .ok (.istore_n 3, 1) := by decide +kernel
theorem dX7_mergeIntoResult_115 : decode cX7_mergeIntoResult 115 = .ok (.iload 4, 2) := by decide +kernel
theorem dX7_mergeIntoResult_117 : decode cX7_mergeIntoResult 117 = .ok (.iload 7, 2) := by decide +kernel
theorem dX7_mergeIntoResult_119 : decode cX7_mergeIntoResult 119 = .ok (.iload 6, 2) := by decide +kernel
theorem dX7_mergeIntoResult_121 : decode cX7_mergeIntoResult 121 = .ok (.if_icmp .gt 7, 3) := by decide +kernel
theorem dX7_mergeIntoResult_124 : decode cX7_mergeIntoResult 124 = .ok (.iconst 1, 1) := by decide +kernel
theorem dX7_mergeIntoResult_125 : decode cX7_mergeIntoResult 125 = .ok (.goto 4, 3) := by decide +kernel
theorem dX7_mergeIntoResult_128 : decode cX7_mergeIntoResult 128 = .ok (.iconst 0, 1) := by decide +kernel
theorem dX7_mergeIntoResult_129 : decode cX7_mergeIntoResult 129 = .ok (.iadd, 1) := by decide +kernel
theorem dX7_mergeIntoResult_130 : decode cX7_mergeIntoResult 130 = .ok (.istore 4, 2) := by decide +kernel
theorem dX7_mergeIntoResult_132 : decode cX7_mergeIntoResult 132 = .ok (.iinc 5 1, 3) := by decide +kernel
theorem dX7_mergeIntoResult_135 : decode cX7_mergeIntoResult 135 = .ok (.goto (-127), 3) := by decide +kernel
theorem dX7_mergeIntoResult_138 : decode cX7_mergeIntoResult 138 = .ok (.iload 5, 2) := by decide +kernel
theorem dX7_mergeIntoResult_140 : decode cX7_mergeIntoResult 140 = .ok (.ireturn, 1) := by decide +kernel
theorem dX7_differenceIntoResult_0 : decode cX7_differenceIntoResult 0 = .ok (.iconst 0, 1) := by decide +kernel
theorem dX7_differenceIntoResult_1 : decode cX7_differenceIntoResult 1 = .ok (.istore_n 3, 1) := by decide +kernel
theorem dX7_differenceIntoResult_2 : decode cX7_differenceIntoResult 2 = .ok (.iconst 0, 1) := by decide +kernel
theorem dX7_differenceIntoResult_3 : decode cX7_differenceIntoResult 3 = .ok (.istore 4, 2) := by decide +kernel
theorem dX7_differenceIntoResult_5 : decode cX7_differenceIntoResult 5 = .ok (.iload 4, 2) := by decide +kernel
theorem dX7_differenceIntoResult_7 : decode cX7_differenceIntoResult 7 = .ok (.aload_n 1, 1) := by decide +kernel
theorem dX7_differenceIntoResult_8 : decode cX7_differenceIntoResult 8 = .ok (.getfield 69, 3) := by decide +kernel
theorem dX7_differenceIntoResult_11 : decode cX7_differenceIntoResult 11 = .ok (.if_icmp .ge 43, 3) := by decide +kernel
theorem dX7_differenceIntoResult_14 : decode cX7_differenceIntoResult 14 = .ok (.aload_n 1, 1) := by decide +kernel
theorem dX7_differenceIntoResult_15 : decode cX7_differenceIntoResult 15 = .ok (.iload 4, 2) := by decide +kernel
theorem dX7_differenceIntoResult_17 : decode cX7_differenceIntoResult 17 = .ok (.invokevirtual 97, 3) := by decide +kernel
theorem dX7_differenceIntoResult_20 : decode cX7_differenceIntoResult 20 = .ok (.istore 5, 2) := by decide +kernel
theorem dX7_differenceIntoResult_22 : decode cX7_differenceIntoResult 22 = .ok (.aload_n 2, 1) := by decide +kernel
theorem dX7_differenceIntoResult_23 : decode cX7_differenceIntoResult 23 = .ok (.aload_n 2, 1) := by decide +kernel
theorem dX7_differenceIntoResult_24 : decode cX7_differenceIntoResult 24 = .ok (.iload 5, 2) := by decide +kernel
theorem dX7_differenceIntoResult_26 : decode cX7_differenceIntoResult 26 = .ok (.invokevirtual 104, 3) := by decide +kernel
theorem dX7_differenceIntoResult_29 : decode cX7_differenceIntoResult 29 = .ok (.invokevirtual 97, 3) := by decide +kernel
theorem dX7_differenceIntoResult_32 : decode cX7_differenceIntoResult 32 = .ok (.iload 5, 2) := by decide +kernel
theorem dX7_differenceIntoResult_34 : decode cX7_differenceIntoResult 34 = .ok (.if_icmp .eq 14, 3) := by decide +kernel
theorem dX7_differenceIntoResult_37 : decode cX7_differenceIntoResult 37 = .ok (.aload_n 0, 1) := by decide +kernel
theorem dX7_differenceIntoResult_38 : decode cX7_differenceIntoResult 38 = .ok (.getfield 41, 3) := by decide +kernel
theorem dX7_differenceIntoResult_41 : decode cX7_differenceIntoResult 41 = .ok (.iload_n 3, 1) := by decide +kernel
theorem dX7_differenceIntoResult_42 : decode cX7_differenceIntoResult 42 = .ok (.iload 5, 2) := by decide +kernel
theorem dX7_differenceIntoResult_44 : decode cX7_differenceIntoResult 44 = .ok (.iastore, 1) := by decide +kernel
theorem dX7_differenceIntoResult_45 : decode cX7_differenceIntoResult 45 = .ok (.iinc 3 1, 3) := by decide +kernel
theorem dX7_differenceIntoResult_48 : decode cX7_differenceIntoResult 48 = .ok (.iinc 4 1, 3) := by decide +kernel
theorem dX7_differenceIntoResult_51 : decode cX7_differenceIntoResult 51 = .ok (.goto (-46), 3) := by decide +kernel
theorem dX7_differenceIntoResult_54 : decode cX7_differenceIntoResult 54 = .ok (.iload_n 3, 1) := by decide +kernel
theorem dX7_differenceIntoResult_55 : decode cX7_differenceIntoResult 55 = .ok (.ireturn, 1) := by decide +kernel
theorem dX7_findIntersection_0 : decode cX7_findIntersection 0 = .ok (.aload_n 0, 1) := by decide +kernel
theorem dX7_findIntersection_1 : decode cX7_findIntersection 1 = .ok (.iload_n 1, 1) := by decide +kernel
theorem dX7_findIntersection_2 : decode cX7_findIntersection 2 = .ok (.invokevirtual 210, 3) := by decide +kernel
theorem dX7_findIntersection_5 : decode cX7_findIntersection 5 = .ok (.istore_n 2, 1) := by decide +kernel
theorem dX7_findIntersection_6 : decode cX7_findIntersection 6 = .ok (.aload_n 0, 1) := by decide +kernel
theorem dX7_findIntersection_7 : decode cX7_findIntersection 7 = .ok (.getfield 37, 3) := by decide +kernel
theorem dX7_findIntersection_10 : decode cX7_findIntersection 10 = .ok (.iconst 0, 1) := by decide +kernel
theorem dX7_findIntersection_11 : decode cX7_findIntersection 11 = .ok (.iaload, 1) := by decide +kernel
theorem dX7_findIntersection_12 : decode cX7_findIntersection 12 = .ok (.istore_n 3, 1) := by decide +kernel
theorem dX7_findIntersection_13 : decode cX7_findIntersection 13 = .ok (.iconst 0, 1) := by decide +kernel
theorem dX7_findIntersection_14 : decode cX7_findIntersection 14 = .ok (.istore 4, 2) := by decide +kernel
theorem dX7_findIntersection_16 : decode cX7_findIntersection 16 = .ok (.aload_n 0, 1) := by decide +kernel
theorem dX7_findIntersection_17 : decode cX7_findIntersection 17 = .ok (.getfield 12, 3) := by decide +kernel
theorem dX7_findIntersection_20 : decode cX7_findIntersection 20 = .ok (.iload_n 3, 1) := by decide +kernel
theorem dX7_findIntersection_21 : decode cX7_findIntersection 21 = .ok (.iconst 0, 1) := by decide +kernel
theorem dX7_findIntersection_22 : decode cX7_findIntersection 22 = .ok (.invokevirtual 129, 3) := by decide +kernel
theorem dX7_findIntersection_25 : decode cX7_findIntersection 25 = .ok (.istore 5, 2) := by decide +kernel
theorem dX7_findIntersection_27 : decode cX7_findIntersection 27 = .ok (.iconst 0, 1) := by decide +kernel
theorem dX7_findIntersection_28 : decode cX7_findIntersection 28 = .ok (.istore 6, 2) := by decide +kernel
theorem dX7_findIntersection_30 : decode cX7_findIntersection 30 = .ok (.iload 6, 2) := by decide +kernel
theorem dX7_findIntersection_32 : decode cX7_findIntersection 32 = .ok (.bipush 64, 2) := by decide +kernel
theorem dX7_findIntersection_34 : decode cX7_findIntersection 34 = .ok (.if_icmp .ge 85, 3) := by decide +kernel
theorem dX7_findIntersection_37 : decode cX7_findIntersection 37 = .ok (.iload 5, 2) := by decide +kernel
theorem dX7_findIntersection_39 : decode cX7_findIntersection 39 = .ok (.iconst (-1), 1) := by decide +kernel
theorem dX7_findIntersection_40 : decode cX7_findIntersection 40 = .ok (.if_icmp .eq 79, 3) := by decide +kernel
theorem dX7_findIntersection_43 : decode cX7_findIntersection 43 = .ok (.aload_n 0, 1) := by decide +kernel
theorem dX7_findIntersection_44 : decode cX7_findIntersection 44 = .ok (.iload 5, 2) := by decide +kernel
theorem dX7_findIntersection_46 : decode cX7_findIntersection 46 = .ok (.iload_n 2, 1) := by decide +kernel
theorem dX7_findIntersection_47 : decode cX7_findIntersection 47 = .ok (.invokevirtual 213, 3) := by decide +kernel
theorem dX7_findIntersection_50 : decode cX7_findIntersection 50 = .ok (.istore 7, 2) := by decide +kernel
theorem dX7_findIntersection_52 : decode cX7_findIntersection 52 = .ok (.iload 7, 2) := by decide +kernel
theorem dX7_findIntersection_54 : decode cX7_findIntersection 54 = .ok (.iload 5, 2) := by decide +kernel
theorem dX7_findIntersection_56 : decode cX7_findIntersection 56 = .ok (.if_icmp .ne 35, 3) := by decide +kernel
theorem dX7_findIntersection_59 : decode cX7_findIntersection 59 = .ok (.aload_n 0, 1) := by decide +kernel
theorem dX7_findIntersection_60 : decode cX7_findIntersection 60 = .ok (.getfield 41, 3) := by decide +kernel
theorem dX7_findIntersection_63 : decode cX7_findIntersection 63 = .ok (.iload 4, 2) := by decide +kernel
theorem dX7_findIntersection_65 : decode cX7_findIntersection 65 = .ok (.iload 5, 2) := by decide +kernel
theorem dX7_findIntersection_67 : decode cX7_findIntersection 67 = .ok (.iastore, 1) := by decide +kernel
theorem dX7_findIntersection_68 : decode cX7_findIntersection 68 = .ok (.iinc 4 1, 3) := by decide +kernel
theorem dX7_findIntersection_71 : decode cX7_findIntersection 71 = .ok (.iload 5, 2) := by decide +kernel
theorem dX7_findIntersection_73 : decode cX7_findIntersection 73 = .ok (.iconst 1, 1) := by decide +kernel
theorem dX7_findIntersection_74 : decode cX7_findIntersection 74 = .ok (.iadd, 1) := by decide +kernel
theorem dX7_findIntersection_75 : decode cX7_findIntersection 75 = .ok (.sipush 512, 3) := by decide +kernel
theorem dX7_findIntersection_78 : decode cX7_findIntersection 78 = .ok (.if_icmp .ge 10, 3) := by decide +kernel
theorem dX7_findIntersection_81 : decode cX7_findIntersection 81 = .ok (.iload 5, 2) := by decide +kernel
theorem dX7_findIntersection_83 : decode cX7_findIntersection 83 = .ok (.iconst 1, 1) := by decide +kernel
theorem dX7_findIntersection_84 : decode cX7_findIntersection 84 = .ok (.iadd, 1) := by decide +kernel
theorem dX7_findIntersection_85 : decode cX7_findIntersection 85 = .ok (.goto 4, 3) := by decide +kernel
theorem dX7_findIntersection_88 : decode cX7_findIntersection 88 = .ok (.iconst (-1), 1) := by decide +kernel
theorem dX7_findIntersection_89 : decode cX7_findIntersection 89 = .ok (.istore 7, 2) := by decide +kernel
theorem dX7_findIntersection_91 : decode cX7_findIntersection 91 = .ok (.iload 7, 2) := by decide +kernel
theorem dX7_findIntersection_93 : decode cX7_findIntersection 93 = .ok (.iconst (-1), 1) := by decide +kernel
theorem dX7_findIntersection_94 : decode cX7_findIntersection 94 = .ok (.if_icmp .ne 7, 3) := by decide +kernel
theorem dX7_findIntersection_97 : decode cX7_findIntersection 97 = .ok (.iconst (-1), 1) := by decide +kernel
theorem dX7_findIntersection_98 : decode cX7_findIntersection 98 = .ok (.goto 13, 3) := by decide +kernel
theorem dX7_findIntersection_101 : decode cX7_findIntersection 101 = .ok (.aload_n 0, 1) := by decide +kernel
theorem dX7_findIntersection_102 : decode cX7_findIntersection 102 = .ok (.getfield 12, 3) := by decide +kernel
theorem dX7_findIntersection_105 : decode cX7_findIntersection 105 = .ok (.iload_n 3, 1) := by decide +kernel
theorem dX7_findIntersection_106 : decode cX7_findIntersection 106 = .ok (.iload 7, 2) := by decide +kernel
theorem dX7_findIntersection_108 : decode cX7_findIntersection 108 = .ok (.invokevirtual 129, 3) := by decide +kernel
theorem dX7_findIntersection_111 : decode cX7_findIntersection 111 = .ok (.istore 5, 2) := by decide +kernel
theorem dX7_findIntersection_113 : decode cX7_findIntersection 113 = .ok (.iinc 6 1, 3) := by decide +kernel
theorem dX7_findIntersection_116 : decode cX7_findIntersection 116 = .ok (.goto (-86), 3) := by decide +kernel
theorem dX7_findIntersection_119 : decode cX7_findIntersection 119 = .ok (.iload 4, 2) := by decide +kernel
theorem dX7_findIntersection_121 : decode cX7_findIntersection 121 = .ok (.ireturn, 1) := by decide +kernel
theorem dX7_askOthers_0 : decode cX7_askOthers 0 = .ok (.iload_n 1, 1) := by decide +kernel
theorem dX7_askOthers_1 : decode cX7_askOthers 1 = .ok (.istore_n 3, 1) := by decide +kernel
theorem dX7_askOthers_2 : decode cX7_askOthers 2 = .ok (.iconst 1, 1) := by decide +kernel
theorem dX7_askOthers_3 : decode cX7_askOthers 3 = .ok (.istore 4, 2) := by decide +kernel
theorem dX7_askOthers_5 : decode cX7_askOthers 5 = .ok (.iload 4, 2) := by decide +kernel
theorem dX7_askOthers_7 : decode cX7_askOthers 7 = .ok (.iload_n 2, 1) := by decide +kernel
theorem dX7_askOthers_8 : decode cX7_askOthers 8 = .ok (.if_icmp .ge 30, 3) := by decide +kernel
theorem dX7_askOthers_11 : decode cX7_askOthers 11 = .ok (.iload_n 3, 1) := by decide +kernel
theorem dX7_askOthers_12 : decode cX7_askOthers 12 = .ok (.iload_n 1, 1) := by decide +kernel
theorem dX7_askOthers_13 : decode cX7_askOthers 13 = .ok (.if_icmp .ne 25, 3) := by decide +kernel
theorem dX7_askOthers_16 : decode cX7_askOthers 16 = .ok (.aload_n 0, 1) := by decide +kernel
theorem dX7_askOthers_17 : decode cX7_askOthers 17 = .ok (.getfield 12, 3) := by decide +kernel
theorem dX7_askOthers_20 : decode cX7_askOthers 20 = .ok (.aload_n 0, 1) := by decide +kernel
theorem dX7_askOthers_21 : decode cX7_askOthers 21 = .ok (.getfield 37, 3) := by decide +kernel
theorem dX7_askOthers_24 : decode cX7_askOthers 24 = .ok (.iload 4, 2) := by decide +kernel
theorem dX7_askOthers_26 : decode cX7_askOthers 26 = .ok (.iaload, 1) := by decide +kernel
theorem dX7_askOthers_27 : decode cX7_askOthers 27 = .ok (.iload_n 1, 1) := by decide +kernel
theorem dX7_askOthers_28 : decode cX7_askOthers 28 = .ok (.invokevirtual 129, 3) := by decide +kernel
theorem dX7_askOthers_31 : decode cX7_askOthers 31 = .ok (.istore_n 3, 1) := by decide +kernel
theorem dX7_askOthers_32 : decode cX7_askOthers 32 = .ok (.iinc 4 1, 3) := by decide +kernel
theorem dX7_askOthers_35 : decode cX7_askOthers 35 = .ok (.goto (-30), 3) := by decide +kernel
theorem dX7_askOthers_38 : decode cX7_askOthers 38 = .ok (.iload_n 3, 1) := by decide +kernel
theorem dX7_askOthers_39 : decode cX7_askOthers 39 = .ok (.ireturn, 1) := by decide +kernel
theorem dX7_orderLists_0 : decode cX7_orderLists 0 = .ok (.iconst 0, 1) := by decide +kernel
theorem dX7_orderLists_1 : decode cX7_orderLists 1 = .ok (.istore_n 2, 1) := by decide +kernel
theorem dX7_orderLists_2 : decode cX7_orderLists 2 = .ok (.iconst 0, 1) := by decide +kernel
theorem dX7_orderLists_3 : decode cX7_orderLists 3 = .ok (.istore_n 3, 1) := by decide +kernel
theorem dX7_orderLists_4 : decode cX7_orderLists 4 = .ok (.iload_n 3, 1) := by decide +kernel
theorem dX7_orderLists_5 : decode cX7_orderLists 5 = .ok (.iconst 4, 1) := by decide +kernel
theorem dX7_orderLists_6 : decode cX7_orderLists 6 = .ok (.if_icmp .ge 93, 3) := by decide +kernel
theorem dX7_orderLists_9 : decode cX7_orderLists 9 = .ok (.iload_n 1, 1) := by decide +kernel
theorem dX7_orderLists_10 : decode cX7_orderLists 10 = .ok (.iload_n 3, 1) := by decide +kernel
theorem dX7_orderLists_11 : decode cX7_orderLists 11 = .ok (.ishr, 1) := by decide +kernel
theorem dX7_orderLists_12 : decode cX7_orderLists 12 = .ok (.iconst 1, 1) := by decide +kernel
theorem dX7_orderLists_13 : decode cX7_orderLists 13 = .ok (.iand, 1) := by decide +kernel
theorem dX7_orderLists_14 : decode cX7_orderLists 14 = .ok (.ifCond .eq 79, 3) := by decide +kernel
theorem dX7_orderLists_17 : decode cX7_orderLists 17 = .ok (.iload_n 2, 1) := by decide +kernel
theorem dX7_orderLists_18 : decode cX7_orderLists 18 = .ok (.istore 4, 2) := by decide +kernel
theorem dX7_orderLists_20 : decode cX7_orderLists 20 = .ok (.iload 4, 2) := by decide +kernel
theorem dX7_orderLists_22 : decode cX7_orderLists 22 = .ok (.ifCond .le 60, 3) := by decide +kernel
theorem dX7_orderLists_25 : decode cX7_orderLists 25 = .ok (.aload_n 0, 1) := by decide +kernel
theorem dX7_orderLists_26 : decode cX7_orderLists 26 = .ok (.getfield 12, 3) := by decide +kernel
theorem dX7_orderLists_29 : decode cX7_orderLists 29 = .ok (.getfield 177, 3) := by decide +kernel
theorem dX7_orderLists_32 : decode cX7_orderLists 32 = .ok (.aload_n 0, 1) := by decide +kernel
theorem dX7_orderLists_33 : decode cX7_orderLists 33 = .ok (.getfield 37, 3) := by decide +kernel
theorem dX7_orderLists_36 : decode cX7_orderLists 36 = .ok (.iload 4, 2) := by decide +kernel
theorem dX7_orderLists_38 : decode cX7_orderLists 38 = .ok (.iconst 1, 1) := by decide +kernel
theorem dX7_orderLists_39 : decode cX7_orderLists 39 = .ok (.isub, 1) := by decide +kernel
theorem dX7_orderLists_40 : decode cX7_orderLists 40 = .ok (.iaload, 1) := by decide +kernel
theorem dX7_orderLists_41 : decode cX7_orderLists 41 = .ok (.aaload, 1) := by decide +kernel
theorem dX7_orderLists_42 : decode cX7_orderLists 42 = .ok (.getfield 69, 3) := by decide +kernel
theorem dX7_orderLists_45 : decode cX7_orderLists 45 = .ok (.aload_n 0, 1) := by decide +kernel
theorem dX7_orderLists_46 : decode cX7_orderLists 46 = .ok (.getfield 12, 3) := by decide +kernel
theorem dX7_orderLists_49 : decode cX7_orderLists 49 = .ok (.getfield 177, 3) := by decide +kernel
theorem dX7_orderLists_52 : decode cX7_orderLists 52 = .ok (.iload_n 3, 1) := by decide +kernel
theorem dX7_orderLists_53 : decode cX7_orderLists 53 = .ok (.aaload, 1) := by decide +kernel
theorem dX7_orderLists_54 : decode cX7_orderLists 54 = .ok (.getfield 69, 3) := by decide +kernel
theorem dX7_orderLists_57 : decode cX7_orderLists 57 = .ok (.if_icmp .le 25, 3) := by decide +kernel
theorem dX7_orderLists_60 : decode cX7_orderLists 60 = .ok (.aload_n 0, 1) := by decide +kernel
theorem dX7_orderLists_61 : decode cX7_orderLists 61 = .ok (.getfield 37, 3) := by decide +kernel
theorem dX7_orderLists_64 : decode cX7_orderLists 64 = .ok (.iload 4, 2) := by decide +kernel
theorem dX7_orderLists_66 : decode cX7_orderLists 66 = .ok (.aload_n 0, 1) := by decide +kernel
theorem dX7_orderLists_67 : decode cX7_orderLists 67 = .ok (.getfield 37, 3) := by decide +kernel
theorem dX7_orderLists_70 : decode cX7_orderLists 70 = .ok (.iload 4, 2) := by decide +kernel
theorem dX7_orderLists_72 : decode cX7_orderLists 72 = .ok (.iconst 1, 1) := by decide +kernel
theorem dX7_orderLists_73 : decode cX7_orderLists 73 = .ok (.isub, 1) := by decide +kernel
theorem dX7_orderLists_74 : decode cX7_orderLists 74 = .ok (.iaload, 1) := by decide +kernel
theorem dX7_orderLists_75 : decode cX7_orderLists 75 = .ok (.iastore, 1) := by decide +kernel
theorem dX7_orderLists_76 : decode cX7_orderLists 76 = .ok (.iinc 4 (-1), 3) := by decide +kernel
theorem dX7_orderLists_79 : decode cX7_orderLists 79 = .ok (.goto (-59), 3) := by decide +kernel
theorem dX7_orderLists_82 : decode cX7_orderLists 82 = .ok (.aload_n 0, 1) := by decide +kernel
theorem dX7_orderLists_83 : decode cX7_orderLists 83 = .ok (.getfield 37, 3) := by decide +kernel
theorem dX7_orderLists_86 : decode cX7_orderLists 86 = .ok (.iload 4, 2) := by decide +kernel
theorem dX7_orderLists_88 : decode cX7_orderLists 88 = .ok (.iload_n 3, 1) := by decide +kernel
theorem dX7_orderLists_89 : decode cX7_orderLists 89 = .ok (.iastore, 1) := by decide +kernel
theorem dX7_orderLists_90 : decode cX7_orderLists 90 = .ok (.iinc 2 1, 3) := by decide +kernel
theorem dX7_orderLists_93 : decode cX7_orderLists 93 = .ok (.iinc 3 1, 3) := by decide +kernel
theorem dX7_orderLists_96 : decode cX7_orderLists 96 = .ok (.goto (-92), 3) := by decide +kernel
theorem dX7_orderLists_99 : decode cX7_orderLists 99 = .ok (.iload_n 2, 1) := by decide +kernel
theorem dX7_orderLists_100 : decode cX7_orderLists 100 = .ok (.ireturn, 1) := by decide +kernel
theorem dX7_mix_0 : decode cX7_mix 0 = .ok (.ldc2_w 216, 3) := by decide +kernel
theorem dX7_mix_3 : decode cX7_mix 3 = .ok (.lload_n 0, 1) := by decide +kernel
theorem dX7_mix_4 : decode cX7_mix 4 = .ok (.lmul, 1) := by decide +kernel
theorem dX7_mix_5 : decode cX7_mix 5 = .ok (.iload_n 2, 1) := by decide +kernel
theorem dX7_mix_6 : decode cX7_mix 6 = .ok (.i2l, 1) := by decide +kernel
theorem dX7_mix_7 : decode cX7_mix 7 = .ok (.ladd, 1) := by decide +kernel
theorem dX7_mix_8 : decode cX7_mix 8 = .ok (.lreturn, 1) := by decide +kernel
theorem dX7_mixRow_0 : decode cX7_mixRow 0 = .ok (.lload_n 0, 1) := by decide +kernel
theorem dX7_mixRow_1 : decode cX7_mixRow 1 = .ok (.lstore 4, 2) := by decide +kernel
theorem dX7_mixRow_3 : decode cX7_mixRow 3 = .ok (.iconst 0, 1) := by decide +kernel
theorem dX7_mixRow_4 : decode cX7_mixRow 4 = .ok (.istore 6, 2) := by decide +kernel
theorem dX7_mixRow_6 : decode cX7_mixRow 6 = .ok (.iload 6, 2) := by decide +kernel
theorem dX7_mixRow_8 : decode cX7_mixRow 8 = .ok (.iload_n 3, 1) := by decide +kernel
theorem dX7_mixRow_9 : decode cX7_mixRow 9 = .ok (.if_icmp .ge 20, 3) := by decide +kernel
theorem dX7_mixRow_12 : decode cX7_mixRow 12 = .ok (.lload 4, 2) := by decide +kernel
theorem dX7_mixRow_14 : decode cX7_mixRow 14 = .ok (.aload_n 2, 1) := by decide +kernel
theorem dX7_mixRow_15 : decode cX7_mixRow 15 = .ok (.iload 6, 2) := by decide +kernel
theorem dX7_mixRow_17 : decode cX7_mixRow 17 = .ok (.iaload, 1) := by decide +kernel
theorem dX7_mixRow_18 : decode cX7_mixRow 18 = .ok (.invokestatic 185, 3) := by decide +kernel
theorem dX7_mixRow_21 : decode cX7_mixRow 21 = .ok (.lstore 4, 2) := by decide +kernel
theorem dX7_mixRow_23 : decode cX7_mixRow 23 = .ok (.iinc 6 1, 3) := by decide +kernel
theorem dX7_mixRow_26 : decode cX7_mixRow 26 = .ok (.goto (-20), 3) := by decide +kernel
theorem dX7_mixRow_29 : decode cX7_mixRow 29 = .ok (.lload 4, 2) := by decide +kernel
theorem dX7_mixRow_31 : decode cX7_mixRow 31 = .ok (.lreturn, 1) := by decide +kernel
theorem dX7_mixList_0 : decode cX7_mixList 0 = .ok (.lload_n 1, 1) := by decide +kernel
theorem dX7_mixList_1 : decode cX7_mixList 1 = .ok (.aload_n 3, 1) := by decide +kernel
theorem dX7_mixList_2 : decode cX7_mixList 2 = .ok (.getfield 69, 3) := by decide +kernel
theorem dX7_mixList_5 : decode cX7_mixList 5 = .ok (.invokestatic 185, 3) := by decide +kernel
theorem dX7_mixList_8 : decode cX7_mixList 8 = .ok (.aload_n 3, 1) := by decide +kernel
theorem dX7_mixList_9 : decode cX7_mixList 9 = .ok (.getfield 218, 3) := by decide +kernel
theorem dX7_mixList_12 : decode cX7_mixList 12 = .ok (.aload_n 3, 1) := by decide +kernel
theorem dX7_mixList_13 : decode cX7_mixList 13 = .ok (.getfield 69, 3) := by decide +kernel
theorem dX7_mixList_16 : decode cX7_mixList 16 = .ok (.invokestatic 189, 3) := by decide +kernel
theorem dX7_mixList_19 : decode cX7_mixList 19 = .ok (.lstore 4, 2) := by decide +kernel
theorem dX7_mixList_21 : decode cX7_mixList 21 = .ok (.lload 4, 2) := by decide +kernel
theorem dX7_mixList_23 : decode cX7_mixList 23 = .ok (.aload_n 3, 1) := by decide +kernel
theorem dX7_mixList_24 : decode cX7_mixList 24 = .ok (.getfield 107, 3) := by decide +kernel
theorem dX7_mixList_27 : decode cX7_mixList 27 = .ok (.invokestatic 185, 3) := by decide +kernel
theorem dX7_mixList_30 : decode cX7_mixList 30 = .ok (.lstore 4, 2) := by decide +kernel
theorem dX7_mixList_32 : decode cX7_mixList 32 = .ok (.lload 4, 2) := by decide +kernel
theorem dX7_mixList_34 : decode cX7_mixList 34 = .ok (.aload_n 3, 1) := by decide +kernel
theorem dX7_mixList_35 : decode cX7_mixList 35 = .ok (.getfield 221, 3) := by decide +kernel
theorem dX7_mixList_38 : decode cX7_mixList 38 = .ok (.aload_n 3, 1) := by decide +kernel
theorem dX7_mixList_39 : decode cX7_mixList 39 = .ok (.getfield 107, 3) := by decide +kernel
theorem dX7_mixList_42 : decode cX7_mixList 42 = .ok (.bipush 6, 2) := by decide +kernel
theorem dX7_mixList_44 : decode cX7_mixList 44 = .ok (.imul, 1) := by decide +kernel
theorem dX7_mixList_45 : decode cX7_mixList 45 = .ok (.invokestatic 189, 3) := by decide +kernel
theorem dX7_mixList_48 : decode cX7_mixList 48 = .ok (.lstore 4, 2) := by decide +kernel
theorem dX7_mixList_50 : decode cX7_mixList 50 = .ok (.aload_n 0, 1) := by decide +kernel
theorem dX7_mixList_51 : decode cX7_mixList 51 = .ok (.getfield 33, 3) := by decide +kernel
theorem dX7_mixList_54 : decode cX7_mixList 54 = .ok (.aload_n 3, 1) := by decide +kernel
theorem dX7_mixList_55 : decode cX7_mixList 55 = .ok (.invokevirtual 116, 3) := by decide +kernel
theorem dX7_mixList_58 : decode cX7_mixList 58 = .ok (.lload 4, 2) := by decide +kernel
theorem dX7_mixList_60 : decode cX7_mixList 60 = .ok (.aload_n 0, 1) := by decide +kernel
theorem dX7_mixList_61 : decode cX7_mixList 61 = .ok (.getfield 33, 3) := by decide +kernel
theorem dX7_mixList_64 : decode cX7_mixList 64 = .ok (.getfield 224, 3) := by decide +kernel
theorem dX7_mixList_67 : decode cX7_mixList 67 = .ok (.aload_n 0, 1) := by decide +kernel
theorem dX7_mixList_68 : decode cX7_mixList 68 = .ok (.getfield 33, 3) := by decide +kernel
theorem dX7_mixList_71 : decode cX7_mixList 71 = .ok (.getfield 227, 3) := by decide +kernel
theorem dX7_mixList_74 : decode cX7_mixList 74 = .ok (.invokestatic 189, 3) := by decide +kernel
theorem dX7_mixList_77 : decode cX7_mixList 77 = .ok (.lreturn, 1) := by decide +kernel
