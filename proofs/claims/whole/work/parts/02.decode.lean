theorem dX0_init_0 : decode cX0_init 0 = .ok (.aload_n 0, 1) := by decide +kernel
theorem dX0_init_1 : decode cX0_init 1 = .ok (.invokespecial 3, 3) := by decide +kernel
theorem dX0_init_4 : decode cX0_init 4 = .ok (.aload_n 0, 1) := by decide +kernel
theorem dX0_init_5 : decode cX0_init 5 = .ok (.iconst 4, 1) := by decide +kernel
theorem dX0_init_6 : decode cX0_init 6 = .ok (.anewarray 9, 3) := by decide +kernel
theorem dX0_init_9 : decode cX0_init 9 = .ok (.putfield 11, 3) := by decide +kernel
theorem dX0_init_12 : decode cX0_init 12 = .ok (.iconst 0, 1) := by decide +kernel
theorem dX0_init_13 : decode cX0_init 13 = .ok (.istore_n 1, 1) := by decide +kernel
theorem dX0_init_14 : decode cX0_init 14 = .ok (.iload_n 1, 1) := by decide +kernel
theorem dX0_init_15 : decode cX0_init 15 = .ok (.aload_n 0, 1) := by decide +kernel
theorem dX0_init_16 : decode cX0_init 16 = .ok (.getfield 11, 3) := by decide +kernel
theorem dX0_init_19 : decode cX0_init 19 = .ok (.arraylength, 1) := by decide +kernel
theorem dX0_init_20 : decode cX0_init 20 = .ok (.if_icmp .ge 22, 3) := by decide +kernel
theorem dX0_init_23 : decode cX0_init 23 = .ok (.aload_n 0, 1) := by decide +kernel
theorem dX0_init_24 : decode cX0_init 24 = .ok (.getfield 11, 3) := by decide +kernel
theorem dX0_init_27 : decode cX0_init 27 = .ok (.iload_n 1, 1) := by decide +kernel
theorem dX0_init_28 : decode cX0_init 28 = .ok (.new 9, 3) := by decide +kernel
theorem dX0_init_31 : decode cX0_init 31 = .ok (.dup, 1) := by decide +kernel
theorem dX0_init_32 : decode cX0_init 32 = .ok (.invokespecial 17, 3) := by decide +kernel
theorem dX0_init_35 : decode cX0_init 35 = .ok (.aastore, 1) := by decide +kernel
theorem dX0_init_36 : decode cX0_init 36 = .ok (.iinc 1 1, 3) := by decide +kernel
theorem dX0_init_39 : decode cX0_init 39 = .ok (.goto (-25), 3) := by decide +kernel
theorem dX0_init_42 : decode cX0_init 42 = .ok (.return_, 1) := by decide +kernel
theorem dX0_size_0 : decode cX0_size 0 = .ok (.aload_n 0, 1) := by decide +kernel
theorem dX0_size_1 : decode cX0_size 1 = .ok (.getfield 18, 3) := by decide +kernel
theorem dX0_size_4 : decode cX0_size 4 = .ok (.ireturn, 1) := by decide +kernel
theorem dX0_keep_0 : decode cX0_keep 0 = .ok (.aload_n 0, 1) := by decide +kernel
theorem dX0_keep_1 : decode cX0_keep 1 = .ok (.getfield 18, 3) := by decide +kernel
theorem dX0_keep_4 : decode cX0_keep 4 = .ok (.iconst 4, 1) := by decide +kernel
theorem dX0_keep_5 : decode cX0_keep 5 = .ok (.if_icmp .lt 25, 3) := by decide +kernel
theorem dX0_keep_8 : decode cX0_keep 8 = .ok (.aload_n 0, 1) := by decide +kernel
theorem dX0_keep_9 : decode cX0_keep 9 = .ok (.aload_n 0, 1) := by decide +kernel
theorem dX0_keep_10 : decode cX0_keep 10 = .ok (.getfield 22, 3) := by decide +kernel
theorem dX0_keep_13 : decode cX0_keep 13 = .ok (.iconst 1, 1) := by decide +kernel
theorem dX0_keep_14 : decode cX0_keep 14 = .ok (.iadd, 1) := by decide +kernel
theorem dX0_keep_15 : decode cX0_keep 15 = .ok (.iconst 4, 1) := by decide +kernel
theorem dX0_keep_16 : decode cX0_keep 16 = .ok (.irem, 1) := by decide +kernel
theorem dX0_keep_17 : decode cX0_keep 17 = .ok (.putfield 22, 3) := by decide +kernel
theorem dX0_keep_20 : decode cX0_keep 20 = .ok (.aload_n 0, 1) := by decide +kernel
theorem dX0_keep_21 : decode cX0_keep 21 = .ok (.dup, 1) := by decide +kernel
theorem dX0_keep_22 : decode cX0_keep 22 = .ok (.getfield 18, 3) := by decide +kernel
theorem dX0_keep_25 : decode cX0_keep 25 = .ok (.iconst 1, 1) := by decide +kernel
theorem dX0_keep_26 : decode cX0_keep 26 = .ok (.isub, 1) := by decide +kernel
theorem dX0_keep_27 : decode cX0_keep 27 = .ok (.putfield 18, 3) := by decide +kernel
theorem dX0_keep_30 : decode cX0_keep 30 = .ok (.aload_n 0, 1) := by decide +kernel
theorem dX0_keep_31 : decode cX0_keep 31 = .ok (.aload_n 0, 1) := by decide +kernel
theorem dX0_keep_32 : decode cX0_keep 32 = .ok (.getfield 18, 3) := by decide +kernel
theorem dX0_keep_35 : decode cX0_keep 35 = .ok (.invokevirtual 25, 3) := by decide +kernel
theorem dX0_keep_38 : decode cX0_keep 38 = .ok (.astore_n 2, 1) := by decide +kernel
theorem dX0_keep_39 : decode cX0_keep 39 = .ok (.aload_n 2, 1) := by decide +kernel
theorem dX0_keep_40 : decode cX0_keep 40 = .ok (.ifnull 18, 3) := by decide +kernel
theorem dX0_keep_43 : decode cX0_keep 43 = .ok (.aload_n 2, 1) := by decide +kernel
theorem dX0_keep_44 : decode cX0_keep 44 = .ok (.aload_n 1, 1) := by decide +kernel
theorem dX0_keep_45 : decode cX0_keep 45 = .ok (.invokevirtual 29, 3) := by decide +kernel
theorem dX0_keep_48 : decode cX0_keep 48 = .ok (.aload_n 0, 1) := by decide +kernel
theorem dX0_keep_49 : decode cX0_keep 49 = .ok (.dup, 1) := by decide +kernel
theorem dX0_keep_50 : decode cX0_keep 50 = .ok (.getfield 18, 3) := by decide +kernel
theorem dX0_keep_53 : decode cX0_keep 53 = .ok (.iconst 1, 1) := by decide +kernel
theorem dX0_keep_54 : decode cX0_keep 54 = .ok (.iadd, 1) := by decide +kernel
theorem dX0_keep_55 : decode cX0_keep 55 = .ok (.putfield 18, 3) := by decide +kernel
theorem dX0_keep_58 : decode cX0_keep 58 = .ok (.return_, 1) := by decide +kernel
theorem dX0_restore_0 : decode cX0_restore 0 = .ok (.aload_n 0, 1) := by decide +kernel
theorem dX0_restore_1 : decode cX0_restore 1 = .ok (.getfield 18, 3) := by decide +kernel
theorem dX0_restore_4 : decode cX0_restore 4 = .ok (.ifCond .le 16, 3) := by decide +kernel
theorem dX0_restore_7 : decode cX0_restore 7 = .ok (.aload_n 0, 1) := by decide +kernel
theorem dX0_restore_8 : decode cX0_restore 8 = .ok (.aload_n 0, 1) := by decide +kernel
theorem dX0_restore_9 : decode cX0_restore 9 = .ok (.getfield 18, 3) := by decide +kernel
theorem dX0_restore_12 : decode cX0_restore 12 = .ok (.iconst 1, 1) := by decide +kernel
theorem dX0_restore_13 : decode cX0_restore 13 = .ok (.isub, 1) := by decide +kernel
theorem dX0_restore_14 : decode cX0_restore 14 = .ok (.invokevirtual 25, 3) := by decide +kernel
theorem dX0_restore_17 : decode cX0_restore 17 = .ok (.goto 4, 3) := by decide +kernel
theorem dX0_restore_20 : decode cX0_restore 20 = .ok (.aconst_null, 1) := by decide +kernel
theorem dX0_restore_21 : decode cX0_restore 21 = .ok (.astore_n 2, 1) := by decide +kernel
theorem dX0_restore_22 : decode cX0_restore 22 = .ok (.aload_n 2, 1) := by decide +kernel
theorem dX0_restore_23 : decode cX0_restore 23 = .ok (.ifnull 18, 3) := by decide +kernel
theorem dX0_restore_26 : decode cX0_restore 26 = .ok (.aload_n 1, 1) := by decide +kernel
theorem dX0_restore_27 : decode cX0_restore 27 = .ok (.aload_n 2, 1) := by decide +kernel
theorem dX0_restore_28 : decode cX0_restore 28 = .ok (.invokevirtual 29, 3) := by decide +kernel
theorem dX0_restore_31 : decode cX0_restore 31 = .ok (.aload_n 0, 1) := by decide +kernel
theorem dX0_restore_32 : decode cX0_restore 32 = .ok (.dup, 1) := by decide +kernel
theorem dX0_restore_33 : decode cX0_restore 33 = .ok (.getfield 18, 3) := by decide +kernel
theorem dX0_restore_36 : decode cX0_restore 36 = .ok (.iconst 1, 1) := by decide +kernel
theorem dX0_restore_37 : decode cX0_restore 37 = .ok (.isub, 1) := by decide +kernel
theorem dX0_restore_38 : decode cX0_restore 38 = .ok (.putfield 18, 3) := by decide +kernel
theorem dX0_restore_41 : decode cX0_restore 41 = .ok (.return_, 1) := by decide +kernel
theorem dX0_slotAt_0 : decode cX0_slotAt 0 = .ok (.aload_n 0, 1) := by decide +kernel
theorem dX0_slotAt_1 : decode cX0_slotAt 1 = .ok (.getfield 22, 3) := by decide +kernel
theorem dX0_slotAt_4 : decode cX0_slotAt 4 = .ok (.iload_n 1, 1) := by decide +kernel
theorem dX0_slotAt_5 : decode cX0_slotAt 5 = .ok (.iadd, 1) := by decide +kernel
theorem dX0_slotAt_6 : decode cX0_slotAt 6 = .ok (.iconst 4, 1) := by decide +kernel
theorem dX0_slotAt_7 : decode cX0_slotAt 7 = .ok (.irem, 1) := by decide +kernel
theorem dX0_slotAt_8 : decode cX0_slotAt 8 = .ok (.istore_n 2, 1) := by decide +kernel
theorem dX0_slotAt_9 : decode cX0_slotAt 9 = .ok (.iload_n 2, 1) := by decide +kernel
theorem dX0_slotAt_10 : decode cX0_slotAt 10 = .ok (.ifCond .lt 21, 3) := by decide +kernel
theorem dX0_slotAt_13 : decode cX0_slotAt 13 = .ok (.iload_n 2, 1) := by decide +kernel
theorem dX0_slotAt_14 : decode cX0_slotAt 14 = .ok (.aload_n 0, 1) := by decide +kernel
theorem dX0_slotAt_15 : decode cX0_slotAt 15 = .ok (.getfield 11, 3) := by decide +kernel
theorem dX0_slotAt_18 : decode cX0_slotAt 18 = .ok (.arraylength, 1) := by decide +kernel
theorem dX0_slotAt_19 : decode cX0_slotAt 19 = .ok (.if_icmp .ge 12, 3) := by decide +kernel
theorem dX0_slotAt_22 : decode cX0_slotAt 22 = .ok (.aload_n 0, 1) := by decide +kernel
theorem dX0_slotAt_23 : decode cX0_slotAt 23 = .ok (.getfield 11, 3) := by decide +kernel
theorem dX0_slotAt_26 : decode cX0_slotAt 26 = .ok (.iload_n 2, 1) := by decide +kernel
theorem dX0_slotAt_27 : decode cX0_slotAt 27 = .ok (.aaload, 1) := by decide +kernel
theorem dX0_slotAt_28 : decode cX0_slotAt 28 = .ok (.goto 4, 3) := by decide +kernel
theorem dX0_slotAt_31 : decode cX0_slotAt 31 = .ok (.aconst_null, 1) := by decide +kernel
theorem dX0_slotAt_32 : decode cX0_slotAt 32 = .ok (.areturn, 1) := by decide +kernel
theorem dX1_init_0 : decode cX1_init 0 = .ok (.aload_n 0, 1) := by decide +kernel
theorem dX1_init_1 : decode cX1_init 1 = .ok (.invokespecial 3, 3) := by decide +kernel
theorem dX1_init_4 : decode cX1_init 4 = .ok (.aload_n 0, 1) := by decide +kernel
theorem dX1_init_5 : decode cX1_init 5 = .ok (.iload_n 1, 1) := by decide +kernel
theorem dX1_init_6 : decode cX1_init 6 = .ok (.iconst 0, 1) := by decide +kernel
theorem dX1_init_7 : decode cX1_init 7 = .ok (.invokestatic 9, 3) := by decide +kernel
theorem dX1_init_10 : decode cX1_init 10 = .ok (.newarray .int, 2) := by decide +kernel
theorem dX1_init_12 : decode cX1_init 12 = .ok (.putfield 15, 3) := by decide +kernel
theorem dX1_init_15 : decode cX1_init 15 = .ok (.return_, 1) := by decide +kernel
theorem dX1_size_0 : decode cX1_size 0 = .ok (.aload_n 0, 1) := by decide +kernel
theorem dX1_size_1 : decode cX1_size 1 = .ok (.getfield 21, 3) := by decide +kernel
theorem dX1_size_4 : decode cX1_size 4 = .ok (.ireturn, 1) := by decide +kernel
theorem dX1_at_0 : decode cX1_at 0 = .ok (.iload_n 1, 1) := by decide +kernel
theorem dX1_at_1 : decode cX1_at 1 = .ok (.ifCond .lt 29, 3) := by decide +kernel
theorem dX1_at_4 : decode cX1_at 4 = .ok (.iload_n 1, 1) := by decide +kernel
theorem dX1_at_5 : decode cX1_at 5 = .ok (.aload_n 0, 1) := by decide +kernel
theorem dX1_at_6 : decode cX1_at 6 = .ok (.getfield 21, 3) := by decide +kernel
theorem dX1_at_9 : decode cX1_at 9 = .ok (.if_icmp .ge 21, 3) := by decide +kernel
theorem dX1_at_12 : decode cX1_at 12 = .ok (.iload_n 1, 1) := by decide +kernel
theorem dX1_at_13 : decode cX1_at 13 = .ok (.aload_n 0, 1) := by decide +kernel
theorem dX1_at_14 : decode cX1_at 14 = .ok (.getfield 15, 3) := by decide +kernel
theorem dX1_at_17 : decode cX1_at 17 = .ok (.arraylength, 1) := by decide +kernel
theorem dX1_at_18 : decode cX1_at 18 = .ok (.if_icmp .ge 12, 3) := by decide +kernel
theorem dX1_at_21 : decode cX1_at 21 = .ok (.aload_n 0, 1) := by decide +kernel
theorem dX1_at_22 : decode cX1_at 22 = .ok (.getfield 15, 3) := by decide +kernel
theorem dX1_at_25 : decode cX1_at 25 = .ok (.iload_n 1, 1) := by decide +kernel
theorem dX1_at_26 : decode cX1_at 26 = .ok (.iaload, 1) := by decide +kernel
theorem dX1_at_27 : decode cX1_at 27 = .ok (.goto 4, 3) := by decide +kernel
theorem dX1_at_30 : decode cX1_at 30 = .ok (.iconst (-1), 1) := by decide +kernel
theorem dX1_at_31 : decode cX1_at 31 = .ok (.ireturn, 1) := by decide +kernel
theorem dX1_put_0 : decode cX1_put 0 = .ok (.iload_n 1, 1) := by decide +kernel
theorem dX1_put_1 : decode cX1_put 1 = .ok (.ifCond .lt 27, 3) := by decide +kernel
theorem dX1_put_4 : decode cX1_put 4 = .ok (.iload_n 1, 1) := by decide +kernel
theorem dX1_put_5 : decode cX1_put 5 = .ok (.aload_n 0, 1) := by decide +kernel
theorem dX1_put_6 : decode cX1_put 6 = .ok (.getfield 21, 3) := by decide +kernel
theorem dX1_put_9 : decode cX1_put 9 = .ok (.if_icmp .ge 19, 3) := by decide +kernel
theorem dX1_put_12 : decode cX1_put 12 = .ok (.iload_n 1, 1) := by decide +kernel
theorem dX1_put_13 : decode cX1_put 13 = .ok (.aload_n 0, 1) := by decide +kernel
theorem dX1_put_14 : decode cX1_put 14 = .ok (.getfield 15, 3) := by decide +kernel
theorem dX1_put_17 : decode cX1_put 17 = .ok (.arraylength, 1) := by decide +kernel
theorem dX1_put_18 : decode cX1_put 18 = .ok (.if_icmp .ge 10, 3) := by decide +kernel
theorem dX1_put_21 : decode cX1_put 21 = .ok (.aload_n 0, 1) := by decide +kernel
theorem dX1_put_22 : decode cX1_put 22 = .ok (.getfield 15, 3) := by decide +kernel
theorem dX1_put_25 : decode cX1_put 25 = .ok (.iload_n 1, 1) := by decide +kernel
theorem dX1_put_26 : decode cX1_put 26 = .ok (.iload_n 2, 1) := by decide +kernel
theorem dX1_put_27 : decode cX1_put 27 = .ok (.iastore, 1) := by decide +kernel
theorem dX1_put_28 : decode cX1_put 28 = .ok (.return_, 1) := by decide +kernel
theorem dX1_add_0 : decode cX1_add 0 = .ok (.aload_n 0, 1) := by decide +kernel
theorem dX1_add_1 : decode cX1_add 1 = .ok (.aload_n 0, 1) := by decide +kernel
theorem dX1_add_2 : decode cX1_add 2 = .ok (.getfield 21, 3) := by decide +kernel
theorem dX1_add_5 : decode cX1_add 5 = .ok (.iload_n 1, 1) := by decide +kernel
theorem dX1_add_6 : decode cX1_add 6 = .ok (.invokevirtual 25, 3) := by decide +kernel
theorem dX1_add_9 : decode cX1_add 9 = .ok (.return_, 1) := by decide +kernel
theorem dX1_putIn_0 : decode cX1_putIn 0 = .ok (.iload_n 1, 1) := by decide +kernel
theorem dX1_putIn_1 : decode cX1_putIn 1 = .ok (.ifCond .lt 23, 3) := by decide +kernel
theorem dX1_putIn_4 : decode cX1_putIn 4 = .ok (.iload_n 1, 1) := by decide +kernel
theorem dX1_putIn_5 : decode cX1_putIn 5 = .ok (.aload_n 0, 1) := by decide +kernel
theorem dX1_putIn_6 : decode cX1_putIn 6 = .ok (.getfield 21, 3) := by decide +kernel
theorem dX1_putIn_9 : decode cX1_putIn 9 = .ok (.if_icmp .gt 15, 3) := by decide +kernel
theorem dX1_putIn_12 : decode cX1_putIn 12 = .ok (.aload_n 0, 1) := by decide +kernel
theorem dX1_putIn_13 : decode cX1_putIn 13 = .ok (.getfield 21, 3) := by decide +kernel
theorem dX1_putIn_16 : decode cX1_putIn 16 = .ok (.aload_n 0, 1) := by decide +kernel
theorem dX1_putIn_17 : decode cX1_putIn 17 = .ok (.getfield 15, 3) := by decide +kernel
theorem dX1_putIn_20 : decode cX1_putIn 20 = .ok (.arraylength, 1) := by decide +kernel
theorem dX1_putIn_21 : decode cX1_putIn 21 = .ok (.if_icmp .lt 4, 3) := by decide +kernel
theorem dX1_putIn_24 : decode cX1_putIn 24 = .ok (.return_, 1) := by decide +kernel
theorem dX1_putIn_25 : decode cX1_putIn 25 = .ok (.aload_n 0, 1) := by decide +kernel
theorem dX1_putIn_26 : decode cX1_putIn 26 = .ok (.getfield 21, 3) := by decide +kernel
theorem dX1_putIn_29 : decode cX1_putIn 29 = .ok (.istore_n 3, 1) := by decide +kernel
theorem dX1_putIn_30 : decode cX1_putIn 30 = .ok (.iload_n 3, 1) := by decide +kernel
theorem dX1_putIn_31 : decode cX1_putIn 31 = .ok (.iload_n 1, 1) := by decide +kernel
theorem dX1_putIn_32 : decode cX1_putIn 32 = .ok (.if_icmp .le 23, 3) := by decide +kernel
theorem dX1_putIn_35 : decode cX1_putIn 35 = .ok (.aload_n 0, 1) := by decide +kernel
theorem dX1_putIn_36 : decode cX1_putIn 36 = .ok (.getfield 15, 3) := by decide +kernel
theorem dX1_putIn_39 : decode cX1_putIn 39 = .ok (.iload_n 3, 1) := by decide +kernel
theorem dX1_putIn_40 : decode cX1_putIn 40 = .ok (.aload_n 0, 1) := by decide +kernel
theorem dX1_putIn_41 : decode cX1_putIn 41 = .ok (.getfield 15, 3) := by decide +kernel
theorem dX1_putIn_44 : decode cX1_putIn 44 = .ok (.iload_n 3, 1) := by decide +kernel
theorem dX1_putIn_45 : decode cX1_putIn 45 = .ok (.iconst 1, 1) := by decide +kernel
theorem dX1_putIn_46 : decode cX1_putIn 46 = .ok (.isub, 1) := by decide +kernel
theorem dX1_putIn_47 : decode cX1_putIn 47 = .ok (.iaload, 1) := by decide +kernel
theorem dX1_putIn_48 : decode cX1_putIn 48 = .ok (.iastore, 1) := by decide +kernel
theorem dX1_putIn_49 : decode cX1_putIn 49 = .ok (.iinc 3 (-1), 3) := by decide +kernel
theorem dX1_putIn_52 : decode cX1_putIn 52 = .ok (.goto (-22), 3) := by decide +kernel
theorem dX1_putIn_55 : decode cX1_putIn 55 = .ok (.aload_n 0, 1) := by decide +kernel
theorem dX1_putIn_56 : decode cX1_putIn 56 = .ok (.getfield 15, 3) := by decide +kernel
theorem dX1_putIn_59 : decode cX1_putIn 59 = .ok (.iload_n 1, 1) := by decide +kernel
theorem dX1_putIn_60 : decode cX1_putIn 60 = .ok (.iload_n 2, 1) := by decide +kernel
theorem dX1_putIn_61 : decode cX1_putIn 61 = .ok (.iastore, 1) := by decide +kernel
theorem dX1_putIn_62 : decode cX1_putIn 62 = .ok (.aload_n 0, 1) := by decide +kernel
theorem dX1_putIn_63 : decode cX1_putIn 63 = .ok (.dup, 1) := by decide +kernel
theorem dX1_putIn_64 : decode cX1_putIn 64 = .ok (.getfield 21, 3) := by decide +kernel
theorem dX1_putIn_67 : decode cX1_putIn 67 = .ok (.iconst 1, 1) := by decide +kernel
theorem dX1_putIn_68 : decode cX1_putIn 68 = .ok (.iadd, 1) := by decide +kernel
theorem dX1_putIn_69 : decode cX1_putIn 69 = .ok (.putfield 21, 3) := by decide +kernel
theorem dX1_putIn_72 : decode cX1_putIn 72 = .ok (.return_, 1) := by decide +kernel
theorem dX1_takeOut_0 : decode cX1_takeOut 0 = .ok (.iload_n 1, 1) := by decide +kernel
theorem dX1_takeOut_1 : decode cX1_takeOut 1 = .ok (.ifCond .lt 16, 3) := by decide +kernel
theorem dX1_takeOut_4 : decode cX1_takeOut 4 = .ok (.iload_n 2, 1) := by decide +kernel
theorem dX1_takeOut_5 : decode cX1_takeOut 5 = .ok (.iload_n 1, 1) := by decide +kernel
theorem dX1_takeOut_6 : decode cX1_takeOut 6 = .ok (.if_icmp .lt 11, 3) := by decide +kernel
theorem dX1_takeOut_9 : decode cX1_takeOut 9 = .ok (.iload_n 2, 1) := by decide +kernel
theorem dX1_takeOut_10 : decode cX1_takeOut 10 = .ok (.aload_n 0, 1) := by decide +kernel
theorem dX1_takeOut_11 : decode cX1_takeOut 11 = .ok (.getfield 21, 3) := by decide +kernel
theorem dX1_takeOut_14 : decode cX1_takeOut 14 = .ok (.if_icmp .le 4, 3) := by decide +kernel
theorem dX1_takeOut_17 : decode cX1_takeOut 17 = .ok (.return_, 1) := by decide +kernel
theorem dX1_takeOut_18 : decode cX1_takeOut 18 = .ok (.iload_n 2, 1) := by decide +kernel
theorem dX1_takeOut_19 : decode cX1_takeOut 19 = .ok (.istore_n 3, 1) := by decide +kernel
theorem dX1_takeOut_20 : decode cX1_takeOut 20 = .ok (.iload_n 3, 1) := by decide +kernel
theorem dX1_takeOut_21 : decode cX1_takeOut 21 = .ok (.aload_n 0, 1) := by decide +kernel
theorem dX1_takeOut_22 : decode cX1_takeOut 22 = .ok (.getfield 21, 3) := by decide +kernel
theorem dX1_takeOut_25 : decode cX1_takeOut 25 = .ok (.if_icmp .ge 23, 3) := by decide +kernel
theorem dX1_takeOut_28 : decode cX1_takeOut 28 = .ok (.aload_n 0, 1) := by decide +kernel
theorem dX1_takeOut_29 : decode cX1_takeOut 29 = .ok (.iload_n 1, 1) := by decide +kernel
theorem dX1_takeOut_30 : decode cX1_takeOut 30 = .ok (.iload_n 3, 1) := by decide +kernel
theorem dX1_takeOut_31 : decode cX1_takeOut 31 = .ok (.iadd, 1) := by decide +kernel
theorem dX1_takeOut_32 : decode cX1_takeOut 32 = .ok (.iload_n 2, 1) := by decide +kernel
theorem dX1_takeOut_33 : decode cX1_takeOut 33 = .ok (.isub, 1) := by decide +kernel
theorem dX1_takeOut_34 : decode cX1_takeOut 34 = .ok (.aload_n 0, 1) := by decide +kernel
theorem dX1_takeOut_35 : decode cX1_takeOut 35 = .ok (.iload_n 3, 1) := by decide +kernel
theorem dX1_takeOut_36 : decode cX1_takeOut 36 = .ok (.invokevirtual 29, 3) := by decide +kernel
theorem dX1_takeOut_39 : decode cX1_takeOut 39 = .ok (.invokevirtual 33, 3) := by decide +kernel
theorem dX1_takeOut_42 : decode cX1_takeOut 42 = .ok (.iinc 3 1, 3) := by decide +kernel
theorem dX1_takeOut_45 : decode cX1_takeOut 45 = .ok (.goto (-25), 3) := by decide +kernel
theorem dX1_takeOut_48 : decode cX1_takeOut 48 = .ok (.aload_n 0, 1) := by decide +kernel
theorem dX1_takeOut_49 : decode cX1_takeOut 49 = .ok (.dup, 1) := by decide +kernel
theorem dX1_takeOut_50 : decode cX1_takeOut 50 = .ok (.getfield 21, 3) := by decide +kernel
theorem dX1_takeOut_53 : decode cX1_takeOut 53 = .ok (.iload_n 2, 1) := by decide +kernel
theorem dX1_takeOut_54 : decode cX1_takeOut 54 = .ok (.iload_n 1, 1) := by decide +kernel
theorem dX1_takeOut_55 : decode cX1_takeOut 55 = .ok (.isub, 1) := by decide +kernel
theorem dX1_takeOut_56 : decode cX1_takeOut 56 = .ok (.isub, 1) := by decide +kernel
theorem dX1_takeOut_57 : decode cX1_takeOut 57 = .ok (.putfield 21, 3) := by decide +kernel
theorem dX1_takeOut_60 : decode cX1_takeOut 60 = .ok (.return_, 1) := by decide +kernel
theorem dX1_turnAbout_0 : decode cX1_turnAbout 0 = .ok (.iload_n 1, 1) := by decide +kernel
theorem dX1_turnAbout_1 : decode cX1_turnAbout 1 = .ok (.istore_n 3, 1) := by decide +kernel
theorem dX1_turnAbout_2 : decode cX1_turnAbout 2 = .ok (.iload_n 2, 1) := by decide +kernel
theorem dX1_turnAbout_3 : decode cX1_turnAbout 3 = .ok (.iconst 1, 1) := by decide +kernel
theorem dX1_turnAbout_4 : decode cX1_turnAbout 4 = .ok (.isub, 1) := by decide +kernel
theorem dX1_turnAbout_5 : decode cX1_turnAbout 5 = .ok (.istore 4, 2) := by decide +kernel
theorem dX1_turnAbout_7 : decode cX1_turnAbout 7 = .ok (.iload_n 3, 1) := by decide +kernel
theorem dX1_turnAbout_8 : decode cX1_turnAbout 8 = .ok (.iload 4, 2) := by decide +kernel
theorem dX1_turnAbout_10 : decode cX1_turnAbout 10 = .ok (.if_icmp .ge 38, 3) := by decide +kernel
theorem dX1_turnAbout_13 : decode cX1_turnAbout 13 = .ok (.aload_n 0, 1) := by decide +kernel
theorem dX1_turnAbout_14 : decode cX1_turnAbout 14 = .ok (.iload_n 3, 1) := by decide +kernel
theorem dX1_turnAbout_15 : decode cX1_turnAbout 15 = .ok (.invokevirtual 29, 3) := by decide +kernel
theorem dX1_turnAbout_18 : decode cX1_turnAbout 18 = .ok (.istore 5, 2) := by decide +kernel
theorem dX1_turnAbout_20 : decode cX1_turnAbout 20 = .ok (.aload_n 0, 1) := by decide +kernel
theorem dX1_turnAbout_21 : decode cX1_turnAbout 21 = .ok (.iload_n 3, 1) := by decide +kernel
theorem dX1_turnAbout_22 : decode cX1_turnAbout 22 = .ok (.aload_n 0, 1) := by decide +kernel
theorem dX1_turnAbout_23 : decode cX1_turnAbout 23 = .ok (.iload 4, 2) := by decide +kernel
theorem dX1_turnAbout_25 : decode cX1_turnAbout 25 = .ok (.invokevirtual 29, 3) := by decide +kernel
theorem dX1_turnAbout_28 : decode cX1_turnAbout 28 = .ok (.invokevirtual 33, 3) := by decide +kernel
theorem dX1_turnAbout_31 : decode cX1_turnAbout 31 = .ok (.aload_n 0, 1) := by decide +kernel
theorem dX1_turnAbout_32 : decode cX1_turnAbout 32 = .ok (.iload 4, 2) := by decide +kernel
theorem dX1_turnAbout_34 : decode cX1_turnAbout 34 = .ok (.iload 5, 2) := by decide +kernel
theorem dX1_turnAbout_36 : decode cX1_turnAbout 36 = .ok (.invokevirtual 33, 3) := by decide +kernel
theorem dX1_turnAbout_39 : decode cX1_turnAbout 39 = .ok (.iinc 3 1, 3) := by decide +kernel
theorem dX1_turnAbout_42 : decode cX1_turnAbout 42 = .ok (.iinc 4 (-1), 3) := by decide +kernel
theorem dX1_turnAbout_45 : decode cX1_turnAbout 45 = .ok (.goto (-38), 3) := by decide +kernel
theorem dX1_turnAbout_48 : decode cX1_turnAbout 48 = .ok (.return_, 1) := by decide +kernel
theorem dX1_exchangeRuns_0 : decode cX1_exchangeRuns 0 = .ok (.aload_n 0, 1) := by decide +kernel
theorem dX1_exchangeRuns_1 : decode cX1_exchangeRuns 1 = .ok (.iload_n 1, 1) := by decide +kernel
theorem dX1_exchangeRuns_2 : decode cX1_exchangeRuns 2 = .ok (.iload_n 3, 1) := by decide +kernel
theorem dX1_exchangeRuns_3 : decode cX1_exchangeRuns 3 = .ok (.invokevirtual 36, 3) := by decide +kernel
theorem dX1_exchangeRuns_6 : decode cX1_exchangeRuns 6 = .ok (.aload_n 0, 1) := by decide +kernel
theorem dX1_exchangeRuns_7 : decode cX1_exchangeRuns 7 = .ok (.iload_n 1, 1) := by decide +kernel
theorem dX1_exchangeRuns_8 : decode cX1_exchangeRuns 8 = .ok (.iload_n 1, 1) := by decide +kernel
theorem dX1_exchangeRuns_9 : decode cX1_exchangeRuns 9 = .ok (.iload_n 3, 1) := by decide +kernel
theorem dX1_exchangeRuns_10 : decode cX1_exchangeRuns 10 = .ok (.iadd, 1) := by decide +kernel
theorem dX1_exchangeRuns_11 : decode cX1_exchangeRuns 11 = .ok (.iload_n 2, 1) := by decide +kernel
theorem dX1_exchangeRuns_12 : decode cX1_exchangeRuns 12 = .ok (.isub, 1) := by decide +kernel
theorem dX1_exchangeRuns_13 : decode cX1_exchangeRuns 13 = .ok (.invokevirtual 36, 3) := by decide +kernel
theorem dX1_exchangeRuns_16 : decode cX1_exchangeRuns 16 = .ok (.aload_n 0, 1) := by decide +kernel
theorem dX1_exchangeRuns_17 : decode cX1_exchangeRuns 17 = .ok (.iload_n 1, 1) := by decide +kernel
theorem dX1_exchangeRuns_18 : decode cX1_exchangeRuns 18 = .ok (.iload_n 3, 1) := by decide +kernel
theorem dX1_exchangeRuns_19 : decode cX1_exchangeRuns 19 = .ok (.iadd, 1) := by decide +kernel
theorem dX1_exchangeRuns_20 : decode cX1_exchangeRuns 20 = .ok (.iload_n 2, 1) := by decide +kernel
theorem dX1_exchangeRuns_21 : decode cX1_exchangeRuns 21 = .ok (.isub, 1) := by decide +kernel
theorem dX1_exchangeRuns_22 : decode cX1_exchangeRuns 22 = .ok (.iload_n 3, 1) := by decide +kernel
theorem dX1_exchangeRuns_23 : decode cX1_exchangeRuns 23 = .ok (.invokevirtual 36, 3) := by decide +kernel
theorem dX1_exchangeRuns_26 : decode cX1_exchangeRuns 26 = .ok (.return_, 1) := by decide +kernel
theorem dX1_clear_0 : decode cX1_clear 0 = .ok (.aload_n 0, 1) := by decide +kernel
theorem dX1_clear_1 : decode cX1_clear 1 = .ok (.iconst 0, 1) := by decide +kernel
theorem dX1_clear_2 : decode cX1_clear 2 = .ok (.putfield 21, 3) := by decide +kernel
theorem dX1_clear_5 : decode cX1_clear 5 = .ok (.return_, 1) := by decide +kernel
theorem dX1_takeFrom_0 : decode cX1_takeFrom 0 = .ok (.aload_n 0, 1) := by decide +kernel
theorem dX1_takeFrom_1 : decode cX1_takeFrom 1 = .ok (.aload_n 1, 1) := by decide +kernel
theorem dX1_takeFrom_2 : decode cX1_takeFrom 2 = .ok (.getfield 21, 3) := by decide +kernel
theorem dX1_takeFrom_5 : decode cX1_takeFrom 5 = .ok (.aload_n 1, 1) := by decide +kernel
theorem dX1_takeFrom_6 : decode cX1_takeFrom 6 = .ok (.getfield 15, 3) := by decide +kernel
theorem dX1_takeFrom_9 : decode cX1_takeFrom 9 = .ok (.arraylength, 1) := by decide +kernel
theorem dX1_takeFrom_10 : decode cX1_takeFrom 10 = .ok (.aload_n 0, 1) := by decide +kernel
theorem dX1_takeFrom_11 : decode cX1_takeFrom 11 = .ok (.getfield 15, 3) := by decide +kernel
theorem dX1_takeFrom_14 : decode cX1_takeFrom 14 = .ok (.arraylength, 1) := by decide +kernel
theorem dX1_takeFrom_15 : decode cX1_takeFrom 15 = .ok (.invokestatic 39, 3) := by decide +kernel
theorem dX1_takeFrom_18 : decode cX1_takeFrom 18 = .ok (.invokestatic 39, 3) := by decide +kernel
theorem dX1_takeFrom_21 : decode cX1_takeFrom 21 = .ok (.putfield 21, 3) := by decide +kernel
theorem dX1_takeFrom_24 : decode cX1_takeFrom 24 = .ok (.iconst 0, 1) := by decide +kernel
theorem dX1_takeFrom_25 : decode cX1_takeFrom 25 = .ok (.istore_n 2, 1) := by decide +kernel
theorem dX1_takeFrom_26 : decode cX1_takeFrom 26 = .ok (.iload_n 2, 1) := by decide +kernel
theorem dX1_takeFrom_27 : decode cX1_takeFrom 27 = .ok (.aload_n 0, 1) := by decide +kernel
theorem dX1_takeFrom_28 : decode cX1_takeFrom 28 = .ok (.getfield 21, 3) := by decide +kernel
theorem dX1_takeFrom_31 : decode cX1_takeFrom 31 = .ok (.if_icmp .ge 21, 3) := by decide +kernel
theorem dX1_takeFrom_34 : decode cX1_takeFrom 34 = .ok (.aload_n 0, 1) := by decide +kernel
theorem dX1_takeFrom_35 : decode cX1_takeFrom 35 = .ok (.getfield 15, 3) := by decide +kernel
theorem dX1_takeFrom_38 : decode cX1_takeFrom 38 = .ok (.iload_n 2, 1) := by decide +kernel
theorem dX1_takeFrom_39 : decode cX1_takeFrom 39 = .ok (.aload_n 1, 1) := by decide +kernel
theorem dX1_takeFrom_40 : decode cX1_takeFrom 40 = .ok (.getfield 15, 3) := by decide +kernel
theorem dX1_takeFrom_43 : decode cX1_takeFrom 43 = .ok (.iload_n 2, 1) := by decide +kernel
theorem dX1_takeFrom_44 : decode cX1_takeFrom 44 = .ok (.iaload, 1) := by decide +kernel
theorem dX1_takeFrom_45 : decode cX1_takeFrom 45 = .ok (.iastore, 1) := by decide +kernel
theorem dX1_takeFrom_46 : decode cX1_takeFrom 46 = .ok (.iinc 2 1, 3) := by decide +kernel
theorem dX1_takeFrom_49 : decode cX1_takeFrom 49 = .ok (.goto (-23), 3) := by decide +kernel
theorem dX1_takeFrom_52 : decode cX1_takeFrom 52 = .ok (.return_, 1) := by decide +kernel
theorem dX2_init_0 : decode cX2_init 0 = .ok (.aload_n 0, 1) := by decide +kernel
theorem dX2_init_1 : decode cX2_init 1 = .ok (.invokespecial 3, 3) := by decide +kernel
theorem dX2_init_4 : decode cX2_init 4 = .ok (.aload_n 0, 1) := by decide +kernel
theorem dX2_init_5 : decode cX2_init 5 = .ok (.new 9, 3) := by decide +kernel
theorem dX2_init_8 : decode cX2_init 8 = .ok (.dup, 1) := by decide +kernel
theorem dX2_init_9 : decode cX2_init 9 = .ok (.invokespecial 11, 3) := by decide +kernel
theorem dX2_init_12 : decode cX2_init 12 = .ok (.putfield 12, 3) := by decide +kernel
theorem dX2_init_15 : decode cX2_init 15 = .ok (.aload_n 0, 1) := by decide +kernel
theorem dX2_init_16 : decode cX2_init 16 = .ok (.new 18, 3) := by decide +kernel
theorem dX2_init_19 : decode cX2_init 19 = .ok (.dup, 1) := by decide +kernel
theorem dX2_init_20 : decode cX2_init 20 = .ok (.bipush 7, 2) := by decide +kernel
theorem dX2_init_22 : decode cX2_init 22 = .ok (.invokespecial 20, 3) := by decide +kernel
theorem dX2_init_25 : decode cX2_init 25 = .ok (.putfield 23, 3) := by decide +kernel
theorem dX2_init_28 : decode cX2_init 28 = .ok (.return_, 1) := by decide +kernel
theorem dX2_passOver_0 : decode cX2_passOver 0 = .ok (.aload_n 0, 1) := by decide +kernel
theorem dX2_passOver_1 : decode cX2_passOver 1 = .ok (.getfield 12, 3) := by decide +kernel
theorem dX2_passOver_4 : decode cX2_passOver 4 = .ok (.invokevirtual 27, 3) := by decide +kernel
theorem dX2_passOver_7 : decode cX2_passOver 7 = .ok (.aload_n 0, 1) := by decide +kernel
theorem dX2_passOver_8 : decode cX2_passOver 8 = .ok (.getfield 23, 3) := by decide +kernel
theorem dX2_passOver_11 : decode cX2_passOver 11 = .ok (.invokevirtual 30, 3) := by decide +kernel
theorem dX2_passOver_14 : decode cX2_passOver 14 = .ok (.aload_n 0, 1) := by decide +kernel
theorem dX2_passOver_15 : decode cX2_passOver 15 = .ok (.iconst 1, 1) := by decide +kernel
theorem dX2_passOver_16 : decode cX2_passOver 16 = .ok (.putfield 31, 3) := by decide +kernel
theorem dX2_passOver_19 : decode cX2_passOver 19 = .ok (.aload_n 0, 1) := by decide +kernel
theorem dX2_passOver_20 : decode cX2_passOver 20 = .ok (.iconst 0, 1) := by decide +kernel
theorem dX2_passOver_21 : decode cX2_passOver 21 = .ok (.putfield 35, 3) := by decide +kernel
theorem dX2_passOver_24 : decode cX2_passOver 24 = .ok (.iconst 0, 1) := by decide +kernel
theorem dX2_passOver_25 : decode cX2_passOver 25 = .ok (.istore_n 2, 1) := by decide +kernel
theorem dX2_passOver_26 : decode cX2_passOver 26 = .ok (.iload_n 2, 1) := by decide +kernel
theorem dX2_passOver_27 : decode cX2_passOver 27 = .ok (.aload_n 1, 1) := by decide +kernel
theorem dX2_passOver_28 : decode cX2_passOver 28 = .ok (.invokevirtual 39, 3) := by decide +kernel
theorem dX2_passOver_31 : decode cX2_passOver 31 = .ok (.if_icmp .ge 34, 3) := by decide +kernel
theorem dX2_passOver_34 : decode cX2_passOver 34 = .ok (.aload_n 0, 1) := by decide +kernel
theorem dX2_passOver_35 : decode cX2_passOver 35 = .ok (.getfield 35, 3) := by decide +kernel
theorem dX2_passOver_38 : decode cX2_passOver 38 = .ok (.ifCond .ne 27, 3) := by decide +kernel
theorem dX2_passOver_41 : decode cX2_passOver 41 = .ok (.aload_n 0, 1) := by decide +kernel
theorem dX2_passOver_42 : decode cX2_passOver 42 = .ok (.iload_n 2, 1) := by decide +kernel
theorem dX2_passOver_43 : decode cX2_passOver 43 = .ok (.putfield 43, 3) := by decide +kernel
theorem dX2_passOver_46 : decode cX2_passOver 46 = .ok (.aload_n 0, 1) := by decide +kernel
theorem dX2_passOver_47 : decode cX2_passOver 47 = .ok (.aload_n 0, 1) := by decide +kernel
theorem dX2_passOver_48 : decode cX2_passOver 48 = .ok (.aload_n 1, 1) := by decide +kernel
theorem dX2_passOver_49 : decode cX2_passOver 49 = .ok (.iload_n 2, 1) := by decide +kernel
theorem dX2_passOver_50 : decode cX2_passOver 50 = .ok (.invokevirtual 46, 3) := by decide +kernel
theorem dX2_passOver_53 : decode cX2_passOver 53 = .ok (.invokevirtual 50, 3) := by decide +kernel
theorem dX2_passOver_56 : decode cX2_passOver 56 = .ok (.putfield 35, 3) := by decide +kernel
theorem dX2_passOver_59 : decode cX2_passOver 59 = .ok (.iinc 2 1, 3) := by decide +kernel
theorem dX2_passOver_62 : decode cX2_passOver 62 = .ok (.goto (-36), 3) := by decide +kernel
theorem dX2_passOver_65 : decode cX2_passOver 65 = .ok (.aload_n 0, 1) := by decide +kernel
theorem dX2_passOver_66 : decode cX2_passOver 66 = .ok (.getfield 35, 3) := by decide +kernel
theorem dX2_passOver_69 : decode cX2_passOver 69 = .ok (.ifCond .ne 33, 3) := by decide +kernel
theorem dX2_passOver_72 : decode cX2_passOver 72 = .ok (.aload_n 0, 1) := by decide +kernel
theorem dX2_passOver_73 : decode cX2_passOver 73 = .ok (.getfield 31, 3) := by decide +kernel
theorem dX2_passOver_76 : decode cX2_passOver 76 = .ok (.ifCond .ne 13, 3) := by decide +kernel
theorem dX2_passOver_79 : decode cX2_passOver 79 = .ok (.aload_n 0, 1) := by decide +kernel
theorem dX2_passOver_80 : decode cX2_passOver 80 = .ok (.getfield 23, 3) := by decide +kernel
theorem dX2_passOver_83 : decode cX2_passOver 83 = .ok (.invokevirtual 39, 3) := by decide +kernel
theorem dX2_passOver_86 : decode cX2_passOver 86 = .ok (.ifCond .le 16, 3) := by decide +kernel
theorem dX2_passOver_89 : decode cX2_passOver 89 = .ok (.aload_n 0, 1) := by decide +kernel
theorem dX2_passOver_90 : decode cX2_passOver 90 = .ok (.aload_n 1, 1) := by decide +kernel
theorem dX2_passOver_91 : decode cX2_passOver 91 = .ok (.invokevirtual 39, 3) := by decide +kernel
theorem dX2_passOver_94 : decode cX2_passOver 94 = .ok (.putfield 43, 3) := by decide +kernel
theorem dX2_passOver_97 : decode cX2_passOver 97 = .ok (.aload_n 0, 1) := by decide +kernel
theorem dX2_passOver_98 : decode cX2_passOver 98 = .ok (.iconst 1, 1) := by decide +kernel
theorem dX2_passOver_99 : decode cX2_passOver 99 = .ok (.putfield 35, 3) := by decide +kernel
theorem dX2_passOver_102 : decode cX2_passOver 102 = .ok (.return_, 1) := by decide +kernel
theorem dX2_reasonAgainst_0 : decode cX2_reasonAgainst 0 = .ok (.aload_n 0, 1) := by decide +kernel
theorem dX2_reasonAgainst_1 : decode cX2_reasonAgainst 1 = .ok (.getfield 31, 3) := by decide +kernel
theorem dX2_reasonAgainst_4 : decode cX2_reasonAgainst 4 = .ok (.ifCond .eq 12, 3) := by decide +kernel
theorem dX2_reasonAgainst_7 : decode cX2_reasonAgainst 7 = .ok (.aload_n 0, 1) := by decide +kernel
theorem dX2_reasonAgainst_8 : decode cX2_reasonAgainst 8 = .ok (.iload_n 1, 1) := by decide +kernel
theorem dX2_reasonAgainst_9 : decode cX2_reasonAgainst 9 = .ok (.bipush 97, 2) := by decide +kernel
theorem dX2_reasonAgainst_11 : decode cX2_reasonAgainst 11 = .ok (.isub, 1) := by decide +kernel
theorem dX2_reasonAgainst_12 : decode cX2_reasonAgainst 12 = .ok (.invokevirtual 53, 3) := by decide +kernel
theorem dX2_reasonAgainst_15 : decode cX2_reasonAgainst 15 = .ok (.ireturn, 1) := by decide +kernel
theorem dX2_reasonAgainst_16 : decode cX2_reasonAgainst 16 = .ok (.iload_n 1, 1) := by decide +kernel
theorem dX2_reasonAgainst_17 : decode cX2_reasonAgainst 17 = .ok (.bipush 40, 2) := by decide +kernel
theorem dX2_reasonAgainst_19 : decode cX2_reasonAgainst 19 = .ok (.if_icmp .ne 8, 3) := by decide +kernel
theorem dX2_reasonAgainst_22 : decode cX2_reasonAgainst 22 = .ok (.aload_n 0, 1) := by decide +kernel
theorem dX2_reasonAgainst_23 : decode cX2_reasonAgainst 23 = .ok (.invokevirtual 56, 3) := by decide +kernel
theorem dX2_reasonAgainst_26 : decode cX2_reasonAgainst 26 = .ok (.ireturn, 1) := by decide +kernel
theorem dX2_reasonAgainst_27 : decode cX2_reasonAgainst 27 = .ok (.aload_n 0, 1) := by decide +kernel
theorem dX2_reasonAgainst_28 : decode cX2_reasonAgainst 28 = .ok (.getfield 23, 3) := by decide +kernel
theorem dX2_reasonAgainst_31 : decode cX2_reasonAgainst 31 = .ok (.invokevirtual 39, 3) := by decide +kernel
theorem dX2_reasonAgainst_34 : decode cX2_reasonAgainst 34 = .ok (.ifCond .ne 5, 3) := by decide +kernel
theorem dX2_reasonAgainst_37 : decode cX2_reasonAgainst 37 = .ok (.iconst 1, 1) := by decide +kernel
theorem dX2_reasonAgainst_38 : decode cX2_reasonAgainst 38 = .ok (.ireturn, 1) := by decide +kernel
theorem dX2_reasonAgainst_39 : decode cX2_reasonAgainst 39 = .ok (.iload_n 1, 1) := by decide +kernel
theorem dX2_reasonAgainst_40 : decode cX2_reasonAgainst 40 = .ok (.bipush 44, 2) := by decide +kernel
theorem dX2_reasonAgainst_42 : decode cX2_reasonAgainst 42 = .ok (.if_icmp .ne 8, 3) := by decide +kernel
theorem dX2_reasonAgainst_45 : decode cX2_reasonAgainst 45 = .ok (.aload_n 0, 1) := by decide +kernel
theorem dX2_reasonAgainst_46 : decode cX2_reasonAgainst 46 = .ok (.invokevirtual 59, 3) := by decide +kernel
theorem dX2_reasonAgainst_49 : decode cX2_reasonAgainst 49 = .ok (.ireturn, 1) := by decide +kernel
theorem dX2_reasonAgainst_50 : decode cX2_reasonAgainst 50 = .ok (.iload_n 1, 1) := by decide +kernel
theorem dX2_reasonAgainst_51 : decode cX2_reasonAgainst 51 = .ok (.bipush 41, 2) := by decide +kernel
theorem dX2_reasonAgainst_53 : decode cX2_reasonAgainst 53 = .ok (.if_icmp .ne 8, 3) := by decide +kernel
theorem dX2_reasonAgainst_56 : decode cX2_reasonAgainst 56 = .ok (.aload_n 0, 1) := by decide +kernel
theorem dX2_reasonAgainst_57 : decode cX2_reasonAgainst 57 = .ok (.invokevirtual 62, 3) := by decide +kernel
theorem dX2_reasonAgainst_60 : decode cX2_reasonAgainst 60 = .ok (.ireturn, 1) := by decide +kernel
theorem dX2_reasonAgainst_61 : decode cX2_reasonAgainst 61 = .ok (.iconst 1, 1) := by decide +kernel
theorem dX2_reasonAgainst_62 : decode cX2_reasonAgainst 62 = .ok (.ireturn, 1) := by decide +kernel
theorem dX2_passLetter_0 : decode cX2_passLetter 0 = .ok (.iload_n 1, 1) := by decide +kernel
theorem dX2_passLetter_1 : decode cX2_passLetter 1 = .ok (.invokestatic 65, 3) := by decide +kernel
theorem dX2_passLetter_4 : decode cX2_passLetter 4 = .ok (.ifCond .ne 5, 3) := by decide +kernel
theorem dX2_passLetter_7 : decode cX2_passLetter 7 = .ok (.iconst 1, 1) := by decide +kernel
theorem dX2_passLetter_8 : decode cX2_passLetter 8 = .ok (.ireturn, 1) := by decide +kernel
theorem dX2_passLetter_9 : decode cX2_passLetter 9 = .ok (.aload_n 0, 1) := by decide +kernel
theorem dX2_passLetter_10 : decode cX2_passLetter 10 = .ok (.getfield 12, 3) := by decide +kernel
theorem dX2_passLetter_13 : decode cX2_passLetter 13 = .ok (.invokevirtual 69, 3) := by decide +kernel
theorem dX2_passLetter_16 : decode cX2_passLetter 16 = .ok (.bipush 40, 2) := by decide +kernel
theorem dX2_passLetter_18 : decode cX2_passLetter 18 = .ok (.if_icmp .lt 5, 3) := by decide +kernel
theorem dX2_passLetter_21 : decode cX2_passLetter 21 = .ok (.iconst 2, 1) := by decide +kernel
theorem dX2_passLetter_22 : decode cX2_passLetter 22 = .ok (.ireturn, 1) := by decide +kernel
theorem dX2_passLetter_23 : decode cX2_passLetter 23 = .ok (.aload_n 0, 1) := by decide +kernel
theorem dX2_passLetter_24 : decode cX2_passLetter 24 = .ok (.getfield 12, 3) := by decide +kernel
theorem dX2_passLetter_27 : decode cX2_passLetter 27 = .ok (.aload_n 0, 1) := by decide +kernel
theorem dX2_passLetter_28 : decode cX2_passLetter 28 = .ok (.getfield 12, 3) := by decide +kernel
theorem dX2_passLetter_31 : decode cX2_passLetter 31 = .ok (.invokevirtual 69, 3) := by decide +kernel
theorem dX2_passLetter_34 : decode cX2_passLetter 34 = .ok (.iload_n 1, 1) := by decide +kernel
theorem dX2_passLetter_35 : decode cX2_passLetter 35 = .ok (.aload_n 0, 1) := by decide +kernel
theorem dX2_passLetter_36 : decode cX2_passLetter 36 = .ok (.getfield 23, 3) := by decide +kernel
theorem dX2_passLetter_39 : decode cX2_passLetter 39 = .ok (.invokevirtual 39, 3) := by decide +kernel
theorem dX2_passLetter_42 : decode cX2_passLetter 42 = .ok (.invokevirtual 70, 3) := by decide +kernel
theorem dX2_passLetter_45 : decode cX2_passLetter 45 = .ok (.aload_n 0, 1) := by decide +kernel
theorem dX2_passLetter_46 : decode cX2_passLetter 46 = .ok (.getfield 23, 3) := by decide +kernel
theorem dX2_passLetter_49 : decode cX2_passLetter 49 = .ok (.invokevirtual 39, 3) := by decide +kernel
theorem dX2_passLetter_52 : decode cX2_passLetter 52 = .ok (.iconst 1, 1) := by decide +kernel
theorem dX2_passLetter_53 : decode cX2_passLetter 53 = .ok (.isub, 1) := by decide +kernel
theorem dX2_passLetter_54 : decode cX2_passLetter 54 = .ok (.istore_n 2, 1) := by decide +kernel
theorem dX2_passLetter_55 : decode cX2_passLetter 55 = .ok (.aload_n 0, 1) := by decide +kernel
theorem dX2_passLetter_56 : decode cX2_passLetter 56 = .ok (.getfield 23, 3) := by decide +kernel
theorem dX2_passLetter_59 : decode cX2_passLetter 59 = .ok (.iload_n 2, 1) := by decide +kernel
theorem dX2_passLetter_60 : decode cX2_passLetter 60 = .ok (.aload_n 0, 1) := by decide +kernel
theorem dX2_passLetter_61 : decode cX2_passLetter 61 = .ok (.getfield 23, 3) := by decide +kernel
theorem dX2_passLetter_64 : decode cX2_passLetter 64 = .ok (.iload_n 2, 1) := by decide +kernel
theorem dX2_passLetter_65 : decode cX2_passLetter 65 = .ok (.invokevirtual 46, 3) := by decide +kernel
theorem dX2_passLetter_68 : decode cX2_passLetter 68 = .ok (.iconst 1, 1) := by decide +kernel
theorem dX2_passLetter_69 : decode cX2_passLetter 69 = .ok (.iadd, 1) := by decide +kernel
theorem dX2_passLetter_70 : decode cX2_passLetter 70 = .ok (.invokevirtual 74, 3) := by decide +kernel
theorem dX2_passLetter_73 : decode cX2_passLetter 73 = .ok (.aload_n 0, 1) := by decide +kernel
theorem dX2_passLetter_74 : decode cX2_passLetter 74 = .ok (.iconst 0, 1) := by decide +kernel
theorem dX2_passLetter_75 : decode cX2_passLetter 75 = .ok (.putfield 31, 3) := by decide +kernel
theorem dX2_passLetter_78 : decode cX2_passLetter 78 = .ok (.aload_n 0, 1) := by decide +kernel
theorem dX2_passLetter_79 : decode cX2_passLetter 79 = .ok (.iconst 1, 1) := by decide +kernel
theorem dX2_passLetter_80 : decode cX2_passLetter 80 = .ok (.putfield 78, 3) := by decide +kernel
theorem dX2_passLetter_83 : decode cX2_passLetter 83 = .ok (.iconst 0, 1) := by decide +kernel
theorem dX2_passLetter_84 : decode cX2_passLetter 84 = .ok (.ireturn, 1) := by decide +kernel
theorem dX2_passOpening_0 : decode cX2_passOpening 0 = .ok (.aload_n 0, 1) := by decide +kernel
theorem dX2_passOpening_1 : decode cX2_passOpening 1 = .ok (.getfield 78, 3) := by decide +kernel
theorem dX2_passOpening_4 : decode cX2_passOpening 4 = .ok (.ifCond .ne 5, 3) := by decide +kernel
theorem dX2_passOpening_7 : decode cX2_passOpening 7 = .ok (.iconst 1, 1) := by decide +kernel
theorem dX2_passOpening_8 : decode cX2_passOpening 8 = .ok (.ireturn, 1) := by decide +kernel
theorem dX2_passOpening_9 : decode cX2_passOpening 9 = .ok (.aload_n 0, 1) := by decide +kernel
theorem dX2_passOpening_10 : decode cX2_passOpening 10 = .ok (.getfield 23, 3) := by decide +kernel
theorem dX2_passOpening_13 : decode cX2_passOpening 13 = .ok (.invokevirtual 39, 3) := by decide +kernel
theorem dX2_passOpening_16 : decode cX2_passOpening 16 = .ok (.bipush 7, 2) := by decide +kernel
theorem dX2_passOpening_18 : decode cX2_passOpening 18 = .ok (.if_icmp .lt 5, 3) := by decide +kernel
theorem dX2_passOpening_21 : decode cX2_passOpening 21 = .ok (.iconst 3, 1) := by decide +kernel
theorem dX2_passOpening_22 : decode cX2_passOpening 22 = .ok (.ireturn, 1) := by decide +kernel
theorem dX2_passOpening_23 : decode cX2_passOpening 23 = .ok (.aload_n 0, 1) := by decide +kernel
theorem dX2_passOpening_24 : decode cX2_passOpening 24 = .ok (.getfield 23, 3) := by decide +kernel
theorem dX2_passOpening_27 : decode cX2_passOpening 27 = .ok (.iconst 0, 1) := by decide +kernel
theorem dX2_passOpening_28 : decode cX2_passOpening 28 = .ok (.invokevirtual 81, 3) := by decide +kernel
theorem dX2_passOpening_31 : decode cX2_passOpening 31 = .ok (.aload_n 0, 1) := by decide +kernel
theorem dX2_passOpening_32 : decode cX2_passOpening 32 = .ok (.iconst 1, 1) := by decide +kernel
theorem dX2_passOpening_33 : decode cX2_passOpening 33 = .ok (.putfield 31, 3) := by decide +kernel
theorem dX2_passOpening_36 : decode cX2_passOpening 36 = .ok (.iconst 0, 1) := by decide +kernel
theorem dX2_passOpening_37 : decode cX2_passOpening 37 = .ok (.ireturn, 1) := by decide +kernel
theorem dX2_passComma_0 : decode cX2_passComma 0 = .ok (.aload_n 0, 1) := by decide +kernel
theorem dX2_passComma_1 : decode cX2_passComma 1 = .ok (.getfield 23, 3) := by decide +kernel
theorem dX2_passComma_4 : decode cX2_passComma 4 = .ok (.aload_n 0, 1) := by decide +kernel
theorem dX2_passComma_5 : decode cX2_passComma 5 = .ok (.getfield 23, 3) := by decide +kernel
theorem dX2_passComma_8 : decode cX2_passComma 8 = .ok (.invokevirtual 39, 3) := by decide +kernel
theorem dX2_passComma_11 : decode cX2_passComma 11 = .ok (.iconst 1, 1) := by decide +kernel
theorem dX2_passComma_12 : decode cX2_passComma 12 = .ok (.isub, 1) := by decide +kernel
theorem dX2_passComma_13 : decode cX2_passComma 13 = .ok (.invokevirtual 46, 3) := by decide +kernel
theorem dX2_passComma_16 : decode cX2_passComma 16 = .ok (.bipush 6, 2) := by decide +kernel
theorem dX2_passComma_18 : decode cX2_passComma 18 = .ok (.if_icmp .lt 5, 3) := by decide +kernel
theorem dX2_passComma_21 : decode cX2_passComma 21 = .ok (.iconst 4, 1) := by decide +kernel
theorem dX2_passComma_22 : decode cX2_passComma 22 = .ok (.ireturn, 1) := by decide +kernel
theorem dX2_passComma_23 : decode cX2_passComma 23 = .ok (.aload_n 0, 1) := by decide +kernel
theorem dX2_passComma_24 : decode cX2_passComma 24 = .ok (.iconst 1, 1) := by decide +kernel
theorem dX2_passComma_25 : decode cX2_passComma 25 = .ok (.putfield 31, 3) := by decide +kernel
theorem dX2_passComma_28 : decode cX2_passComma 28 = .ok (.iconst 0, 1) := by decide +kernel
theorem dX2_passComma_29 : decode cX2_passComma 29 = .ok (.ireturn, 1) := by decide +kernel
theorem dX2_passClosing_0 : decode cX2_passClosing 0 = .ok (.aload_n 0, 1) := by decide +kernel
theorem dX2_passClosing_1 : decode cX2_passClosing 1 = .ok (.getfield 23, 3) := by decide +kernel
theorem dX2_passClosing_4 : decode cX2_passClosing 4 = .ok (.aload_n 0, 1) := by decide +kernel
theorem dX2_passClosing_5 : decode cX2_passClosing 5 = .ok (.getfield 23, 3) := by decide +kernel
theorem dX2_passClosing_8 : decode cX2_passClosing 8 = .ok (.invokevirtual 39, 3) := by decide +kernel
theorem dX2_passClosing_11 : decode cX2_passClosing 11 = .ok (.iconst 1, 1) := by decide +kernel
theorem dX2_passClosing_12 : decode cX2_passClosing 12 = .ok (.isub, 1) := by decide +kernel
theorem dX2_passClosing_13 : decode cX2_passClosing 13 = .ok (.aload_n 0, 1) := by decide +kernel
theorem dX2_passClosing_14 : decode cX2_passClosing 14 = .ok (.getfield 23, 3) := by decide +kernel
theorem dX2_passClosing_17 : decode cX2_passClosing 17 = .ok (.invokevirtual 39, 3) := by decide +kernel
theorem dX2_passClosing_20 : decode cX2_passClosing 20 = .ok (.invokevirtual 84, 3) := by decide +kernel
theorem dX2_passClosing_23 : decode cX2_passClosing 23 = .ok (.aload_n 0, 1) := by decide +kernel
theorem dX2_passClosing_24 : decode cX2_passClosing 24 = .ok (.iconst 0, 1) := by decide +kernel
theorem dX2_passClosing_25 : decode cX2_passClosing 25 = .ok (.putfield 78, 3) := by decide +kernel
theorem dX2_passClosing_28 : decode cX2_passClosing 28 = .ok (.iconst 0, 1) := by decide +kernel
theorem dX2_passClosing_29 : decode cX2_passClosing 29 = .ok (.ireturn, 1) := by decide +kernel
theorem dX3_init_0 : decode cX3_init 0 = .ok (.aload_n 0, 1) := by decide +kernel
theorem dX3_init_1 : decode cX3_init 1 = .ok (.invokespecial 3, 3) := by decide +kernel
theorem dX3_init_4 : decode cX3_init 4 = .ok (.aload_n 0, 1) := by decide +kernel
theorem dX3_init_5 : decode cX3_init 5 = .ok (.new 9, 3) := by decide +kernel
theorem dX3_init_8 : decode cX3_init 8 = .ok (.dup, 1) := by decide +kernel
theorem dX3_init_9 : decode cX3_init 9 = .ok (.invokespecial 11, 3) := by decide +kernel
theorem dX3_init_12 : decode cX3_init 12 = .ok (.putfield 12, 3) := by decide +kernel
theorem dX3_init_15 : decode cX3_init 15 = .ok (.aload_n 0, 1) := by decide +kernel
theorem dX3_init_16 : decode cX3_init 16 = .ok (.new 9, 3) := by decide +kernel
theorem dX3_init_19 : decode cX3_init 19 = .ok (.dup, 1) := by decide +kernel
theorem dX3_init_20 : decode cX3_init 20 = .ok (.invokespecial 11, 3) := by decide +kernel
theorem dX3_init_23 : decode cX3_init 23 = .ok (.putfield 18, 3) := by decide +kernel
theorem dX3_init_26 : decode cX3_init 26 = .ok (.aload_n 0, 1) := by decide +kernel
theorem dX3_init_27 : decode cX3_init 27 = .ok (.new 21, 3) := by decide +kernel
theorem dX3_init_30 : decode cX3_init 30 = .ok (.dup, 1) := by decide +kernel
theorem dX3_init_31 : decode cX3_init 31 = .ok (.bipush 40, 2) := by decide +kernel
theorem dX3_init_33 : decode cX3_init 33 = .ok (.invokespecial 23, 3) := by decide +kernel
theorem dX3_init_36 : decode cX3_init 36 = .ok (.putfield 26, 3) := by decide +kernel
theorem dX3_init_39 : decode cX3_init 39 = .ok (.aload_n 0, 1) := by decide +kernel
theorem dX3_init_40 : decode cX3_init 40 = .ok (.new 21, 3) := by decide +kernel
theorem dX3_init_43 : decode cX3_init 43 = .ok (.dup, 1) := by decide +kernel
theorem dX3_init_44 : decode cX3_init 44 = .ok (.bipush 8, 2) := by decide +kernel
theorem dX3_init_46 : decode cX3_init 46 = .ok (.invokespecial 23, 3) := by decide +kernel
theorem dX3_init_49 : decode cX3_init 49 = .ok (.putfield 30, 3) := by decide +kernel
theorem dX3_init_52 : decode cX3_init 52 = .ok (.aload_n 0, 1) := by decide +kernel
theorem dX3_init_53 : decode cX3_init 53 = .ok (.new 21, 3) := by decide +kernel
theorem dX3_init_56 : decode cX3_init 56 = .ok (.dup, 1) := by decide +kernel
theorem dX3_init_57 : decode cX3_init 57 = .ok (.iconst 4, 1) := by decide +kernel
theorem dX3_init_58 : decode cX3_init 58 = .ok (.invokespecial 23, 3) := by decide +kernel
theorem dX3_init_61 : decode cX3_init 61 = .ok (.putfield 33, 3) := by decide +kernel
theorem dX3_init_64 : decode cX3_init 64 = .ok (.aload_n 0, 1) := by decide +kernel
theorem dX3_init_65 : decode cX3_init 65 = .ok (.invokevirtual 36, 3) := by decide +kernel
theorem dX3_init_68 : decode cX3_init 68 = .ok (.return_, 1) := by decide +kernel
theorem dX3_takeFrom_0 : decode cX3_takeFrom 0 = .ok (.aload_n 0, 1) := by decide +kernel
theorem dX3_takeFrom_1 : decode cX3_takeFrom 1 = .ok (.getfield 12, 3) := by decide +kernel
theorem dX3_takeFrom_4 : decode cX3_takeFrom 4 = .ok (.aload_n 1, 1) := by decide +kernel
theorem dX3_takeFrom_5 : decode cX3_takeFrom 5 = .ok (.getfield 12, 3) := by decide +kernel
theorem dX3_takeFrom_8 : decode cX3_takeFrom 8 = .ok (.invokevirtual 39, 3) := by decide +kernel
theorem dX3_takeFrom_11 : decode cX3_takeFrom 11 = .ok (.aload_n 0, 1) := by decide +kernel
theorem dX3_takeFrom_12 : decode cX3_takeFrom 12 = .ok (.getfield 18, 3) := by decide +kernel
theorem dX3_takeFrom_15 : decode cX3_takeFrom 15 = .ok (.aload_n 1, 1) := by decide +kernel
theorem dX3_takeFrom_16 : decode cX3_takeFrom 16 = .ok (.getfield 18, 3) := by decide +kernel
theorem dX3_takeFrom_19 : decode cX3_takeFrom 19 = .ok (.invokevirtual 39, 3) := by decide +kernel
theorem dX3_takeFrom_22 : decode cX3_takeFrom 22 = .ok (.aload_n 0, 1) := by decide +kernel
theorem dX3_takeFrom_23 : decode cX3_takeFrom 23 = .ok (.getfield 26, 3) := by decide +kernel
theorem dX3_takeFrom_26 : decode cX3_takeFrom 26 = .ok (.aload_n 1, 1) := by decide +kernel
theorem dX3_takeFrom_27 : decode cX3_takeFrom 27 = .ok (.getfield 26, 3) := by decide +kernel
theorem dX3_takeFrom_30 : decode cX3_takeFrom 30 = .ok (.invokevirtual 43, 3) := by decide +kernel
theorem dX3_takeFrom_33 : decode cX3_takeFrom 33 = .ok (.aload_n 0, 1) := by decide +kernel
theorem dX3_takeFrom_34 : decode cX3_takeFrom 34 = .ok (.getfield 30, 3) := by decide +kernel
theorem dX3_takeFrom_37 : decode cX3_takeFrom 37 = .ok (.aload_n 1, 1) := by decide +kernel
theorem dX3_takeFrom_38 : decode cX3_takeFrom 38 = .ok (.getfield 30, 3) := by decide +kernel
theorem dX3_takeFrom_41 : decode cX3_takeFrom 41 = .ok (.invokevirtual 43, 3) := by decide +kernel
theorem dX3_takeFrom_44 : decode cX3_takeFrom 44 = .ok (.aload_n 0, 1) := by decide +kernel
theorem dX3_takeFrom_45 : decode cX3_takeFrom 45 = .ok (.getfield 33, 3) := by decide +kernel
theorem dX3_takeFrom_48 : decode cX3_takeFrom 48 = .ok (.aload_n 1, 1) := by decide +kernel
theorem dX3_takeFrom_49 : decode cX3_takeFrom 49 = .ok (.getfield 33, 3) := by decide +kernel
theorem dX3_takeFrom_52 : decode cX3_takeFrom 52 = .ok (.invokevirtual 43, 3) := by decide +kernel
theorem dX3_takeFrom_55 : decode cX3_takeFrom 55 = .ok (.aload_n 0, 1) := by decide +kernel
theorem dX3_takeFrom_56 : decode cX3_takeFrom 56 = .ok (.aload_n 1, 1) := by decide +kernel
theorem dX3_takeFrom_57 : decode cX3_takeFrom 57 = .ok (.getfield 46, 3) := by decide +kernel
theorem dX3_takeFrom_60 : decode cX3_takeFrom 60 = .ok (.putfield 46, 3) := by decide +kernel
theorem dX3_takeFrom_63 : decode cX3_takeFrom 63 = .ok (.aload_n 0, 1) := by decide +kernel
theorem dX3_takeFrom_64 : decode cX3_takeFrom 64 = .ok (.aload_n 1, 1) := by decide +kernel
theorem dX3_takeFrom_65 : decode cX3_takeFrom 65 = .ok (.getfield 50, 3) := by decide +kernel
theorem dX3_takeFrom_68 : decode cX3_takeFrom 68 = .ok (.putfield 50, 3) := by decide +kernel
theorem dX3_takeFrom_71 : decode cX3_takeFrom 71 = .ok (.return_, 1) := by decide +kernel
theorem dX3_beginWith_0 : decode cX3_beginWith 0 = .ok (.aload_n 0, 1) := by decide +kernel
theorem dX3_beginWith_1 : decode cX3_beginWith 1 = .ok (.getfield 12, 3) := by decide +kernel
theorem dX3_beginWith_4 : decode cX3_beginWith 4 = .ok (.invokevirtual 53, 3) := by decide +kernel
theorem dX3_beginWith_7 : decode cX3_beginWith 7 = .ok (.aload_n 0, 1) := by decide +kernel
theorem dX3_beginWith_8 : decode cX3_beginWith 8 = .ok (.getfield 26, 3) := by decide +kernel
theorem dX3_beginWith_11 : decode cX3_beginWith 11 = .ok (.invokevirtual 56, 3) := by decide +kernel
theorem dX3_beginWith_14 : decode cX3_beginWith 14 = .ok (.aload_n 0, 1) := by decide +kernel
theorem dX3_beginWith_15 : decode cX3_beginWith 15 = .ok (.getfield 30, 3) := by decide +kernel
theorem dX3_beginWith_18 : decode cX3_beginWith 18 = .ok (.invokevirtual 56, 3) := by decide +kernel
theorem dX3_beginWith_21 : decode cX3_beginWith 21 = .ok (.aload_n 0, 1) := by decide +kernel
theorem dX3_beginWith_22 : decode cX3_beginWith 22 = .ok (.invokevirtual 36, 3) := by decide +kernel
theorem dX3_beginWith_25 : decode cX3_beginWith 25 = .ok (.aload_n 0, 1) := by decide +kernel
theorem dX3_beginWith_26 : decode cX3_beginWith 26 = .ok (.iconst 0, 1) := by decide +kernel
theorem dX3_beginWith_27 : decode cX3_beginWith 27 = .ok (.putfield 46, 3) := by decide +kernel
theorem dX3_beginWith_30 : decode cX3_beginWith 30 = .ok (.aload_n 0, 1) := by decide +kernel
theorem dX3_beginWith_31 : decode cX3_beginWith 31 = .ok (.aload_n 1, 1) := by decide +kernel
theorem dX3_beginWith_32 : decode cX3_beginWith 32 = .ok (.iconst 0, 1) := by decide +kernel
theorem dX3_beginWith_33 : decode cX3_beginWith 33 = .ok (.iconst 0, 1) := by decide +kernel
theorem dX3_beginWith_34 : decode cX3_beginWith 34 = .ok (.invokevirtual 57, 3) := by decide +kernel
theorem dX3_beginWith_37 : decode cX3_beginWith 37 = .ok (.return_, 1) := by decide +kernel
theorem dX3_clearMarks_0 : decode cX3_clearMarks 0 = .ok (.aload_n 0, 1) := by decide +kernel
theorem dX3_clearMarks_1 : decode cX3_clearMarks 1 = .ok (.getfield 33, 3) := by decide +kernel
theorem dX3_clearMarks_4 : decode cX3_clearMarks 4 = .ok (.invokevirtual 56, 3) := by decide +kernel
theorem dX3_clearMarks_7 : decode cX3_clearMarks 7 = .ok (.iconst 0, 1) := by decide +kernel
theorem dX3_clearMarks_8 : decode cX3_clearMarks 8 = .ok (.istore_n 1, 1) := by decide +kernel
theorem dX3_clearMarks_9 : decode cX3_clearMarks 9 = .ok (.iload_n 1, 1) := by decide +kernel
theorem dX3_clearMarks_10 : decode cX3_clearMarks 10 = .ok (.iconst 4, 1) := by decide +kernel
theorem dX3_clearMarks_11 : decode cX3_clearMarks 11 = .ok (.if_icmp .ge 17, 3) := by decide +kernel
theorem dX3_clearMarks_14 : decode cX3_clearMarks 14 = .ok (.aload_n 0, 1) := by decide +kernel
theorem dX3_clearMarks_15 : decode cX3_clearMarks 15 = .ok (.getfield 33, 3) := by decide +kernel
theorem dX3_clearMarks_18 : decode cX3_clearMarks 18 = .ok (.iconst (-1), 1) := by decide +kernel
theorem dX3_clearMarks_19 : decode cX3_clearMarks 19 = .ok (.invokevirtual 61, 3) := by decide +kernel
theorem dX3_clearMarks_22 : decode cX3_clearMarks 22 = .ok (.iinc 1 1, 3) := by decide +kernel
theorem dX3_clearMarks_25 : decode cX3_clearMarks 25 = .ok (.goto (-16), 3) := by decide +kernel
theorem dX3_clearMarks_28 : decode cX3_clearMarks 28 = .ok (.return_, 1) := by decide +kernel
theorem dX3_putNodeIn_0 : decode cX3_putNodeIn 0 = .ok (.aload_n 0, 1) := by decide +kernel
theorem dX3_putNodeIn_1 : decode cX3_putNodeIn 1 = .ok (.getfield 12, 3) := by decide +kernel
theorem dX3_putNodeIn_4 : decode cX3_putNodeIn 4 = .ok (.iload_n 1, 1) := by decide +kernel
theorem dX3_putNodeIn_5 : decode cX3_putNodeIn 5 = .ok (.iload_n 2, 1) := by decide +kernel
theorem dX3_putNodeIn_6 : decode cX3_putNodeIn 6 = .ok (.iload_n 3, 1) := by decide +kernel
theorem dX3_putNodeIn_7 : decode cX3_putNodeIn 7 = .ok (.invokevirtual 64, 3) := by decide +kernel
theorem dX3_putNodeIn_10 : decode cX3_putNodeIn 10 = .ok (.aload_n 0, 1) := by decide +kernel
theorem dX3_putNodeIn_11 : decode cX3_putNodeIn 11 = .ok (.getfield 26, 3) := by decide +kernel
theorem dX3_putNodeIn_14 : decode cX3_putNodeIn 14 = .ok (.iload_n 1, 1) := by decide +kernel
theorem dX3_putNodeIn_15 : decode cX3_putNodeIn 15 = .ok (.aload_n 0, 1) := by decide +kernel
theorem dX3_putNodeIn_16 : decode cX3_putNodeIn 16 = .ok (.getfield 50, 3) := by decide +kernel
theorem dX3_putNodeIn_19 : decode cX3_putNodeIn 19 = .ok (.invokevirtual 68, 3) := by decide +kernel
theorem dX3_putNodeIn_22 : decode cX3_putNodeIn 22 = .ok (.aload_n 0, 1) := by decide +kernel
theorem dX3_putNodeIn_23 : decode cX3_putNodeIn 23 = .ok (.dup, 1) := by decide +kernel
theorem dX3_putNodeIn_24 : decode cX3_putNodeIn 24 = .ok (.getfield 50, 3) := by decide +kernel
theorem dX3_putNodeIn_27 : decode cX3_putNodeIn 27 = .ok (.iconst 1, 1) := by decide +kernel
theorem dX3_putNodeIn_28 : decode cX3_putNodeIn 28 = .ok (.iadd, 1) := by decide +kernel
theorem dX3_putNodeIn_29 : decode cX3_putNodeIn 29 = .ok (.putfield 50, 3) := by decide +kernel
theorem dX3_putNodeIn_32 : decode cX3_putNodeIn 32 = .ok (.return_, 1) := by decide +kernel
theorem dX3_putTreeIn_0 : decode cX3_putTreeIn 0 = .ok (.aload_n 1, 1) := by decide +kernel
theorem dX3_putTreeIn_1 : decode cX3_putTreeIn 1 = .ok (.invokevirtual 71, 3) := by decide +kernel
theorem dX3_putTreeIn_4 : decode cX3_putTreeIn 4 = .ok (.istore 4, 2) := by decide +kernel
theorem dX3_putTreeIn_6 : decode cX3_putTreeIn 6 = .ok (.iconst 0, 1) := by decide +kernel
theorem dX3_putTreeIn_7 : decode cX3_putTreeIn 7 = .ok (.istore 5, 2) := by decide +kernel
theorem dX3_putTreeIn_9 : decode cX3_putTreeIn 9 = .ok (.iload 5, 2) := by decide +kernel
theorem dX3_putTreeIn_11 : decode cX3_putTreeIn 11 = .ok (.iload 4, 2) := by decide +kernel
theorem dX3_putTreeIn_13 : decode cX3_putTreeIn 13 = .ok (.if_icmp .ge 31, 3) := by decide +kernel
theorem dX3_putTreeIn_16 : decode cX3_putTreeIn 16 = .ok (.aload_n 0, 1) := by decide +kernel
theorem dX3_putTreeIn_17 : decode cX3_putTreeIn 17 = .ok (.iload_n 2, 1) := by decide +kernel
theorem dX3_putTreeIn_18 : decode cX3_putTreeIn 18 = .ok (.iload 5, 2) := by decide +kernel
theorem dX3_putTreeIn_20 : decode cX3_putTreeIn 20 = .ok (.iadd, 1) := by decide +kernel
theorem dX3_putTreeIn_21 : decode cX3_putTreeIn 21 = .ok (.aload_n 1, 1) := by decide +kernel
theorem dX3_putTreeIn_22 : decode cX3_putTreeIn 22 = .ok (.iload 5, 2) := by decide +kernel
theorem dX3_putTreeIn_24 : decode cX3_putTreeIn 24 = .ok (.invokevirtual 75, 3) := by decide +kernel
theorem dX3_putTreeIn_27 : decode cX3_putTreeIn 27 = .ok (.iload_n 3, 1) := by decide +kernel
theorem dX3_putTreeIn_28 : decode cX3_putTreeIn 28 = .ok (.aload_n 1, 1) := by decide +kernel
theorem dX3_putTreeIn_29 : decode cX3_putTreeIn 29 = .ok (.iload 5, 2) := by decide +kernel
theorem dX3_putTreeIn_31 : decode cX3_putTreeIn 31 = .ok (.invokevirtual 79, 3) := by decide +kernel
theorem dX3_putTreeIn_34 : decode cX3_putTreeIn 34 = .ok (.iadd, 1) := by decide +kernel
theorem dX3_putTreeIn_35 : decode cX3_putTreeIn 35 = .ok (.invokevirtual 82, 3) := by decide +kernel
theorem dX3_putTreeIn_38 : decode cX3_putTreeIn 38 = .ok (.iinc 5 1, 3) := by decide +kernel
theorem dX3_putTreeIn_41 : decode cX3_putTreeIn 41 = .ok (.goto (-32), 3) := by decide +kernel
theorem dX3_putTreeIn_44 : decode cX3_putTreeIn 44 = .ok (.return_, 1) := by decide +kernel
theorem dX3_takeNodesOut_0 : decode cX3_takeNodesOut 0 = .ok (.aload_n 0, 1) := by decide +kernel
theorem dX3_takeNodesOut_1 : decode cX3_takeNodesOut 1 = .ok (.getfield 12, 3) := by decide +kernel
theorem dX3_takeNodesOut_4 : decode cX3_takeNodesOut 4 = .ok (.iload_n 1, 1) := by decide +kernel
theorem dX3_takeNodesOut_5 : decode cX3_takeNodesOut 5 = .ok (.iload_n 2, 1) := by decide +kernel
theorem dX3_takeNodesOut_6 : decode cX3_takeNodesOut 6 = .ok (.invokevirtual 85, 3) := by decide +kernel
theorem dX3_takeNodesOut_9 : decode cX3_takeNodesOut 9 = .ok (.aload_n 0, 1) := by decide +kernel
theorem dX3_takeNodesOut_10 : decode cX3_takeNodesOut 10 = .ok (.getfield 26, 3) := by decide +kernel
theorem dX3_takeNodesOut_13 : decode cX3_takeNodesOut 13 = .ok (.iload_n 1, 1) := by decide +kernel
theorem dX3_takeNodesOut_14 : decode cX3_takeNodesOut 14 = .ok (.iload_n 2, 1) := by decide +kernel
theorem dX3_takeNodesOut_15 : decode cX3_takeNodesOut 15 = .ok (.invokevirtual 88, 3) := by decide +kernel
theorem dX3_takeNodesOut_18 : decode cX3_takeNodesOut 18 = .ok (.return_, 1) := by decide +kernel
theorem dX3_takePlaceOut_0 : decode cX3_takePlaceOut 0 = .ok (.aload_n 0, 1) := by decide +kernel
theorem dX3_takePlaceOut_1 : decode cX3_takePlaceOut 1 = .ok (.getfield 46, 3) := by decide +kernel
theorem dX3_takePlaceOut_4 : decode cX3_takePlaceOut 4 = .ok (.istore_n 1, 1) := by decide +kernel
theorem dX3_takePlaceOut_5 : decode cX3_takePlaceOut 5 = .ok (.aload_n 0, 1) := by decide +kernel
theorem dX3_takePlaceOut_6 : decode cX3_takePlaceOut 6 = .ok (.getfield 12, 3) := by decide +kernel
theorem dX3_takePlaceOut_9 : decode cX3_takePlaceOut 9 = .ok (.iload_n 1, 1) := by decide +kernel
theorem dX3_takePlaceOut_10 : decode cX3_takePlaceOut 10 = .ok (.invokevirtual 89, 3) := by decide +kernel
theorem dX3_takePlaceOut_13 : decode cX3_takePlaceOut 13 = .ok (.istore_n 2, 1) := by decide +kernel
theorem dX3_takePlaceOut_14 : decode cX3_takePlaceOut 14 = .ok (.aload_n 0, 1) := by decide +kernel
theorem dX3_takePlaceOut_15 : decode cX3_takePlaceOut 15 = .ok (.aload_n 0, 1) := by decide +kernel
theorem dX3_takePlaceOut_16 : decode cX3_takePlaceOut 16 = .ok (.invokevirtual 92, 3) := by decide +kernel
theorem dX3_takePlaceOut_19 : decode cX3_takePlaceOut 19 = .ok (.putfield 46, 3) := by decide +kernel
theorem dX3_takePlaceOut_22 : decode cX3_takePlaceOut 22 = .ok (.aload_n 0, 1) := by decide +kernel
theorem dX3_takePlaceOut_23 : decode cX3_takePlaceOut 23 = .ok (.iload_n 1, 1) := by decide +kernel
theorem dX3_takePlaceOut_24 : decode cX3_takePlaceOut 24 = .ok (.iload_n 2, 1) := by decide +kernel
theorem dX3_takePlaceOut_25 : decode cX3_takePlaceOut 25 = .ok (.invokevirtual 95, 3) := by decide +kernel
theorem dX3_takePlaceOut_28 : decode cX3_takePlaceOut 28 = .ok (.iload_n 2, 1) := by decide +kernel
theorem dX3_takePlaceOut_29 : decode cX3_takePlaceOut 29 = .ok (.iload_n 1, 1) := by decide +kernel
theorem dX3_takePlaceOut_30 : decode cX3_takePlaceOut 30 = .ok (.isub, 1) := by decide +kernel
theorem dX3_takePlaceOut_31 : decode cX3_takePlaceOut 31 = .ok (.ireturn, 1) := by decide +kernel
theorem dX3_placeWithoutPart_0 : decode cX3_placeWithoutPart 0 = .ok (.aload_n 0, 1) := by decide +kernel
theorem dX3_placeWithoutPart_1 : decode cX3_placeWithoutPart 1 = .ok (.getfield 12, 3) := by decide +kernel
theorem dX3_placeWithoutPart_4 : decode cX3_placeWithoutPart 4 = .ok (.aload_n 0, 1) := by decide +kernel
theorem dX3_placeWithoutPart_5 : decode cX3_placeWithoutPart 5 = .ok (.getfield 46, 3) := by decide +kernel
theorem dX3_placeWithoutPart_8 : decode cX3_placeWithoutPart 8 = .ok (.iconst 1, 1) := by decide +kernel
theorem dX3_placeWithoutPart_9 : decode cX3_placeWithoutPart 9 = .ok (.invokevirtual 98, 3) := by decide +kernel
theorem dX3_placeWithoutPart_12 : decode cX3_placeWithoutPart 12 = .ok (.iconst (-1), 1) := by decide +kernel
theorem dX3_placeWithoutPart_13 : decode cX3_placeWithoutPart 13 = .ok (.if_icmp .eq 8, 3) := by decide +kernel
theorem dX3_placeWithoutPart_16 : decode cX3_placeWithoutPart 16 = .ok (.aload_n 0, 1) := by decide +kernel
theorem dX3_placeWithoutPart_17 : decode cX3_placeWithoutPart 17 = .ok (.getfield 46, 3) := by decide +kernel
theorem dX3_placeWithoutPart_20 : decode cX3_placeWithoutPart 20 = .ok (.ireturn, 1) := by decide +kernel
theorem dX3_placeWithoutPart_21 : decode cX3_placeWithoutPart 21 = .ok (.aload_n 0, 1) := by decide +kernel
theorem dX3_placeWithoutPart_22 : decode cX3_placeWithoutPart 22 = .ok (.getfield 12, 3) := by decide +kernel
theorem dX3_placeWithoutPart_25 : decode cX3_placeWithoutPart 25 = .ok (.aload_n 0, 1) := by decide +kernel
theorem dX3_placeWithoutPart_26 : decode cX3_placeWithoutPart 26 = .ok (.getfield 46, 3) := by decide +kernel
theorem dX3_placeWithoutPart_29 : decode cX3_placeWithoutPart 29 = .ok (.iconst 0, 1) := by decide +kernel
theorem dX3_placeWithoutPart_30 : decode cX3_placeWithoutPart 30 = .ok (.invokevirtual 98, 3) := by decide +kernel
theorem dX3_placeWithoutPart_33 : decode cX3_placeWithoutPart 33 = .ok (.istore_n 1, 1) := by decide +kernel
theorem dX3_placeWithoutPart_34 : decode cX3_placeWithoutPart 34 = .ok (.iload_n 1, 1) := by decide +kernel
theorem dX3_placeWithoutPart_35 : decode cX3_placeWithoutPart 35 = .ok (.iconst (-1), 1) := by decide +kernel
theorem dX3_placeWithoutPart_36 : decode cX3_placeWithoutPart 36 = .ok (.if_icmp .eq 7, 3) := by decide +kernel
theorem dX3_placeWithoutPart_39 : decode cX3_placeWithoutPart 39 = .ok (.iload_n 1, 1) := by decide +kernel
theorem dX3_placeWithoutPart_40 : decode cX3_placeWithoutPart 40 = .ok (.goto 18, 3) := by decide +kernel
theorem dX3_placeWithoutPart_43 : decode cX3_placeWithoutPart 43 = .ok (.aload_n 0, 1) := by decide +kernel
theorem dX3_placeWithoutPart_44 : decode cX3_placeWithoutPart 44 = .ok (.getfield 12, 3) := by decide +kernel
theorem dX3_placeWithoutPart_47 : decode cX3_placeWithoutPart 47 = .ok (.aload_n 0, 1) := by decide +kernel
theorem dX3_placeWithoutPart_48 : decode cX3_placeWithoutPart 48 = .ok (.getfield 46, 3) := by decide +kernel
theorem dX3_placeWithoutPart_51 : decode cX3_placeWithoutPart 51 = .ok (.invokevirtual 102, 3) := by decide +kernel
theorem dX3_placeWithoutPart_54 : decode cX3_placeWithoutPart 54 = .ok (.iconst 0, 1) := by decide +kernel
theorem dX3_placeWithoutPart_55 : decode cX3_placeWithoutPart 55 = .ok (.invokestatic 105, 3) := by decide +kernel
theorem dX3_placeWithoutPart_58 : decode cX3_placeWithoutPart 58 = .ok (.ireturn, 1) := by decide +kernel
theorem dX3_exchangeRuns_0 : decode cX3_exchangeRuns 0 = .ok (.aload_n 0, 1) := by decide +kernel
theorem dX3_exchangeRuns_1 : decode cX3_exchangeRuns 1 = .ok (.getfield 12, 3) := by decide +kernel
theorem dX3_exchangeRuns_4 : decode cX3_exchangeRuns 4 = .ok (.iload_n 1, 1) := by decide +kernel
theorem dX3_exchangeRuns_5 : decode cX3_exchangeRuns 5 = .ok (.iload_n 2, 1) := by decide +kernel
theorem dX3_exchangeRuns_6 : decode cX3_exchangeRuns 6 = .ok (.iload_n 3, 1) := by decide +kernel
theorem dX3_exchangeRuns_7 : decode cX3_exchangeRuns 7 = .ok (.invokevirtual 110, 3) := by decide +kernel
theorem dX3_exchangeRuns_10 : decode cX3_exchangeRuns 10 = .ok (.aload_n 0, 1) := by decide +kernel
theorem dX3_exchangeRuns_11 : decode cX3_exchangeRuns 11 = .ok (.getfield 26, 3) := by decide +kernel
theorem dX3_exchangeRuns_14 : decode cX3_exchangeRuns 14 = .ok (.iload_n 1, 1) := by decide +kernel
theorem dX3_exchangeRuns_15 : decode cX3_exchangeRuns 15 = .ok (.iload_n 2, 1) := by decide +kernel
theorem dX3_exchangeRuns_16 : decode cX3_exchangeRuns 16 = .ok (.iload_n 3, 1) := by decide +kernel
theorem dX3_exchangeRuns_17 : decode cX3_exchangeRuns 17 = .ok (.invokevirtual 113, 3) := by decide +kernel
theorem dX3_exchangeRuns_20 : decode cX3_exchangeRuns 20 = .ok (.return_, 1) := by decide +kernel
theorem dX3_numberOfKey_0 : decode cX3_numberOfKey 0 = .ok (.iconst 0, 1) := by decide +kernel
theorem dX3_numberOfKey_1 : decode cX3_numberOfKey 1 = .ok (.istore_n 2, 1) := by decide +kernel
theorem dX3_numberOfKey_2 : decode cX3_numberOfKey 2 = .ok (.iload_n 2, 1) := by decide +kernel
theorem dX3_numberOfKey_3 : decode cX3_numberOfKey 3 = .ok (.aload_n 0, 1) := by decide +kernel
theorem dX3_numberOfKey_4 : decode cX3_numberOfKey 4 = .ok (.getfield 26, 3) := by decide +kernel
theorem dX3_numberOfKey_7 : decode cX3_numberOfKey 7 = .ok (.invokevirtual 114, 3) := by decide +kernel
theorem dX3_numberOfKey_10 : decode cX3_numberOfKey 10 = .ok (.if_icmp .ge 23, 3) := by decide +kernel
theorem dX3_numberOfKey_13 : decode cX3_numberOfKey 13 = .ok (.aload_n 0, 1) := by decide +kernel
theorem dX3_numberOfKey_14 : decode cX3_numberOfKey 14 = .ok (.getfield 26, 3) := by decide +kernel
theorem dX3_numberOfKey_17 : decode cX3_numberOfKey 17 = .ok (.iload_n 2, 1) := by decide +kernel
theorem dX3_numberOfKey_18 : decode cX3_numberOfKey 18 = .ok (.invokevirtual 115, 3) := by decide +kernel
theorem dX3_numberOfKey_21 : decode cX3_numberOfKey 21 = .ok (.iload_n 1, 1) := by decide +kernel
theorem dX3_numberOfKey_22 : decode cX3_numberOfKey 22 = .ok (.if_icmp .ne 5, 3) := by decide +kernel
theorem dX3_numberOfKey_25 : decode cX3_numberOfKey 25 = .ok (.iload_n 2, 1) := by decide +kernel
theorem dX3_numberOfKey_26 : decode cX3_numberOfKey 26 = .ok (.ireturn, 1) := by decide +kernel
theorem dX3_numberOfKey_27 : decode cX3_numberOfKey 27 = .ok (.iinc 2 1, 3) := by decide +kernel
theorem dX3_numberOfKey_30 : decode cX3_numberOfKey 30 = .ok (.goto (-28), 3) := by decide +kernel
theorem dX3_numberOfKey_33 : decode cX3_numberOfKey 33 = .ok (.iconst (-1), 1) := by decide +kernel
theorem dX3_numberOfKey_34 : decode cX3_numberOfKey 34 = .ok (.ireturn, 1) := by decide +kernel
theorem dX3_walkTo_0 : decode cX3_walkTo 0 = .ok (.iload_n 1, 1) := by decide +kernel
theorem dX3_walkTo_1 : decode cX3_walkTo 1 = .ok (.aload_n 0, 1) := by decide +kernel
theorem dX3_walkTo_2 : decode cX3_walkTo 2 = .ok (.getfield 46, 3) := by decide +kernel
theorem dX3_walkTo_5 : decode cX3_walkTo 5 = .ok (.if_icmp .ne 4, 3) := by decide +kernel
theorem dX3_walkTo_8 : decode cX3_walkTo 8 = .ok (.return_, 1) := by decide +kernel
theorem dX3_walkTo_9 : decode cX3_walkTo 9 = .ok (.aload_n 0, 1) := by decide +kernel
theorem dX3_walkTo_10 : decode cX3_walkTo 10 = .ok (.getfield 30, 3) := by decide +kernel
theorem dX3_walkTo_13 : decode cX3_walkTo 13 = .ok (.invokevirtual 114, 3) := by decide +kernel
theorem dX3_walkTo_16 : decode cX3_walkTo 16 = .ok (.bipush 8, 2) := by decide +kernel
theorem dX3_walkTo_18 : decode cX3_walkTo 18 = .ok (.if_icmp .lt 12, 3) := by decide +kernel
theorem dX3_walkTo_21 : decode cX3_walkTo 21 = .ok (.aload_n 0, 1) := by decide +kernel
theorem dX3_walkTo_22 : decode cX3_walkTo 22 = .ok (.getfield 30, 3) := by decide +kernel
theorem dX3_walkTo_25 : decode cX3_walkTo 25 = .ok (.iconst 0, 1) := by decide +kernel
theorem dX3_walkTo_26 : decode cX3_walkTo 26 = .ok (.iconst 1, 1) := by decide +kernel
theorem dX3_walkTo_27 : decode cX3_walkTo 27 = .ok (.invokevirtual 88, 3) := by decide +kernel
theorem dX3_walkTo_30 : decode cX3_walkTo 30 = .ok (.aload_n 0, 1) := by decide +kernel
theorem dX3_walkTo_31 : decode cX3_walkTo 31 = .ok (.getfield 30, 3) := by decide +kernel
theorem dX3_walkTo_34 : decode cX3_walkTo 34 = .ok (.aload_n 0, 1) := by decide +kernel
theorem dX3_walkTo_35 : decode cX3_walkTo 35 = .ok (.getfield 26, 3) := by decide +kernel
theorem dX3_walkTo_38 : decode cX3_walkTo 38 = .ok (.aload_n 0, 1) := by decide +kernel
theorem dX3_walkTo_39 : decode cX3_walkTo 39 = .ok (.getfield 46, 3) := by decide +kernel
theorem dX3_walkTo_42 : decode cX3_walkTo 42 = .ok (.invokevirtual 115, 3) := by decide +kernel
theorem dX3_walkTo_45 : decode cX3_walkTo 45 = .ok (.invokevirtual 61, 3) := by decide +kernel
theorem dX3_walkTo_48 : decode cX3_walkTo 48 = .ok (.aload_n 0, 1) := by decide +kernel
theorem dX3_walkTo_49 : decode cX3_walkTo 49 = .ok (.iload_n 1, 1) := by decide +kernel
theorem dX3_walkTo_50 : decode cX3_walkTo 50 = .ok (.putfield 46, 3) := by decide +kernel
theorem dX3_walkTo_53 : decode cX3_walkTo 53 = .ok (.return_, 1) := by decide +kernel
theorem dX3_lastWalk_0 : decode cX3_lastWalk 0 = .ok (.aload_n 0, 1) := by decide +kernel
theorem dX3_lastWalk_1 : decode cX3_lastWalk 1 = .ok (.getfield 30, 3) := by decide +kernel
theorem dX3_lastWalk_4 : decode cX3_lastWalk 4 = .ok (.invokevirtual 114, 3) := by decide +kernel
theorem dX3_lastWalk_7 : decode cX3_lastWalk 7 = .ok (.iconst 1, 1) := by decide +kernel
theorem dX3_lastWalk_8 : decode cX3_lastWalk 8 = .ok (.isub, 1) := by decide +kernel
theorem dX3_lastWalk_9 : decode cX3_lastWalk 9 = .ok (.istore_n 1, 1) := by decide +kernel
theorem dX3_lastWalk_10 : decode cX3_lastWalk 10 = .ok (.iload_n 1, 1) := by decide +kernel
theorem dX3_lastWalk_11 : decode cX3_lastWalk 11 = .ok (.ifCond .lt 37, 3) := by decide +kernel
theorem dX3_lastWalk_14 : decode cX3_lastWalk 14 = .ok (.aload_n 0, 1) := by decide +kernel
theorem dX3_lastWalk_15 : decode cX3_lastWalk 15 = .ok (.aload_n 0, 1) := by decide +kernel
theorem dX3_lastWalk_16 : decode cX3_lastWalk 16 = .ok (.getfield 30, 3) := by decide +kernel
theorem dX3_lastWalk_19 : decode cX3_lastWalk 19 = .ok (.iload_n 1, 1) := by decide +kernel
theorem dX3_lastWalk_20 : decode cX3_lastWalk 20 = .ok (.invokevirtual 115, 3) := by decide +kernel
theorem dX3_lastWalk_23 : decode cX3_lastWalk 23 = .ok (.invokevirtual 118, 3) := by decide +kernel
theorem dX3_lastWalk_26 : decode cX3_lastWalk 26 = .ok (.istore_n 2, 1) := by decide +kernel
theorem dX3_lastWalk_27 : decode cX3_lastWalk 27 = .ok (.iload_n 2, 1) := by decide +kernel
theorem dX3_lastWalk_28 : decode cX3_lastWalk 28 = .ok (.iconst (-1), 1) := by decide +kernel
theorem dX3_lastWalk_29 : decode cX3_lastWalk 29 = .ok (.if_icmp .eq 13, 3) := by decide +kernel
theorem dX3_lastWalk_32 : decode cX3_lastWalk 32 = .ok (.iload_n 2, 1) := by decide +kernel
theorem dX3_lastWalk_33 : decode cX3_lastWalk 33 = .ok (.aload_n 0, 1) := by decide +kernel
theorem dX3_lastWalk_34 : decode cX3_lastWalk 34 = .ok (.getfield 46, 3) := by decide +kernel
theorem dX3_lastWalk_37 : decode cX3_lastWalk 37 = .ok (.if_icmp .eq 5, 3) := by decide +kernel
theorem dX3_lastWalk_40 : decode cX3_lastWalk 40 = .ok (.iload_n 1, 1) := by decide +kernel
theorem dX3_lastWalk_41 : decode cX3_lastWalk 41 = .ok (.ireturn, 1) := by decide +kernel
theorem dX3_lastWalk_42 : decode cX3_lastWalk 42 = .ok (.iinc 1 (-1), 3) := by decide +kernel
theorem dX3_lastWalk_45 : decode cX3_lastWalk 45 = .ok (.goto (-35), 3) := by decide +kernel
theorem dX3_lastWalk_48 : decode cX3_lastWalk 48 = .ok (.iconst (-1), 1) := by decide +kernel
theorem dX3_lastWalk_49 : decode cX3_lastWalk 49 = .ok (.ireturn, 1) := by decide +kernel
theorem dX3_takeWalksBack_0 : decode cX3_takeWalksBack 0 = .ok (.aload_n 0, 1) := by decide +kernel
theorem dX3_takeWalksBack_1 : decode cX3_takeWalksBack 1 = .ok (.aload_n 0, 1) := by decide +kernel
theorem dX3_takeWalksBack_2 : decode cX3_takeWalksBack 2 = .ok (.aload_n 0, 1) := by decide +kernel
theorem dX3_takeWalksBack_3 : decode cX3_takeWalksBack 3 = .ok (.getfield 30, 3) := by decide +kernel
theorem dX3_takeWalksBack_6 : decode cX3_takeWalksBack 6 = .ok (.iload_n 1, 1) := by decide +kernel
theorem dX3_takeWalksBack_7 : decode cX3_takeWalksBack 7 = .ok (.invokevirtual 115, 3) := by decide +kernel
theorem dX3_takeWalksBack_10 : decode cX3_takeWalksBack 10 = .ok (.invokevirtual 118, 3) := by decide +kernel
theorem dX3_takeWalksBack_13 : decode cX3_takeWalksBack 13 = .ok (.iconst 0, 1) := by decide +kernel
theorem dX3_takeWalksBack_14 : decode cX3_takeWalksBack 14 = .ok (.invokestatic 105, 3) := by decide +kernel
theorem dX3_takeWalksBack_17 : decode cX3_takeWalksBack 17 = .ok (.putfield 46, 3) := by decide +kernel
theorem dX3_takeWalksBack_20 : decode cX3_takeWalksBack 20 = .ok (.aload_n 0, 1) := by decide +kernel
theorem dX3_takeWalksBack_21 : decode cX3_takeWalksBack 21 = .ok (.getfield 30, 3) := by decide +kernel
theorem dX3_takeWalksBack_24 : decode cX3_takeWalksBack 24 = .ok (.iload_n 1, 1) := by decide +kernel
theorem dX3_takeWalksBack_25 : decode cX3_takeWalksBack 25 = .ok (.aload_n 0, 1) := by decide +kernel
theorem dX3_takeWalksBack_26 : decode cX3_takeWalksBack 26 = .ok (.getfield 30, 3) := by decide +kernel
theorem dX3_takeWalksBack_29 : decode cX3_takeWalksBack 29 = .ok (.invokevirtual 114, 3) := by decide +kernel
theorem dX3_takeWalksBack_32 : decode cX3_takeWalksBack 32 = .ok (.invokevirtual 88, 3) := by decide +kernel
theorem dX3_takeWalksBack_35 : decode cX3_takeWalksBack 35 = .ok (.return_, 1) := by decide +kernel
theorem dX3_numberOfMark_0 : decode cX3_numberOfMark 0 = .ok (.aload_n 0, 1) := by decide +kernel
theorem dX3_numberOfMark_1 : decode cX3_numberOfMark 1 = .ok (.aload_n 0, 1) := by decide +kernel
theorem dX3_numberOfMark_2 : decode cX3_numberOfMark 2 = .ok (.getfield 33, 3) := by decide +kernel
theorem dX3_numberOfMark_5 : decode cX3_numberOfMark 5 = .ok (.iload_n 1, 1) := by decide +kernel
theorem dX3_numberOfMark_6 : decode cX3_numberOfMark 6 = .ok (.invokevirtual 115, 3) := by decide +kernel
theorem dX3_numberOfMark_9 : decode cX3_numberOfMark 9 = .ok (.invokevirtual 118, 3) := by decide +kernel
theorem dX3_numberOfMark_12 : decode cX3_numberOfMark 12 = .ok (.ireturn, 1) := by decide +kernel
theorem dX3_putMarkAtPlace_0 : decode cX3_putMarkAtPlace 0 = .ok (.aload_n 0, 1) := by decide +kernel
theorem dX3_putMarkAtPlace_1 : decode cX3_putMarkAtPlace 1 = .ok (.getfield 33, 3) := by decide +kernel
theorem dX3_putMarkAtPlace_4 : decode cX3_putMarkAtPlace 4 = .ok (.iload_n 1, 1) := by decide +kernel
theorem dX3_putMarkAtPlace_5 : decode cX3_putMarkAtPlace 5 = .ok (.aload_n 0, 1) := by decide +kernel
theorem dX3_putMarkAtPlace_6 : decode cX3_putMarkAtPlace 6 = .ok (.getfield 26, 3) := by decide +kernel
theorem dX3_putMarkAtPlace_9 : decode cX3_putMarkAtPlace 9 = .ok (.aload_n 0, 1) := by decide +kernel
theorem dX3_putMarkAtPlace_10 : decode cX3_putMarkAtPlace 10 = .ok (.getfield 46, 3) := by decide +kernel
theorem dX3_putMarkAtPlace_13 : decode cX3_putMarkAtPlace 13 = .ok (.invokevirtual 115, 3) := by decide +kernel
theorem dX3_putMarkAtPlace_16 : decode cX3_putMarkAtPlace 16 = .ok (.invokevirtual 121, 3) := by decide +kernel
theorem dX3_putMarkAtPlace_19 : decode cX3_putMarkAtPlace 19 = .ok (.return_, 1) := by decide +kernel
theorem dX3_marksAt_0 : decode cX3_marksAt 0 = .ok (.iconst 0, 1) := by decide +kernel
theorem dX3_marksAt_1 : decode cX3_marksAt 1 = .ok (.istore_n 2, 1) := by decide +kernel
theorem dX3_marksAt_2 : decode cX3_marksAt 2 = .ok (.iconst 0, 1) := by decide +kernel
theorem dX3_marksAt_3 : decode cX3_marksAt 3 = .ok (.istore_n 3, 1) := by decide +kernel
theorem dX3_marksAt_4 : decode cX3_marksAt 4 = .ok (.iload_n 3, 1) := by decide +kernel
theorem dX3_marksAt_5 : decode cX3_marksAt 5 = .ok (.iconst 4, 1) := by decide +kernel
theorem dX3_marksAt_6 : decode cX3_marksAt 6 = .ok (.if_icmp .ge 24, 3) := by decide +kernel
theorem dX3_marksAt_9 : decode cX3_marksAt 9 = .ok (.aload_n 0, 1) := by decide +kernel
theorem dX3_marksAt_10 : decode cX3_marksAt 10 = .ok (.iload_n 3, 1) := by decide +kernel
theorem dX3_marksAt_11 : decode cX3_marksAt 11 = .ok (.invokevirtual 124, 3) := by decide +kernel
theorem dX3_marksAt_14 : decode cX3_marksAt 14 = .ok (.iload_n 1, 1) := by decide +kernel
theorem dX3_marksAt_15 : decode cX3_marksAt 15 = .ok (.if_icmp .ne 9, 3) := by decide +kernel
theorem dX3_marksAt_18 : decode cX3_marksAt 18 = .ok (.iload_n 2, 1) := by decide +kernel
theorem dX3_marksAt_19 : decode cX3_marksAt 19 = .ok (.iconst 1, 1) := by decide +kernel
theorem dX3_marksAt_20 : decode cX3_marksAt 20 = .ok (.iload_n 3, 1) := by decide +kernel
theorem dX3_marksAt_21 : decode cX3_marksAt 21 = .ok (.ishl, 1) := by decide +kernel
theorem dX3_marksAt_22 : decode cX3_marksAt 22 = .ok (.ior, 1) := by decide +kernel
theorem dX3_marksAt_23 : decode cX3_marksAt 23 = .ok (.istore_n 2, 1) := by decide +kernel
theorem dX3_marksAt_24 : decode cX3_marksAt 24 = .ok (.iinc 3 1, 3) := by decide +kernel
theorem dX3_marksAt_27 : decode cX3_marksAt 27 = .ok (.goto (-23), 3) := by decide +kernel
theorem dX3_marksAt_30 : decode cX3_marksAt 30 = .ok (.iload_n 2, 1) := by decide +kernel
theorem dX3_marksAt_31 : decode cX3_marksAt 31 = .ok (.ireturn, 1) := by decide +kernel
theorem dX4_init_0 : decode cX4_init 0 = .ok (.aload_n 0, 1) := by decide +kernel
theorem dX4_init_1 : decode cX4_init 1 = .ok (.invokespecial 3, 3) := by decide +kernel
theorem dX4_init_4 : decode cX4_init 4 = .ok (.aload_n 0, 1) := by decide +kernel
theorem dX4_init_5 : decode cX4_init 5 = .ok (.new 9, 3) := by decide +kernel
theorem dX4_init_8 : decode cX4_init 8 = .ok (.dup, 1) := by decide +kernel
theorem dX4_init_9 : decode cX4_init 9 = .ok (.bipush 40, 2) := by decide +kernel
theorem dX4_init_11 : decode cX4_init 11 = .ok (.invokespecial 11, 3) := by decide +kernel
theorem dX4_init_14 : decode cX4_init 14 = .ok (.putfield 14, 3) := by decide +kernel
theorem dX4_init_17 : decode cX4_init 17 = .ok (.aload_n 0, 1) := by decide +kernel
theorem dX4_init_18 : decode cX4_init 18 = .ok (.new 9, 3) := by decide +kernel
theorem dX4_init_21 : decode cX4_init 21 = .ok (.dup, 1) := by decide +kernel
theorem dX4_init_22 : decode cX4_init 22 = .ok (.bipush 40, 2) := by decide +kernel
theorem dX4_init_24 : decode cX4_init 24 = .ok (.invokespecial 11, 3) := by decide +kernel
theorem dX4_init_27 : decode cX4_init 27 = .ok (.putfield 20, 3) := by decide +kernel
theorem dX4_init_30 : decode cX4_init 30 = .ok (.return_, 1) := by decide +kernel
theorem dX4_size_0 : decode cX4_size 0 = .ok (.aload_n 0, 1) := by decide +kernel
theorem dX4_size_1 : decode cX4_size 1 = .ok (.getfield 14, 3) := by decide +kernel
theorem dX4_size_4 : decode cX4_size 4 = .ok (.invokevirtual 23, 3) := by decide +kernel
theorem dX4_size_7 : decode cX4_size 7 = .ok (.ireturn, 1) := by decide +kernel
theorem dX4_has_0 : decode cX4_has 0 = .ok (.iload_n 1, 1) := by decide +kernel
theorem dX4_has_1 : decode cX4_has 1 = .ok (.ifCond .lt 15, 3) := by decide +kernel
theorem dX4_has_4 : decode cX4_has 4 = .ok (.iload_n 1, 1) := by decide +kernel
theorem dX4_has_5 : decode cX4_has 5 = .ok (.aload_n 0, 1) := by decide +kernel
theorem dX4_has_6 : decode cX4_has 6 = .ok (.invokevirtual 27, 3) := by decide +kernel
theorem dX4_has_9 : decode cX4_has 9 = .ok (.if_icmp .ge 7, 3) := by decide +kernel
theorem dX4_has_12 : decode cX4_has 12 = .ok (.iconst 1, 1) := by decide +kernel
theorem dX4_has_13 : decode cX4_has 13 = .ok (.goto 4, 3) := by decide +kernel
theorem dX4_has_16 : decode cX4_has 16 = .ok (.iconst 0, 1) := by decide +kernel
theorem dX4_has_17 : decode cX4_has 17 = .ok (.ireturn, 1) := by decide +kernel
theorem dX4_letterOf_0 : decode cX4_letterOf 0 = .ok (.aload_n 0, 1) := by decide +kernel
theorem dX4_letterOf_1 : decode cX4_letterOf 1 = .ok (.getfield 14, 3) := by decide +kernel
theorem dX4_letterOf_4 : decode cX4_letterOf 4 = .ok (.iload_n 1, 1) := by decide +kernel
theorem dX4_letterOf_5 : decode cX4_letterOf 5 = .ok (.invokevirtual 28, 3) := by decide +kernel
theorem dX4_letterOf_8 : decode cX4_letterOf 8 = .ok (.ireturn, 1) := by decide +kernel
theorem dX4_setLetter_0 : decode cX4_setLetter 0 = .ok (.aload_n 0, 1) := by decide +kernel
theorem dX4_setLetter_1 : decode cX4_setLetter 1 = .ok (.getfield 14, 3) := by decide +kernel
theorem dX4_setLetter_4 : decode cX4_setLetter 4 = .ok (.iload_n 1, 1) := by decide +kernel
theorem dX4_setLetter_5 : decode cX4_setLetter 5 = .ok (.iload_n 2, 1) := by decide +kernel
theorem dX4_setLetter_6 : decode cX4_setLetter 6 = .ok (.invokevirtual 32, 3) := by decide +kernel
theorem dX4_setLetter_9 : decode cX4_setLetter 9 = .ok (.return_, 1) := by decide +kernel
theorem dX4_depthOf_0 : decode cX4_depthOf 0 = .ok (.aload_n 0, 1) := by decide +kernel
theorem dX4_depthOf_1 : decode cX4_depthOf 1 = .ok (.getfield 20, 3) := by decide +kernel
theorem dX4_depthOf_4 : decode cX4_depthOf 4 = .ok (.iload_n 1, 1) := by decide +kernel
theorem dX4_depthOf_5 : decode cX4_depthOf 5 = .ok (.invokevirtual 28, 3) := by decide +kernel
theorem dX4_depthOf_8 : decode cX4_depthOf 8 = .ok (.ireturn, 1) := by decide +kernel
theorem dX4_endOf_0 : decode cX4_endOf 0 = .ok (.iload_n 1, 1) := by decide +kernel
theorem dX4_endOf_1 : decode cX4_endOf 1 = .ok (.iconst 1, 1) := by decide +kernel
theorem dX4_endOf_2 : decode cX4_endOf 2 = .ok (.iadd, 1) := by decide +kernel
theorem dX4_endOf_3 : decode cX4_endOf 3 = .ok (.istore_n 2, 1) := by decide +kernel
theorem dX4_endOf_4 : decode cX4_endOf 4 = .ok (.iload_n 2, 1) := by decide +kernel
theorem dX4_endOf_5 : decode cX4_endOf 5 = .ok (.aload_n 0, 1) := by decide +kernel
theorem dX4_endOf_6 : decode cX4_endOf 6 = .ok (.getfield 20, 3) := by decide +kernel
theorem dX4_endOf_9 : decode cX4_endOf 9 = .ok (.invokevirtual 23, 3) := by decide +kernel
theorem dX4_endOf_12 : decode cX4_endOf 12 = .ok (.if_icmp .ge 30, 3) := by decide +kernel
theorem dX4_endOf_15 : decode cX4_endOf 15 = .ok (.aload_n 0, 1) := by decide +kernel
theorem dX4_endOf_16 : decode cX4_endOf 16 = .ok (.getfield 20, 3) := by decide +kernel
theorem dX4_endOf_19 : decode cX4_endOf 19 = .ok (.iload_n 2, 1) := by decide +kernel
theorem dX4_endOf_20 : decode cX4_endOf 20 = .ok (.invokevirtual 28, 3) := by decide +kernel
theorem dX4_endOf_23 : decode cX4_endOf 23 = .ok (.aload_n 0, 1) := by decide +kernel
theorem dX4_endOf_24 : decode cX4_endOf 24 = .ok (.getfield 20, 3) := by decide +kernel
theorem dX4_endOf_27 : decode cX4_endOf 27 = .ok (.iload_n 1, 1) := by decide +kernel
theorem dX4_endOf_28 : decode cX4_endOf 28 = .ok (.invokevirtual 28, 3) := by decide +kernel
theorem dX4_endOf_31 : decode cX4_endOf 31 = .ok (.if_icmp .gt 5, 3) := by decide +kernel
theorem dX4_endOf_34 : decode cX4_endOf 34 = .ok (.iload_n 2, 1) := by decide +kernel
theorem dX4_endOf_35 : decode cX4_endOf 35 = .ok (.ireturn, 1) := by decide +kernel
theorem dX4_endOf_36 : decode cX4_endOf 36 = .ok (.iinc 2 1, 3) := by decide +kernel
theorem dX4_endOf_39 : decode cX4_endOf 39 = .ok (.goto (-35), 3) := by decide +kernel
theorem dX4_endOf_42 : decode cX4_endOf 42 = .ok (.aload_n 0, 1) := by decide +kernel
theorem dX4_endOf_43 : decode cX4_endOf 43 = .ok (.getfield 20, 3) := by decide +kernel
theorem dX4_endOf_46 : decode cX4_endOf 46 = .ok (.invokevirtual 23, 3) := by decide +kernel
theorem dX4_endOf_49 : decode cX4_endOf 49 = .ok (.ireturn, 1) := by decide +kernel
theorem dX4_onSpine_0 : decode cX4_onSpine 0 = .ok (.iload_n 2, 1) := by decide +kernel
theorem dX4_onSpine_1 : decode cX4_onSpine 1 = .ok (.ifCond .lt 12, 3) := by decide +kernel
theorem dX4_onSpine_4 : decode cX4_onSpine 4 = .ok (.iload_n 2, 1) := by decide +kernel
theorem dX4_onSpine_5 : decode cX4_onSpine 5 = .ok (.aload_n 0, 1) := by decide +kernel
theorem dX4_onSpine_6 : decode cX4_onSpine 6 = .ok (.iload_n 1, 1) := by decide +kernel
theorem dX4_onSpine_7 : decode cX4_onSpine 7 = .ok (.invokevirtual 36, 3) := by decide +kernel
theorem dX4_onSpine_10 : decode cX4_onSpine 10 = .ok (.if_icmp .le 5, 3) := by decide +kernel
theorem dX4_onSpine_13 : decode cX4_onSpine 13 = .ok (.iconst (-1), 1) := by decide +kernel
theorem dX4_onSpine_14 : decode cX4_onSpine 14 = .ok (.ireturn, 1) := by decide +kernel
theorem dX4_onSpine_15 : decode cX4_onSpine 15 = .ok (.iload_n 1, 1) := by decide +kernel
theorem dX4_onSpine_16 : decode cX4_onSpine 16 = .ok (.istore_n 3, 1) := by decide +kernel
theorem dX4_onSpine_17 : decode cX4_onSpine 17 = .ok (.iload_n 3, 1) := by decide +kernel
theorem dX4_onSpine_18 : decode cX4_onSpine 18 = .ok (.ifCond .lt 20, 3) := by decide +kernel
theorem dX4_onSpine_21 : decode cX4_onSpine 21 = .ok (.aload_n 0, 1) := by decide +kernel
theorem dX4_onSpine_22 : decode cX4_onSpine 22 = .ok (.iload_n 3, 1) := by decide +kernel
theorem dX4_onSpine_23 : decode cX4_onSpine 23 = .ok (.invokevirtual 36, 3) := by decide +kernel
theorem dX4_onSpine_26 : decode cX4_onSpine 26 = .ok (.iload_n 2, 1) := by decide +kernel
theorem dX4_onSpine_27 : decode cX4_onSpine 27 = .ok (.if_icmp .ne 5, 3) := by decide +kernel
theorem dX4_onSpine_30 : decode cX4_onSpine 30 = .ok (.iload_n 3, 1) := by decide +kernel
theorem dX4_onSpine_31 : decode cX4_onSpine 31 = .ok (.ireturn, 1) := by decide +kernel
theorem dX4_onSpine_32 : decode cX4_onSpine 32 = .ok (.iinc 3 (-1), 3) := by decide +kernel
theorem dX4_onSpine_35 : decode cX4_onSpine 35 = .ok (.goto (-18), 3) := by decide +kernel
theorem dX4_onSpine_38 : decode cX4_onSpine 38 = .ok (.iconst (-1), 1) := by decide +kernel
theorem dX4_onSpine_39 : decode cX4_onSpine 39 = .ok (.ireturn, 1) := by decide +kernel
theorem dX4_above_0 : decode cX4_above 0 = .ok (.aload_n 0, 1) := by decide +kernel
theorem dX4_above_1 : decode cX4_above 1 = .ok (.iload_n 1, 1) := by decide +kernel
theorem dX4_above_2 : decode cX4_above 2 = .ok (.aload_n 0, 1) := by decide +kernel
theorem dX4_above_3 : decode cX4_above 3 = .ok (.iload_n 1, 1) := by decide +kernel
theorem dX4_above_4 : decode cX4_above 4 = .ok (.invokevirtual 36, 3) := by decide +kernel
theorem dX4_above_7 : decode cX4_above 7 = .ok (.iconst 1, 1) := by decide +kernel
theorem dX4_above_8 : decode cX4_above 8 = .ok (.isub, 1) := by decide +kernel
theorem dX4_above_9 : decode cX4_above 9 = .ok (.invokevirtual 39, 3) := by decide +kernel
theorem dX4_above_12 : decode cX4_above 12 = .ok (.ireturn, 1) := by decide +kernel
theorem dX4_childrenOf_0 : decode cX4_childrenOf 0 = .ok (.iconst 0, 1) := by decide +kernel
theorem dX4_childrenOf_1 : decode cX4_childrenOf 1 = .ok (.istore_n 2, 1) := by decide +kernel
theorem dX4_childrenOf_2 : decode cX4_childrenOf 2 = .ok (.aload_n 0, 1) := by decide +kernel
theorem dX4_childrenOf_3 : decode cX4_childrenOf 3 = .ok (.iload_n 1, 1) := by decide +kernel
theorem dX4_childrenOf_4 : decode cX4_childrenOf 4 = .ok (.invokevirtual 43, 3) := by decide +kernel
theorem dX4_childrenOf_7 : decode cX4_childrenOf 7 = .ok (.istore_n 3, 1) := by decide +kernel
theorem dX4_childrenOf_8 : decode cX4_childrenOf 8 = .ok (.iload_n 1, 1) := by decide +kernel
theorem dX4_childrenOf_9 : decode cX4_childrenOf 9 = .ok (.iconst 1, 1) := by decide +kernel
theorem dX4_childrenOf_10 : decode cX4_childrenOf 10 = .ok (.iadd, 1) := by decide +kernel
theorem dX4_childrenOf_11 : decode cX4_childrenOf 11 = .ok (.istore 4, 2) := by decide +kernel
theorem dX4_childrenOf_13 : decode cX4_childrenOf 13 = .ok (.iload 4, 2) := by decide +kernel
theorem dX4_childrenOf_15 : decode cX4_childrenOf 15 = .ok (.iload_n 3, 1) := by decide +kernel
theorem dX4_childrenOf_16 : decode cX4_childrenOf 16 = .ok (.if_icmp .ge 28, 3) := by decide +kernel
theorem dX4_childrenOf_19 : decode cX4_childrenOf 19 = .ok (.aload_n 0, 1) := by decide +kernel
theorem dX4_childrenOf_20 : decode cX4_childrenOf 20 = .ok (.iload 4, 2) := by decide +kernel
theorem dX4_childrenOf_22 : decode cX4_childrenOf 22 = .ok (.invokevirtual 36, 3) := by decide +kernel
theorem dX4_childrenOf_25 : decode cX4_childrenOf 25 = .ok (.aload_n 0, 1) := by decide +kernel
theorem dX4_childrenOf_26 : decode cX4_childrenOf 26 = .ok (.iload_n 1, 1) := by decide +kernel
theorem dX4_childrenOf_27 : decode cX4_childrenOf 27 = .ok (.invokevirtual 36, 3) := by decide +kernel
theorem dX4_childrenOf_30 : decode cX4_childrenOf 30 = .ok (.iconst 1, 1) := by decide +kernel
theorem dX4_childrenOf_31 : decode cX4_childrenOf 31 = .ok (.iadd, 1) := by decide +kernel
theorem dX4_childrenOf_32 : decode cX4_childrenOf 32 = .ok (.if_icmp .ne 6, 3) := by decide +kernel
theorem dX4_childrenOf_35 : decode cX4_childrenOf 35 = .ok (.iinc 2 1, 3) := by decide +kernel
theorem dX4_childrenOf_38 : decode cX4_childrenOf 38 = .ok (.iinc 4 1, 3) := by decide +kernel
theorem dX4_childrenOf_41 : decode cX4_childrenOf 41 = .ok (.goto (-28), 3) := by decide +kernel
theorem dX4_childrenOf_44 : decode cX4_childrenOf 44 = .ok (.iload_n 2, 1) := by decide +kernel
theorem dX4_childrenOf_45 : decode cX4_childrenOf 45 = .ok (.ireturn, 1) := by decide +kernel
theorem dX4_startOfChild_0 : decode cX4_startOfChild 0 = .ok (.iload_n 2, 1) := by decide +kernel
theorem dX4_startOfChild_1 : decode cX4_startOfChild 1 = .ok (.istore_n 3, 1) := by decide +kernel
theorem dX4_startOfChild_2 : decode cX4_startOfChild 2 = .ok (.aload_n 0, 1) := by decide +kernel
theorem dX4_startOfChild_3 : decode cX4_startOfChild 3 = .ok (.iload_n 1, 1) := by decide +kernel
theorem dX4_startOfChild_4 : decode cX4_startOfChild 4 = .ok (.invokevirtual 43, 3) := by decide +kernel
theorem dX4_startOfChild_7 : decode cX4_startOfChild 7 = .ok (.istore 4, 2) := by decide +kernel
theorem dX4_startOfChild_9 : decode cX4_startOfChild 9 = .ok (.iload_n 1, 1) := by decide +kernel
theorem dX4_startOfChild_10 : decode cX4_startOfChild 10 = .ok (.iconst 1, 1) := by decide +kernel
theorem dX4_startOfChild_11 : decode cX4_startOfChild 11 = .ok (.iadd, 1) := by decide +kernel
theorem dX4_startOfChild_12 : decode cX4_startOfChild 12 = .ok (.istore 5, 2) := by decide +kernel
theorem dX4_startOfChild_14 : decode cX4_startOfChild 14 = .ok (.iload 5, 2) := by decide +kernel
theorem dX4_startOfChild_16 : decode cX4_startOfChild 16 = .ok (.iload 4, 2) := by decide +kernel
theorem dX4_startOfChild_18 : decode cX4_startOfChild 18 = .ok (.if_icmp .ge 35, 3) := by decide +kernel
theorem dX4_startOfChild_21 : decode cX4_startOfChild 21 = .ok (.aload_n 0, 1) := by decide +kernel
theorem dX4_startOfChild_22 : decode cX4_startOfChild 22 = .ok (.iload 5, 2) := by decide +kernel
theorem dX4_startOfChild_24 : decode cX4_startOfChild 24 = .ok (.invokevirtual 36, 3) := by decide +kernel
theorem dX4_startOfChild_27 : decode cX4_startOfChild 27 = .ok (.aload_n 0, 1) := by decide +kernel
theorem dX4_startOfChild_28 : decode cX4_startOfChild 28 = .ok (.iload_n 1, 1) := by decide +kernel
theorem dX4_startOfChild_29 : decode cX4_startOfChild 29 = .ok (.invokevirtual 36, 3) := by decide +kernel
theorem dX4_startOfChild_32 : decode cX4_startOfChild 32 = .ok (.iconst 1, 1) := by decide +kernel
theorem dX4_startOfChild_33 : decode cX4_startOfChild 33 = .ok (.iadd, 1) := by decide +kernel
theorem dX4_startOfChild_34 : decode cX4_startOfChild 34 = .ok (.if_icmp .ne 13, 3) := by decide +kernel
theorem dX4_startOfChild_37 : decode cX4_startOfChild 37 = .ok (.iload_n 3, 1) := by decide +kernel
theorem dX4_startOfChild_38 : decode cX4_startOfChild 38 = .ok (.ifCond .ne 6, 3) := by decide +kernel
theorem dX4_startOfChild_41 : decode cX4_startOfChild 41 = .ok (.iload 5, 2) := by decide +kernel
theorem dX4_startOfChild_43 : decode cX4_startOfChild 43 = .ok (.ireturn, 1) := by decide +kernel
theorem dX4_startOfChild_44 : decode cX4_startOfChild 44 = .ok (.iinc 3 (-1), 3) := by decide +kernel
theorem dX4_startOfChild_47 : decode cX4_startOfChild 47 = .ok (.iinc 5 1, 3) := by decide +kernel
theorem dX4_startOfChild_50 : decode cX4_startOfChild 50 = .ok (.goto (-36), 3) := by decide +kernel
theorem dX4_startOfChild_53 : decode cX4_startOfChild 53 = .ok (.iload 4, 2) := by decide +kernel
theorem dX4_startOfChild_55 : decode cX4_startOfChild 55 = .ok (.ireturn, 1) := by decide +kernel
theorem dX4_childAt_0 : decode cX4_childAt 0 = .ok (.iload_n 2, 1) := by decide +kernel
theorem dX4_childAt_1 : decode cX4_childAt 1 = .ok (.ifCond .lt 21, 3) := by decide +kernel
theorem dX4_childAt_4 : decode cX4_childAt 4 = .ok (.iload_n 2, 1) := by decide +kernel
theorem dX4_childAt_5 : decode cX4_childAt 5 = .ok (.aload_n 0, 1) := by decide +kernel
theorem dX4_childAt_6 : decode cX4_childAt 6 = .ok (.iload_n 1, 1) := by decide +kernel
theorem dX4_childAt_7 : decode cX4_childAt 7 = .ok (.invokevirtual 46, 3) := by decide +kernel
theorem dX4_childAt_10 : decode cX4_childAt 10 = .ok (.if_icmp .ge 12, 3) := by decide +kernel
theorem dX4_childAt_13 : decode cX4_childAt 13 = .ok (.aload_n 0, 1) := by decide +kernel
theorem dX4_childAt_14 : decode cX4_childAt 14 = .ok (.iload_n 1, 1) := by decide +kernel
theorem dX4_childAt_15 : decode cX4_childAt 15 = .ok (.iload_n 2, 1) := by decide +kernel
theorem dX4_childAt_16 : decode cX4_childAt 16 = .ok (.invokevirtual 49, 3) := by decide +kernel
theorem dX4_childAt_19 : decode cX4_childAt 19 = .ok (.goto 4, 3) := by decide +kernel
theorem dX4_childAt_22 : decode cX4_childAt 22 = .ok (.iconst (-1), 1) := by decide +kernel
theorem dX4_childAt_23 : decode cX4_childAt 23 = .ok (.ireturn, 1) := by decide +kernel
theorem dX4_turnOf_0 : decode cX4_turnOf 0 = .ok (.aload_n 0, 1) := by decide +kernel
theorem dX4_turnOf_1 : decode cX4_turnOf 1 = .ok (.iload_n 1, 1) := by decide +kernel
theorem dX4_turnOf_2 : decode cX4_turnOf 2 = .ok (.invokevirtual 52, 3) := by decide +kernel
theorem dX4_turnOf_5 : decode cX4_turnOf 5 = .ok (.istore_n 2, 1) := by decide +kernel
theorem dX4_turnOf_6 : decode cX4_turnOf 6 = .ok (.iload_n 2, 1) := by decide +kernel
theorem dX4_turnOf_7 : decode cX4_turnOf 7 = .ok (.iconst (-1), 1) := by decide +kernel
theorem dX4_turnOf_8 : decode cX4_turnOf 8 = .ok (.if_icmp .ne 5, 3) := by decide +kernel
theorem dX4_turnOf_11 : decode cX4_turnOf 11 = .ok (.iconst (-1), 1) := by decide +kernel
theorem dX4_turnOf_12 : decode cX4_turnOf 12 = .ok (.ireturn, 1) := by decide +kernel
theorem dX4_turnOf_13 : decode cX4_turnOf 13 = .ok (.iconst 0, 1) := by decide +kernel
theorem dX4_turnOf_14 : decode cX4_turnOf 14 = .ok (.istore_n 3, 1) := by decide +kernel
theorem dX4_turnOf_15 : decode cX4_turnOf 15 = .ok (.iload_n 2, 1) := by decide +kernel
theorem dX4_turnOf_16 : decode cX4_turnOf 16 = .ok (.iconst 1, 1) := by decide +kernel
theorem dX4_turnOf_17 : decode cX4_turnOf 17 = .ok (.iadd, 1) := by decide +kernel
theorem dX4_turnOf_18 : decode cX4_turnOf 18 = .ok (.istore 4, 2) := by decide +kernel
theorem dX4_turnOf_20 : decode cX4_turnOf 20 = .ok (.iload 4, 2) := by decide +kernel
theorem dX4_turnOf_22 : decode cX4_turnOf 22 = .ok (.iload_n 1, 1) := by decide +kernel
theorem dX4_turnOf_23 : decode cX4_turnOf 23 = .ok (.if_icmp .ge 26, 3) := by decide +kernel
theorem dX4_turnOf_26 : decode cX4_turnOf 26 = .ok (.aload_n 0, 1) := by decide +kernel
theorem dX4_turnOf_27 : decode cX4_turnOf 27 = .ok (.iload 4, 2) := by decide +kernel
theorem dX4_turnOf_29 : decode cX4_turnOf 29 = .ok (.invokevirtual 36, 3) := by decide +kernel
theorem dX4_turnOf_32 : decode cX4_turnOf 32 = .ok (.aload_n 0, 1) := by decide +kernel
theorem dX4_turnOf_33 : decode cX4_turnOf 33 = .ok (.iload_n 1, 1) := by decide +kernel
theorem dX4_turnOf_34 : decode cX4_turnOf 34 = .ok (.invokevirtual 36, 3) := by decide +kernel
theorem dX4_turnOf_37 : decode cX4_turnOf 37 = .ok (.if_icmp .ne 6, 3) := by decide +kernel
theorem dX4_turnOf_40 : decode cX4_turnOf 40 = .ok (.iinc 3 1, 3) := by decide +kernel
theorem dX4_turnOf_43 : decode cX4_turnOf 43 = .ok (.iinc 4 1, 3) := by decide +kernel
theorem dX4_turnOf_46 : decode cX4_turnOf 46 = .ok (.goto (-26), 3) := by decide +kernel
theorem dX4_turnOf_49 : decode cX4_turnOf 49 = .ok (.iload_n 3, 1) := by decide +kernel
theorem dX4_turnOf_50 : decode cX4_turnOf 50 = .ok (.ireturn, 1) := by decide +kernel
theorem dX4_neighbour_0 : decode cX4_neighbour 0 = .ok (.iload_n 2, 1) := by decide +kernel
theorem dX4_neighbour_1 : decode cX4_neighbour 1 = .ok (.iconst 1, 1) := by decide +kernel
theorem dX4_neighbour_2 : decode cX4_neighbour 2 = .ok (.if_icmp .ne 11, 3) := by decide +kernel
theorem dX4_neighbour_5 : decode cX4_neighbour 5 = .ok (.aload_n 0, 1) := by decide +kernel
theorem dX4_neighbour_6 : decode cX4_neighbour 6 = .ok (.iload_n 1, 1) := by decide +kernel
theorem dX4_neighbour_7 : decode cX4_neighbour 7 = .ok (.invokevirtual 55, 3) := by decide +kernel
theorem dX4_neighbour_10 : decode cX4_neighbour 10 = .ok (.goto 8, 3) := by decide +kernel
theorem dX4_neighbour_13 : decode cX4_neighbour 13 = .ok (.aload_n 0, 1) := by decide +kernel
theorem dX4_neighbour_14 : decode cX4_neighbour 14 = .ok (.iload_n 1, 1) := by decide +kernel
theorem dX4_neighbour_15 : decode cX4_neighbour 15 = .ok (.invokevirtual 58, 3) := by decide +kernel
theorem dX4_neighbour_18 : decode cX4_neighbour 18 = .ok (.ireturn, 1) := by decide +kernel
theorem dX4_next_0 : decode cX4_next 0 = .ok (.aload_n 0, 1) := by decide +kernel
theorem dX4_next_1 : decode cX4_next 1 = .ok (.iload_n 1, 1) := by decide +kernel
theorem dX4_next_2 : decode cX4_next 2 = .ok (.invokevirtual 43, 3) := by decide +kernel
theorem dX4_next_5 : decode cX4_next 5 = .ok (.istore_n 2, 1) := by decide +kernel
theorem dX4_next_6 : decode cX4_next 6 = .ok (.aload_n 0, 1) := by decide +kernel
theorem dX4_next_7 : decode cX4_next 7 = .ok (.iload_n 2, 1) := by decide +kernel
theorem dX4_next_8 : decode cX4_next 8 = .ok (.invokevirtual 36, 3) := by decide +kernel
theorem dX4_next_11 : decode cX4_next 11 = .ok (.aload_n 0, 1) := by decide +kernel
theorem dX4_next_12 : decode cX4_next 12 = .ok (.iload_n 1, 1) := by decide +kernel
theorem dX4_next_13 : decode cX4_next 13 = .ok (.invokevirtual 36, 3) := by decide +kernel
theorem dX4_next_16 : decode cX4_next 16 = .ok (.if_icmp .ne 7, 3) := by decide +kernel
theorem dX4_next_19 : decode cX4_next 19 = .ok (.iload_n 2, 1) := by decide +kernel
theorem dX4_next_20 : decode cX4_next 20 = .ok (.goto 4, 3) := by decide +kernel
theorem dX4_next_23 : decode cX4_next 23 = .ok (.iconst (-1), 1) := by decide +kernel
theorem dX4_next_24 : decode cX4_next 24 = .ok (.ireturn, 1) := by decide +kernel
theorem dX4_ahead_0 : decode cX4_ahead 0 = .ok (.iload_n 1, 1) := by decide +kernel
theorem dX4_ahead_1 : decode cX4_ahead 1 = .ok (.iconst 1, 1) := by decide +kernel
theorem dX4_ahead_2 : decode cX4_ahead 2 = .ok (.isub, 1) := by decide +kernel
theorem dX4_ahead_3 : decode cX4_ahead 3 = .ok (.istore_n 2, 1) := by decide +kernel
theorem dX4_ahead_4 : decode cX4_ahead 4 = .ok (.iload_n 2, 1) := by decide +kernel
theorem dX4_ahead_5 : decode cX4_ahead 5 = .ok (.ifCond .lt 37, 3) := by decide +kernel
theorem dX4_ahead_8 : decode cX4_ahead 8 = .ok (.aload_n 0, 1) := by decide +kernel
theorem dX4_ahead_9 : decode cX4_ahead 9 = .ok (.iload_n 2, 1) := by decide +kernel
theorem dX4_ahead_10 : decode cX4_ahead 10 = .ok (.invokevirtual 36, 3) := by decide +kernel
theorem dX4_ahead_13 : decode cX4_ahead 13 = .ok (.aload_n 0, 1) := by decide +kernel
theorem dX4_ahead_14 : decode cX4_ahead 14 = .ok (.iload_n 1, 1) := by decide +kernel
theorem dX4_ahead_15 : decode cX4_ahead 15 = .ok (.invokevirtual 36, 3) := by decide +kernel
theorem dX4_ahead_18 : decode cX4_ahead 18 = .ok (.if_icmp .lt 24, 3) := by decide +kernel
theorem dX4_ahead_21 : decode cX4_ahead 21 = .ok (.aload_n 0, 1) := by decide +kernel
theorem dX4_ahead_22 : decode cX4_ahead 22 = .ok (.iload_n 2, 1) := by decide +kernel
theorem dX4_ahead_23 : decode cX4_ahead 23 = .ok (.invokevirtual 36, 3) := by decide +kernel
theorem dX4_ahead_26 : decode cX4_ahead 26 = .ok (.aload_n 0, 1) := by decide +kernel
theorem dX4_ahead_27 : decode cX4_ahead 27 = .ok (.iload_n 1, 1) := by decide +kernel
theorem dX4_ahead_28 : decode cX4_ahead 28 = .ok (.invokevirtual 36, 3) := by decide +kernel
theorem dX4_ahead_31 : decode cX4_ahead 31 = .ok (.if_icmp .ne 5, 3) := by decide +kernel
theorem dX4_ahead_34 : decode cX4_ahead 34 = .ok (.iload_n 2, 1) := by decide +kernel
theorem dX4_ahead_35 : decode cX4_ahead 35 = .ok (.ireturn, 1) := by decide +kernel
theorem dX4_ahead_36 : decode cX4_ahead 36 = .ok (.iinc 2 (-1), 3) := by decide +kernel
theorem dX4_ahead_39 : decode cX4_ahead 39 = .ok (.goto (-35), 3) := by decide +kernel
theorem dX4_ahead_42 : decode cX4_ahead 42 = .ok (.iconst (-1), 1) := by decide +kernel
theorem dX4_ahead_43 : decode cX4_ahead 43 = .ok (.ireturn, 1) := by decide +kernel
theorem dX4_heightOf_0 : decode cX4_heightOf 0 = .ok (.aload_n 0, 1) := by decide +kernel
theorem dX4_heightOf_1 : decode cX4_heightOf 1 = .ok (.iload_n 1, 1) := by decide +kernel
theorem dX4_heightOf_2 : decode cX4_heightOf 2 = .ok (.invokevirtual 36, 3) := by decide +kernel
theorem dX4_heightOf_5 : decode cX4_heightOf 5 = .ok (.istore_n 2, 1) := by decide +kernel
theorem dX4_heightOf_6 : decode cX4_heightOf 6 = .ok (.aload_n 0, 1) := by decide +kernel
theorem dX4_heightOf_7 : decode cX4_heightOf 7 = .ok (.iload_n 1, 1) := by decide +kernel
theorem dX4_heightOf_8 : decode cX4_heightOf 8 = .ok (.invokevirtual 43, 3) := by decide +kernel
theorem dX4_heightOf_11 : decode cX4_heightOf 11 = .ok (.istore_n 3, 1) := by decide +kernel
theorem dX4_heightOf_12 : decode cX4_heightOf 12 = .ok (.iload_n 1, 1) := by decide +kernel
theorem dX4_heightOf_13 : decode cX4_heightOf 13 = .ok (.istore 4, 2) := by decide +kernel
theorem dX4_heightOf_15 : decode cX4_heightOf 15 = .ok (.iload 4, 2) := by decide +kernel
theorem dX4_heightOf_17 : decode cX4_heightOf 17 = .ok (.iload_n 3, 1) := by decide +kernel
theorem dX4_heightOf_18 : decode cX4_heightOf 18 = .ok (.if_icmp .ge 20, 3) := by decide +kernel
theorem dX4_heightOf_21 : decode cX4_heightOf 21 = .ok (.iload_n 2, 1) := by decide +kernel
theorem dX4_heightOf_22 : decode cX4_heightOf 22 = .ok (.aload_n 0, 1) := by decide +kernel
theorem dX4_heightOf_23 : decode cX4_heightOf 23 = .ok (.iload 4, 2) := by decide +kernel
theorem dX4_heightOf_25 : decode cX4_heightOf 25 = .ok (.invokevirtual 36, 3) := by decide +kernel
theorem dX4_heightOf_28 : decode cX4_heightOf 28 = .ok (.invokestatic 61, 3) := by decide +kernel
theorem dX4_heightOf_31 : decode cX4_heightOf 31 = .ok (.istore_n 2, 1) := by decide +kernel
theorem dX4_heightOf_32 : decode cX4_heightOf 32 = .ok (.iinc 4 1, 3) := by decide +kernel
theorem dX4_heightOf_35 : decode cX4_heightOf 35 = .ok (.goto (-20), 3) := by decide +kernel
theorem dX4_heightOf_38 : decode cX4_heightOf 38 = .ok (.iload_n 2, 1) := by decide +kernel
theorem dX4_heightOf_39 : decode cX4_heightOf 39 = .ok (.aload_n 0, 1) := by decide +kernel
theorem dX4_heightOf_40 : decode cX4_heightOf 40 = .ok (.iload_n 1, 1) := by decide +kernel
theorem dX4_heightOf_41 : decode cX4_heightOf 41 = .ok (.invokevirtual 36, 3) := by decide +kernel
theorem dX4_heightOf_44 : decode cX4_heightOf 44 = .ok (.isub, 1) := by decide +kernel
theorem dX4_heightOf_45 : decode cX4_heightOf 45 = .ok (.ireturn, 1) := by decide +kernel
theorem dX4_leaves_0 : decode cX4_leaves 0 = .ok (.iconst 0, 1) := by decide +kernel
theorem dX4_leaves_1 : decode cX4_leaves 1 = .ok (.istore_n 1, 1) := by decide +kernel
theorem dX4_leaves_2 : decode cX4_leaves 2 = .ok (.iconst 0, 1) := by decide +kernel
theorem dX4_leaves_3 : decode cX4_leaves 3 = .ok (.istore_n 2, 1) := by decide +kernel
theorem dX4_leaves_4 : decode cX4_leaves 4 = .ok (.iload_n 2, 1) := by decide +kernel
theorem dX4_leaves_5 : decode cX4_leaves 5 = .ok (.aload_n 0, 1) := by decide +kernel
theorem dX4_leaves_6 : decode cX4_leaves 6 = .ok (.invokevirtual 27, 3) := by decide +kernel
theorem dX4_leaves_9 : decode cX4_leaves 9 = .ok (.if_icmp .ge 20, 3) := by decide +kernel
theorem dX4_leaves_12 : decode cX4_leaves 12 = .ok (.aload_n 0, 1) := by decide +kernel
theorem dX4_leaves_13 : decode cX4_leaves 13 = .ok (.iload_n 2, 1) := by decide +kernel
theorem dX4_leaves_14 : decode cX4_leaves 14 = .ok (.invokevirtual 46, 3) := by decide +kernel
theorem dX4_leaves_17 : decode cX4_leaves 17 = .ok (.ifCond .ne 6, 3) := by decide +kernel
theorem dX4_leaves_20 : decode cX4_leaves 20 = .ok (.iinc 1 1, 3) := by decide +kernel
theorem dX4_leaves_23 : decode cX4_leaves 23 = .ok (.iinc 2 1, 3) := by decide +kernel
theorem dX4_leaves_26 : decode cX4_leaves 26 = .ok (.goto (-22), 3) := by decide +kernel
theorem dX4_leaves_29 : decode cX4_leaves 29 = .ok (.iload_n 1, 1) := by decide +kernel
theorem dX4_leaves_30 : decode cX4_leaves 30 = .ok (.ireturn, 1) := by decide +kernel
theorem dX4_unlikeLetters_0 : decode cX4_unlikeLetters 0 = .ok (.iconst 0, 1) := by decide +kernel
theorem dX4_unlikeLetters_1 : decode cX4_unlikeLetters 1 = .ok (.istore_n 1, 1) := by decide +kernel
theorem dX4_unlikeLetters_2 : decode cX4_unlikeLetters 2 = .ok (.iconst 0, 1) := by decide +kernel
theorem dX4_unlikeLetters_3 : decode cX4_unlikeLetters 3 = .ok (.istore_n 2, 1) := by decide +kernel
theorem dX4_unlikeLetters_4 : decode cX4_unlikeLetters 4 = .ok (.iload_n 2, 1) := by decide +kernel
theorem dX4_unlikeLetters_5 : decode cX4_unlikeLetters 5 = .ok (.aload_n 0, 1) := by decide +kernel
theorem dX4_unlikeLetters_6 : decode cX4_unlikeLetters 6 = .ok (.invokevirtual 27, 3) := by decide +kernel
theorem dX4_unlikeLetters_9 : decode cX4_unlikeLetters 9 = .ok (.if_icmp .ge 19, 3) := by decide +kernel
theorem dX4_unlikeLetters_12 : decode cX4_unlikeLetters 12 = .ok (.iload_n 1, 1) := by decide +kernel
theorem dX4_unlikeLetters_13 : decode cX4_unlikeLetters 13 = .ok (.iconst 1, 1) := by decide +kernel
theorem dX4_unlikeLetters_14 : decode cX4_unlikeLetters 14 = .ok (.aload_n 0, 1) := by decide +kernel
theorem dX4_unlikeLetters_15 : decode cX4_unlikeLetters 15 = .ok (.iload_n 2, 1) := by decide +kernel
theorem dX4_unlikeLetters_16 : decode cX4_unlikeLetters 16 = .ok (.invokevirtual 66, 3) := by decide +kernel
theorem dX4_unlikeLetters_19 : decode cX4_unlikeLetters 19 = .ok (.ishl, 1) := by decide +kernel
theorem dX4_unlikeLetters_20 : decode cX4_unlikeLetters 20 = .ok (.ior, 1) := by decide +kernel
theorem dX4_unlikeLetters_21 : decode cX4_unlikeLetters 21 = .ok (.istore_n 1, 1) := by decide +kernel
theorem dX4_unlikeLetters_22 : decode cX4_unlikeLetters 22 = .ok (.iinc 2 1, 3) := by decide +kernel
theorem dX4_unlikeLetters_25 : decode cX4_unlikeLetters 25 = .ok (.goto (-21), 3) := by decide +kernel
theorem dX4_unlikeLetters_28 : decode cX4_unlikeLetters 28 = .ok (.iload_n 1, 1) := by decide +kernel
theorem dX4_unlikeLetters_29 : decode cX4_unlikeLetters 29 = .ok (.invokestatic 69, 3) := by decide +kernel
theorem dX4_unlikeLetters_32 : decode cX4_unlikeLetters 32 = .ok (.ireturn, 1) := by decide +kernel
theorem dX4_alike_0 : decode cX4_alike 0 = .ok (.aload_n 0, 1) := by decide +kernel
theorem dX4_alike_1 : decode cX4_alike 1 = .ok (.iload_n 1, 1) := by decide +kernel
theorem dX4_alike_2 : decode cX4_alike 2 = .ok (.invokevirtual 43, 3) := by decide +kernel
theorem dX4_alike_5 : decode cX4_alike 5 = .ok (.iload_n 1, 1) := by decide +kernel
theorem dX4_alike_6 : decode cX4_alike 6 = .ok (.isub, 1) := by decide +kernel
theorem dX4_alike_7 : decode cX4_alike 7 = .ok (.istore_n 3, 1) := by decide +kernel
theorem dX4_alike_8 : decode cX4_alike 8 = .ok (.iload_n 3, 1) := by decide +kernel
theorem dX4_alike_9 : decode cX4_alike 9 = .ok (.aload_n 0, 1) := by decide +kernel
theorem dX4_alike_10 : decode cX4_alike 10 = .ok (.iload_n 2, 1) := by decide +kernel
theorem dX4_alike_11 : decode cX4_alike 11 = .ok (.invokevirtual 43, 3) := by decide +kernel
theorem dX4_alike_14 : decode cX4_alike 14 = .ok (.iload_n 2, 1) := by decide +kernel
theorem dX4_alike_15 : decode cX4_alike 15 = .ok (.isub, 1) := by decide +kernel
theorem dX4_alike_16 : decode cX4_alike 16 = .ok (.if_icmp .eq 5, 3) := by decide +kernel
theorem dX4_alike_19 : decode cX4_alike 19 = .ok (.iconst 0, 1) := by decide +kernel
theorem dX4_alike_20 : decode cX4_alike 20 = .ok (.ireturn, 1) := by decide +kernel
theorem dX4_alike_21 : decode cX4_alike 21 = .ok (.aload_n 0, 1) := by decide +kernel
theorem dX4_alike_22 : decode cX4_alike 22 = .ok (.iload_n 2, 1) := by decide +kernel
theorem dX4_alike_23 : decode cX4_alike 23 = .ok (.invokevirtual 36, 3) := by decide +kernel
theorem dX4_alike_26 : decode cX4_alike 26 = .ok (.aload_n 0, 1) := by decide +kernel
theorem dX4_alike_27 : decode cX4_alike 27 = .ok (.iload_n 1, 1) := by decide +kernel
theorem dX4_alike_28 : decode cX4_alike 28 = .ok (.invokevirtual 36, 3) := by decide +kernel
theorem dX4_alike_31 : decode cX4_alike 31 = .ok (.isub, 1) := by decide +kernel
theorem dX4_alike_32 : decode cX4_alike 32 = .ok (.istore 4, 2) := by decide +kernel
theorem dX4_alike_34 : decode cX4_alike 34 = .ok (.iconst 0, 1) := by decide +kernel
theorem dX4_alike_35 : decode cX4_alike 35 = .ok (.istore 5, 2) := by decide +kernel
theorem dX4_alike_37 : decode cX4_alike 37 = .ok (.iload 5, 2) := by decide +kernel
theorem dX4_alike_39 : decode cX4_alike 39 = .ok (.iload_n 3, 1) := by decide +kernel
theorem dX4_alike_40 : decode cX4_alike 40 = .ok (.if_icmp .ge 52, 3) := by decide +kernel
theorem dX4_alike_43 : decode cX4_alike 43 = .ok (.aload_n 0, 1) := by decide +kernel
theorem dX4_alike_44 : decode cX4_alike 44 = .ok (.iload_n 1, 1) := by decide +kernel
theorem dX4_alike_45 : decode cX4_alike 45 = .ok (.iload 5, 2) := by decide +kernel
theorem dX4_alike_47 : decode cX4_alike 47 = .ok (.iadd, 1) := by decide +kernel
theorem dX4_alike_48 : decode cX4_alike 48 = .ok (.invokevirtual 66, 3) := by decide +kernel
theorem dX4_alike_51 : decode cX4_alike 51 = .ok (.aload_n 0, 1) := by decide +kernel
theorem dX4_alike_52 : decode cX4_alike 52 = .ok (.iload_n 2, 1) := by decide +kernel
theorem dX4_alike_53 : decode cX4_alike 53 = .ok (.iload 5, 2) := by decide +kernel
theorem dX4_alike_55 : decode cX4_alike 55 = .ok (.iadd, 1) := by decide +kernel
theorem dX4_alike_56 : decode cX4_alike 56 = .ok (.invokevirtual 66, 3) := by decide +kernel
theorem dX4_alike_59 : decode cX4_alike 59 = .ok (.if_icmp .ne 25, 3) := by decide +kernel
theorem dX4_alike_62 : decode cX4_alike 62 = .ok (.aload_n 0, 1) := by decide +kernel
theorem dX4_alike_63 : decode cX4_alike 63 = .ok (.iload_n 1, 1) := by decide +kernel
theorem dX4_alike_64 : decode cX4_alike 64 = .ok (.iload 5, 2) := by decide +kernel
theorem dX4_alike_66 : decode cX4_alike 66 = .ok (.iadd, 1) := by decide +kernel
theorem dX4_alike_67 : decode cX4_alike 67 = .ok (.invokevirtual 36, 3) := by decide +kernel
theorem dX4_alike_70 : decode cX4_alike 70 = .ok (.iload 4, 2) := by decide +kernel
theorem dX4_alike_72 : decode cX4_alike 72 = .ok (.iadd, 1) := by decide +kernel
theorem dX4_alike_73 : decode cX4_alike 73 = .ok (.aload_n 0, 1) := by decide +kernel
theorem dX4_alike_74 : decode cX4_alike 74 = .ok (.iload_n 2, 1) := by decide +kernel
theorem dX4_alike_75 : decode cX4_alike 75 = .ok (.iload 5, 2) := by decide +kernel
theorem dX4_alike_77 : decode cX4_alike 77 = .ok (.iadd, 1) := by decide +kernel
theorem dX4_alike_78 : decode cX4_alike 78 = .ok (.invokevirtual 36, 3) := by decide +kernel
theorem dX4_alike_81 : decode cX4_alike 81 = .ok (.if_icmp .eq 5, 3) := by decide +kernel
theorem dX4_alike_84 : decode cX4_alike 84 = .ok (.iconst 0, 1) := by decide +kernel
theorem dX4_alike_85 : decode cX4_alike 85 = .ok (.ireturn, 1) := by decide +kernel
theorem dX4_alike_86 : decode cX4_alike 86 = .ok (.iinc 5 1, 3) := by decide +kernel
theorem dX4_alike_89 : decode cX4_alike 89 = .ok (.goto (-52), 3) := by decide +kernel
theorem dX4_alike_92 : decode cX4_alike 92 = .ok (.iconst 1, 1) := by decide +kernel
theorem dX4_alike_93 : decode cX4_alike 93 = .ok (.ireturn, 1) := by decide +kernel
theorem dX4_clear_0 : decode cX4_clear 0 = .ok (.aload_n 0, 1) := by decide +kernel
theorem dX4_clear_1 : decode cX4_clear 1 = .ok (.getfield 14, 3) := by decide +kernel
theorem dX4_clear_4 : decode cX4_clear 4 = .ok (.invokevirtual 74, 3) := by decide +kernel
theorem dX4_clear_7 : decode cX4_clear 7 = .ok (.aload_n 0, 1) := by decide +kernel
theorem dX4_clear_8 : decode cX4_clear 8 = .ok (.getfield 20, 3) := by decide +kernel
theorem dX4_clear_11 : decode cX4_clear 11 = .ok (.invokevirtual 74, 3) := by decide +kernel
theorem dX4_clear_14 : decode cX4_clear 14 = .ok (.return_, 1) := by decide +kernel
theorem dX4_putIn_0 : decode cX4_putIn 0 = .ok (.aload_n 0, 1) := by decide +kernel
theorem dX4_putIn_1 : decode cX4_putIn 1 = .ok (.getfield 14, 3) := by decide +kernel
theorem dX4_putIn_4 : decode cX4_putIn 4 = .ok (.iload_n 1, 1) := by decide +kernel
theorem dX4_putIn_5 : decode cX4_putIn 5 = .ok (.iload_n 2, 1) := by decide +kernel
theorem dX4_putIn_6 : decode cX4_putIn 6 = .ok (.invokevirtual 77, 3) := by decide +kernel
theorem dX4_putIn_9 : decode cX4_putIn 9 = .ok (.aload_n 0, 1) := by decide +kernel
theorem dX4_putIn_10 : decode cX4_putIn 10 = .ok (.getfield 20, 3) := by decide +kernel
theorem dX4_putIn_13 : decode cX4_putIn 13 = .ok (.iload_n 1, 1) := by decide +kernel
theorem dX4_putIn_14 : decode cX4_putIn 14 = .ok (.iload_n 3, 1) := by decide +kernel
theorem dX4_putIn_15 : decode cX4_putIn 15 = .ok (.invokevirtual 77, 3) := by decide +kernel
theorem dX4_putIn_18 : decode cX4_putIn 18 = .ok (.return_, 1) := by decide +kernel
theorem dX4_takeOut_0 : decode cX4_takeOut 0 = .ok (.aload_n 0, 1) := by decide +kernel
theorem dX4_takeOut_1 : decode cX4_takeOut 1 = .ok (.getfield 14, 3) := by decide +kernel
theorem dX4_takeOut_4 : decode cX4_takeOut 4 = .ok (.iload_n 1, 1) := by decide +kernel
theorem dX4_takeOut_5 : decode cX4_takeOut 5 = .ok (.iload_n 2, 1) := by decide +kernel
theorem dX4_takeOut_6 : decode cX4_takeOut 6 = .ok (.invokevirtual 80, 3) := by decide +kernel
theorem dX4_takeOut_9 : decode cX4_takeOut 9 = .ok (.aload_n 0, 1) := by decide +kernel
theorem dX4_takeOut_10 : decode cX4_takeOut 10 = .ok (.getfield 20, 3) := by decide +kernel
theorem dX4_takeOut_13 : decode cX4_takeOut 13 = .ok (.iload_n 1, 1) := by decide +kernel
theorem dX4_takeOut_14 : decode cX4_takeOut 14 = .ok (.iload_n 2, 1) := by decide +kernel
theorem dX4_takeOut_15 : decode cX4_takeOut 15 = .ok (.invokevirtual 80, 3) := by decide +kernel
theorem dX4_takeOut_18 : decode cX4_takeOut 18 = .ok (.return_, 1) := by decide +kernel
theorem dX4_shiftDepths_0 : decode cX4_shiftDepths 0 = .ok (.iload_n 1, 1) := by decide +kernel
theorem dX4_shiftDepths_1 : decode cX4_shiftDepths 1 = .ok (.istore 4, 2) := by decide +kernel
theorem dX4_shiftDepths_3 : decode cX4_shiftDepths 3 = .ok (.iload 4, 2) := by decide +kernel
theorem dX4_shiftDepths_5 : decode cX4_shiftDepths 5 = .ok (.iload_n 2, 1) := by decide +kernel
theorem dX4_shiftDepths_6 : decode cX4_shiftDepths 6 = .ok (.if_icmp .ge 29, 3) := by decide +kernel
theorem dX4_shiftDepths_9 : decode cX4_shiftDepths 9 = .ok (.aload_n 0, 1) := by decide +kernel
theorem dX4_shiftDepths_10 : decode cX4_shiftDepths 10 = .ok (.getfield 20, 3) := by decide +kernel
theorem dX4_shiftDepths_13 : decode cX4_shiftDepths 13 = .ok (.iload 4, 2) := by decide +kernel
theorem dX4_shiftDepths_15 : decode cX4_shiftDepths 15 = .ok (.aload_n 0, 1) := by decide +kernel
theorem dX4_shiftDepths_16 : decode cX4_shiftDepths 16 = .ok (.getfield 20, 3) := by decide +kernel
theorem dX4_shiftDepths_19 : decode cX4_shiftDepths 19 = .ok (.iload 4, 2) := by decide +kernel
theorem dX4_shiftDepths_21 : decode cX4_shiftDepths 21 = .ok (.invokevirtual 28, 3) := by decide +kernel
theorem dX4_shiftDepths_24 : decode cX4_shiftDepths 24 = .ok (.iload_n 3, 1) := by decide +kernel
theorem dX4_shiftDepths_25 : decode cX4_shiftDepths 25 = .ok (.iadd, 1) := by decide +kernel
theorem dX4_shiftDepths_26 : decode cX4_shiftDepths 26 = .ok (.invokevirtual 32, 3) := by decide +kernel
theorem dX4_shiftDepths_29 : decode cX4_shiftDepths 29 = .ok (.iinc 4 1, 3) := by decide +kernel
theorem dX4_shiftDepths_32 : decode cX4_shiftDepths 32 = .ok (.goto (-29), 3) := by decide +kernel
theorem dX4_shiftDepths_35 : decode cX4_shiftDepths 35 = .ok (.return_, 1) := by decide +kernel
theorem dX4_exchangeRuns_0 : decode cX4_exchangeRuns 0 = .ok (.aload_n 0, 1) := by decide +kernel
theorem dX4_exchangeRuns_1 : decode cX4_exchangeRuns 1 = .ok (.getfield 14, 3) := by decide +kernel
theorem dX4_exchangeRuns_4 : decode cX4_exchangeRuns 4 = .ok (.iload_n 1, 1) := by decide +kernel
theorem dX4_exchangeRuns_5 : decode cX4_exchangeRuns 5 = .ok (.iload_n 2, 1) := by decide +kernel
theorem dX4_exchangeRuns_6 : decode cX4_exchangeRuns 6 = .ok (.iload_n 3, 1) := by decide +kernel
theorem dX4_exchangeRuns_7 : decode cX4_exchangeRuns 7 = .ok (.invokevirtual 83, 3) := by decide +kernel
theorem dX4_exchangeRuns_10 : decode cX4_exchangeRuns 10 = .ok (.aload_n 0, 1) := by decide +kernel
theorem dX4_exchangeRuns_11 : decode cX4_exchangeRuns 11 = .ok (.getfield 20, 3) := by decide +kernel
theorem dX4_exchangeRuns_14 : decode cX4_exchangeRuns 14 = .ok (.iload_n 1, 1) := by decide +kernel
theorem dX4_exchangeRuns_15 : decode cX4_exchangeRuns 15 = .ok (.iload_n 2, 1) := by decide +kernel
theorem dX4_exchangeRuns_16 : decode cX4_exchangeRuns 16 = .ok (.iload_n 3, 1) := by decide +kernel
theorem dX4_exchangeRuns_17 : decode cX4_exchangeRuns 17 = .ok (.invokevirtual 83, 3) := by decide +kernel
theorem dX4_exchangeRuns_20 : decode cX4_exchangeRuns 20 = .ok (.return_, 1) := by decide +kernel
theorem dX4_takeFrom_0 : decode cX4_takeFrom 0 = .ok (.aload_n 0, 1) := by decide +kernel
theorem dX4_takeFrom_1 : decode cX4_takeFrom 1 = .ok (.getfield 14, 3) := by decide +kernel
theorem dX4_takeFrom_4 : decode cX4_takeFrom 4 = .ok (.aload_n 1, 1) := by decide +kernel
theorem dX4_takeFrom_5 : decode cX4_takeFrom 5 = .ok (.getfield 14, 3) := by decide +kernel
theorem dX4_takeFrom_8 : decode cX4_takeFrom 8 = .ok (.invokevirtual 87, 3) := by decide +kernel
theorem dX4_takeFrom_11 : decode cX4_takeFrom 11 = .ok (.aload_n 0, 1) := by decide +kernel
theorem dX4_takeFrom_12 : decode cX4_takeFrom 12 = .ok (.getfield 20, 3) := by decide +kernel
theorem dX4_takeFrom_15 : decode cX4_takeFrom 15 = .ok (.aload_n 1, 1) := by decide +kernel
theorem dX4_takeFrom_16 : decode cX4_takeFrom 16 = .ok (.getfield 20, 3) := by decide +kernel
theorem dX4_takeFrom_19 : decode cX4_takeFrom 19 = .ok (.invokevirtual 87, 3) := by decide +kernel
theorem dX4_takeFrom_22 : decode cX4_takeFrom 22 = .ok (.return_, 1) := by decide +kernel
theorem dX4_takePart_0 : decode cX4_takePart 0 = .ok (.aload_n 0, 1) := by decide +kernel
theorem dX4_takePart_1 : decode cX4_takePart 1 = .ok (.invokevirtual 91, 3) := by decide +kernel
theorem dX4_takePart_4 : decode cX4_takePart 4 = .ok (.aload_n 1, 1) := by decide +kernel
theorem dX4_takePart_5 : decode cX4_takePart 5 = .ok (.iload_n 2, 1) := by decide +kernel
theorem dX4_takePart_6 : decode cX4_takePart 6 = .ok (.invokevirtual 43, 3) := by decide +kernel
theorem dX4_takePart_9 : decode cX4_takePart 9 = .ok (.istore_n 3, 1) := by decide +kernel
theorem dX4_takePart_10 : decode cX4_takePart 10 = .ok (.iload_n 2, 1) := by decide +kernel
theorem dX4_takePart_11 : decode cX4_takePart 11 = .ok (.istore 4, 2) := by decide +kernel
theorem dX4_takePart_13 : decode cX4_takePart 13 = .ok (.iload 4, 2) := by decide +kernel
theorem dX4_takePart_15 : decode cX4_takePart 15 = .ok (.iload_n 3, 1) := by decide +kernel
theorem dX4_takePart_16 : decode cX4_takePart 16 = .ok (.if_icmp .ge 35, 3) := by decide +kernel
theorem dX4_takePart_19 : decode cX4_takePart 19 = .ok (.aload_n 0, 1) := by decide +kernel
theorem dX4_takePart_20 : decode cX4_takePart 20 = .ok (.aload_n 0, 1) := by decide +kernel
theorem dX4_takePart_21 : decode cX4_takePart 21 = .ok (.invokevirtual 27, 3) := by decide +kernel
theorem dX4_takePart_24 : decode cX4_takePart 24 = .ok (.aload_n 1, 1) := by decide +kernel
theorem dX4_takePart_25 : decode cX4_takePart 25 = .ok (.iload 4, 2) := by decide +kernel
theorem dX4_takePart_27 : decode cX4_takePart 27 = .ok (.invokevirtual 66, 3) := by decide +kernel
theorem dX4_takePart_30 : decode cX4_takePart 30 = .ok (.aload_n 1, 1) := by decide +kernel
theorem dX4_takePart_31 : decode cX4_takePart 31 = .ok (.iload 4, 2) := by decide +kernel
theorem dX4_takePart_33 : decode cX4_takePart 33 = .ok (.invokevirtual 36, 3) := by decide +kernel
theorem dX4_takePart_36 : decode cX4_takePart 36 = .ok (.aload_n 1, 1) := by decide +kernel
theorem dX4_takePart_37 : decode cX4_takePart 37 = .ok (.iload_n 2, 1) := by decide +kernel
theorem dX4_takePart_38 : decode cX4_takePart 38 = .ok (.invokevirtual 36, 3) := by decide +kernel
theorem dX4_takePart_41 : decode cX4_takePart 41 = .ok (.isub, 1) := by decide +kernel
theorem dX4_takePart_42 : decode cX4_takePart 42 = .ok (.invokevirtual 92, 3) := by decide +kernel
theorem dX4_takePart_45 : decode cX4_takePart 45 = .ok (.iinc 4 1, 3) := by decide +kernel
theorem dX4_takePart_48 : decode cX4_takePart 48 = .ok (.goto (-35), 3) := by decide +kernel
theorem dX4_takePart_51 : decode cX4_takePart 51 = .ok (.return_, 1) := by decide +kernel
theorem dX4_appendTo_0 : decode cX4_appendTo 0 = .ok (.iconst 0, 1) := by decide +kernel
theorem dX4_appendTo_1 : decode cX4_appendTo 1 = .ok (.istore_n 2, 1) := by decide +kernel
theorem dX4_appendTo_2 : decode cX4_appendTo 2 = .ok (.iconst 0, 1) := by decide +kernel
theorem dX4_appendTo_3 : decode cX4_appendTo 3 = .ok (.istore_n 3, 1) := by decide +kernel
theorem dX4_appendTo_4 : decode cX4_appendTo 4 = .ok (.iload_n 3, 1) := by decide +kernel
theorem dX4_appendTo_5 : decode cX4_appendTo 5 = .ok (.aload_n 0, 1) := by decide +kernel
theorem dX4_appendTo_6 : decode cX4_appendTo 6 = .ok (.invokevirtual 27, 3) := by decide +kernel
theorem dX4_appendTo_9 : decode cX4_appendTo 9 = .ok (.if_icmp .ge 66, 3) := by decide +kernel
theorem dX4_appendTo_12 : decode cX4_appendTo 12 = .ok (.aload_n 0, 1) := by decide +kernel
theorem dX4_appendTo_13 : decode cX4_appendTo 13 = .ok (.iload_n 3, 1) := by decide +kernel
theorem dX4_appendTo_14 : decode cX4_appendTo 14 = .ok (.invokevirtual 36, 3) := by decide +kernel
theorem dX4_appendTo_17 : decode cX4_appendTo 17 = .ok (.iload_n 2, 1) := by decide +kernel
theorem dX4_appendTo_18 : decode cX4_appendTo 18 = .ok (.if_icmp .le 12, 3) := by decide +kernel
theorem dX4_appendTo_21 : decode cX4_appendTo 21 = .ok (.aload_n 1, 1) := by decide +kernel
theorem dX4_appendTo_22 : decode cX4_appendTo 22 = .ok (.bipush 40, 2) := by decide +kernel
theorem dX4_appendTo_24 : decode cX4_appendTo 24 = .ok (.invokevirtual 94, 3) := by decide +kernel
theorem dX4_appendTo_27 : decode cX4_appendTo 27 = .ok (.goto 24, 3) := by decide +kernel
theorem dX4_appendTo_30 : decode cX4_appendTo 30 = .ok (.iload_n 3, 1) := by decide +kernel
theorem dX4_appendTo_31 : decode cX4_appendTo 31 = .ok (.ifCond .le 20, 3) := by decide +kernel
theorem dX4_appendTo_34 : decode cX4_appendTo 34 = .ok (.aload_n 1, 1) := by decide +kernel
theorem dX4_appendTo_35 : decode cX4_appendTo 35 = .ok (.iload_n 2, 1) := by decide +kernel
theorem dX4_appendTo_36 : decode cX4_appendTo 36 = .ok (.aload_n 0, 1) := by decide +kernel
theorem dX4_appendTo_37 : decode cX4_appendTo 37 = .ok (.iload_n 3, 1) := by decide +kernel
theorem dX4_appendTo_38 : decode cX4_appendTo 38 = .ok (.invokevirtual 36, 3) := by decide +kernel
theorem dX4_appendTo_41 : decode cX4_appendTo 41 = .ok (.isub, 1) := by decide +kernel
theorem dX4_appendTo_42 : decode cX4_appendTo 42 = .ok (.invokestatic 97, 3) := by decide +kernel
theorem dX4_appendTo_45 : decode cX4_appendTo 45 = .ok (.aload_n 1, 1) := by decide +kernel
theorem dX4_appendTo_46 : decode cX4_appendTo 46 = .ok (.bipush 44, 2) := by decide +kernel
theorem dX4_appendTo_48 : decode cX4_appendTo 48 = .ok (.invokevirtual 94, 3) := by decide +kernel
theorem dX4_appendTo_51 : decode cX4_appendTo 51 = .ok (.aload_n 0, 1) := by decide +kernel
theorem dX4_appendTo_52 : decode cX4_appendTo 52 = .ok (.iload_n 3, 1) := by decide +kernel
theorem dX4_appendTo_53 : decode cX4_appendTo 53 = .ok (.invokevirtual 36, 3) := by decide +kernel
theorem dX4_appendTo_56 : decode cX4_appendTo 56 = .ok (.istore_n 2, 1) := by decide +kernel
theorem dX4_appendTo_57 : decode cX4_appendTo 57 = .ok (.aload_n 1, 1) := by decide +kernel
theorem dX4_appendTo_58 : decode cX4_appendTo 58 = .ok (.bipush 97, 2) := by decide +kernel
theorem dX4_appendTo_60 : decode cX4_appendTo 60 = .ok (.aload_n 0, 1) := by decide +kernel
theorem dX4_appendTo_61 : decode cX4_appendTo 61 = .ok (.iload_n 3, 1) := by decide +kernel
theorem dX4_appendTo_62 : decode cX4_appendTo 62 = .ok (.invokevirtual 66, 3) := by decide +kernel
theorem dX4_appendTo_65 : decode cX4_appendTo 65 = .ok (.iadd, 1) := by decide +kernel
theorem dX4_appendTo_66 : decode cX4_appendTo 66 = .ok (.invokevirtual 94, 3) := by decide +kernel
theorem dX4_appendTo_69 : decode cX4_appendTo 69 = .ok (.iinc 3 1, 3) := by decide +kernel
theorem dX4_appendTo_72 : decode cX4_appendTo 72 = .ok (.goto (-68), 3) := by decide +kernel
theorem dX4_appendTo_75 : decode cX4_appendTo 75 = .ok (.aload_n 1, 1) := by decide +kernel
theorem dX4_appendTo_76 : decode cX4_appendTo 76 = .ok (.iload_n 2, 1) := by decide +kernel
theorem dX4_appendTo_77 : decode cX4_appendTo 77 = .ok (.invokestatic 97, 3) := by decide +kernel
theorem dX4_appendTo_80 : decode cX4_appendTo 80 = .ok (.return_, 1) := by decide +kernel
theorem dX4_appendClosings_0 : decode cX4_appendClosings 0 = .ok (.iconst 0, 1) := by decide +kernel
theorem dX4_appendClosings_1 : decode cX4_appendClosings 1 = .ok (.istore_n 2, 1) := by decide +kernel
theorem dX4_appendClosings_2 : decode cX4_appendClosings 2 = .ok (.iload_n 2, 1) := by decide +kernel
theorem dX4_appendClosings_3 : decode cX4_appendClosings 3 = .ok (.iload_n 1, 1) := by decide +kernel
theorem dX4_appendClosings_4 : decode cX4_appendClosings 4 = .ok (.if_icmp .ge 15, 3) := by decide +kernel
theorem dX4_appendClosings_7 : decode cX4_appendClosings 7 = .ok (.aload_n 0, 1) := by decide +kernel
theorem dX4_appendClosings_8 : decode cX4_appendClosings 8 = .ok (.bipush 41, 2) := by decide +kernel
theorem dX4_appendClosings_10 : decode cX4_appendClosings 10 = .ok (.invokevirtual 94, 3) := by decide +kernel
theorem dX4_appendClosings_13 : decode cX4_appendClosings 13 = .ok (.iinc 2 1, 3) := by decide +kernel
theorem dX4_appendClosings_16 : decode cX4_appendClosings 16 = .ok (.goto (-14), 3) := by decide +kernel
theorem dX4_appendClosings_19 : decode cX4_appendClosings 19 = .ok (.return_, 1) := by decide +kernel
theorem dX5_init_0 : decode cX5_init 0 = .ok (.aload_n 0, 1) := by decide +kernel
theorem dX5_init_1 : decode cX5_init 1 = .ok (.invokespecial 1, 3) := by decide +kernel
theorem dX5_init_4 : decode cX5_init 4 = .ok (.aload_n 0, 1) := by decide +kernel
theorem dX5_init_5 : decode cX5_init 5 = .ok (.new 7, 3) := by decide +kernel
theorem dX5_init_8 : decode cX5_init 8 = .ok (.dup, 1) := by decide +kernel
theorem dX5_init_9 : decode cX5_init 9 = .ok (.invokespecial 9, 3) := by decide +kernel
theorem dX5_init_12 : decode cX5_init 12 = .ok (.putfield 10, 3) := by decide +kernel
theorem dX5_init_15 : decode cX5_init 15 = .ok (.aload_n 0, 1) := by decide +kernel
theorem dX5_init_16 : decode cX5_init 16 = .ok (.new 16, 3) := by decide +kernel
theorem dX5_init_19 : decode cX5_init 19 = .ok (.dup, 1) := by decide +kernel
theorem dX5_init_20 : decode cX5_init 20 = .ok (.invokespecial 18, 3) := by decide +kernel
theorem dX5_init_23 : decode cX5_init 23 = .ok (.putfield 19, 3) := by decide +kernel
theorem dX5_init_26 : decode cX5_init 26 = .ok (.aload_n 0, 1) := by decide +kernel
theorem dX5_init_27 : decode cX5_init 27 = .ok (.new 23, 3) := by decide +kernel
theorem dX5_init_30 : decode cX5_init 30 = .ok (.dup, 1) := by decide +kernel
theorem dX5_init_31 : decode cX5_init 31 = .ok (.bipush 120, 2) := by decide +kernel
theorem dX5_init_33 : decode cX5_init 33 = .ok (.invokespecial 25, 3) := by decide +kernel
theorem dX5_init_36 : decode cX5_init 36 = .ok (.putfield 28, 3) := by decide +kernel
theorem dX5_init_39 : decode cX5_init 39 = .ok (.aload_n 0, 1) := by decide +kernel
theorem dX5_init_40 : decode cX5_init 40 = .ok (.new 32, 3) := by decide +kernel
theorem dX5_init_43 : decode cX5_init 43 = .ok (.dup, 1) := by decide +kernel
theorem dX5_init_44 : decode cX5_init 44 = .ok (.invokespecial 34, 3) := by decide +kernel
theorem dX5_init_47 : decode cX5_init 47 = .ok (.putfield 35, 3) := by decide +kernel
theorem dX5_init_50 : decode cX5_init 50 = .ok (.aload_n 0, 1) := by decide +kernel
theorem dX5_init_51 : decode cX5_init 51 = .ok (.getfield 10, 3) := by decide +kernel
theorem dX5_init_54 : decode cX5_init 54 = .ok (.iconst 0, 1) := by decide +kernel
theorem dX5_init_55 : decode cX5_init 55 = .ok (.iconst 0, 1) := by decide +kernel
theorem dX5_init_56 : decode cX5_init 56 = .ok (.iconst 0, 1) := by decide +kernel
theorem dX5_init_57 : decode cX5_init 57 = .ok (.invokevirtual 39, 3) := by decide +kernel
theorem dX5_init_60 : decode cX5_init 60 = .ok (.return_, 1) := by decide +kernel
theorem dX5_down_0 : decode cX5_down 0 = .ok (.iload_n 1, 1) := by decide +kernel
theorem dX5_down_1 : decode cX5_down 1 = .ok (.ifCond .ge 5, 3) := by decide +kernel
theorem dX5_down_4 : decode cX5_down 4 = .ok (.iconst (-1), 1) := by decide +kernel
theorem dX5_down_5 : decode cX5_down 5 = .ok (.ireturn, 1) := by decide +kernel
theorem dX5_down_6 : decode cX5_down 6 = .ok (.aload_n 0, 1) := by decide +kernel
theorem dX5_down_7 : decode cX5_down 7 = .ok (.aload_n 0, 1) := by decide +kernel
theorem dX5_down_8 : decode cX5_down 8 = .ok (.getfield 10, 3) := by decide +kernel
theorem dX5_down_11 : decode cX5_down 11 = .ok (.getfield 43, 3) := by decide +kernel
theorem dX5_down_14 : decode cX5_down 14 = .ok (.aload_n 0, 1) := by decide +kernel
theorem dX5_down_15 : decode cX5_down 15 = .ok (.getfield 10, 3) := by decide +kernel
theorem dX5_down_18 : decode cX5_down 18 = .ok (.getfield 47, 3) := by decide +kernel
theorem dX5_down_21 : decode cX5_down 21 = .ok (.iload_n 1, 1) := by decide +kernel
theorem dX5_down_22 : decode cX5_down 22 = .ok (.invokevirtual 51, 3) := by decide +kernel
theorem dX5_down_25 : decode cX5_down 25 = .ok (.invokevirtual 57, 3) := by decide +kernel
theorem dX5_down_28 : decode cX5_down 28 = .ok (.ireturn, 1) := by decide +kernel
theorem dX5_up_0 : decode cX5_up 0 = .ok (.aload_n 0, 1) := by decide +kernel
theorem dX5_up_1 : decode cX5_up 1 = .ok (.aload_n 0, 1) := by decide +kernel
theorem dX5_up_2 : decode cX5_up 2 = .ok (.getfield 10, 3) := by decide +kernel
theorem dX5_up_5 : decode cX5_up 5 = .ok (.getfield 43, 3) := by decide +kernel
theorem dX5_up_8 : decode cX5_up 8 = .ok (.aload_n 0, 1) := by decide +kernel
theorem dX5_up_9 : decode cX5_up 9 = .ok (.getfield 10, 3) := by decide +kernel
theorem dX5_up_12 : decode cX5_up 12 = .ok (.getfield 47, 3) := by decide +kernel
theorem dX5_up_15 : decode cX5_up 15 = .ok (.invokevirtual 61, 3) := by decide +kernel
theorem dX5_up_18 : decode cX5_up 18 = .ok (.invokevirtual 57, 3) := by decide +kernel
theorem dX5_up_21 : decode cX5_up 21 = .ok (.ireturn, 1) := by decide +kernel
theorem dX5_side_0 : decode cX5_side 0 = .ok (.iload_n 1, 1) := by decide +kernel
theorem dX5_side_1 : decode cX5_side 1 = .ok (.invokestatic 64, 3) := by decide +kernel
theorem dX5_side_4 : decode cX5_side 4 = .ok (.ifCond .ne 5, 3) := by decide +kernel
theorem dX5_side_7 : decode cX5_side 7 = .ok (.iconst (-1), 1) := by decide +kernel
theorem dX5_side_8 : decode cX5_side 8 = .ok (.ireturn, 1) := by decide +kernel
theorem dX5_side_9 : decode cX5_side 9 = .ok (.aload_n 0, 1) := by decide +kernel
theorem dX5_side_10 : decode cX5_side 10 = .ok (.aload_n 0, 1) := by decide +kernel
theorem dX5_side_11 : decode cX5_side 11 = .ok (.getfield 10, 3) := by decide +kernel
theorem dX5_side_14 : decode cX5_side 14 = .ok (.getfield 43, 3) := by decide +kernel
theorem dX5_side_17 : decode cX5_side 17 = .ok (.aload_n 0, 1) := by decide +kernel
theorem dX5_side_18 : decode cX5_side 18 = .ok (.getfield 10, 3) := by decide +kernel
theorem dX5_side_21 : decode cX5_side 21 = .ok (.getfield 47, 3) := by decide +kernel
theorem dX5_side_24 : decode cX5_side 24 = .ok (.iload_n 1, 1) := by decide +kernel
theorem dX5_side_25 : decode cX5_side 25 = .ok (.invokevirtual 68, 3) := by decide +kernel
theorem dX5_side_28 : decode cX5_side 28 = .ok (.invokevirtual 57, 3) := by decide +kernel
theorem dX5_side_31 : decode cX5_side 31 = .ok (.ireturn, 1) := by decide +kernel
theorem dX5_step_0 : decode cX5_step 0 = .ok (.iload_n 1, 1) := by decide +kernel
theorem dX5_step_1 : decode cX5_step 1 = .ok (.invokestatic 64, 3) := by decide +kernel
theorem dX5_step_4 : decode cX5_step 4 = .ok (.ifCond .ne 5, 3) := by decide +kernel
theorem dX5_step_7 : decode cX5_step 7 = .ok (.iconst (-1), 1) := by decide +kernel
theorem dX5_step_8 : decode cX5_step 8 = .ok (.ireturn, 1) := by decide +kernel
theorem dX5_step_9 : decode cX5_step 9 = .ok (.iload_n 1, 1) := by decide +kernel
theorem dX5_step_10 : decode cX5_step 10 = .ok (.iconst 1, 1) := by decide +kernel
theorem dX5_step_11 : decode cX5_step 11 = .ok (.if_icmp .ne 15, 3) := by decide +kernel
theorem dX5_step_14 : decode cX5_step 14 = .ok (.aload_n 0, 1) := by decide +kernel
theorem dX5_step_15 : decode cX5_step 15 = .ok (.getfield 10, 3) := by decide +kernel
theorem dX5_step_18 : decode cX5_step 18 = .ok (.getfield 47, 3) := by decide +kernel
theorem dX5_step_21 : decode cX5_step 21 = .ok (.iconst 1, 1) := by decide +kernel
theorem dX5_step_22 : decode cX5_step 22 = .ok (.iadd, 1) := by decide +kernel
theorem dX5_step_23 : decode cX5_step 23 = .ok (.goto 12, 3) := by decide +kernel
theorem dX5_step_26 : decode cX5_step 26 = .ok (.aload_n 0, 1) := by decide +kernel
theorem dX5_step_27 : decode cX5_step 27 = .ok (.getfield 10, 3) := by decide +kernel
theorem dX5_step_30 : decode cX5_step 30 = .ok (.getfield 47, 3) := by decide +kernel
theorem dX5_step_33 : decode cX5_step 33 = .ok (.iconst 1, 1) := by decide +kernel
theorem dX5_step_34 : decode cX5_step 34 = .ok (.isub, 1) := by decide +kernel
theorem dX5_step_35 : decode cX5_step 35 = .ok (.istore_n 2, 1) := by decide +kernel
theorem dX5_step_36 : decode cX5_step 36 = .ok (.aload_n 0, 1) := by decide +kernel
theorem dX5_step_37 : decode cX5_step 37 = .ok (.aload_n 0, 1) := by decide +kernel
theorem dX5_step_38 : decode cX5_step 38 = .ok (.getfield 10, 3) := by decide +kernel
theorem dX5_step_41 : decode cX5_step 41 = .ok (.getfield 43, 3) := by decide +kernel
theorem dX5_step_44 : decode cX5_step 44 = .ok (.iload_n 2, 1) := by decide +kernel
theorem dX5_step_45 : decode cX5_step 45 = .ok (.invokevirtual 71, 3) := by decide +kernel
theorem dX5_step_48 : decode cX5_step 48 = .ok (.ifCond .eq 7, 3) := by decide +kernel
theorem dX5_step_51 : decode cX5_step 51 = .ok (.iload_n 2, 1) := by decide +kernel
theorem dX5_step_52 : decode cX5_step 52 = .ok (.goto 4, 3) := by decide +kernel
theorem dX5_step_55 : decode cX5_step 55 = .ok (.iconst (-1), 1) := by decide +kernel
theorem dX5_step_56 : decode cX5_step 56 = .ok (.invokevirtual 57, 3) := by decide +kernel
theorem dX5_step_59 : decode cX5_step 59 = .ok (.ireturn, 1) := by decide +kernel
theorem dX5_top_0 : decode cX5_top 0 = .ok (.aload_n 0, 1) := by decide +kernel
theorem dX5_top_1 : decode cX5_top 1 = .ok (.getfield 10, 3) := by decide +kernel
theorem dX5_top_4 : decode cX5_top 4 = .ok (.getfield 43, 3) := by decide +kernel
theorem dX5_top_7 : decode cX5_top 7 = .ok (.aload_n 0, 1) := by decide +kernel
theorem dX5_top_8 : decode cX5_top 8 = .ok (.getfield 10, 3) := by decide +kernel
theorem dX5_top_11 : decode cX5_top 11 = .ok (.getfield 47, 3) := by decide +kernel
theorem dX5_top_14 : decode cX5_top 14 = .ok (.invokevirtual 74, 3) := by decide +kernel
theorem dX5_top_17 : decode cX5_top 17 = .ok (.istore_n 1, 1) := by decide +kernel
theorem dX5_top_18 : decode cX5_top 18 = .ok (.iload_n 1, 1) := by decide +kernel
theorem dX5_top_19 : decode cX5_top 19 = .ok (.ifCond .ne 6, 3) := by decide +kernel
theorem dX5_top_22 : decode cX5_top 22 = .ok (.bipush (-2), 2) := by decide +kernel
theorem dX5_top_24 : decode cX5_top 24 = .ok (.ireturn, 1) := by decide +kernel
theorem dX5_top_25 : decode cX5_top 25 = .ok (.aload_n 0, 1) := by decide +kernel
theorem dX5_top_26 : decode cX5_top 26 = .ok (.iconst 0, 1) := by decide +kernel
theorem dX5_top_27 : decode cX5_top 27 = .ok (.invokevirtual 57, 3) := by decide +kernel
theorem dX5_top_30 : decode cX5_top 30 = .ok (.pop, 1) := by decide +kernel
theorem dX5_top_31 : decode cX5_top 31 = .ok (.iload_n 1, 1) := by decide +kernel
theorem dX5_top_32 : decode cX5_top 32 = .ok (.ireturn, 1) := by decide +kernel
theorem dX5_back_0 : decode cX5_back 0 = .ok (.aload_n 0, 1) := by decide +kernel
theorem dX5_back_1 : decode cX5_back 1 = .ok (.getfield 10, 3) := by decide +kernel
theorem dX5_back_4 : decode cX5_back 4 = .ok (.invokevirtual 77, 3) := by decide +kernel
theorem dX5_back_7 : decode cX5_back 7 = .ok (.istore_n 1, 1) := by decide +kernel
theorem dX5_back_8 : decode cX5_back 8 = .ok (.iload_n 1, 1) := by decide +kernel
theorem dX5_back_9 : decode cX5_back 9 = .ok (.iconst (-1), 1) := by decide +kernel
theorem dX5_back_10 : decode cX5_back 10 = .ok (.if_icmp .ne 6, 3) := by decide +kernel
theorem dX5_back_13 : decode cX5_back 13 = .ok (.bipush (-2), 2) := by decide +kernel
theorem dX5_back_15 : decode cX5_back 15 = .ok (.ireturn, 1) := by decide +kernel
theorem dX5_back_16 : decode cX5_back 16 = .ok (.aload_n 0, 1) := by decide +kernel
theorem dX5_back_17 : decode cX5_back 17 = .ok (.getfield 19, 3) := by decide +kernel
theorem dX5_back_20 : decode cX5_back 20 = .ok (.aload_n 0, 1) := by decide +kernel
theorem dX5_back_21 : decode cX5_back 21 = .ok (.getfield 10, 3) := by decide +kernel
theorem dX5_back_24 : decode cX5_back 24 = .ok (.invokevirtual 81, 3) := by decide +kernel
theorem dX5_back_27 : decode cX5_back 27 = .ok (.aload_n 0, 1) := by decide +kernel
theorem dX5_back_28 : decode cX5_back 28 = .ok (.getfield 10, 3) := by decide +kernel
theorem dX5_back_31 : decode cX5_back 31 = .ok (.iload_n 1, 1) := by decide +kernel
theorem dX5_back_32 : decode cX5_back 32 = .ok (.invokevirtual 85, 3) := by decide +kernel
theorem dX5_back_35 : decode cX5_back 35 = .ok (.aload_n 0, 1) := by decide +kernel
theorem dX5_back_36 : decode cX5_back 36 = .ok (.getfield 10, 3) := by decide +kernel
theorem dX5_back_39 : decode cX5_back 39 = .ok (.getfield 47, 3) := by decide +kernel
theorem dX5_back_42 : decode cX5_back 42 = .ok (.ireturn, 1) := by decide +kernel
theorem dX5_letter_0 : decode cX5_letter 0 = .ok (.iload_n 1, 1) := by decide +kernel
theorem dX5_letter_1 : decode cX5_letter 1 = .ok (.invokestatic 88, 3) := by decide +kernel
theorem dX5_letter_4 : decode cX5_letter 4 = .ok (.ifCond .ne 5, 3) := by decide +kernel
theorem dX5_letter_7 : decode cX5_letter 7 = .ok (.iconst (-1), 1) := by decide +kernel
theorem dX5_letter_8 : decode cX5_letter 8 = .ok (.ireturn, 1) := by decide +kernel
theorem dX5_letter_9 : decode cX5_letter 9 = .ok (.aload_n 0, 1) := by decide +kernel
theorem dX5_letter_10 : decode cX5_letter 10 = .ok (.getfield 19, 3) := by decide +kernel
theorem dX5_letter_13 : decode cX5_letter 13 = .ok (.aload_n 0, 1) := by decide +kernel
theorem dX5_letter_14 : decode cX5_letter 14 = .ok (.getfield 10, 3) := by decide +kernel
theorem dX5_letter_17 : decode cX5_letter 17 = .ok (.invokevirtual 81, 3) := by decide +kernel
theorem dX5_letter_20 : decode cX5_letter 20 = .ok (.aload_n 0, 1) := by decide +kernel
theorem dX5_letter_21 : decode cX5_letter 21 = .ok (.getfield 10, 3) := by decide +kernel
theorem dX5_letter_24 : decode cX5_letter 24 = .ok (.getfield 43, 3) := by decide +kernel
theorem dX5_letter_27 : decode cX5_letter 27 = .ok (.aload_n 0, 1) := by decide +kernel
theorem dX5_letter_28 : decode cX5_letter 28 = .ok (.getfield 10, 3) := by decide +kernel
theorem dX5_letter_31 : decode cX5_letter 31 = .ok (.getfield 47, 3) := by decide +kernel
theorem dX5_letter_34 : decode cX5_letter 34 = .ok (.invokevirtual 91, 3) := by decide +kernel
theorem dX5_letter_37 : decode cX5_letter 37 = .ok (.istore_n 2, 1) := by decide +kernel
theorem dX5_letter_38 : decode cX5_letter 38 = .ok (.aload_n 0, 1) := by decide +kernel
theorem dX5_letter_39 : decode cX5_letter 39 = .ok (.getfield 10, 3) := by decide +kernel
theorem dX5_letter_42 : decode cX5_letter 42 = .ok (.getfield 43, 3) := by decide +kernel
theorem dX5_letter_45 : decode cX5_letter 45 = .ok (.aload_n 0, 1) := by decide +kernel
theorem dX5_letter_46 : decode cX5_letter 46 = .ok (.getfield 10, 3) := by decide +kernel
theorem dX5_letter_49 : decode cX5_letter 49 = .ok (.getfield 47, 3) := by decide +kernel
theorem dX5_letter_52 : decode cX5_letter 52 = .ok (.iload_n 1, 1) := by decide +kernel
theorem dX5_letter_53 : decode cX5_letter 53 = .ok (.invokevirtual 94, 3) := by decide +kernel
theorem dX5_letter_56 : decode cX5_letter 56 = .ok (.iload_n 2, 1) := by decide +kernel
theorem dX5_letter_57 : decode cX5_letter 57 = .ok (.ireturn, 1) := by decide +kernel
theorem dX5_child_0 : decode cX5_child 0 = .ok (.aload_n 0, 1) := by decide +kernel
theorem dX5_child_1 : decode cX5_child 1 = .ok (.getfield 10, 3) := by decide +kernel
theorem dX5_child_4 : decode cX5_child 4 = .ok (.getfield 43, 3) := by decide +kernel
theorem dX5_child_7 : decode cX5_child 7 = .ok (.aload_n 0, 1) := by decide +kernel
theorem dX5_child_8 : decode cX5_child 8 = .ok (.getfield 10, 3) := by decide +kernel
theorem dX5_child_11 : decode cX5_child 11 = .ok (.getfield 47, 3) := by decide +kernel
theorem dX5_child_14 : decode cX5_child 14 = .ok (.invokevirtual 98, 3) := by decide +kernel
theorem dX5_child_17 : decode cX5_child 17 = .ok (.istore_n 3, 1) := by decide +kernel
theorem dX5_child_18 : decode cX5_child 18 = .ok (.iload_n 1, 1) := by decide +kernel
theorem dX5_child_19 : decode cX5_child 19 = .ok (.ifCond .lt 15, 3) := by decide +kernel
theorem dX5_child_22 : decode cX5_child 22 = .ok (.iload_n 1, 1) := by decide +kernel
theorem dX5_child_23 : decode cX5_child 23 = .ok (.iload_n 3, 1) := by decide +kernel
theorem dX5_child_24 : decode cX5_child 24 = .ok (.if_icmp .gt 10, 3) := by decide +kernel
theorem dX5_child_27 : decode cX5_child 27 = .ok (.iload_n 2, 1) := by decide +kernel
theorem dX5_child_28 : decode cX5_child 28 = .ok (.invokestatic 88, 3) := by decide +kernel
theorem dX5_child_31 : decode cX5_child 31 = .ok (.ifCond .ne 5, 3) := by decide +kernel
theorem dX5_child_34 : decode cX5_child 34 = .ok (.iconst (-1), 1) := by decide +kernel
theorem dX5_child_35 : decode cX5_child 35 = .ok (.ireturn, 1) := by decide +kernel
theorem dX5_child_36 : decode cX5_child 36 = .ok (.aload_n 0, 1) := by decide +kernel
theorem dX5_child_37 : decode cX5_child 37 = .ok (.getfield 10, 3) := by decide +kernel
theorem dX5_child_40 : decode cX5_child 40 = .ok (.getfield 43, 3) := by decide +kernel
theorem dX5_child_43 : decode cX5_child 43 = .ok (.aload_n 0, 1) := by decide +kernel
theorem dX5_child_44 : decode cX5_child 44 = .ok (.getfield 10, 3) := by decide +kernel
theorem dX5_child_47 : decode cX5_child 47 = .ok (.getfield 47, 3) := by decide +kernel
theorem dX5_child_50 : decode cX5_child 50 = .ok (.invokevirtual 74, 3) := by decide +kernel
theorem dX5_child_53 : decode cX5_child 53 = .ok (.iconst 1, 1) := by decide +kernel
theorem dX5_child_54 : decode cX5_child 54 = .ok (.iadd, 1) := by decide +kernel
theorem dX5_child_55 : decode cX5_child 55 = .ok (.istore 4, 2) := by decide +kernel
theorem dX5_child_57 : decode cX5_child 57 = .ok (.aload_n 0, 1) := by decide +kernel
theorem dX5_child_58 : decode cX5_child 58 = .ok (.getfield 10, 3) := by decide +kernel
theorem dX5_child_61 : decode cX5_child 61 = .ok (.getfield 43, 3) := by decide +kernel
theorem dX5_child_64 : decode cX5_child 64 = .ok (.invokevirtual 101, 3) := by decide +kernel
theorem dX5_child_67 : decode cX5_child 67 = .ok (.bipush 40, 2) := by decide +kernel
theorem dX5_child_69 : decode cX5_child 69 = .ok (.if_icmp .ge 16, 3) := by decide +kernel
theorem dX5_child_72 : decode cX5_child 72 = .ok (.iload_n 3, 1) := by decide +kernel
theorem dX5_child_73 : decode cX5_child 73 = .ok (.bipush 6, 2) := by decide +kernel
theorem dX5_child_75 : decode cX5_child 75 = .ok (.if_icmp .ge 10, 3) := by decide +kernel
theorem dX5_child_78 : decode cX5_child 78 = .ok (.iload 4, 2) := by decide +kernel
theorem dX5_child_80 : decode cX5_child 80 = .ok (.bipush 7, 2) := by decide +kernel
theorem dX5_child_82 : decode cX5_child 82 = .ok (.if_icmp .le 6, 3) := by decide +kernel
theorem dX5_child_85 : decode cX5_child 85 = .ok (.bipush (-3), 2) := by decide +kernel
theorem dX5_child_87 : decode cX5_child 87 = .ok (.ireturn, 1) := by decide +kernel
theorem dX5_child_88 : decode cX5_child 88 = .ok (.aload_n 0, 1) := by decide +kernel
theorem dX5_child_89 : decode cX5_child 89 = .ok (.getfield 19, 3) := by decide +kernel
theorem dX5_child_92 : decode cX5_child 92 = .ok (.aload_n 0, 1) := by decide +kernel
theorem dX5_child_93 : decode cX5_child 93 = .ok (.getfield 10, 3) := by decide +kernel
theorem dX5_child_96 : decode cX5_child 96 = .ok (.invokevirtual 81, 3) := by decide +kernel
theorem dX5_child_99 : decode cX5_child 99 = .ok (.aload_n 0, 1) := by decide +kernel
theorem dX5_child_100 : decode cX5_child 100 = .ok (.getfield 10, 3) := by decide +kernel
theorem dX5_child_103 : decode cX5_child 103 = .ok (.aload_n 0, 1) := by decide +kernel
theorem dX5_child_104 : decode cX5_child 104 = .ok (.getfield 10, 3) := by decide +kernel
theorem dX5_child_107 : decode cX5_child 107 = .ok (.getfield 43, 3) := by decide +kernel
theorem dX5_child_110 : decode cX5_child 110 = .ok (.aload_n 0, 1) := by decide +kernel
theorem dX5_child_111 : decode cX5_child 111 = .ok (.getfield 10, 3) := by decide +kernel
theorem dX5_child_114 : decode cX5_child 114 = .ok (.getfield 47, 3) := by decide +kernel
theorem dX5_child_117 : decode cX5_child 117 = .ok (.iload_n 1, 1) := by decide +kernel
theorem dX5_child_118 : decode cX5_child 118 = .ok (.invokevirtual 104, 3) := by decide +kernel
theorem dX5_child_121 : decode cX5_child 121 = .ok (.iload_n 2, 1) := by decide +kernel
theorem dX5_child_122 : decode cX5_child 122 = .ok (.iload 4, 2) := by decide +kernel
theorem dX5_child_124 : decode cX5_child 124 = .ok (.invokevirtual 39, 3) := by decide +kernel
theorem dX5_child_127 : decode cX5_child 127 = .ok (.iload_n 3, 1) := by decide +kernel
theorem dX5_child_128 : decode cX5_child 128 = .ok (.iconst 1, 1) := by decide +kernel
theorem dX5_child_129 : decode cX5_child 129 = .ok (.iadd, 1) := by decide +kernel
theorem dX5_child_130 : decode cX5_child 130 = .ok (.ireturn, 1) := by decide +kernel
theorem dX5_beside_0 : decode cX5_beside 0 = .ok (.iload_n 1, 1) := by decide +kernel
theorem dX5_beside_1 : decode cX5_beside 1 = .ok (.invokestatic 64, 3) := by decide +kernel
theorem dX5_beside_4 : decode cX5_beside 4 = .ok (.ifCond .eq 10, 3) := by decide +kernel
theorem dX5_beside_7 : decode cX5_beside 7 = .ok (.iload_n 2, 1) := by decide +kernel
theorem dX5_beside_8 : decode cX5_beside 8 = .ok (.invokestatic 88, 3) := by decide +kernel
theorem dX5_beside_11 : decode cX5_beside 11 = .ok (.ifCond .ne 5, 3) := by decide +kernel
theorem dX5_beside_14 : decode cX5_beside 14 = .ok (.iconst (-1), 1) := by decide +kernel
theorem dX5_beside_15 : decode cX5_beside 15 = .ok (.ireturn, 1) := by decide +kernel
theorem dX5_beside_16 : decode cX5_beside 16 = .ok (.aload_n 0, 1) := by decide +kernel
theorem dX5_beside_17 : decode cX5_beside 17 = .ok (.getfield 10, 3) := by decide +kernel
theorem dX5_beside_20 : decode cX5_beside 20 = .ok (.getfield 43, 3) := by decide +kernel
theorem dX5_beside_23 : decode cX5_beside 23 = .ok (.aload_n 0, 1) := by decide +kernel
theorem dX5_beside_24 : decode cX5_beside 24 = .ok (.getfield 10, 3) := by decide +kernel
theorem dX5_beside_27 : decode cX5_beside 27 = .ok (.getfield 47, 3) := by decide +kernel
theorem dX5_beside_30 : decode cX5_beside 30 = .ok (.invokevirtual 61, 3) := by decide +kernel
theorem dX5_beside_33 : decode cX5_beside 33 = .ok (.istore_n 3, 1) := by decide +kernel
theorem dX5_beside_34 : decode cX5_beside 34 = .ok (.iload_n 3, 1) := by decide +kernel
theorem dX5_beside_35 : decode cX5_beside 35 = .ok (.iconst (-1), 1) := by decide +kernel
theorem dX5_beside_36 : decode cX5_beside 36 = .ok (.if_icmp .ne 6, 3) := by decide +kernel
theorem dX5_beside_39 : decode cX5_beside 39 = .ok (.bipush (-2), 2) := by decide +kernel
theorem dX5_beside_41 : decode cX5_beside 41 = .ok (.ireturn, 1) := by decide +kernel
theorem dX5_beside_42 : decode cX5_beside 42 = .ok (.aload_n 0, 1) := by decide +kernel
theorem dX5_beside_43 : decode cX5_beside 43 = .ok (.getfield 10, 3) := by decide +kernel
theorem dX5_beside_46 : decode cX5_beside 46 = .ok (.getfield 43, 3) := by decide +kernel
theorem dX5_beside_49 : decode cX5_beside 49 = .ok (.iload_n 3, 1) := by decide +kernel
theorem dX5_beside_50 : decode cX5_beside 50 = .ok (.invokevirtual 98, 3) := by decide +kernel
theorem dX5_beside_53 : decode cX5_beside 53 = .ok (.istore 4, 2) := by decide +kernel
theorem dX5_beside_55 : decode cX5_beside 55 = .ok (.aload_n 0, 1) := by decide +kernel
theorem dX5_beside_56 : decode cX5_beside 56 = .ok (.getfield 10, 3) := by decide +kernel
theorem dX5_beside_59 : decode cX5_beside 59 = .ok (.getfield 43, 3) := by decide +kernel
theorem dX5_beside_62 : decode cX5_beside 62 = .ok (.invokevirtual 101, 3) := by decide +kernel
theorem dX5_beside_65 : decode cX5_beside 65 = .ok (.bipush 40, 2) := by decide +kernel
theorem dX5_beside_67 : decode cX5_beside 67 = .ok (.if_icmp .ge 10, 3) := by decide +kernel
theorem dX5_beside_70 : decode cX5_beside 70 = .ok (.iload 4, 2) := by decide +kernel
theorem dX5_beside_72 : decode cX5_beside 72 = .ok (.bipush 6, 2) := by decide +kernel
theorem dX5_beside_74 : decode cX5_beside 74 = .ok (.if_icmp .lt 6, 3) := by decide +kernel
theorem dX5_beside_77 : decode cX5_beside 77 = .ok (.bipush (-3), 2) := by decide +kernel
theorem dX5_beside_79 : decode cX5_beside 79 = .ok (.ireturn, 1) := by decide +kernel
theorem dX5_beside_80 : decode cX5_beside 80 = .ok (.aload_n 0, 1) := by decide +kernel
theorem dX5_beside_81 : decode cX5_beside 81 = .ok (.getfield 19, 3) := by decide +kernel
theorem dX5_beside_84 : decode cX5_beside 84 = .ok (.aload_n 0, 1) := by decide +kernel
theorem dX5_beside_85 : decode cX5_beside 85 = .ok (.getfield 10, 3) := by decide +kernel
theorem dX5_beside_88 : decode cX5_beside 88 = .ok (.invokevirtual 81, 3) := by decide +kernel
theorem dX5_beside_91 : decode cX5_beside 91 = .ok (.aload_n 0, 1) := by decide +kernel
theorem dX5_beside_92 : decode cX5_beside 92 = .ok (.getfield 10, 3) := by decide +kernel
theorem dX5_beside_95 : decode cX5_beside 95 = .ok (.getfield 43, 3) := by decide +kernel
theorem dX5_beside_98 : decode cX5_beside 98 = .ok (.aload_n 0, 1) := by decide +kernel
theorem dX5_beside_99 : decode cX5_beside 99 = .ok (.getfield 10, 3) := by decide +kernel
theorem dX5_beside_102 : decode cX5_beside 102 = .ok (.getfield 47, 3) := by decide +kernel
theorem dX5_beside_105 : decode cX5_beside 105 = .ok (.invokevirtual 74, 3) := by decide +kernel
theorem dX5_beside_108 : decode cX5_beside 108 = .ok (.istore 5, 2) := by decide +kernel
theorem dX5_beside_110 : decode cX5_beside 110 = .ok (.iload_n 1, 1) := by decide +kernel
theorem dX5_beside_111 : decode cX5_beside 111 = .ok (.iconst 1, 1) := by decide +kernel
theorem dX5_beside_112 : decode cX5_beside 112 = .ok (.if_icmp .ne 33, 3) := by decide +kernel
theorem dX5_beside_115 : decode cX5_beside 115 = .ok (.aload_n 0, 1) := by decide +kernel
theorem dX5_beside_116 : decode cX5_beside 116 = .ok (.getfield 10, 3) := by decide +kernel
theorem dX5_beside_119 : decode cX5_beside 119 = .ok (.aload_n 0, 1) := by decide +kernel
theorem dX5_beside_120 : decode cX5_beside 120 = .ok (.getfield 10, 3) := by decide +kernel
theorem dX5_beside_123 : decode cX5_beside 123 = .ok (.getfield 43, 3) := by decide +kernel
theorem dX5_beside_126 : decode cX5_beside 126 = .ok (.aload_n 0, 1) := by decide +kernel
theorem dX5_beside_127 : decode cX5_beside 127 = .ok (.getfield 10, 3) := by decide +kernel
theorem dX5_beside_130 : decode cX5_beside 130 = .ok (.getfield 47, 3) := by decide +kernel
theorem dX5_beside_133 : decode cX5_beside 133 = .ok (.invokevirtual 107, 3) := by decide +kernel
theorem dX5_beside_136 : decode cX5_beside 136 = .ok (.iload_n 2, 1) := by decide +kernel
theorem dX5_beside_137 : decode cX5_beside 137 = .ok (.iload 5, 2) := by decide +kernel
theorem dX5_beside_139 : decode cX5_beside 139 = .ok (.invokevirtual 39, 3) := by decide +kernel
theorem dX5_beside_142 : decode cX5_beside 142 = .ok (.goto 33, 3) := by decide +kernel
theorem dX5_beside_145 : decode cX5_beside 145 = .ok (.aload_n 0, 1) := by decide +kernel
theorem dX5_beside_146 : decode cX5_beside 146 = .ok (.getfield 10, 3) := by decide +kernel
theorem dX5_beside_149 : decode cX5_beside 149 = .ok (.aload_n 0, 1) := by decide +kernel
theorem dX5_beside_150 : decode cX5_beside 150 = .ok (.getfield 10, 3) := by decide +kernel
theorem dX5_beside_153 : decode cX5_beside 153 = .ok (.getfield 47, 3) := by decide +kernel
theorem dX5_beside_156 : decode cX5_beside 156 = .ok (.iload_n 2, 1) := by decide +kernel
theorem dX5_beside_157 : decode cX5_beside 157 = .ok (.iload 5, 2) := by decide +kernel
theorem dX5_beside_159 : decode cX5_beside 159 = .ok (.invokevirtual 39, 3) := by decide +kernel
theorem dX5_beside_162 : decode cX5_beside 162 = .ok (.aload_n 0, 1) := by decide +kernel
theorem dX5_beside_163 : decode cX5_beside 163 = .ok (.getfield 10, 3) := by decide +kernel
theorem dX5_beside_166 : decode cX5_beside 166 = .ok (.dup, 1) := by decide +kernel
theorem dX5_beside_167 : decode cX5_beside 167 = .ok (.getfield 47, 3) := by decide +kernel
theorem dX5_beside_170 : decode cX5_beside 170 = .ok (.iconst 1, 1) := by decide +kernel
theorem dX5_beside_171 : decode cX5_beside 171 = .ok (.iadd, 1) := by decide +kernel
theorem dX5_beside_172 : decode cX5_beside 172 = .ok (.putfield 47, 3) := by decide +kernel
theorem dX5_beside_175 : decode cX5_beside 175 = .ok (.iload 4, 2) := by decide +kernel
theorem dX5_beside_177 : decode cX5_beside 177 = .ok (.iconst 1, 1) := by decide +kernel
theorem dX5_beside_178 : decode cX5_beside 178 = .ok (.iadd, 1) := by decide +kernel
theorem dX5_beside_179 : decode cX5_beside 179 = .ok (.ireturn, 1) := by decide +kernel
theorem dX5_delete_0 : decode cX5_delete 0 = .ok (.aload_n 0, 1) := by decide +kernel
theorem dX5_delete_1 : decode cX5_delete 1 = .ok (.getfield 10, 3) := by decide +kernel
theorem dX5_delete_4 : decode cX5_delete 4 = .ok (.getfield 47, 3) := by decide +kernel
theorem dX5_delete_7 : decode cX5_delete 7 = .ok (.ifCond .ne 6, 3) := by decide +kernel
theorem dX5_delete_10 : decode cX5_delete 10 = .ok (.bipush (-2), 2) := by decide +kernel
theorem dX5_delete_12 : decode cX5_delete 12 = .ok (.ireturn, 1) := by decide +kernel
theorem dX5_delete_13 : decode cX5_delete 13 = .ok (.aload_n 0, 1) := by decide +kernel
theorem dX5_delete_14 : decode cX5_delete 14 = .ok (.getfield 19, 3) := by decide +kernel
theorem dX5_delete_17 : decode cX5_delete 17 = .ok (.aload_n 0, 1) := by decide +kernel
theorem dX5_delete_18 : decode cX5_delete 18 = .ok (.getfield 10, 3) := by decide +kernel
theorem dX5_delete_21 : decode cX5_delete 21 = .ok (.invokevirtual 81, 3) := by decide +kernel
theorem dX5_delete_24 : decode cX5_delete 24 = .ok (.aload_n 0, 1) := by decide +kernel
theorem dX5_delete_25 : decode cX5_delete 25 = .ok (.getfield 10, 3) := by decide +kernel
theorem dX5_delete_28 : decode cX5_delete 28 = .ok (.invokevirtual 110, 3) := by decide +kernel
theorem dX5_delete_31 : decode cX5_delete 31 = .ok (.ireturn, 1) := by decide +kernel
theorem dX5_wrap_0 : decode cX5_wrap 0 = .ok (.iload_n 1, 1) := by decide +kernel
theorem dX5_wrap_1 : decode cX5_wrap 1 = .ok (.invokestatic 88, 3) := by decide +kernel
theorem dX5_wrap_4 : decode cX5_wrap 4 = .ok (.ifCond .ne 5, 3) := by decide +kernel
theorem dX5_wrap_7 : decode cX5_wrap 7 = .ok (.iconst (-1), 1) := by decide +kernel
theorem dX5_wrap_8 : decode cX5_wrap 8 = .ok (.ireturn, 1) := by decide +kernel
theorem dX5_wrap_9 : decode cX5_wrap 9 = .ok (.aload_n 0, 1) := by decide +kernel
theorem dX5_wrap_10 : decode cX5_wrap 10 = .ok (.getfield 10, 3) := by decide +kernel
theorem dX5_wrap_13 : decode cX5_wrap 13 = .ok (.getfield 43, 3) := by decide +kernel
theorem dX5_wrap_16 : decode cX5_wrap 16 = .ok (.aload_n 0, 1) := by decide +kernel
theorem dX5_wrap_17 : decode cX5_wrap 17 = .ok (.getfield 10, 3) := by decide +kernel
theorem dX5_wrap_20 : decode cX5_wrap 20 = .ok (.getfield 47, 3) := by decide +kernel
theorem dX5_wrap_23 : decode cX5_wrap 23 = .ok (.invokevirtual 74, 3) := by decide +kernel
theorem dX5_wrap_26 : decode cX5_wrap 26 = .ok (.istore_n 2, 1) := by decide +kernel
theorem dX5_wrap_27 : decode cX5_wrap 27 = .ok (.aload_n 0, 1) := by decide +kernel
theorem dX5_wrap_28 : decode cX5_wrap 28 = .ok (.getfield 10, 3) := by decide +kernel
theorem dX5_wrap_31 : decode cX5_wrap 31 = .ok (.getfield 43, 3) := by decide +kernel
theorem dX5_wrap_34 : decode cX5_wrap 34 = .ok (.invokevirtual 101, 3) := by decide +kernel
theorem dX5_wrap_37 : decode cX5_wrap 37 = .ok (.bipush 40, 2) := by decide +kernel
theorem dX5_wrap_39 : decode cX5_wrap 39 = .ok (.if_icmp .ge 27, 3) := by decide +kernel
theorem dX5_wrap_42 : decode cX5_wrap 42 = .ok (.iload_n 2, 1) := by decide +kernel
theorem dX5_wrap_43 : decode cX5_wrap 43 = .ok (.aload_n 0, 1) := by decide +kernel
theorem dX5_wrap_44 : decode cX5_wrap 44 = .ok (.getfield 10, 3) := by decide +kernel
theorem dX5_wrap_47 : decode cX5_wrap 47 = .ok (.getfield 43, 3) := by decide +kernel
theorem dX5_wrap_50 : decode cX5_wrap 50 = .ok (.aload_n 0, 1) := by decide +kernel
theorem dX5_wrap_51 : decode cX5_wrap 51 = .ok (.getfield 10, 3) := by decide +kernel
theorem dX5_wrap_54 : decode cX5_wrap 54 = .ok (.getfield 47, 3) := by decide +kernel
theorem dX5_wrap_57 : decode cX5_wrap 57 = .ok (.invokevirtual 113, 3) := by decide +kernel
theorem dX5_wrap_60 : decode cX5_wrap 60 = .ok (.iadd, 1) := by decide +kernel
theorem dX5_wrap_61 : decode cX5_wrap 61 = .ok (.bipush 7, 2) := by decide +kernel
theorem dX5_wrap_63 : decode cX5_wrap 63 = .ok (.if_icmp .lt 6, 3) := by decide +kernel
theorem dX5_wrap_66 : decode cX5_wrap 66 = .ok (.bipush (-3), 2) := by decide +kernel
theorem dX5_wrap_68 : decode cX5_wrap 68 = .ok (.ireturn, 1) := by decide +kernel
theorem dX5_wrap_69 : decode cX5_wrap 69 = .ok (.aload_n 0, 1) := by decide +kernel
theorem dX5_wrap_70 : decode cX5_wrap 70 = .ok (.getfield 19, 3) := by decide +kernel
theorem dX5_wrap_73 : decode cX5_wrap 73 = .ok (.aload_n 0, 1) := by decide +kernel
theorem dX5_wrap_74 : decode cX5_wrap 74 = .ok (.getfield 10, 3) := by decide +kernel
theorem dX5_wrap_77 : decode cX5_wrap 77 = .ok (.invokevirtual 81, 3) := by decide +kernel
theorem dX5_wrap_80 : decode cX5_wrap 80 = .ok (.aload_n 0, 1) := by decide +kernel
theorem dX5_wrap_81 : decode cX5_wrap 81 = .ok (.getfield 10, 3) := by decide +kernel
theorem dX5_wrap_84 : decode cX5_wrap 84 = .ok (.getfield 43, 3) := by decide +kernel
theorem dX5_wrap_87 : decode cX5_wrap 87 = .ok (.aload_n 0, 1) := by decide +kernel
theorem dX5_wrap_88 : decode cX5_wrap 88 = .ok (.getfield 10, 3) := by decide +kernel
theorem dX5_wrap_91 : decode cX5_wrap 91 = .ok (.getfield 47, 3) := by decide +kernel
theorem dX5_wrap_94 : decode cX5_wrap 94 = .ok (.aload_n 0, 1) := by decide +kernel
theorem dX5_wrap_95 : decode cX5_wrap 95 = .ok (.getfield 10, 3) := by decide +kernel
theorem dX5_wrap_98 : decode cX5_wrap 98 = .ok (.getfield 43, 3) := by decide +kernel
theorem dX5_wrap_101 : decode cX5_wrap 101 = .ok (.aload_n 0, 1) := by decide +kernel
theorem dX5_wrap_102 : decode cX5_wrap 102 = .ok (.getfield 10, 3) := by decide +kernel
theorem dX5_wrap_105 : decode cX5_wrap 105 = .ok (.getfield 47, 3) := by decide +kernel
theorem dX5_wrap_108 : decode cX5_wrap 108 = .ok (.invokevirtual 107, 3) := by decide +kernel
theorem dX5_wrap_111 : decode cX5_wrap 111 = .ok (.iconst 1, 1) := by decide +kernel
theorem dX5_wrap_112 : decode cX5_wrap 112 = .ok (.invokevirtual 116, 3) := by decide +kernel
theorem dX5_wrap_115 : decode cX5_wrap 115 = .ok (.aload_n 0, 1) := by decide +kernel
theorem dX5_wrap_116 : decode cX5_wrap 116 = .ok (.getfield 10, 3) := by decide +kernel
theorem dX5_wrap_119 : decode cX5_wrap 119 = .ok (.aload_n 0, 1) := by decide +kernel
theorem dX5_wrap_120 : decode cX5_wrap 120 = .ok (.getfield 10, 3) := by decide +kernel
theorem dX5_wrap_123 : decode cX5_wrap 123 = .ok (.getfield 47, 3) := by decide +kernel
theorem dX5_wrap_126 : decode cX5_wrap 126 = .ok (.iload_n 1, 1) := by decide +kernel
theorem dX5_wrap_127 : decode cX5_wrap 127 = .ok (.iload_n 2, 1) := by decide +kernel
theorem dX5_wrap_128 : decode cX5_wrap 128 = .ok (.invokevirtual 39, 3) := by decide +kernel
theorem dX5_wrap_131 : decode cX5_wrap 131 = .ok (.aload_n 0, 1) := by decide +kernel
theorem dX5_wrap_132 : decode cX5_wrap 132 = .ok (.getfield 10, 3) := by decide +kernel
theorem dX5_wrap_135 : decode cX5_wrap 135 = .ok (.getfield 43, 3) := by decide +kernel
theorem dX5_wrap_138 : decode cX5_wrap 138 = .ok (.invokevirtual 101, 3) := by decide +kernel
theorem dX5_wrap_141 : decode cX5_wrap 141 = .ok (.ireturn, 1) := by decide +kernel
theorem dX5_lift_0 : decode cX5_lift 0 = .ok (.aload_n 0, 1) := by decide +kernel
theorem dX5_lift_1 : decode cX5_lift 1 = .ok (.getfield 10, 3) := by decide +kernel
theorem dX5_lift_4 : decode cX5_lift 4 = .ok (.getfield 43, 3) := by decide +kernel
theorem dX5_lift_7 : decode cX5_lift 7 = .ok (.aload_n 0, 1) := by decide +kernel
theorem dX5_lift_8 : decode cX5_lift 8 = .ok (.getfield 10, 3) := by decide +kernel
theorem dX5_lift_11 : decode cX5_lift 11 = .ok (.getfield 47, 3) := by decide +kernel
theorem dX5_lift_14 : decode cX5_lift 14 = .ok (.invokevirtual 61, 3) := by decide +kernel
theorem dX5_lift_17 : decode cX5_lift 17 = .ok (.istore_n 1, 1) := by decide +kernel
theorem dX5_lift_18 : decode cX5_lift 18 = .ok (.aload_n 0, 1) := by decide +kernel
theorem dX5_lift_19 : decode cX5_lift 19 = .ok (.getfield 10, 3) := by decide +kernel
theorem dX5_lift_22 : decode cX5_lift 22 = .ok (.getfield 43, 3) := by decide +kernel
theorem dX5_lift_25 : decode cX5_lift 25 = .ok (.aload_n 0, 1) := by decide +kernel
theorem dX5_lift_26 : decode cX5_lift 26 = .ok (.getfield 10, 3) := by decide +kernel
theorem dX5_lift_29 : decode cX5_lift 29 = .ok (.getfield 47, 3) := by decide +kernel
theorem dX5_lift_32 : decode cX5_lift 32 = .ok (.invokevirtual 98, 3) := by decide +kernel
theorem dX5_lift_35 : decode cX5_lift 35 = .ok (.istore_n 2, 1) := by decide +kernel
theorem dX5_lift_36 : decode cX5_lift 36 = .ok (.iload_n 1, 1) := by decide +kernel
theorem dX5_lift_37 : decode cX5_lift 37 = .ok (.iconst (-1), 1) := by decide +kernel
theorem dX5_lift_38 : decode cX5_lift 38 = .ok (.if_icmp .ne 11, 3) := by decide +kernel
theorem dX5_lift_41 : decode cX5_lift 41 = .ok (.iload_n 2, 1) := by decide +kernel
theorem dX5_lift_42 : decode cX5_lift 42 = .ok (.iconst 1, 1) := by decide +kernel
theorem dX5_lift_43 : decode cX5_lift 43 = .ok (.if_icmp .eq 6, 3) := by decide +kernel
theorem dX5_lift_46 : decode cX5_lift 46 = .ok (.bipush (-2), 2) := by decide +kernel
theorem dX5_lift_48 : decode cX5_lift 48 = .ok (.ireturn, 1) := by decide +kernel
theorem dX5_lift_49 : decode cX5_lift 49 = .ok (.iload_n 1, 1) := by decide +kernel
theorem dX5_lift_50 : decode cX5_lift 50 = .ok (.iconst (-1), 1) := by decide +kernel
theorem dX5_lift_51 : decode cX5_lift 51 = .ok (.if_icmp .eq 26, 3) := by decide +kernel
theorem dX5_lift_54 : decode cX5_lift 54 = .ok (.aload_n 0, 1) := by decide +kernel
theorem dX5_lift_55 : decode cX5_lift 55 = .ok (.getfield 10, 3) := by decide +kernel
theorem dX5_lift_58 : decode cX5_lift 58 = .ok (.getfield 43, 3) := by decide +kernel
theorem dX5_lift_61 : decode cX5_lift 61 = .ok (.iload_n 1, 1) := by decide +kernel
theorem dX5_lift_62 : decode cX5_lift 62 = .ok (.invokevirtual 98, 3) := by decide +kernel
theorem dX5_lift_65 : decode cX5_lift 65 = .ok (.iconst 1, 1) := by decide +kernel
theorem dX5_lift_66 : decode cX5_lift 66 = .ok (.isub, 1) := by decide +kernel
theorem dX5_lift_67 : decode cX5_lift 67 = .ok (.iload_n 2, 1) := by decide +kernel
theorem dX5_lift_68 : decode cX5_lift 68 = .ok (.iadd, 1) := by decide +kernel
theorem dX5_lift_69 : decode cX5_lift 69 = .ok (.bipush 6, 2) := by decide +kernel
theorem dX5_lift_71 : decode cX5_lift 71 = .ok (.if_icmp .le 6, 3) := by decide +kernel
theorem dX5_lift_74 : decode cX5_lift 74 = .ok (.bipush (-3), 2) := by decide +kernel
theorem dX5_lift_76 : decode cX5_lift 76 = .ok (.ireturn, 1) := by decide +kernel
theorem dX5_lift_77 : decode cX5_lift 77 = .ok (.aload_n 0, 1) := by decide +kernel
theorem dX5_lift_78 : decode cX5_lift 78 = .ok (.getfield 19, 3) := by decide +kernel
theorem dX5_lift_81 : decode cX5_lift 81 = .ok (.aload_n 0, 1) := by decide +kernel
theorem dX5_lift_82 : decode cX5_lift 82 = .ok (.getfield 10, 3) := by decide +kernel
theorem dX5_lift_85 : decode cX5_lift 85 = .ok (.invokevirtual 81, 3) := by decide +kernel
theorem dX5_lift_88 : decode cX5_lift 88 = .ok (.iload_n 2, 1) := by decide +kernel
theorem dX5_lift_89 : decode cX5_lift 89 = .ok (.ifCond .ne 14, 3) := by decide +kernel
theorem dX5_lift_92 : decode cX5_lift 92 = .ok (.aload_n 0, 1) := by decide +kernel
theorem dX5_lift_93 : decode cX5_lift 93 = .ok (.getfield 10, 3) := by decide +kernel
theorem dX5_lift_96 : decode cX5_lift 96 = .ok (.invokevirtual 110, 3) := by decide +kernel
theorem dX5_lift_99 : decode cX5_lift 99 = .ok (.pop, 1) := by decide +kernel
theorem dX5_lift_100 : decode cX5_lift 100 = .ok (.goto 61, 3) := by decide +kernel
theorem dX5_lift_103 : decode cX5_lift 103 = .ok (.aload_n 0, 1) := by decide +kernel
theorem dX5_lift_104 : decode cX5_lift 104 = .ok (.getfield 10, 3) := by decide +kernel
theorem dX5_lift_107 : decode cX5_lift 107 = .ok (.getfield 43, 3) := by decide +kernel
theorem dX5_lift_110 : decode cX5_lift 110 = .ok (.aload_n 0, 1) := by decide +kernel
theorem dX5_lift_111 : decode cX5_lift 111 = .ok (.getfield 10, 3) := by decide +kernel
theorem dX5_lift_114 : decode cX5_lift 114 = .ok (.getfield 47, 3) := by decide +kernel
theorem dX5_lift_117 : decode cX5_lift 117 = .ok (.aload_n 0, 1) := by decide +kernel
theorem dX5_lift_118 : decode cX5_lift 118 = .ok (.getfield 10, 3) := by decide +kernel
theorem dX5_lift_121 : decode cX5_lift 121 = .ok (.getfield 43, 3) := by decide +kernel
theorem dX5_lift_124 : decode cX5_lift 124 = .ok (.aload_n 0, 1) := by decide +kernel
theorem dX5_lift_125 : decode cX5_lift 125 = .ok (.getfield 10, 3) := by decide +kernel
theorem dX5_lift_128 : decode cX5_lift 128 = .ok (.getfield 47, 3) := by decide +kernel
theorem dX5_lift_131 : decode cX5_lift 131 = .ok (.invokevirtual 107, 3) := by decide +kernel
theorem dX5_lift_134 : decode cX5_lift 134 = .ok (.iconst (-1), 1) := by decide +kernel
theorem dX5_lift_135 : decode cX5_lift 135 = .ok (.invokevirtual 116, 3) := by decide +kernel
theorem dX5_lift_138 : decode cX5_lift 138 = .ok (.aload_n 0, 1) := by decide +kernel
theorem dX5_lift_139 : decode cX5_lift 139 = .ok (.getfield 10, 3) := by decide +kernel
theorem dX5_lift_142 : decode cX5_lift 142 = .ok (.aload_n 0, 1) := by decide +kernel
theorem dX5_lift_143 : decode cX5_lift 143 = .ok (.getfield 10, 3) := by decide +kernel
theorem dX5_lift_146 : decode cX5_lift 146 = .ok (.getfield 47, 3) := by decide +kernel
theorem dX5_lift_149 : decode cX5_lift 149 = .ok (.aload_n 0, 1) := by decide +kernel
theorem dX5_lift_150 : decode cX5_lift 150 = .ok (.getfield 10, 3) := by decide +kernel
theorem dX5_lift_153 : decode cX5_lift 153 = .ok (.getfield 47, 3) := by decide +kernel
theorem dX5_lift_156 : decode cX5_lift 156 = .ok (.iconst 1, 1) := by decide +kernel
theorem dX5_lift_157 : decode cX5_lift 157 = .ok (.iadd, 1) := by decide +kernel
theorem dX5_lift_158 : decode cX5_lift 158 = .ok (.invokevirtual 119, 3) := by decide +kernel
theorem dX5_lift_161 : decode cX5_lift 161 = .ok (.iload_n 2, 1) := by decide +kernel
theorem dX5_lift_162 : decode cX5_lift 162 = .ok (.ireturn, 1) := by decide +kernel
theorem dX5_exchange_0 : decode cX5_exchange 0 = .ok (.iload_n 1, 1) := by decide +kernel
theorem dX5_exchange_1 : decode cX5_exchange 1 = .ok (.invokestatic 64, 3) := by decide +kernel
theorem dX5_exchange_4 : decode cX5_exchange 4 = .ok (.ifCond .ne 5, 3) := by decide +kernel
theorem dX5_exchange_7 : decode cX5_exchange 7 = .ok (.iconst (-1), 1) := by decide +kernel
theorem dX5_exchange_8 : decode cX5_exchange 8 = .ok (.ireturn, 1) := by decide +kernel
theorem dX5_exchange_9 : decode cX5_exchange 9 = .ok (.aload_n 0, 1) := by decide +kernel
theorem dX5_exchange_10 : decode cX5_exchange 10 = .ok (.getfield 10, 3) := by decide +kernel
theorem dX5_exchange_13 : decode cX5_exchange 13 = .ok (.getfield 43, 3) := by decide +kernel
theorem dX5_exchange_16 : decode cX5_exchange 16 = .ok (.aload_n 0, 1) := by decide +kernel
theorem dX5_exchange_17 : decode cX5_exchange 17 = .ok (.getfield 10, 3) := by decide +kernel
theorem dX5_exchange_20 : decode cX5_exchange 20 = .ok (.getfield 47, 3) := by decide +kernel
theorem dX5_exchange_23 : decode cX5_exchange 23 = .ok (.iload_n 1, 1) := by decide +kernel
theorem dX5_exchange_24 : decode cX5_exchange 24 = .ok (.invokevirtual 68, 3) := by decide +kernel
theorem dX5_exchange_27 : decode cX5_exchange 27 = .ok (.istore_n 2, 1) := by decide +kernel
theorem dX5_exchange_28 : decode cX5_exchange 28 = .ok (.iload_n 2, 1) := by decide +kernel
theorem dX5_exchange_29 : decode cX5_exchange 29 = .ok (.iconst (-1), 1) := by decide +kernel
theorem dX5_exchange_30 : decode cX5_exchange 30 = .ok (.if_icmp .ne 6, 3) := by decide +kernel
theorem dX5_exchange_33 : decode cX5_exchange 33 = .ok (.bipush (-2), 2) := by decide +kernel
theorem dX5_exchange_35 : decode cX5_exchange 35 = .ok (.ireturn, 1) := by decide +kernel
theorem dX5_exchange_36 : decode cX5_exchange 36 = .ok (.aload_n 0, 1) := by decide +kernel
theorem dX5_exchange_37 : decode cX5_exchange 37 = .ok (.getfield 19, 3) := by decide +kernel
theorem dX5_exchange_40 : decode cX5_exchange 40 = .ok (.aload_n 0, 1) := by decide +kernel
theorem dX5_exchange_41 : decode cX5_exchange 41 = .ok (.getfield 10, 3) := by decide +kernel
theorem dX5_exchange_44 : decode cX5_exchange 44 = .ok (.invokevirtual 81, 3) := by decide +kernel
theorem dX5_exchange_47 : decode cX5_exchange 47 = .ok (.aload_n 0, 1) := by decide +kernel
theorem dX5_exchange_48 : decode cX5_exchange 48 = .ok (.getfield 10, 3) := by decide +kernel
theorem dX5_exchange_51 : decode cX5_exchange 51 = .ok (.getfield 47, 3) := by decide +kernel
theorem dX5_exchange_54 : decode cX5_exchange 54 = .ok (.iload_n 2, 1) := by decide +kernel
theorem dX5_exchange_55 : decode cX5_exchange 55 = .ok (.invokestatic 122, 3) := by decide +kernel
theorem dX5_exchange_58 : decode cX5_exchange 58 = .ok (.istore_n 3, 1) := by decide +kernel
theorem dX5_exchange_59 : decode cX5_exchange 59 = .ok (.aload_n 0, 1) := by decide +kernel
theorem dX5_exchange_60 : decode cX5_exchange 60 = .ok (.getfield 10, 3) := by decide +kernel
theorem dX5_exchange_63 : decode cX5_exchange 63 = .ok (.getfield 43, 3) := by decide +kernel
theorem dX5_exchange_66 : decode cX5_exchange 66 = .ok (.iload_n 3, 1) := by decide +kernel
theorem dX5_exchange_67 : decode cX5_exchange 67 = .ok (.invokevirtual 107, 3) := by decide +kernel
theorem dX5_exchange_70 : decode cX5_exchange 70 = .ok (.istore 4, 2) := by decide +kernel
theorem dX5_exchange_72 : decode cX5_exchange 72 = .ok (.iload_n 1, 1) := by decide +kernel
theorem dX5_exchange_73 : decode cX5_exchange 73 = .ok (.iconst 1, 1) := by decide +kernel
theorem dX5_exchange_74 : decode cX5_exchange 74 = .ok (.if_icmp .ne 18, 3) := by decide +kernel
theorem dX5_exchange_77 : decode cX5_exchange 77 = .ok (.aload_n 0, 1) := by decide +kernel
theorem dX5_exchange_78 : decode cX5_exchange 78 = .ok (.getfield 10, 3) := by decide +kernel
theorem dX5_exchange_81 : decode cX5_exchange 81 = .ok (.getfield 47, 3) := by decide +kernel
theorem dX5_exchange_84 : decode cX5_exchange 84 = .ok (.iload 4, 2) := by decide +kernel
theorem dX5_exchange_86 : decode cX5_exchange 86 = .ok (.iadd, 1) := by decide +kernel
theorem dX5_exchange_87 : decode cX5_exchange 87 = .ok (.iload_n 3, 1) := by decide +kernel
theorem dX5_exchange_88 : decode cX5_exchange 88 = .ok (.isub, 1) := by decide +kernel
theorem dX5_exchange_89 : decode cX5_exchange 89 = .ok (.goto 4, 3) := by decide +kernel
theorem dX5_exchange_92 : decode cX5_exchange 92 = .ok (.iload_n 2, 1) := by decide +kernel
theorem dX5_exchange_93 : decode cX5_exchange 93 = .ok (.istore 5, 2) := by decide +kernel
theorem dX5_exchange_95 : decode cX5_exchange 95 = .ok (.aload_n 0, 1) := by decide +kernel
theorem dX5_exchange_96 : decode cX5_exchange 96 = .ok (.getfield 10, 3) := by decide +kernel
theorem dX5_exchange_99 : decode cX5_exchange 99 = .ok (.aload_n 0, 1) := by decide +kernel
theorem dX5_exchange_100 : decode cX5_exchange 100 = .ok (.getfield 10, 3) := by decide +kernel
theorem dX5_exchange_103 : decode cX5_exchange 103 = .ok (.getfield 47, 3) := by decide +kernel
theorem dX5_exchange_106 : decode cX5_exchange 106 = .ok (.iload_n 2, 1) := by decide +kernel
theorem dX5_exchange_107 : decode cX5_exchange 107 = .ok (.invokestatic 127, 3) := by decide +kernel
theorem dX5_exchange_110 : decode cX5_exchange 110 = .ok (.iload_n 3, 1) := by decide +kernel
theorem dX5_exchange_111 : decode cX5_exchange 111 = .ok (.iload 4, 2) := by decide +kernel
theorem dX5_exchange_113 : decode cX5_exchange 113 = .ok (.invokevirtual 130, 3) := by decide +kernel
theorem dX5_exchange_116 : decode cX5_exchange 116 = .ok (.aload_n 0, 1) := by decide +kernel
theorem dX5_exchange_117 : decode cX5_exchange 117 = .ok (.getfield 10, 3) := by decide +kernel
theorem dX5_exchange_120 : decode cX5_exchange 120 = .ok (.iload 5, 2) := by decide +kernel
theorem dX5_exchange_122 : decode cX5_exchange 122 = .ok (.putfield 47, 3) := by decide +kernel
theorem dX5_exchange_125 : decode cX5_exchange 125 = .ok (.aload_n 0, 1) := by decide +kernel
theorem dX5_exchange_126 : decode cX5_exchange 126 = .ok (.getfield 10, 3) := by decide +kernel
theorem dX5_exchange_129 : decode cX5_exchange 129 = .ok (.getfield 43, 3) := by decide +kernel
theorem dX5_exchange_132 : decode cX5_exchange 132 = .ok (.iload 5, 2) := by decide +kernel
theorem dX5_exchange_134 : decode cX5_exchange 134 = .ok (.invokevirtual 133, 3) := by decide +kernel
theorem dX5_exchange_137 : decode cX5_exchange 137 = .ok (.ireturn, 1) := by decide +kernel
theorem dX5_cut_0 : decode cX5_cut 0 = .ok (.aload_n 0, 1) := by decide +kernel
theorem dX5_cut_1 : decode cX5_cut 1 = .ok (.getfield 10, 3) := by decide +kernel
theorem dX5_cut_4 : decode cX5_cut 4 = .ok (.getfield 47, 3) := by decide +kernel
theorem dX5_cut_7 : decode cX5_cut 7 = .ok (.ifCond .ne 6, 3) := by decide +kernel
theorem dX5_cut_10 : decode cX5_cut 10 = .ok (.bipush (-2), 2) := by decide +kernel
theorem dX5_cut_12 : decode cX5_cut 12 = .ok (.ireturn, 1) := by decide +kernel
theorem dX5_cut_13 : decode cX5_cut 13 = .ok (.aload_n 0, 1) := by decide +kernel
theorem dX5_cut_14 : decode cX5_cut 14 = .ok (.getfield 19, 3) := by decide +kernel
theorem dX5_cut_17 : decode cX5_cut 17 = .ok (.aload_n 0, 1) := by decide +kernel
theorem dX5_cut_18 : decode cX5_cut 18 = .ok (.getfield 10, 3) := by decide +kernel
theorem dX5_cut_21 : decode cX5_cut 21 = .ok (.invokevirtual 81, 3) := by decide +kernel
theorem dX5_cut_24 : decode cX5_cut 24 = .ok (.aload_n 0, 1) := by decide +kernel
theorem dX5_cut_25 : decode cX5_cut 25 = .ok (.getfield 10, 3) := by decide +kernel
theorem dX5_cut_28 : decode cX5_cut 28 = .ok (.getfield 136, 3) := by decide +kernel
theorem dX5_cut_31 : decode cX5_cut 31 = .ok (.aload_n 0, 1) := by decide +kernel
theorem dX5_cut_32 : decode cX5_cut 32 = .ok (.getfield 10, 3) := by decide +kernel
theorem dX5_cut_35 : decode cX5_cut 35 = .ok (.getfield 43, 3) := by decide +kernel
theorem dX5_cut_38 : decode cX5_cut 38 = .ok (.aload_n 0, 1) := by decide +kernel
theorem dX5_cut_39 : decode cX5_cut 39 = .ok (.getfield 10, 3) := by decide +kernel
theorem dX5_cut_42 : decode cX5_cut 42 = .ok (.getfield 47, 3) := by decide +kernel
theorem dX5_cut_45 : decode cX5_cut 45 = .ok (.invokevirtual 139, 3) := by decide +kernel
theorem dX5_cut_48 : decode cX5_cut 48 = .ok (.aload_n 0, 1) := by decide +kernel
theorem dX5_cut_49 : decode cX5_cut 49 = .ok (.getfield 10, 3) := by decide +kernel
theorem dX5_cut_52 : decode cX5_cut 52 = .ok (.invokevirtual 110, 3) := by decide +kernel
theorem dX5_cut_55 : decode cX5_cut 55 = .ok (.ireturn, 1) := by decide +kernel
theorem dX5_copy_0 : decode cX5_copy 0 = .ok (.aload_n 0, 1) := by decide +kernel
theorem dX5_copy_1 : decode cX5_copy 1 = .ok (.getfield 19, 3) := by decide +kernel
theorem dX5_copy_4 : decode cX5_copy 4 = .ok (.aload_n 0, 1) := by decide +kernel
theorem dX5_copy_5 : decode cX5_copy 5 = .ok (.getfield 10, 3) := by decide +kernel
theorem dX5_copy_8 : decode cX5_copy 8 = .ok (.invokevirtual 81, 3) := by decide +kernel
theorem dX5_copy_11 : decode cX5_copy 11 = .ok (.aload_n 0, 1) := by decide +kernel
theorem dX5_copy_12 : decode cX5_copy 12 = .ok (.getfield 10, 3) := by decide +kernel
theorem dX5_copy_15 : decode cX5_copy 15 = .ok (.getfield 136, 3) := by decide +kernel
theorem dX5_copy_18 : decode cX5_copy 18 = .ok (.aload_n 0, 1) := by decide +kernel
theorem dX5_copy_19 : decode cX5_copy 19 = .ok (.getfield 10, 3) := by decide +kernel
theorem dX5_copy_22 : decode cX5_copy 22 = .ok (.getfield 43, 3) := by decide +kernel
theorem dX5_copy_25 : decode cX5_copy 25 = .ok (.aload_n 0, 1) := by decide +kernel
theorem dX5_copy_26 : decode cX5_copy 26 = .ok (.getfield 10, 3) := by decide +kernel
theorem dX5_copy_29 : decode cX5_copy 29 = .ok (.getfield 47, 3) := by decide +kernel
theorem dX5_copy_32 : decode cX5_copy 32 = .ok (.invokevirtual 139, 3) := by decide +kernel
theorem dX5_copy_35 : decode cX5_copy 35 = .ok (.aload_n 0, 1) := by decide +kernel
theorem dX5_copy_36 : decode cX5_copy 36 = .ok (.getfield 10, 3) := by decide +kernel
theorem dX5_copy_39 : decode cX5_copy 39 = .ok (.getfield 136, 3) := by decide +kernel
theorem dX5_copy_42 : decode cX5_copy 42 = .ok (.invokevirtual 101, 3) := by decide +kernel
theorem dX5_copy_45 : decode cX5_copy 45 = .ok (.ireturn, 1) := by decide +kernel
theorem dX5_paste_0 : decode cX5_paste 0 = .ok (.aload_n 0, 1) := by decide +kernel
theorem dX5_paste_1 : decode cX5_paste 1 = .ok (.getfield 10, 3) := by decide +kernel
theorem dX5_paste_4 : decode cX5_paste 4 = .ok (.getfield 43, 3) := by decide +kernel
theorem dX5_paste_7 : decode cX5_paste 7 = .ok (.aload_n 0, 1) := by decide +kernel
theorem dX5_paste_8 : decode cX5_paste 8 = .ok (.getfield 10, 3) := by decide +kernel
theorem dX5_paste_11 : decode cX5_paste 11 = .ok (.getfield 47, 3) := by decide +kernel
theorem dX5_paste_14 : decode cX5_paste 14 = .ok (.invokevirtual 98, 3) := by decide +kernel
theorem dX5_paste_17 : decode cX5_paste 17 = .ok (.istore_n 2, 1) := by decide +kernel
theorem dX5_paste_18 : decode cX5_paste 18 = .ok (.iload_n 1, 1) := by decide +kernel
theorem dX5_paste_19 : decode cX5_paste 19 = .ok (.ifCond .lt 8, 3) := by decide +kernel
theorem dX5_paste_22 : decode cX5_paste 22 = .ok (.iload_n 1, 1) := by decide +kernel
theorem dX5_paste_23 : decode cX5_paste 23 = .ok (.iload_n 2, 1) := by decide +kernel
theorem dX5_paste_24 : decode cX5_paste 24 = .ok (.if_icmp .le 5, 3) := by decide +kernel
theorem dX5_paste_27 : decode cX5_paste 27 = .ok (.iconst (-1), 1) := by decide +kernel
theorem dX5_paste_28 : decode cX5_paste 28 = .ok (.ireturn, 1) := by decide +kernel
theorem dX5_paste_29 : decode cX5_paste 29 = .ok (.aload_n 0, 1) := by decide +kernel
theorem dX5_paste_30 : decode cX5_paste 30 = .ok (.getfield 10, 3) := by decide +kernel
theorem dX5_paste_33 : decode cX5_paste 33 = .ok (.getfield 136, 3) := by decide +kernel
theorem dX5_paste_36 : decode cX5_paste 36 = .ok (.invokevirtual 101, 3) := by decide +kernel
theorem dX5_paste_39 : decode cX5_paste 39 = .ok (.ifCond .ne 6, 3) := by decide +kernel
theorem dX5_paste_42 : decode cX5_paste 42 = .ok (.bipush (-2), 2) := by decide +kernel
theorem dX5_paste_44 : decode cX5_paste 44 = .ok (.ireturn, 1) := by decide +kernel
theorem dX5_paste_45 : decode cX5_paste 45 = .ok (.aload_n 0, 1) := by decide +kernel
theorem dX5_paste_46 : decode cX5_paste 46 = .ok (.getfield 10, 3) := by decide +kernel
theorem dX5_paste_49 : decode cX5_paste 49 = .ok (.getfield 43, 3) := by decide +kernel
theorem dX5_paste_52 : decode cX5_paste 52 = .ok (.aload_n 0, 1) := by decide +kernel
theorem dX5_paste_53 : decode cX5_paste 53 = .ok (.getfield 10, 3) := by decide +kernel
theorem dX5_paste_56 : decode cX5_paste 56 = .ok (.getfield 47, 3) := by decide +kernel
theorem dX5_paste_59 : decode cX5_paste 59 = .ok (.invokevirtual 74, 3) := by decide +kernel
theorem dX5_paste_62 : decode cX5_paste 62 = .ok (.iconst 1, 1) := by decide +kernel
theorem dX5_paste_63 : decode cX5_paste 63 = .ok (.iadd, 1) := by decide +kernel
theorem dX5_paste_64 : decode cX5_paste 64 = .ok (.istore_n 3, 1) := by decide +kernel
theorem dX5_paste_65 : decode cX5_paste 65 = .ok (.aload_n 0, 1) := by decide +kernel
theorem dX5_paste_66 : decode cX5_paste 66 = .ok (.getfield 10, 3) := by decide +kernel
theorem dX5_paste_69 : decode cX5_paste 69 = .ok (.getfield 43, 3) := by decide +kernel
theorem dX5_paste_72 : decode cX5_paste 72 = .ok (.invokevirtual 101, 3) := by decide +kernel
theorem dX5_paste_75 : decode cX5_paste 75 = .ok (.aload_n 0, 1) := by decide +kernel
theorem dX5_paste_76 : decode cX5_paste 76 = .ok (.getfield 10, 3) := by decide +kernel
theorem dX5_paste_79 : decode cX5_paste 79 = .ok (.getfield 136, 3) := by decide +kernel
theorem dX5_paste_82 : decode cX5_paste 82 = .ok (.invokevirtual 101, 3) := by decide +kernel
theorem dX5_paste_85 : decode cX5_paste 85 = .ok (.iadd, 1) := by decide +kernel
theorem dX5_paste_86 : decode cX5_paste 86 = .ok (.bipush 40, 2) := by decide +kernel
theorem dX5_paste_88 : decode cX5_paste 88 = .ok (.if_icmp .gt 27, 3) := by decide +kernel
theorem dX5_paste_91 : decode cX5_paste 91 = .ok (.iload_n 2, 1) := by decide +kernel
theorem dX5_paste_92 : decode cX5_paste 92 = .ok (.bipush 6, 2) := by decide +kernel
theorem dX5_paste_94 : decode cX5_paste 94 = .ok (.if_icmp .ge 21, 3) := by decide +kernel
theorem dX5_paste_97 : decode cX5_paste 97 = .ok (.iload_n 3, 1) := by decide +kernel
theorem dX5_paste_98 : decode cX5_paste 98 = .ok (.aload_n 0, 1) := by decide +kernel
theorem dX5_paste_99 : decode cX5_paste 99 = .ok (.getfield 10, 3) := by decide +kernel
theorem dX5_paste_102 : decode cX5_paste 102 = .ok (.getfield 136, 3) := by decide +kernel
theorem dX5_paste_105 : decode cX5_paste 105 = .ok (.iconst 0, 1) := by decide +kernel
theorem dX5_paste_106 : decode cX5_paste 106 = .ok (.invokevirtual 113, 3) := by decide +kernel
theorem dX5_paste_109 : decode cX5_paste 109 = .ok (.iadd, 1) := by decide +kernel
theorem dX5_paste_110 : decode cX5_paste 110 = .ok (.bipush 7, 2) := by decide +kernel
theorem dX5_paste_112 : decode cX5_paste 112 = .ok (.if_icmp .le 6, 3) := by decide +kernel
theorem dX5_paste_115 : decode cX5_paste 115 = .ok (.bipush (-3), 2) := by decide +kernel
theorem dX5_paste_117 : decode cX5_paste 117 = .ok (.ireturn, 1) := by decide +kernel
theorem dX5_paste_118 : decode cX5_paste 118 = .ok (.aload_n 0, 1) := by decide +kernel
theorem dX5_paste_119 : decode cX5_paste 119 = .ok (.getfield 19, 3) := by decide +kernel
theorem dX5_paste_122 : decode cX5_paste 122 = .ok (.aload_n 0, 1) := by decide +kernel
theorem dX5_paste_123 : decode cX5_paste 123 = .ok (.getfield 10, 3) := by decide +kernel
theorem dX5_paste_126 : decode cX5_paste 126 = .ok (.invokevirtual 81, 3) := by decide +kernel
theorem dX5_paste_129 : decode cX5_paste 129 = .ok (.aload_n 0, 1) := by decide +kernel
theorem dX5_paste_130 : decode cX5_paste 130 = .ok (.getfield 10, 3) := by decide +kernel
theorem dX5_paste_133 : decode cX5_paste 133 = .ok (.aload_n 0, 1) := by decide +kernel
theorem dX5_paste_134 : decode cX5_paste 134 = .ok (.getfield 10, 3) := by decide +kernel
theorem dX5_paste_137 : decode cX5_paste 137 = .ok (.getfield 136, 3) := by decide +kernel
theorem dX5_paste_140 : decode cX5_paste 140 = .ok (.aload_n 0, 1) := by decide +kernel
theorem dX5_paste_141 : decode cX5_paste 141 = .ok (.getfield 10, 3) := by decide +kernel
theorem dX5_paste_144 : decode cX5_paste 144 = .ok (.getfield 43, 3) := by decide +kernel
theorem dX5_paste_147 : decode cX5_paste 147 = .ok (.aload_n 0, 1) := by decide +kernel
theorem dX5_paste_148 : decode cX5_paste 148 = .ok (.getfield 10, 3) := by decide +kernel
theorem dX5_paste_151 : decode cX5_paste 151 = .ok (.getfield 47, 3) := by decide +kernel
theorem dX5_paste_154 : decode cX5_paste 154 = .ok (.iload_n 1, 1) := by decide +kernel
theorem dX5_paste_155 : decode cX5_paste 155 = .ok (.invokevirtual 104, 3) := by decide +kernel
theorem dX5_paste_158 : decode cX5_paste 158 = .ok (.iload_n 3, 1) := by decide +kernel
theorem dX5_paste_159 : decode cX5_paste 159 = .ok (.invokevirtual 143, 3) := by decide +kernel
theorem dX5_paste_162 : decode cX5_paste 162 = .ok (.aload_n 0, 1) := by decide +kernel
theorem dX5_paste_163 : decode cX5_paste 163 = .ok (.getfield 10, 3) := by decide +kernel
theorem dX5_paste_166 : decode cX5_paste 166 = .ok (.getfield 43, 3) := by decide +kernel
theorem dX5_paste_169 : decode cX5_paste 169 = .ok (.invokevirtual 101, 3) := by decide +kernel
theorem dX5_paste_172 : decode cX5_paste 172 = .ok (.ireturn, 1) := by decide +kernel
theorem dX5_mark_0 : decode cX5_mark 0 = .ok (.iload_n 1, 1) := by decide +kernel
theorem dX5_mark_1 : decode cX5_mark 1 = .ok (.invokestatic 147, 3) := by decide +kernel
theorem dX5_mark_4 : decode cX5_mark 4 = .ok (.ifCond .ne 5, 3) := by decide +kernel
theorem dX5_mark_7 : decode cX5_mark 7 = .ok (.iconst (-1), 1) := by decide +kernel
theorem dX5_mark_8 : decode cX5_mark 8 = .ok (.ireturn, 1) := by decide +kernel
theorem dX5_mark_9 : decode cX5_mark 9 = .ok (.aload_n 0, 1) := by decide +kernel
theorem dX5_mark_10 : decode cX5_mark 10 = .ok (.getfield 19, 3) := by decide +kernel
theorem dX5_mark_13 : decode cX5_mark 13 = .ok (.aload_n 0, 1) := by decide +kernel
theorem dX5_mark_14 : decode cX5_mark 14 = .ok (.getfield 10, 3) := by decide +kernel
theorem dX5_mark_17 : decode cX5_mark 17 = .ok (.invokevirtual 81, 3) := by decide +kernel
theorem dX5_mark_20 : decode cX5_mark 20 = .ok (.aload_n 0, 1) := by decide +kernel
theorem dX5_mark_21 : decode cX5_mark 21 = .ok (.getfield 10, 3) := by decide +kernel
theorem dX5_mark_24 : decode cX5_mark 24 = .ok (.iload_n 1, 1) := by decide +kernel
theorem dX5_mark_25 : decode cX5_mark 25 = .ok (.invokevirtual 150, 3) := by decide +kernel
theorem dX5_mark_28 : decode cX5_mark 28 = .ok (.istore_n 2, 1) := by decide +kernel
theorem dX5_mark_29 : decode cX5_mark 29 = .ok (.aload_n 0, 1) := by decide +kernel
theorem dX5_mark_30 : decode cX5_mark 30 = .ok (.getfield 10, 3) := by decide +kernel
theorem dX5_mark_33 : decode cX5_mark 33 = .ok (.iload_n 1, 1) := by decide +kernel
theorem dX5_mark_34 : decode cX5_mark 34 = .ok (.invokevirtual 153, 3) := by decide +kernel
theorem dX5_mark_37 : decode cX5_mark 37 = .ok (.iload_n 2, 1) := by decide +kernel
theorem dX5_mark_38 : decode cX5_mark 38 = .ok (.iconst (-1), 1) := by decide +kernel
theorem dX5_mark_39 : decode cX5_mark 39 = .ok (.if_icmp .ne 8, 3) := by decide +kernel
theorem dX5_mark_42 : decode cX5_mark 42 = .ok (.bipush 100, 2) := by decide +kernel
theorem dX5_mark_44 : decode cX5_mark 44 = .ok (.goto 4, 3) := by decide +kernel
theorem dX5_mark_47 : decode cX5_mark 47 = .ok (.iload_n 2, 1) := by decide +kernel
theorem dX5_mark_48 : decode cX5_mark 48 = .ok (.ireturn, 1) := by decide +kernel
theorem dX5_goTo_0 : decode cX5_goTo 0 = .ok (.iload_n 1, 1) := by decide +kernel
theorem dX5_goTo_1 : decode cX5_goTo 1 = .ok (.invokestatic 147, 3) := by decide +kernel
theorem dX5_goTo_4 : decode cX5_goTo 4 = .ok (.ifCond .ne 5, 3) := by decide +kernel
theorem dX5_goTo_7 : decode cX5_goTo 7 = .ok (.iconst (-1), 1) := by decide +kernel
theorem dX5_goTo_8 : decode cX5_goTo 8 = .ok (.ireturn, 1) := by decide +kernel
theorem dX5_goTo_9 : decode cX5_goTo 9 = .ok (.aload_n 0, 1) := by decide +kernel
theorem dX5_goTo_10 : decode cX5_goTo 10 = .ok (.aload_n 0, 1) := by decide +kernel
theorem dX5_goTo_11 : decode cX5_goTo 11 = .ok (.getfield 10, 3) := by decide +kernel
theorem dX5_goTo_14 : decode cX5_goTo 14 = .ok (.iload_n 1, 1) := by decide +kernel
theorem dX5_goTo_15 : decode cX5_goTo 15 = .ok (.invokevirtual 150, 3) := by decide +kernel
theorem dX5_goTo_18 : decode cX5_goTo 18 = .ok (.invokevirtual 57, 3) := by decide +kernel
theorem dX5_goTo_21 : decode cX5_goTo 21 = .ok (.ireturn, 1) := by decide +kernel
theorem dX5_nodeOf_0 : decode cX5_nodeOf 0 = .ok (.aload_n 0, 1) := by decide +kernel
theorem dX5_nodeOf_1 : decode cX5_nodeOf 1 = .ok (.getfield 10, 3) := by decide +kernel
theorem dX5_nodeOf_4 : decode cX5_nodeOf 4 = .ok (.getfield 43, 3) := by decide +kernel
theorem dX5_nodeOf_7 : decode cX5_nodeOf 7 = .ok (.iload_n 1, 1) := by decide +kernel
theorem dX5_nodeOf_8 : decode cX5_nodeOf 8 = .ok (.invokevirtual 71, 3) := by decide +kernel
theorem dX5_nodeOf_11 : decode cX5_nodeOf 11 = .ok (.ifCond .ne 5, 3) := by decide +kernel
theorem dX5_nodeOf_14 : decode cX5_nodeOf 14 = .ok (.iconst (-1), 1) := by decide +kernel
theorem dX5_nodeOf_15 : decode cX5_nodeOf 15 = .ok (.ireturn, 1) := by decide +kernel
theorem dX5_nodeOf_16 : decode cX5_nodeOf 16 = .ok (.iload_n 2, 1) := by decide +kernel
theorem dX5_nodeOf_17 : decode cX5_nodeOf 17 = .ok (.tableswitch 148 0 7 #[47, 59, 71, 86, 98, 112, 127, 139], 47) := by decide +kernel
theorem dX5_nodeOf_64 : decode cX5_nodeOf 64 = .ok (.aload_n 0, 1) := by decide +kernel
theorem dX5_nodeOf_65 : decode cX5_nodeOf 65 = .ok (.getfield 10, 3) := by decide +kernel
theorem dX5_nodeOf_68 : decode cX5_nodeOf 68 = .ok (.getfield 43, 3) := by decide +kernel
theorem dX5_nodeOf_71 : decode cX5_nodeOf 71 = .ok (.iload_n 1, 1) := by decide +kernel
theorem dX5_nodeOf_72 : decode cX5_nodeOf 72 = .ok (.invokevirtual 91, 3) := by decide +kernel
theorem dX5_nodeOf_75 : decode cX5_nodeOf 75 = .ok (.ireturn, 1) := by decide +kernel
theorem dX5_nodeOf_76 : decode cX5_nodeOf 76 = .ok (.aload_n 0, 1) := by decide +kernel
theorem dX5_nodeOf_77 : decode cX5_nodeOf 77 = .ok (.getfield 10, 3) := by decide +kernel
theorem dX5_nodeOf_80 : decode cX5_nodeOf 80 = .ok (.getfield 43, 3) := by decide +kernel
theorem dX5_nodeOf_83 : decode cX5_nodeOf 83 = .ok (.iload_n 1, 1) := by decide +kernel
theorem dX5_nodeOf_84 : decode cX5_nodeOf 84 = .ok (.invokevirtual 98, 3) := by decide +kernel
theorem dX5_nodeOf_87 : decode cX5_nodeOf 87 = .ok (.ireturn, 1) := by decide +kernel
theorem dX5_nodeOf_88 : decode cX5_nodeOf 88 = .ok (.aload_n 0, 1) := by decide +kernel
theorem dX5_nodeOf_89 : decode cX5_nodeOf 89 = .ok (.getfield 10, 3) := by decide +kernel
theorem dX5_nodeOf_92 : decode cX5_nodeOf 92 = .ok (.getfield 43, 3) := by decide +kernel
theorem dX5_nodeOf_95 : decode cX5_nodeOf 95 = .ok (.iload_n 1, 1) := by decide +kernel
theorem dX5_nodeOf_96 : decode cX5_nodeOf 96 = .ok (.invokevirtual 61, 3) := by decide +kernel
theorem dX5_nodeOf_99 : decode cX5_nodeOf 99 = .ok (.invokestatic 156, 3) := by decide +kernel
theorem dX5_nodeOf_102 : decode cX5_nodeOf 102 = .ok (.ireturn, 1) := by decide +kernel
theorem dX5_nodeOf_103 : decode cX5_nodeOf 103 = .ok (.aload_n 0, 1) := by decide +kernel
theorem dX5_nodeOf_104 : decode cX5_nodeOf 104 = .ok (.getfield 10, 3) := by decide +kernel
theorem dX5_nodeOf_107 : decode cX5_nodeOf 107 = .ok (.getfield 43, 3) := by decide +kernel
theorem dX5_nodeOf_110 : decode cX5_nodeOf 110 = .ok (.iload_n 1, 1) := by decide +kernel
theorem dX5_nodeOf_111 : decode cX5_nodeOf 111 = .ok (.invokevirtual 74, 3) := by decide +kernel
theorem dX5_nodeOf_114 : decode cX5_nodeOf 114 = .ok (.ireturn, 1) := by decide +kernel
theorem dX5_nodeOf_115 : decode cX5_nodeOf 115 = .ok (.aload_n 0, 1) := by decide +kernel
theorem dX5_nodeOf_116 : decode cX5_nodeOf 116 = .ok (.getfield 10, 3) := by decide +kernel
theorem dX5_nodeOf_119 : decode cX5_nodeOf 119 = .ok (.getfield 43, 3) := by decide +kernel
theorem dX5_nodeOf_122 : decode cX5_nodeOf 122 = .ok (.iload_n 1, 1) := by decide +kernel
theorem dX5_nodeOf_123 : decode cX5_nodeOf 123 = .ok (.invokevirtual 107, 3) := by decide +kernel
theorem dX5_nodeOf_126 : decode cX5_nodeOf 126 = .ok (.iload_n 1, 1) := by decide +kernel
theorem dX5_nodeOf_127 : decode cX5_nodeOf 127 = .ok (.isub, 1) := by decide +kernel
theorem dX5_nodeOf_128 : decode cX5_nodeOf 128 = .ok (.ireturn, 1) := by decide +kernel
theorem dX5_nodeOf_129 : decode cX5_nodeOf 129 = .ok (.aload_n 0, 1) := by decide +kernel
theorem dX5_nodeOf_130 : decode cX5_nodeOf 130 = .ok (.getfield 10, 3) := by decide +kernel
theorem dX5_nodeOf_133 : decode cX5_nodeOf 133 = .ok (.getfield 43, 3) := by decide +kernel
theorem dX5_nodeOf_136 : decode cX5_nodeOf 136 = .ok (.iload_n 1, 1) := by decide +kernel
theorem dX5_nodeOf_137 : decode cX5_nodeOf 137 = .ok (.invokevirtual 133, 3) := by decide +kernel
theorem dX5_nodeOf_140 : decode cX5_nodeOf 140 = .ok (.invokestatic 156, 3) := by decide +kernel
theorem dX5_nodeOf_143 : decode cX5_nodeOf 143 = .ok (.ireturn, 1) := by decide +kernel
theorem dX5_nodeOf_144 : decode cX5_nodeOf 144 = .ok (.aload_n 0, 1) := by decide +kernel
theorem dX5_nodeOf_145 : decode cX5_nodeOf 145 = .ok (.getfield 10, 3) := by decide +kernel
theorem dX5_nodeOf_148 : decode cX5_nodeOf 148 = .ok (.getfield 43, 3) := by decide +kernel
theorem dX5_nodeOf_151 : decode cX5_nodeOf 151 = .ok (.iload_n 1, 1) := by decide +kernel
theorem dX5_nodeOf_152 : decode cX5_nodeOf 152 = .ok (.invokevirtual 113, 3) := by decide +kernel
theorem dX5_nodeOf_155 : decode cX5_nodeOf 155 = .ok (.ireturn, 1) := by decide +kernel
theorem dX5_nodeOf_156 : decode cX5_nodeOf 156 = .ok (.aload_n 0, 1) := by decide +kernel
theorem dX5_nodeOf_157 : decode cX5_nodeOf 157 = .ok (.getfield 10, 3) := by decide +kernel
theorem dX5_nodeOf_160 : decode cX5_nodeOf 160 = .ok (.iload_n 1, 1) := by decide +kernel
theorem dX5_nodeOf_161 : decode cX5_nodeOf 161 = .ok (.invokevirtual 159, 3) := by decide +kernel
theorem dX5_nodeOf_164 : decode cX5_nodeOf 164 = .ok (.ireturn, 1) := by decide +kernel
theorem dX5_nodeOf_165 : decode cX5_nodeOf 165 = .ok (.iconst (-1), 1) := by decide +kernel
theorem dX5_nodeOf_166 : decode cX5_nodeOf 166 = .ok (.ireturn, 1) := by decide +kernel
theorem dX5_spine_0 : decode cX5_spine 0 = .ok (.iload_n 1, 1) := by decide +kernel
theorem dX5_spine_1 : decode cX5_spine 1 = .ok (.ifCond .lt 12, 3) := by decide +kernel
theorem dX5_spine_4 : decode cX5_spine 4 = .ok (.iload_n 2, 1) := by decide +kernel
theorem dX5_spine_5 : decode cX5_spine 5 = .ok (.ifCond .lt 8, 3) := by decide +kernel
theorem dX5_spine_8 : decode cX5_spine 8 = .ok (.iload_n 2, 1) := by decide +kernel
theorem dX5_spine_9 : decode cX5_spine 9 = .ok (.iconst 2, 1) := by decide +kernel
theorem dX5_spine_10 : decode cX5_spine 10 = .ok (.if_icmp .le 5, 3) := by decide +kernel
theorem dX5_spine_13 : decode cX5_spine 13 = .ok (.iconst (-1), 1) := by decide +kernel
theorem dX5_spine_14 : decode cX5_spine 14 = .ok (.ireturn, 1) := by decide +kernel
theorem dX5_spine_15 : decode cX5_spine 15 = .ok (.aload_n 0, 1) := by decide +kernel
theorem dX5_spine_16 : decode cX5_spine 16 = .ok (.getfield 10, 3) := by decide +kernel
theorem dX5_spine_19 : decode cX5_spine 19 = .ok (.getfield 43, 3) := by decide +kernel
theorem dX5_spine_22 : decode cX5_spine 22 = .ok (.aload_n 0, 1) := by decide +kernel
theorem dX5_spine_23 : decode cX5_spine 23 = .ok (.getfield 10, 3) := by decide +kernel
theorem dX5_spine_26 : decode cX5_spine 26 = .ok (.getfield 47, 3) := by decide +kernel
theorem dX5_spine_29 : decode cX5_spine 29 = .ok (.iload_n 1, 1) := by decide +kernel
theorem dX5_spine_30 : decode cX5_spine 30 = .ok (.invokevirtual 162, 3) := by decide +kernel
theorem dX5_spine_33 : decode cX5_spine 33 = .ok (.istore_n 3, 1) := by decide +kernel
theorem dX5_spine_34 : decode cX5_spine 34 = .ok (.iload_n 3, 1) := by decide +kernel
theorem dX5_spine_35 : decode cX5_spine 35 = .ok (.iconst (-1), 1) := by decide +kernel
theorem dX5_spine_36 : decode cX5_spine 36 = .ok (.if_icmp .ne 6, 3) := by decide +kernel
theorem dX5_spine_39 : decode cX5_spine 39 = .ok (.bipush (-4), 2) := by decide +kernel
theorem dX5_spine_41 : decode cX5_spine 41 = .ok (.ireturn, 1) := by decide +kernel
theorem dX5_spine_42 : decode cX5_spine 42 = .ok (.iload_n 2, 1) := by decide +kernel
theorem dX5_spine_43 : decode cX5_spine 43 = .ok (.ifCond .ne 5, 3) := by decide +kernel
theorem dX5_spine_46 : decode cX5_spine 46 = .ok (.iload_n 3, 1) := by decide +kernel
theorem dX5_spine_47 : decode cX5_spine 47 = .ok (.ireturn, 1) := by decide +kernel
theorem dX5_spine_48 : decode cX5_spine 48 = .ok (.iload_n 2, 1) := by decide +kernel
theorem dX5_spine_49 : decode cX5_spine 49 = .ok (.iconst 1, 1) := by decide +kernel
theorem dX5_spine_50 : decode cX5_spine 50 = .ok (.if_icmp .ne 15, 3) := by decide +kernel
theorem dX5_spine_53 : decode cX5_spine 53 = .ok (.aload_n 0, 1) := by decide +kernel
theorem dX5_spine_54 : decode cX5_spine 54 = .ok (.getfield 10, 3) := by decide +kernel
theorem dX5_spine_57 : decode cX5_spine 57 = .ok (.getfield 43, 3) := by decide +kernel
theorem dX5_spine_60 : decode cX5_spine 60 = .ok (.iload_n 3, 1) := by decide +kernel
theorem dX5_spine_61 : decode cX5_spine 61 = .ok (.invokevirtual 91, 3) := by decide +kernel
theorem dX5_spine_64 : decode cX5_spine 64 = .ok (.ireturn, 1) := by decide +kernel
theorem dX5_spine_65 : decode cX5_spine 65 = .ok (.iload_n 3, 1) := by decide +kernel
theorem dX5_spine_66 : decode cX5_spine 66 = .ok (.ifCond .ne 7, 3) := by decide +kernel
theorem dX5_spine_69 : decode cX5_spine 69 = .ok (.iconst 0, 1) := by decide +kernel
theorem dX5_spine_70 : decode cX5_spine 70 = .ok (.goto 14, 3) := by decide +kernel
theorem dX5_spine_73 : decode cX5_spine 73 = .ok (.aload_n 0, 1) := by decide +kernel
theorem dX5_spine_74 : decode cX5_spine 74 = .ok (.getfield 10, 3) := by decide +kernel
theorem dX5_spine_77 : decode cX5_spine 77 = .ok (.getfield 43, 3) := by decide +kernel
theorem dX5_spine_80 : decode cX5_spine 80 = .ok (.iload_n 3, 1) := by decide +kernel
theorem dX5_spine_81 : decode cX5_spine 81 = .ok (.invokevirtual 133, 3) := by decide +kernel
theorem dX5_spine_84 : decode cX5_spine 84 = .ok (.ireturn, 1) := by decide +kernel
theorem dX5_marked_0 : decode cX5_marked 0 = .ok (.iload_n 1, 1) := by decide +kernel
theorem dX5_marked_1 : decode cX5_marked 1 = .ok (.invokestatic 147, 3) := by decide +kernel
theorem dX5_marked_4 : decode cX5_marked 4 = .ok (.ifCond .ne 5, 3) := by decide +kernel
theorem dX5_marked_7 : decode cX5_marked 7 = .ok (.iconst (-1), 1) := by decide +kernel
theorem dX5_marked_8 : decode cX5_marked 8 = .ok (.ireturn, 1) := by decide +kernel
theorem dX5_marked_9 : decode cX5_marked 9 = .ok (.aload_n 0, 1) := by decide +kernel
theorem dX5_marked_10 : decode cX5_marked 10 = .ok (.getfield 10, 3) := by decide +kernel
theorem dX5_marked_13 : decode cX5_marked 13 = .ok (.iload_n 1, 1) := by decide +kernel
theorem dX5_marked_14 : decode cX5_marked 14 = .ok (.invokevirtual 150, 3) := by decide +kernel
theorem dX5_marked_17 : decode cX5_marked 17 = .ok (.invokestatic 156, 3) := by decide +kernel
theorem dX5_marked_20 : decode cX5_marked 20 = .ok (.ireturn, 1) := by decide +kernel
theorem dX5_count_0 : decode cX5_count 0 = .ok (.iload_n 1, 1) := by decide +kernel
theorem dX5_count_1 : decode cX5_count 1 = .ok (.tableswitch 164 0 9 #[55, 66, 74, 92, 103, 115, 126, 137, 145, 153], 55) := by decide +kernel
theorem dX5_count_56 : decode cX5_count 56 = .ok (.aload_n 0, 1) := by decide +kernel
theorem dX5_count_57 : decode cX5_count 57 = .ok (.getfield 10, 3) := by decide +kernel
theorem dX5_count_60 : decode cX5_count 60 = .ok (.getfield 43, 3) := by decide +kernel
theorem dX5_count_63 : decode cX5_count 63 = .ok (.invokevirtual 101, 3) := by decide +kernel
theorem dX5_count_66 : decode cX5_count 66 = .ok (.ireturn, 1) := by decide +kernel
theorem dX5_count_67 : decode cX5_count 67 = .ok (.aload_n 0, 1) := by decide +kernel
theorem dX5_count_68 : decode cX5_count 68 = .ok (.getfield 10, 3) := by decide +kernel
theorem dX5_count_71 : decode cX5_count 71 = .ok (.getfield 47, 3) := by decide +kernel
theorem dX5_count_74 : decode cX5_count 74 = .ok (.ireturn, 1) := by decide +kernel
theorem dX5_count_75 : decode cX5_count 75 = .ok (.aload_n 0, 1) := by decide +kernel
theorem dX5_count_76 : decode cX5_count 76 = .ok (.getfield 10, 3) := by decide +kernel
theorem dX5_count_79 : decode cX5_count 79 = .ok (.getfield 43, 3) := by decide +kernel
theorem dX5_count_82 : decode cX5_count 82 = .ok (.aload_n 0, 1) := by decide +kernel
theorem dX5_count_83 : decode cX5_count 83 = .ok (.getfield 10, 3) := by decide +kernel
theorem dX5_count_86 : decode cX5_count 86 = .ok (.getfield 47, 3) := by decide +kernel
theorem dX5_count_89 : decode cX5_count 89 = .ok (.invokevirtual 74, 3) := by decide +kernel
theorem dX5_count_92 : decode cX5_count 92 = .ok (.ireturn, 1) := by decide +kernel
theorem dX5_count_93 : decode cX5_count 93 = .ok (.aload_n 0, 1) := by decide +kernel
theorem dX5_count_94 : decode cX5_count 94 = .ok (.getfield 10, 3) := by decide +kernel
theorem dX5_count_97 : decode cX5_count 97 = .ok (.getfield 43, 3) := by decide +kernel
theorem dX5_count_100 : decode cX5_count 100 = .ok (.invokevirtual 165, 3) := by decide +kernel
theorem dX5_count_103 : decode cX5_count 103 = .ok (.ireturn, 1) := by decide +kernel
theorem dX5_count_104 : decode cX5_count 104 = .ok (.aload_n 0, 1) := by decide +kernel
theorem dX5_count_105 : decode cX5_count 105 = .ok (.getfield 10, 3) := by decide +kernel
theorem dX5_count_108 : decode cX5_count 108 = .ok (.getfield 43, 3) := by decide +kernel
theorem dX5_count_111 : decode cX5_count 111 = .ok (.iconst 0, 1) := by decide +kernel
theorem dX5_count_112 : decode cX5_count 112 = .ok (.invokevirtual 113, 3) := by decide +kernel
theorem dX5_count_115 : decode cX5_count 115 = .ok (.ireturn, 1) := by decide +kernel
theorem dX5_count_116 : decode cX5_count 116 = .ok (.aload_n 0, 1) := by decide +kernel
theorem dX5_count_117 : decode cX5_count 117 = .ok (.getfield 10, 3) := by decide +kernel
theorem dX5_count_120 : decode cX5_count 120 = .ok (.getfield 168, 3) := by decide +kernel
theorem dX5_count_123 : decode cX5_count 123 = .ok (.invokevirtual 171, 3) := by decide +kernel
theorem dX5_count_126 : decode cX5_count 126 = .ok (.ireturn, 1) := by decide +kernel
theorem dX5_count_127 : decode cX5_count 127 = .ok (.aload_n 0, 1) := by decide +kernel
theorem dX5_count_128 : decode cX5_count 128 = .ok (.getfield 10, 3) := by decide +kernel
theorem dX5_count_131 : decode cX5_count 131 = .ok (.getfield 136, 3) := by decide +kernel
theorem dX5_count_134 : decode cX5_count 134 = .ok (.invokevirtual 101, 3) := by decide +kernel
theorem dX5_count_137 : decode cX5_count 137 = .ok (.ireturn, 1) := by decide +kernel
theorem dX5_count_138 : decode cX5_count 138 = .ok (.aload_n 0, 1) := by decide +kernel
theorem dX5_count_139 : decode cX5_count 139 = .ok (.getfield 19, 3) := by decide +kernel
theorem dX5_count_142 : decode cX5_count 142 = .ok (.invokevirtual 172, 3) := by decide +kernel
theorem dX5_count_145 : decode cX5_count 145 = .ok (.ireturn, 1) := by decide +kernel
theorem dX5_count_146 : decode cX5_count 146 = .ok (.aload_n 0, 1) := by decide +kernel
theorem dX5_count_147 : decode cX5_count 147 = .ok (.getfield 28, 3) := by decide +kernel
theorem dX5_count_150 : decode cX5_count 150 = .ok (.invokevirtual 171, 3) := by decide +kernel
theorem dX5_count_153 : decode cX5_count 153 = .ok (.ireturn, 1) := by decide +kernel
theorem dX5_count_154 : decode cX5_count 154 = .ok (.aload_n 0, 1) := by decide +kernel
theorem dX5_count_155 : decode cX5_count 155 = .ok (.getfield 10, 3) := by decide +kernel
theorem dX5_count_158 : decode cX5_count 158 = .ok (.getfield 43, 3) := by decide +kernel
theorem dX5_count_161 : decode cX5_count 161 = .ok (.invokevirtual 173, 3) := by decide +kernel
theorem dX5_count_164 : decode cX5_count 164 = .ok (.ireturn, 1) := by decide +kernel
theorem dX5_count_165 : decode cX5_count 165 = .ok (.iconst (-1), 1) := by decide +kernel
theorem dX5_count_166 : decode cX5_count 166 = .ok (.ireturn, 1) := by decide +kernel
theorem dX5_like_0 : decode cX5_like 0 = .ok (.iconst 0, 1) := by decide +kernel
theorem dX5_like_1 : decode cX5_like 1 = .ok (.istore_n 1, 1) := by decide +kernel
theorem dX5_like_2 : decode cX5_like 2 = .ok (.iconst 0, 1) := by decide +kernel
theorem dX5_like_3 : decode cX5_like 3 = .ok (.istore_n 2, 1) := by decide +kernel
theorem dX5_like_4 : decode cX5_like 4 = .ok (.iload_n 2, 1) := by decide +kernel
theorem dX5_like_5 : decode cX5_like 5 = .ok (.aload_n 0, 1) := by decide +kernel
theorem dX5_like_6 : decode cX5_like 6 = .ok (.getfield 10, 3) := by decide +kernel
theorem dX5_like_9 : decode cX5_like 9 = .ok (.getfield 43, 3) := by decide +kernel
theorem dX5_like_12 : decode cX5_like 12 = .ok (.invokevirtual 101, 3) := by decide +kernel
theorem dX5_like_15 : decode cX5_like 15 = .ok (.if_icmp .ge 33, 3) := by decide +kernel
theorem dX5_like_18 : decode cX5_like 18 = .ok (.aload_n 0, 1) := by decide +kernel
theorem dX5_like_19 : decode cX5_like 19 = .ok (.getfield 10, 3) := by decide +kernel
theorem dX5_like_22 : decode cX5_like 22 = .ok (.getfield 43, 3) := by decide +kernel
theorem dX5_like_25 : decode cX5_like 25 = .ok (.iload_n 2, 1) := by decide +kernel
theorem dX5_like_26 : decode cX5_like 26 = .ok (.aload_n 0, 1) := by decide +kernel
theorem dX5_like_27 : decode cX5_like 27 = .ok (.getfield 10, 3) := by decide +kernel
theorem dX5_like_30 : decode cX5_like 30 = .ok (.getfield 47, 3) := by decide +kernel
theorem dX5_like_33 : decode cX5_like 33 = .ok (.invokevirtual 176, 3) := by decide +kernel
theorem dX5_like_36 : decode cX5_like 36 = .ok (.ifCond .eq 6, 3) := by decide +kernel
theorem dX5_like_39 : decode cX5_like 39 = .ok (.iinc 1 1, 3) := by decide +kernel
theorem dX5_like_42 : decode cX5_like 42 = .ok (.iinc 2 1, 3) := by decide +kernel
theorem dX5_like_45 : decode cX5_like 45 = .ok (.goto (-41), 3) := by decide +kernel
theorem dX5_like_48 : decode cX5_like 48 = .ok (.iload_n 1, 1) := by decide +kernel
theorem dX5_like_49 : decode cX5_like 49 = .ok (.ireturn, 1) := by decide +kernel
theorem dX5_meet_0 : decode cX5_meet 0 = .ok (.aload_n 0, 1) := by decide +kernel
theorem dX5_meet_1 : decode cX5_meet 1 = .ok (.getfield 10, 3) := by decide +kernel
theorem dX5_meet_4 : decode cX5_meet 4 = .ok (.getfield 43, 3) := by decide +kernel
theorem dX5_meet_7 : decode cX5_meet 7 = .ok (.iload_n 1, 1) := by decide +kernel
theorem dX5_meet_8 : decode cX5_meet 8 = .ok (.invokevirtual 71, 3) := by decide +kernel
theorem dX5_meet_11 : decode cX5_meet 11 = .ok (.ifCond .eq 17, 3) := by decide +kernel
theorem dX5_meet_14 : decode cX5_meet 14 = .ok (.aload_n 0, 1) := by decide +kernel
theorem dX5_meet_15 : decode cX5_meet 15 = .ok (.getfield 10, 3) := by decide +kernel
theorem dX5_meet_18 : decode cX5_meet 18 = .ok (.getfield 43, 3) := by decide +kernel
theorem dX5_meet_21 : decode cX5_meet 21 = .ok (.iload_n 2, 1) := by decide +kernel
theorem dX5_meet_22 : decode cX5_meet 22 = .ok (.invokevirtual 71, 3) := by decide +kernel
theorem dX5_meet_25 : decode cX5_meet 25 = .ok (.ifCond .ne 5, 3) := by decide +kernel
theorem dX5_meet_28 : decode cX5_meet 28 = .ok (.iconst (-1), 1) := by decide +kernel
theorem dX5_meet_29 : decode cX5_meet 29 = .ok (.ireturn, 1) := by decide +kernel
theorem dX5_meet_30 : decode cX5_meet 30 = .ok (.iload_n 1, 1) := by decide +kernel
theorem dX5_meet_31 : decode cX5_meet 31 = .ok (.iload_n 2, 1) := by decide +kernel
theorem dX5_meet_32 : decode cX5_meet 32 = .ok (.invokestatic 122, 3) := by decide +kernel
theorem dX5_meet_35 : decode cX5_meet 35 = .ok (.istore_n 3, 1) := by decide +kernel
theorem dX5_meet_36 : decode cX5_meet 36 = .ok (.iload_n 1, 1) := by decide +kernel
theorem dX5_meet_37 : decode cX5_meet 37 = .ok (.iload_n 2, 1) := by decide +kernel
theorem dX5_meet_38 : decode cX5_meet 38 = .ok (.invokestatic 127, 3) := by decide +kernel
theorem dX5_meet_41 : decode cX5_meet 41 = .ok (.istore 4, 2) := by decide +kernel
theorem dX5_meet_43 : decode cX5_meet 43 = .ok (.iload 4, 2) := by decide +kernel
theorem dX5_meet_45 : decode cX5_meet 45 = .ok (.ifCond .le 28, 3) := by decide +kernel
theorem dX5_meet_48 : decode cX5_meet 48 = .ok (.aload_n 0, 1) := by decide +kernel
theorem dX5_meet_49 : decode cX5_meet 49 = .ok (.getfield 10, 3) := by decide +kernel
theorem dX5_meet_52 : decode cX5_meet 52 = .ok (.getfield 43, 3) := by decide +kernel
theorem dX5_meet_55 : decode cX5_meet 55 = .ok (.iload 4, 2) := by decide +kernel
theorem dX5_meet_57 : decode cX5_meet 57 = .ok (.invokevirtual 107, 3) := by decide +kernel
theorem dX5_meet_60 : decode cX5_meet 60 = .ok (.iload_n 3, 1) := by decide +kernel
theorem dX5_meet_61 : decode cX5_meet 61 = .ok (.if_icmp .le 6, 3) := by decide +kernel
theorem dX5_meet_64 : decode cX5_meet 64 = .ok (.iload 4, 2) := by decide +kernel
theorem dX5_meet_66 : decode cX5_meet 66 = .ok (.ireturn, 1) := by decide +kernel
theorem dX5_meet_67 : decode cX5_meet 67 = .ok (.iinc 4 (-1), 3) := by decide +kernel
theorem dX5_meet_70 : decode cX5_meet 70 = .ok (.goto (-27), 3) := by decide +kernel
theorem dX5_meet_73 : decode cX5_meet 73 = .ok (.iconst 0, 1) := by decide +kernel
theorem dX5_meet_74 : decode cX5_meet 74 = .ok (.ireturn, 1) := by decide +kernel
theorem dX5_find_0 : decode cX5_find 0 = .ok (.iload_n 1, 1) := by decide +kernel
theorem dX5_find_1 : decode cX5_find 1 = .ok (.invokestatic 88, 3) := by decide +kernel
theorem dX5_find_4 : decode cX5_find 4 = .ok (.ifCond .ne 5, 3) := by decide +kernel
theorem dX5_find_7 : decode cX5_find 7 = .ok (.iconst (-1), 1) := by decide +kernel
theorem dX5_find_8 : decode cX5_find 8 = .ok (.ireturn, 1) := by decide +kernel
theorem dX5_find_9 : decode cX5_find 9 = .ok (.aload_n 0, 1) := by decide +kernel
theorem dX5_find_10 : decode cX5_find 10 = .ok (.getfield 10, 3) := by decide +kernel
theorem dX5_find_13 : decode cX5_find 13 = .ok (.getfield 47, 3) := by decide +kernel
theorem dX5_find_16 : decode cX5_find 16 = .ok (.iconst 1, 1) := by decide +kernel
theorem dX5_find_17 : decode cX5_find 17 = .ok (.iadd, 1) := by decide +kernel
theorem dX5_find_18 : decode cX5_find 18 = .ok (.istore_n 2, 1) := by decide +kernel
theorem dX5_find_19 : decode cX5_find 19 = .ok (.iload_n 2, 1) := by decide +kernel
theorem dX5_find_20 : decode cX5_find 20 = .ok (.aload_n 0, 1) := by decide +kernel
theorem dX5_find_21 : decode cX5_find 21 = .ok (.getfield 10, 3) := by decide +kernel
theorem dX5_find_24 : decode cX5_find 24 = .ok (.getfield 43, 3) := by decide +kernel
theorem dX5_find_27 : decode cX5_find 27 = .ok (.invokevirtual 101, 3) := by decide +kernel
theorem dX5_find_30 : decode cX5_find 30 = .ok (.if_icmp .ge 26, 3) := by decide +kernel
theorem dX5_find_33 : decode cX5_find 33 = .ok (.aload_n 0, 1) := by decide +kernel
theorem dX5_find_34 : decode cX5_find 34 = .ok (.getfield 10, 3) := by decide +kernel
theorem dX5_find_37 : decode cX5_find 37 = .ok (.getfield 43, 3) := by decide +kernel
theorem dX5_find_40 : decode cX5_find 40 = .ok (.iload_n 2, 1) := by decide +kernel
theorem dX5_find_41 : decode cX5_find 41 = .ok (.invokevirtual 91, 3) := by decide +kernel
theorem dX5_find_44 : decode cX5_find 44 = .ok (.iload_n 1, 1) := by decide +kernel
theorem dX5_find_45 : decode cX5_find 45 = .ok (.if_icmp .ne 5, 3) := by decide +kernel
theorem dX5_find_48 : decode cX5_find 48 = .ok (.iload_n 2, 1) := by decide +kernel
theorem dX5_find_49 : decode cX5_find 49 = .ok (.ireturn, 1) := by decide +kernel
theorem dX5_find_50 : decode cX5_find 50 = .ok (.iinc 2 1, 3) := by decide +kernel
theorem dX5_find_53 : decode cX5_find 53 = .ok (.goto (-34), 3) := by decide +kernel
theorem dX5_find_56 : decode cX5_find 56 = .ok (.iconst 0, 1) := by decide +kernel
theorem dX5_find_57 : decode cX5_find 57 = .ok (.istore_n 2, 1) := by decide +kernel
theorem dX5_find_58 : decode cX5_find 58 = .ok (.iload_n 2, 1) := by decide +kernel
theorem dX5_find_59 : decode cX5_find 59 = .ok (.aload_n 0, 1) := by decide +kernel
theorem dX5_find_60 : decode cX5_find 60 = .ok (.getfield 10, 3) := by decide +kernel
theorem dX5_find_63 : decode cX5_find 63 = .ok (.getfield 47, 3) := by decide +kernel
theorem dX5_find_66 : decode cX5_find 66 = .ok (.if_icmp .gt 26, 3) := by decide +kernel
theorem dX5_find_69 : decode cX5_find 69 = .ok (.aload_n 0, 1) := by decide +kernel
theorem dX5_find_70 : decode cX5_find 70 = .ok (.getfield 10, 3) := by decide +kernel
theorem dX5_find_73 : decode cX5_find 73 = .ok (.getfield 43, 3) := by decide +kernel
theorem dX5_find_76 : decode cX5_find 76 = .ok (.iload_n 2, 1) := by decide +kernel
theorem dX5_find_77 : decode cX5_find 77 = .ok (.invokevirtual 91, 3) := by decide +kernel
theorem dX5_find_80 : decode cX5_find 80 = .ok (.iload_n 1, 1) := by decide +kernel
theorem dX5_find_81 : decode cX5_find 81 = .ok (.if_icmp .ne 5, 3) := by decide +kernel
theorem dX5_find_84 : decode cX5_find 84 = .ok (.iload_n 2, 1) := by decide +kernel
theorem dX5_find_85 : decode cX5_find 85 = .ok (.ireturn, 1) := by decide +kernel
theorem dX5_find_86 : decode cX5_find 86 = .ok (.iinc 2 1, 3) := by decide +kernel
theorem dX5_find_89 : decode cX5_find 89 = .ok (.goto (-31), 3) := by decide +kernel
theorem dX5_find_92 : decode cX5_find 92 = .ok (.bipush (-4), 2) := by decide +kernel
theorem dX5_find_94 : decode cX5_find 94 = .ok (.ireturn, 1) := by decide +kernel
theorem dX5_undo_0 : decode cX5_undo 0 = .ok (.aload_n 0, 1) := by decide +kernel
theorem dX5_undo_1 : decode cX5_undo 1 = .ok (.getfield 19, 3) := by decide +kernel
theorem dX5_undo_4 : decode cX5_undo 4 = .ok (.invokevirtual 172, 3) := by decide +kernel
theorem dX5_undo_7 : decode cX5_undo 7 = .ok (.ifCond .ne 6, 3) := by decide +kernel
theorem dX5_undo_10 : decode cX5_undo 10 = .ok (.bipush (-2), 2) := by decide +kernel
theorem dX5_undo_12 : decode cX5_undo 12 = .ok (.ireturn, 1) := by decide +kernel
theorem dX5_undo_13 : decode cX5_undo 13 = .ok (.aload_n 0, 1) := by decide +kernel
theorem dX5_undo_14 : decode cX5_undo 14 = .ok (.getfield 19, 3) := by decide +kernel
theorem dX5_undo_17 : decode cX5_undo 17 = .ok (.aload_n 0, 1) := by decide +kernel
theorem dX5_undo_18 : decode cX5_undo 18 = .ok (.getfield 10, 3) := by decide +kernel
theorem dX5_undo_21 : decode cX5_undo 21 = .ok (.invokevirtual 180, 3) := by decide +kernel
theorem dX5_undo_24 : decode cX5_undo 24 = .ok (.aload_n 0, 1) := by decide +kernel
theorem dX5_undo_25 : decode cX5_undo 25 = .ok (.getfield 19, 3) := by decide +kernel
theorem dX5_undo_28 : decode cX5_undo 28 = .ok (.invokevirtual 172, 3) := by decide +kernel
theorem dX5_undo_31 : decode cX5_undo 31 = .ok (.ireturn, 1) := by decide +kernel
theorem dX5_type_0 : decode cX5_type 0 = .ok (.iload_n 1, 1) := by decide +kernel
theorem dX5_type_1 : decode cX5_type 1 = .ok (.bipush 32, 2) := by decide +kernel
theorem dX5_type_3 : decode cX5_type 3 = .ok (.if_icmp .lt 9, 3) := by decide +kernel
theorem dX5_type_6 : decode cX5_type 6 = .ok (.iload_n 1, 1) := by decide +kernel
theorem dX5_type_7 : decode cX5_type 7 = .ok (.bipush 126, 2) := by decide +kernel
theorem dX5_type_9 : decode cX5_type 9 = .ok (.if_icmp .le 5, 3) := by decide +kernel
theorem dX5_type_12 : decode cX5_type 12 = .ok (.iconst (-1), 1) := by decide +kernel
theorem dX5_type_13 : decode cX5_type 13 = .ok (.ireturn, 1) := by decide +kernel
theorem dX5_type_14 : decode cX5_type 14 = .ok (.aload_n 0, 1) := by decide +kernel
theorem dX5_type_15 : decode cX5_type 15 = .ok (.getfield 28, 3) := by decide +kernel
theorem dX5_type_18 : decode cX5_type 18 = .ok (.invokevirtual 171, 3) := by decide +kernel
theorem dX5_type_21 : decode cX5_type 21 = .ok (.bipush 120, 2) := by decide +kernel
theorem dX5_type_23 : decode cX5_type 23 = .ok (.if_icmp .lt 6, 3) := by decide +kernel
theorem dX5_type_26 : decode cX5_type 26 = .ok (.bipush (-3), 2) := by decide +kernel
theorem dX5_type_28 : decode cX5_type 28 = .ok (.ireturn, 1) := by decide +kernel
theorem dX5_type_29 : decode cX5_type 29 = .ok (.aload_n 0, 1) := by decide +kernel
theorem dX5_type_30 : decode cX5_type 30 = .ok (.getfield 28, 3) := by decide +kernel
theorem dX5_type_33 : decode cX5_type 33 = .ok (.iload_n 1, 1) := by decide +kernel
theorem dX5_type_34 : decode cX5_type 34 = .ok (.invokevirtual 183, 3) := by decide +kernel
theorem dX5_type_37 : decode cX5_type 37 = .ok (.aload_n 0, 1) := by decide +kernel
theorem dX5_type_38 : decode cX5_type 38 = .ok (.getfield 28, 3) := by decide +kernel
theorem dX5_type_41 : decode cX5_type 41 = .ok (.invokevirtual 171, 3) := by decide +kernel
theorem dX5_type_44 : decode cX5_type 44 = .ok (.ireturn, 1) := by decide +kernel
theorem dX5_clearText_0 : decode cX5_clearText 0 = .ok (.aload_n 0, 1) := by decide +kernel
theorem dX5_clearText_1 : decode cX5_clearText 1 = .ok (.getfield 28, 3) := by decide +kernel
theorem dX5_clearText_4 : decode cX5_clearText 4 = .ok (.invokevirtual 171, 3) := by decide +kernel
theorem dX5_clearText_7 : decode cX5_clearText 7 = .ok (.istore_n 1, 1) := by decide +kernel
theorem dX5_clearText_8 : decode cX5_clearText 8 = .ok (.aload_n 0, 1) := by decide +kernel
theorem dX5_clearText_9 : decode cX5_clearText 9 = .ok (.getfield 28, 3) := by decide +kernel
theorem dX5_clearText_12 : decode cX5_clearText 12 = .ok (.invokevirtual 186, 3) := by decide +kernel
theorem dX5_clearText_15 : decode cX5_clearText 15 = .ok (.iload_n 1, 1) := by decide +kernel
theorem dX5_clearText_16 : decode cX5_clearText 16 = .ok (.ireturn, 1) := by decide +kernel
theorem dX5_write_0 : decode cX5_write 0 = .ok (.aload_n 0, 1) := by decide +kernel
theorem dX5_write_1 : decode cX5_write 1 = .ok (.getfield 28, 3) := by decide +kernel
theorem dX5_write_4 : decode cX5_write 4 = .ok (.invokevirtual 186, 3) := by decide +kernel
theorem dX5_write_7 : decode cX5_write 7 = .ok (.aload_n 0, 1) := by decide +kernel
theorem dX5_write_8 : decode cX5_write 8 = .ok (.getfield 10, 3) := by decide +kernel
theorem dX5_write_11 : decode cX5_write 11 = .ok (.getfield 43, 3) := by decide +kernel
theorem dX5_write_14 : decode cX5_write 14 = .ok (.aload_n 0, 1) := by decide +kernel
theorem dX5_write_15 : decode cX5_write 15 = .ok (.getfield 28, 3) := by decide +kernel
theorem dX5_write_18 : decode cX5_write 18 = .ok (.invokevirtual 189, 3) := by decide +kernel
theorem dX5_write_21 : decode cX5_write 21 = .ok (.aload_n 0, 1) := by decide +kernel
theorem dX5_write_22 : decode cX5_write 22 = .ok (.getfield 28, 3) := by decide +kernel
theorem dX5_write_25 : decode cX5_write 25 = .ok (.invokevirtual 171, 3) := by decide +kernel
theorem dX5_write_28 : decode cX5_write 28 = .ok (.ireturn, 1) := by decide +kernel
theorem dX5_fault_0 : decode cX5_fault 0 = .ok (.iload_n 1, 1) := by decide +kernel
theorem dX5_fault_1 : decode cX5_fault 1 = .ok (.invokestatic 64, 3) := by decide +kernel
theorem dX5_fault_4 : decode cX5_fault 4 = .ok (.ifCond .ne 5, 3) := by decide +kernel
theorem dX5_fault_7 : decode cX5_fault 7 = .ok (.iconst (-1), 1) := by decide +kernel
theorem dX5_fault_8 : decode cX5_fault 8 = .ok (.ireturn, 1) := by decide +kernel
theorem dX5_fault_9 : decode cX5_fault 9 = .ok (.aload_n 0, 1) := by decide +kernel
theorem dX5_fault_10 : decode cX5_fault 10 = .ok (.getfield 35, 3) := by decide +kernel
theorem dX5_fault_13 : decode cX5_fault 13 = .ok (.aload_n 0, 1) := by decide +kernel
theorem dX5_fault_14 : decode cX5_fault 14 = .ok (.getfield 28, 3) := by decide +kernel
theorem dX5_fault_17 : decode cX5_fault 17 = .ok (.invokevirtual 193, 3) := by decide +kernel
theorem dX5_fault_20 : decode cX5_fault 20 = .ok (.aload_n 0, 1) := by decide +kernel
theorem dX5_fault_21 : decode cX5_fault 21 = .ok (.getfield 35, 3) := by decide +kernel
theorem dX5_fault_24 : decode cX5_fault 24 = .ok (.getfield 196, 3) := by decide +kernel
theorem dX5_fault_27 : decode cX5_fault 27 = .ok (.ifCond .ne 6, 3) := by decide +kernel
theorem dX5_fault_30 : decode cX5_fault 30 = .ok (.bipush (-4), 2) := by decide +kernel
theorem dX5_fault_32 : decode cX5_fault 32 = .ok (.ireturn, 1) := by decide +kernel
theorem dX5_fault_33 : decode cX5_fault 33 = .ok (.iload_n 1, 1) := by decide +kernel
theorem dX5_fault_34 : decode cX5_fault 34 = .ok (.ifCond .ne 13, 3) := by decide +kernel
theorem dX5_fault_37 : decode cX5_fault 37 = .ok (.aload_n 0, 1) := by decide +kernel
theorem dX5_fault_38 : decode cX5_fault 38 = .ok (.getfield 35, 3) := by decide +kernel
theorem dX5_fault_41 : decode cX5_fault 41 = .ok (.getfield 199, 3) := by decide +kernel
theorem dX5_fault_44 : decode cX5_fault 44 = .ok (.goto 10, 3) := by decide +kernel
theorem dX5_fault_47 : decode cX5_fault 47 = .ok (.aload_n 0, 1) := by decide +kernel
theorem dX5_fault_48 : decode cX5_fault 48 = .ok (.getfield 35, 3) := by decide +kernel
theorem dX5_fault_51 : decode cX5_fault 51 = .ok (.getfield 196, 3) := by decide +kernel
theorem dX5_fault_54 : decode cX5_fault 54 = .ok (.ireturn, 1) := by decide +kernel
theorem dX5_read_0 : decode cX5_read 0 = .ok (.aload_n 0, 1) := by decide +kernel
theorem dX5_read_1 : decode cX5_read 1 = .ok (.getfield 35, 3) := by decide +kernel
theorem dX5_read_4 : decode cX5_read 4 = .ok (.aload_n 0, 1) := by decide +kernel
theorem dX5_read_5 : decode cX5_read 5 = .ok (.getfield 28, 3) := by decide +kernel
theorem dX5_read_8 : decode cX5_read 8 = .ok (.invokevirtual 193, 3) := by decide +kernel
theorem dX5_read_11 : decode cX5_read 11 = .ok (.aload_n 0, 1) := by decide +kernel
theorem dX5_read_12 : decode cX5_read 12 = .ok (.getfield 35, 3) := by decide +kernel
theorem dX5_read_15 : decode cX5_read 15 = .ok (.getfield 196, 3) := by decide +kernel
theorem dX5_read_18 : decode cX5_read 18 = .ok (.ifCond .eq 6, 3) := by decide +kernel
theorem dX5_read_21 : decode cX5_read 21 = .ok (.bipush (-2), 2) := by decide +kernel
theorem dX5_read_23 : decode cX5_read 23 = .ok (.ireturn, 1) := by decide +kernel
theorem dX5_read_24 : decode cX5_read 24 = .ok (.aload_n 0, 1) := by decide +kernel
theorem dX5_read_25 : decode cX5_read 25 = .ok (.getfield 19, 3) := by decide +kernel
theorem dX5_read_28 : decode cX5_read 28 = .ok (.aload_n 0, 1) := by decide +kernel
theorem dX5_read_29 : decode cX5_read 29 = .ok (.getfield 10, 3) := by decide +kernel
theorem dX5_read_32 : decode cX5_read 32 = .ok (.invokevirtual 81, 3) := by decide +kernel
theorem dX5_read_35 : decode cX5_read 35 = .ok (.aload_n 0, 1) := by decide +kernel
theorem dX5_read_36 : decode cX5_read 36 = .ok (.getfield 10, 3) := by decide +kernel
theorem dX5_read_39 : decode cX5_read 39 = .ok (.aload_n 0, 1) := by decide +kernel
theorem dX5_read_40 : decode cX5_read 40 = .ok (.getfield 35, 3) := by decide +kernel
theorem dX5_read_43 : decode cX5_read 43 = .ok (.getfield 202, 3) := by decide +kernel
theorem dX5_read_46 : decode cX5_read 46 = .ok (.invokevirtual 203, 3) := by decide +kernel
theorem dX5_read_49 : decode cX5_read 49 = .ok (.aload_n 0, 1) := by decide +kernel
theorem dX5_read_50 : decode cX5_read 50 = .ok (.getfield 10, 3) := by decide +kernel
theorem dX5_read_53 : decode cX5_read 53 = .ok (.getfield 43, 3) := by decide +kernel
theorem dX5_read_56 : decode cX5_read 56 = .ok (.invokevirtual 101, 3) := by decide +kernel
theorem dX5_read_59 : decode cX5_read 59 = .ok (.ireturn, 1) := by decide +kernel
theorem dX5_walk_0 : decode cX5_walk 0 = .ok (.iload_n 1, 1) := by decide +kernel
theorem dX5_walk_1 : decode cX5_walk 1 = .ok (.iconst (-1), 1) := by decide +kernel
theorem dX5_walk_2 : decode cX5_walk 2 = .ok (.if_icmp .ne 6, 3) := by decide +kernel
theorem dX5_walk_5 : decode cX5_walk 5 = .ok (.bipush (-2), 2) := by decide +kernel
theorem dX5_walk_7 : decode cX5_walk 7 = .ok (.ireturn, 1) := by decide +kernel
theorem dX5_walk_8 : decode cX5_walk 8 = .ok (.aload_n 0, 1) := by decide +kernel
theorem dX5_walk_9 : decode cX5_walk 9 = .ok (.getfield 19, 3) := by decide +kernel
theorem dX5_walk_12 : decode cX5_walk 12 = .ok (.aload_n 0, 1) := by decide +kernel
theorem dX5_walk_13 : decode cX5_walk 13 = .ok (.getfield 10, 3) := by decide +kernel
theorem dX5_walk_16 : decode cX5_walk 16 = .ok (.invokevirtual 81, 3) := by decide +kernel
theorem dX5_walk_19 : decode cX5_walk 19 = .ok (.aload_n 0, 1) := by decide +kernel
theorem dX5_walk_20 : decode cX5_walk 20 = .ok (.getfield 10, 3) := by decide +kernel
theorem dX5_walk_23 : decode cX5_walk 23 = .ok (.iload_n 1, 1) := by decide +kernel
theorem dX5_walk_24 : decode cX5_walk 24 = .ok (.invokevirtual 207, 3) := by decide +kernel
theorem dX5_walk_27 : decode cX5_walk 27 = .ok (.iload_n 1, 1) := by decide +kernel
theorem dX5_walk_28 : decode cX5_walk 28 = .ok (.ireturn, 1) := by decide +kernel
theorem dX5_orNotFound_0 : decode cX5_orNotFound 0 = .ok (.iload_n 0, 1) := by decide +kernel
theorem dX5_orNotFound_1 : decode cX5_orNotFound 1 = .ok (.iconst (-1), 1) := by decide +kernel
theorem dX5_orNotFound_2 : decode cX5_orNotFound 2 = .ok (.if_icmp .ne 8, 3) := by decide +kernel
theorem dX5_orNotFound_5 : decode cX5_orNotFound 5 = .ok (.bipush (-4), 2) := by decide +kernel
theorem dX5_orNotFound_7 : decode cX5_orNotFound 7 = .ok (.goto 4, 3) := by decide +kernel
theorem dX5_orNotFound_10 : decode cX5_orNotFound 10 = .ok (.iload_n 0, 1) := by decide +kernel
theorem dX5_orNotFound_11 : decode cX5_orNotFound 11 = .ok (.ireturn, 1) := by decide +kernel
theorem dX5_isChoice_0 : decode cX5_isChoice 0 = .ok (.iload_n 0, 1) := by decide +kernel
theorem dX5_isChoice_1 : decode cX5_isChoice 1 = .ok (.ifCond .eq 8, 3) := by decide +kernel
theorem dX5_isChoice_4 : decode cX5_isChoice 4 = .ok (.iload_n 0, 1) := by decide +kernel
theorem dX5_isChoice_5 : decode cX5_isChoice 5 = .ok (.iconst 1, 1) := by decide +kernel
theorem dX5_isChoice_6 : decode cX5_isChoice 6 = .ok (.if_icmp .ne 7, 3) := by decide +kernel
theorem dX5_isChoice_9 : decode cX5_isChoice 9 = .ok (.iconst 1, 1) := by decide +kernel
theorem dX5_isChoice_10 : decode cX5_isChoice 10 = .ok (.goto 4, 3) := by decide +kernel
theorem dX5_isChoice_13 : decode cX5_isChoice 13 = .ok (.iconst 0, 1) := by decide +kernel
theorem dX5_isChoice_14 : decode cX5_isChoice 14 = .ok (.ireturn, 1) := by decide +kernel
theorem dX5_isLetter_0 : decode cX5_isLetter 0 = .ok (.iload_n 0, 1) := by decide +kernel
theorem dX5_isLetter_1 : decode cX5_isLetter 1 = .ok (.ifCond .lt 13, 3) := by decide +kernel
theorem dX5_isLetter_4 : decode cX5_isLetter 4 = .ok (.iload_n 0, 1) := by decide +kernel
theorem dX5_isLetter_5 : decode cX5_isLetter 5 = .ok (.bipush 26, 2) := by decide +kernel
theorem dX5_isLetter_7 : decode cX5_isLetter 7 = .ok (.if_icmp .ge 7, 3) := by decide +kernel
theorem dX5_isLetter_10 : decode cX5_isLetter 10 = .ok (.iconst 1, 1) := by decide +kernel
theorem dX5_isLetter_11 : decode cX5_isLetter 11 = .ok (.goto 4, 3) := by decide +kernel
theorem dX5_isLetter_14 : decode cX5_isLetter 14 = .ok (.iconst 0, 1) := by decide +kernel
theorem dX5_isLetter_15 : decode cX5_isLetter 15 = .ok (.ireturn, 1) := by decide +kernel
theorem dX5_isMark_0 : decode cX5_isMark 0 = .ok (.iload_n 0, 1) := by decide +kernel
theorem dX5_isMark_1 : decode cX5_isMark 1 = .ok (.ifCond .lt 12, 3) := by decide +kernel
theorem dX5_isMark_4 : decode cX5_isMark 4 = .ok (.iload_n 0, 1) := by decide +kernel
theorem dX5_isMark_5 : decode cX5_isMark 5 = .ok (.iconst 4, 1) := by decide +kernel
theorem dX5_isMark_6 : decode cX5_isMark 6 = .ok (.if_icmp .ge 7, 3) := by decide +kernel
theorem dX5_isMark_9 : decode cX5_isMark 9 = .ok (.iconst 1, 1) := by decide +kernel
theorem dX5_isMark_10 : decode cX5_isMark 10 = .ok (.goto 4, 3) := by decide +kernel
theorem dX5_isMark_13 : decode cX5_isMark 13 = .ok (.iconst 0, 1) := by decide +kernel
theorem dX5_isMark_14 : decode cX5_isMark 14 = .ok (.ireturn, 1) := by decide +kernel
theorem dX6_init_0 : decode cX6_init 0 = .ok (.aload_n 0, 1) := by decide +kernel
theorem dX6_init_1 : decode cX6_init 1 = .ok (.invokespecial 1, 3) := by decide +kernel
theorem dX6_init_4 : decode cX6_init 4 = .ok (.aload_n 0, 1) := by decide +kernel
theorem dX6_init_5 : decode cX6_init 5 = .ok (.sipush 218, 3) := by decide +kernel
theorem dX6_init_8 : decode cX6_init 8 = .ok (.newarray .int, 2) := by decide +kernel
theorem dX6_init_10 : decode cX6_init 10 = .ok (.putfield 7, 3) := by decide +kernel
theorem dX6_init_13 : decode cX6_init 13 = .ok (.aload_n 0, 1) := by decide +kernel
theorem dX6_init_14 : decode cX6_init 14 = .ok (.sipush 218, 3) := by decide +kernel
theorem dX6_init_17 : decode cX6_init 17 = .ok (.newarray .int, 2) := by decide +kernel
theorem dX6_init_19 : decode cX6_init 19 = .ok (.putfield 13, 3) := by decide +kernel
theorem dX6_init_22 : decode cX6_init 22 = .ok (.aload_n 0, 1) := by decide +kernel
theorem dX6_init_23 : decode cX6_init 23 = .ok (.sipush 872, 3) := by decide +kernel
theorem dX6_init_26 : decode cX6_init 26 = .ok (.newarray .int, 2) := by decide +kernel
theorem dX6_init_28 : decode cX6_init 28 = .ok (.putfield 16, 3) := by decide +kernel
theorem dX6_init_31 : decode cX6_init 31 = .ok (.aload_n 0, 1) := by decide +kernel
theorem dX6_init_32 : decode cX6_init 32 = .ok (.bipush 120, 2) := by decide +kernel
theorem dX6_init_34 : decode cX6_init 34 = .ok (.newarray .int, 2) := by decide +kernel
theorem dX6_init_36 : decode cX6_init 36 = .ok (.putfield 19, 3) := by decide +kernel
theorem dX6_init_39 : decode cX6_init 39 = .ok (.aload_n 0, 1) := by decide +kernel
theorem dX6_init_40 : decode cX6_init 40 = .ok (.bipush 120, 2) := by decide +kernel
theorem dX6_init_42 : decode cX6_init 42 = .ok (.newarray .int, 2) := by decide +kernel
theorem dX6_init_44 : decode cX6_init 44 = .ok (.putfield 22, 3) := by decide +kernel
theorem dX6_init_47 : decode cX6_init 47 = .ok (.aload_n 0, 1) := by decide +kernel
theorem dX6_init_48 : decode cX6_init 48 = .ok (.bipush 80, 2) := by decide +kernel
theorem dX6_init_50 : decode cX6_init 50 = .ok (.newarray .int, 2) := by decide +kernel
theorem dX6_init_52 : decode cX6_init 52 = .ok (.putfield 25, 3) := by decide +kernel
theorem dX6_init_55 : decode cX6_init 55 = .ok (.aload_n 0, 1) := by decide +kernel
theorem dX6_init_56 : decode cX6_init 56 = .ok (.bipush 9, 2) := by decide +kernel
theorem dX6_init_58 : decode cX6_init 58 = .ok (.newarray .int, 2) := by decide +kernel
theorem dX6_init_60 : decode cX6_init 60 = .ok (.putfield 28, 3) := by decide +kernel
theorem dX6_init_63 : decode cX6_init 63 = .ok (.aload_n 0, 1) := by decide +kernel
theorem dX6_init_64 : decode cX6_init 64 = .ok (.getfield 7, 3) := by decide +kernel
theorem dX6_init_67 : decode cX6_init 67 = .ok (.iconst 0, 1) := by decide +kernel
theorem dX6_init_68 : decode cX6_init 68 = .ok (.iconst 1, 1) := by decide +kernel
theorem dX6_init_69 : decode cX6_init 69 = .ok (.iastore, 1) := by decide +kernel
theorem dX6_init_70 : decode cX6_init 70 = .ok (.aload_n 0, 1) := by decide +kernel
theorem dX6_init_71 : decode cX6_init 71 = .ok (.getfield 7, 3) := by decide +kernel
theorem dX6_init_74 : decode cX6_init 74 = .ok (.iconst 1, 1) := by decide +kernel
theorem dX6_init_75 : decode cX6_init 75 = .ok (.iconst 1, 1) := by decide +kernel
theorem dX6_init_76 : decode cX6_init 76 = .ok (.iastore, 1) := by decide +kernel
theorem dX6_init_77 : decode cX6_init 77 = .ok (.iconst 0, 1) := by decide +kernel
theorem dX6_init_78 : decode cX6_init 78 = .ok (.istore_n 1, 1) := by decide +kernel
theorem dX6_init_79 : decode cX6_init 79 = .ok (.iload_n 1, 1) := by decide +kernel
theorem dX6_init_80 : decode cX6_init 80 = .ok (.iconst 4, 1) := by decide +kernel
theorem dX6_init_81 : decode cX6_init 81 = .ok (.if_icmp .ge 18, 3) := by decide +kernel
theorem dX6_init_84 : decode cX6_init 84 = .ok (.aload_n 0, 1) := by decide +kernel
theorem dX6_init_85 : decode cX6_init 85 = .ok (.getfield 7, 3) := by decide +kernel
theorem dX6_init_88 : decode cX6_init 88 = .ok (.iconst 5, 1) := by decide +kernel
theorem dX6_init_89 : decode cX6_init 89 = .ok (.iload_n 1, 1) := by decide +kernel
theorem dX6_init_90 : decode cX6_init 90 = .ok (.iadd, 1) := by decide +kernel
theorem dX6_init_91 : decode cX6_init 91 = .ok (.iconst (-1), 1) := by decide +kernel
theorem dX6_init_92 : decode cX6_init 92 = .ok (.iastore, 1) := by decide +kernel
theorem dX6_init_93 : decode cX6_init 93 = .ok (.iinc 1 1, 3) := by decide +kernel
theorem dX6_init_96 : decode cX6_init 96 = .ok (.goto (-17), 3) := by decide +kernel
theorem dX6_init_99 : decode cX6_init 99 = .ok (.return_, 1) := by decide +kernel
theorem dX6_in_0 : decode cX6_in 0 = .ok (.iload_n 0, 1) := by decide +kernel
theorem dX6_in_1 : decode cX6_in 1 = .ok (.iload_n 1, 1) := by decide +kernel
theorem dX6_in_2 : decode cX6_in 2 = .ok (.if_icmp .lt 12, 3) := by decide +kernel
theorem dX6_in_5 : decode cX6_in 5 = .ok (.iload_n 0, 1) := by decide +kernel
theorem dX6_in_6 : decode cX6_in 6 = .ok (.iload_n 2, 1) := by decide +kernel
theorem dX6_in_7 : decode cX6_in 7 = .ok (.if_icmp .gt 7, 3) := by decide +kernel
theorem dX6_in_10 : decode cX6_in 10 = .ok (.iconst 1, 1) := by decide +kernel
theorem dX6_in_11 : decode cX6_in 11 = .ok (.goto 4, 3) := by decide +kernel
theorem dX6_in_14 : decode cX6_in 14 = .ok (.iconst 0, 1) := by decide +kernel
theorem dX6_in_15 : decode cX6_in 15 = .ok (.ireturn, 1) := by decide +kernel
theorem dX6_begins_0 : decode cX6_begins 0 = .ok (.iconst 0, 1) := by decide +kernel
theorem dX6_begins_1 : decode cX6_begins 1 = .ok (.istore_n 1, 1) := by decide +kernel
theorem dX6_begins_2 : decode cX6_begins 2 = .ok (.iload_n 1, 1) := by decide +kernel
theorem dX6_begins_3 : decode cX6_begins 3 = .ok (.sipush 218, 3) := by decide +kernel
theorem dX6_begins_6 : decode cX6_begins 6 = .ok (.if_icmp .ge 21, 3) := by decide +kernel
theorem dX6_begins_9 : decode cX6_begins 9 = .ok (.aload_n 0, 1) := by decide +kernel
theorem dX6_begins_10 : decode cX6_begins 10 = .ok (.getfield 13, 3) := by decide +kernel
theorem dX6_begins_13 : decode cX6_begins 13 = .ok (.iload_n 1, 1) := by decide +kernel
theorem dX6_begins_14 : decode cX6_begins 14 = .ok (.aload_n 0, 1) := by decide +kernel
theorem dX6_begins_15 : decode cX6_begins 15 = .ok (.getfield 7, 3) := by decide +kernel
theorem dX6_begins_18 : decode cX6_begins 18 = .ok (.iload_n 1, 1) := by decide +kernel
theorem dX6_begins_19 : decode cX6_begins 19 = .ok (.iaload, 1) := by decide +kernel
theorem dX6_begins_20 : decode cX6_begins 20 = .ok (.iastore, 1) := by decide +kernel
theorem dX6_begins_21 : decode cX6_begins 21 = .ok (.iinc 1 1, 3) := by decide +kernel
theorem dX6_begins_24 : decode cX6_begins 24 = .ok (.goto (-22), 3) := by decide +kernel
theorem dX6_begins_27 : decode cX6_begins 27 = .ok (.return_, 1) := by decide +kernel
theorem dX6_acted_0 : decode cX6_acted 0 = .ok (.iload_n 1, 1) := by decide +kernel
theorem dX6_acted_1 : decode cX6_acted 1 = .ok (.ifCond .ge 32, 3) := by decide +kernel
theorem dX6_acted_4 : decode cX6_acted 4 = .ok (.iconst 0, 1) := by decide +kernel
theorem dX6_acted_5 : decode cX6_acted 5 = .ok (.istore_n 2, 1) := by decide +kernel
theorem dX6_acted_6 : decode cX6_acted 6 = .ok (.iload_n 2, 1) := by decide +kernel
theorem dX6_acted_7 : decode cX6_acted 7 = .ok (.sipush 218, 3) := by decide +kernel
theorem dX6_acted_10 : decode cX6_acted 10 = .ok (.if_icmp .ge 21, 3) := by decide +kernel
theorem dX6_acted_13 : decode cX6_acted 13 = .ok (.aload_n 0, 1) := by decide +kernel
theorem dX6_acted_14 : decode cX6_acted 14 = .ok (.getfield 7, 3) := by decide +kernel
theorem dX6_acted_17 : decode cX6_acted 17 = .ok (.iload_n 2, 1) := by decide +kernel
theorem dX6_acted_18 : decode cX6_acted 18 = .ok (.aload_n 0, 1) := by decide +kernel
theorem dX6_acted_19 : decode cX6_acted 19 = .ok (.getfield 13, 3) := by decide +kernel
theorem dX6_acted_22 : decode cX6_acted 22 = .ok (.iload_n 2, 1) := by decide +kernel
theorem dX6_acted_23 : decode cX6_acted 23 = .ok (.iaload, 1) := by decide +kernel
theorem dX6_acted_24 : decode cX6_acted 24 = .ok (.iastore, 1) := by decide +kernel
theorem dX6_acted_25 : decode cX6_acted 25 = .ok (.iinc 2 1, 3) := by decide +kernel
theorem dX6_acted_28 : decode cX6_acted 28 = .ok (.goto (-22), 3) := by decide +kernel
theorem dX6_acted_31 : decode cX6_acted 31 = .ok (.iload_n 1, 1) := by decide +kernel
theorem dX6_acted_32 : decode cX6_acted 32 = .ok (.ireturn, 1) := by decide +kernel
theorem dX6_acted_33 : decode cX6_acted 33 = .ok (.aload_n 0, 1) := by decide +kernel
theorem dX6_acted_34 : decode cX6_acted 34 = .ok (.getfield 31, 3) := by decide +kernel
theorem dX6_acted_37 : decode cX6_acted 37 = .ok (.iconst 4, 1) := by decide +kernel
theorem dX6_acted_38 : decode cX6_acted 38 = .ok (.if_icmp .ne 44, 3) := by decide +kernel
theorem dX6_acted_41 : decode cX6_acted 41 = .ok (.iconst 0, 1) := by decide +kernel
theorem dX6_acted_42 : decode cX6_acted 42 = .ok (.istore_n 2, 1) := by decide +kernel
theorem dX6_acted_43 : decode cX6_acted 43 = .ok (.iload_n 2, 1) := by decide +kernel
theorem dX6_acted_44 : decode cX6_acted 44 = .ok (.sipush 654, 3) := by decide +kernel
theorem dX6_acted_47 : decode cX6_acted 47 = .ok (.if_icmp .ge 25, 3) := by decide +kernel
theorem dX6_acted_50 : decode cX6_acted 50 = .ok (.aload_n 0, 1) := by decide +kernel
theorem dX6_acted_51 : decode cX6_acted 51 = .ok (.getfield 16, 3) := by decide +kernel
theorem dX6_acted_54 : decode cX6_acted 54 = .ok (.iload_n 2, 1) := by decide +kernel
theorem dX6_acted_55 : decode cX6_acted 55 = .ok (.aload_n 0, 1) := by decide +kernel
theorem dX6_acted_56 : decode cX6_acted 56 = .ok (.getfield 16, 3) := by decide +kernel
theorem dX6_acted_59 : decode cX6_acted 59 = .ok (.iload_n 2, 1) := by decide +kernel
theorem dX6_acted_60 : decode cX6_acted 60 = .ok (.sipush 218, 3) := by decide +kernel
theorem dX6_acted_63 : decode cX6_acted 63 = .ok (.iadd, 1) := by decide +kernel
theorem dX6_acted_64 : decode cX6_acted 64 = .ok (.iaload, 1) := by decide +kernel
theorem dX6_acted_65 : decode cX6_acted 65 = .ok (.iastore, 1) := by decide +kernel
theorem dX6_acted_66 : decode cX6_acted 66 = .ok (.iinc 2 1, 3) := by decide +kernel
theorem dX6_acted_69 : decode cX6_acted 69 = .ok (.goto (-26), 3) := by decide +kernel
theorem dX6_acted_72 : decode cX6_acted 72 = .ok (.aload_n 0, 1) := by decide +kernel
theorem dX6_acted_73 : decode cX6_acted 73 = .ok (.dup, 1) := by decide +kernel
theorem dX6_acted_74 : decode cX6_acted 74 = .ok (.getfield 31, 3) := by decide +kernel
theorem dX6_acted_77 : decode cX6_acted 77 = .ok (.iconst 1, 1) := by decide +kernel
theorem dX6_acted_78 : decode cX6_acted 78 = .ok (.isub, 1) := by decide +kernel
theorem dX6_acted_79 : decode cX6_acted 79 = .ok (.putfield 31, 3) := by decide +kernel
theorem dX6_acted_82 : decode cX6_acted 82 = .ok (.iconst 0, 1) := by decide +kernel
theorem dX6_acted_83 : decode cX6_acted 83 = .ok (.istore_n 2, 1) := by decide +kernel
theorem dX6_acted_84 : decode cX6_acted 84 = .ok (.iload_n 2, 1) := by decide +kernel
theorem dX6_acted_85 : decode cX6_acted 85 = .ok (.sipush 218, 3) := by decide +kernel
theorem dX6_acted_88 : decode cX6_acted 88 = .ok (.if_icmp .ge 30, 3) := by decide +kernel
theorem dX6_acted_91 : decode cX6_acted 91 = .ok (.aload_n 0, 1) := by decide +kernel
theorem dX6_acted_92 : decode cX6_acted 92 = .ok (.getfield 16, 3) := by decide +kernel
theorem dX6_acted_95 : decode cX6_acted 95 = .ok (.sipush 218, 3) := by decide +kernel
theorem dX6_acted_98 : decode cX6_acted 98 = .ok (.aload_n 0, 1) := by decide +kernel
theorem dX6_acted_99 : decode cX6_acted 99 = .ok (.getfield 31, 3) := by decide +kernel
theorem dX6_acted_102 : decode cX6_acted 102 = .ok (.imul, 1) := by decide +kernel
theorem dX6_acted_103 : decode cX6_acted 103 = .ok (.iload_n 2, 1) := by decide +kernel
theorem dX6_acted_104 : decode cX6_acted 104 = .ok (.iadd, 1) := by decide +kernel
theorem dX6_acted_105 : decode cX6_acted 105 = .ok (.aload_n 0, 1) := by decide +kernel
theorem dX6_acted_106 : decode cX6_acted 106 = .ok (.getfield 13, 3) := by decide +kernel
theorem dX6_acted_109 : decode cX6_acted 109 = .ok (.iload_n 2, 1) := by decide +kernel
theorem dX6_acted_110 : decode cX6_acted 110 = .ok (.iaload, 1) := by decide +kernel
theorem dX6_acted_111 : decode cX6_acted 111 = .ok (.iastore, 1) := by decide +kernel
theorem dX6_acted_112 : decode cX6_acted 112 = .ok (.iinc 2 1, 3) := by decide +kernel
theorem dX6_acted_115 : decode cX6_acted 115 = .ok (.goto (-31), 3) := by decide +kernel
theorem dX6_acted_118 : decode cX6_acted 118 = .ok (.aload_n 0, 1) := by decide +kernel
theorem dX6_acted_119 : decode cX6_acted 119 = .ok (.dup, 1) := by decide +kernel
theorem dX6_acted_120 : decode cX6_acted 120 = .ok (.getfield 31, 3) := by decide +kernel
theorem dX6_acted_123 : decode cX6_acted 123 = .ok (.iconst 1, 1) := by decide +kernel
theorem dX6_acted_124 : decode cX6_acted 124 = .ok (.iadd, 1) := by decide +kernel
theorem dX6_acted_125 : decode cX6_acted 125 = .ok (.putfield 31, 3) := by decide +kernel
theorem dX6_acted_128 : decode cX6_acted 128 = .ok (.iload_n 1, 1) := by decide +kernel
theorem dX6_acted_129 : decode cX6_acted 129 = .ok (.ireturn, 1) := by decide +kernel
theorem dX6_sign_0 : decode cX6_sign 0 = .ok (.aload_n 0, 1) := by decide +kernel
theorem dX6_sign_1 : decode cX6_sign 1 = .ok (.getfield 7, 3) := by decide +kernel
theorem dX6_sign_4 : decode cX6_sign 4 = .ok (.bipush 18, 2) := by decide +kernel
theorem dX6_sign_6 : decode cX6_sign 6 = .ok (.iconst 3, 1) := by decide +kernel
theorem dX6_sign_7 : decode cX6_sign 7 = .ok (.iload_n 1, 1) := by decide +kernel
theorem dX6_sign_8 : decode cX6_sign 8 = .ok (.imul, 1) := by decide +kernel
theorem dX6_sign_9 : decode cX6_sign 9 = .ok (.iadd, 1) := by decide +kernel
theorem dX6_sign_10 : decode cX6_sign 10 = .ok (.iaload, 1) := by decide +kernel
theorem dX6_sign_11 : decode cX6_sign 11 = .ok (.ireturn, 1) := by decide +kernel
theorem dX6_deep_0 : decode cX6_deep 0 = .ok (.aload_n 0, 1) := by decide +kernel
theorem dX6_deep_1 : decode cX6_deep 1 = .ok (.getfield 7, 3) := by decide +kernel
theorem dX6_deep_4 : decode cX6_deep 4 = .ok (.bipush 18, 2) := by decide +kernel
theorem dX6_deep_6 : decode cX6_deep 6 = .ok (.iconst 3, 1) := by decide +kernel
theorem dX6_deep_7 : decode cX6_deep 7 = .ok (.iload_n 1, 1) := by decide +kernel
theorem dX6_deep_8 : decode cX6_deep 8 = .ok (.imul, 1) := by decide +kernel
theorem dX6_deep_9 : decode cX6_deep 9 = .ok (.iadd, 1) := by decide +kernel
theorem dX6_deep_10 : decode cX6_deep 10 = .ok (.iconst 1, 1) := by decide +kernel
theorem dX6_deep_11 : decode cX6_deep 11 = .ok (.iadd, 1) := by decide +kernel
theorem dX6_deep_12 : decode cX6_deep 12 = .ok (.iaload, 1) := by decide +kernel
theorem dX6_deep_13 : decode cX6_deep 13 = .ok (.ireturn, 1) := by decide +kernel
theorem dX6_own_0 : decode cX6_own 0 = .ok (.aload_n 0, 1) := by decide +kernel
theorem dX6_own_1 : decode cX6_own 1 = .ok (.getfield 7, 3) := by decide +kernel
theorem dX6_own_4 : decode cX6_own 4 = .ok (.bipush 18, 2) := by decide +kernel
theorem dX6_own_6 : decode cX6_own 6 = .ok (.iconst 3, 1) := by decide +kernel
theorem dX6_own_7 : decode cX6_own 7 = .ok (.iload_n 1, 1) := by decide +kernel
theorem dX6_own_8 : decode cX6_own 8 = .ok (.imul, 1) := by decide +kernel
theorem dX6_own_9 : decode cX6_own 9 = .ok (.iadd, 1) := by decide +kernel
theorem dX6_own_10 : decode cX6_own 10 = .ok (.iconst 2, 1) := by decide +kernel
theorem dX6_own_11 : decode cX6_own 11 = .ok (.iadd, 1) := by decide +kernel
theorem dX6_own_12 : decode cX6_own 12 = .ok (.iaload, 1) := by decide +kernel
theorem dX6_own_13 : decode cX6_own 13 = .ok (.ireturn, 1) := by decide +kernel
theorem dX6_isNode_0 : decode cX6_isNode 0 = .ok (.iload_n 1, 1) := by decide +kernel
theorem dX6_isNode_1 : decode cX6_isNode 1 = .ok (.iconst 0, 1) := by decide +kernel
theorem dX6_isNode_2 : decode cX6_isNode 2 = .ok (.aload_n 0, 1) := by decide +kernel
theorem dX6_isNode_3 : decode cX6_isNode 3 = .ok (.getfield 7, 3) := by decide +kernel
theorem dX6_isNode_6 : decode cX6_isNode 6 = .ok (.iconst 0, 1) := by decide +kernel
theorem dX6_isNode_7 : decode cX6_isNode 7 = .ok (.iaload, 1) := by decide +kernel
theorem dX6_isNode_8 : decode cX6_isNode 8 = .ok (.iconst 1, 1) := by decide +kernel
theorem dX6_isNode_9 : decode cX6_isNode 9 = .ok (.isub, 1) := by decide +kernel
theorem dX6_isNode_10 : decode cX6_isNode 10 = .ok (.invokestatic 35, 3) := by decide +kernel
theorem dX6_isNode_13 : decode cX6_isNode 13 = .ok (.ireturn, 1) := by decide +kernel
theorem dX6_numberOf_0 : decode cX6_numberOf 0 = .ok (.iconst (-1), 1) := by decide +kernel
theorem dX6_numberOf_1 : decode cX6_numberOf 1 = .ok (.istore_n 2, 1) := by decide +kernel
theorem dX6_numberOf_2 : decode cX6_numberOf 2 = .ok (.iconst 0, 1) := by decide +kernel
theorem dX6_numberOf_3 : decode cX6_numberOf 3 = .ok (.istore_n 3, 1) := by decide +kernel
theorem dX6_numberOf_4 : decode cX6_numberOf 4 = .ok (.iload_n 3, 1) := by decide +kernel
theorem dX6_numberOf_5 : decode cX6_numberOf 5 = .ok (.aload_n 0, 1) := by decide +kernel
theorem dX6_numberOf_6 : decode cX6_numberOf 6 = .ok (.getfield 7, 3) := by decide +kernel
theorem dX6_numberOf_9 : decode cX6_numberOf 9 = .ok (.iconst 0, 1) := by decide +kernel
theorem dX6_numberOf_10 : decode cX6_numberOf 10 = .ok (.iaload, 1) := by decide +kernel
theorem dX6_numberOf_11 : decode cX6_numberOf 11 = .ok (.if_icmp .ge 24, 3) := by decide +kernel
theorem dX6_numberOf_14 : decode cX6_numberOf 14 = .ok (.aload_n 0, 1) := by decide +kernel
theorem dX6_numberOf_15 : decode cX6_numberOf 15 = .ok (.iload_n 3, 1) := by decide +kernel
theorem dX6_numberOf_16 : decode cX6_numberOf 16 = .ok (.invokevirtual 39, 3) := by decide +kernel
theorem dX6_numberOf_19 : decode cX6_numberOf 19 = .ok (.iload_n 1, 1) := by decide +kernel
theorem dX6_numberOf_20 : decode cX6_numberOf 20 = .ok (.if_icmp .ne 7, 3) := by decide +kernel
theorem dX6_numberOf_23 : decode cX6_numberOf 23 = .ok (.iload_n 3, 1) := by decide +kernel
theorem dX6_numberOf_24 : decode cX6_numberOf 24 = .ok (.goto 4, 3) := by decide +kernel
theorem dX6_numberOf_27 : decode cX6_numberOf 27 = .ok (.iload_n 2, 1) := by decide +kernel
theorem dX6_numberOf_28 : decode cX6_numberOf 28 = .ok (.istore_n 2, 1) := by decide +kernel
theorem dX6_numberOf_29 : decode cX6_numberOf 29 = .ok (.iinc 3 1, 3) := by decide +kernel
theorem dX6_numberOf_32 : decode cX6_numberOf 32 = .ok (.goto (-28), 3) := by decide +kernel
theorem dX6_numberOf_35 : decode cX6_numberOf 35 = .ok (.iload_n 2, 1) := by decide +kernel
theorem dX6_numberOf_36 : decode cX6_numberOf 36 = .ok (.ireturn, 1) := by decide +kernel
theorem dX6_place_0 : decode cX6_place 0 = .ok (.aload_n 0, 1) := by decide +kernel
theorem dX6_place_1 : decode cX6_place 1 = .ok (.aload_n 0, 1) := by decide +kernel
theorem dX6_place_2 : decode cX6_place 2 = .ok (.getfield 7, 3) := by decide +kernel
theorem dX6_place_5 : decode cX6_place 5 = .ok (.iconst 2, 1) := by decide +kernel
theorem dX6_place_6 : decode cX6_place 6 = .ok (.iaload, 1) := by decide +kernel
theorem dX6_place_7 : decode cX6_place 7 = .ok (.invokevirtual 43, 3) := by decide +kernel
theorem dX6_place_10 : decode cX6_place 10 = .ok (.ireturn, 1) := by decide +kernel
theorem dX6_end_0 : decode cX6_end 0 = .ok (.iload_n 1, 1) := by decide +kernel
theorem dX6_end_1 : decode cX6_end 1 = .ok (.iconst 1, 1) := by decide +kernel
theorem dX6_end_2 : decode cX6_end 2 = .ok (.iadd, 1) := by decide +kernel
theorem dX6_end_3 : decode cX6_end 3 = .ok (.istore_n 2, 1) := by decide +kernel
theorem dX6_end_4 : decode cX6_end 4 = .ok (.iload_n 2, 1) := by decide +kernel
theorem dX6_end_5 : decode cX6_end 5 = .ok (.aload_n 0, 1) := by decide +kernel
theorem dX6_end_6 : decode cX6_end 6 = .ok (.getfield 7, 3) := by decide +kernel
theorem dX6_end_9 : decode cX6_end 9 = .ok (.iconst 0, 1) := by decide +kernel
theorem dX6_end_10 : decode cX6_end 10 = .ok (.iaload, 1) := by decide +kernel
theorem dX6_end_11 : decode cX6_end 11 = .ok (.if_icmp .ge 22, 3) := by decide +kernel
theorem dX6_end_14 : decode cX6_end 14 = .ok (.aload_n 0, 1) := by decide +kernel
theorem dX6_end_15 : decode cX6_end 15 = .ok (.iload_n 2, 1) := by decide +kernel
theorem dX6_end_16 : decode cX6_end 16 = .ok (.invokevirtual 46, 3) := by decide +kernel
theorem dX6_end_19 : decode cX6_end 19 = .ok (.aload_n 0, 1) := by decide +kernel
theorem dX6_end_20 : decode cX6_end 20 = .ok (.iload_n 1, 1) := by decide +kernel
theorem dX6_end_21 : decode cX6_end 21 = .ok (.invokevirtual 46, 3) := by decide +kernel
theorem dX6_end_24 : decode cX6_end 24 = .ok (.if_icmp .le 9, 3) := by decide +kernel
theorem dX6_end_27 : decode cX6_end 27 = .ok (.iinc 2 1, 3) := by decide +kernel
theorem dX6_end_30 : decode cX6_end 30 = .ok (.goto (-26), 3) := by decide +kernel
theorem dX6_end_33 : decode cX6_end 33 = .ok (.iload_n 2, 1) := by decide +kernel
theorem dX6_end_34 : decode cX6_end 34 = .ok (.ireturn, 1) := by decide +kernel
theorem dX6_above_0 : decode cX6_above 0 = .ok (.iload_n 1, 1) := by decide +kernel
theorem dX6_above_1 : decode cX6_above 1 = .ok (.iconst 1, 1) := by decide +kernel
theorem dX6_above_2 : decode cX6_above 2 = .ok (.isub, 1) := by decide +kernel
theorem dX6_above_3 : decode cX6_above 3 = .ok (.istore_n 2, 1) := by decide +kernel
theorem dX6_above_4 : decode cX6_above 4 = .ok (.iload_n 2, 1) := by decide +kernel
theorem dX6_above_5 : decode cX6_above 5 = .ok (.ifCond .lt 22, 3) := by decide +kernel
theorem dX6_above_8 : decode cX6_above 8 = .ok (.aload_n 0, 1) := by decide +kernel
theorem dX6_above_9 : decode cX6_above 9 = .ok (.iload_n 2, 1) := by decide +kernel
theorem dX6_above_10 : decode cX6_above 10 = .ok (.invokevirtual 46, 3) := by decide +kernel
theorem dX6_above_13 : decode cX6_above 13 = .ok (.aload_n 0, 1) := by decide +kernel
theorem dX6_above_14 : decode cX6_above 14 = .ok (.iload_n 1, 1) := by decide +kernel
theorem dX6_above_15 : decode cX6_above 15 = .ok (.invokevirtual 46, 3) := by decide +kernel
theorem dX6_above_18 : decode cX6_above 18 = .ok (.if_icmp .lt 9, 3) := by decide +kernel
theorem dX6_above_21 : decode cX6_above 21 = .ok (.iinc 2 (-1), 3) := by decide +kernel
theorem dX6_above_24 : decode cX6_above 24 = .ok (.goto (-20), 3) := by decide +kernel
theorem dX6_above_27 : decode cX6_above 27 = .ok (.iload_n 2, 1) := by decide +kernel
theorem dX6_above_28 : decode cX6_above 28 = .ok (.ireturn, 1) := by decide +kernel
theorem dX6_children_0 : decode cX6_children 0 = .ok (.iconst 0, 1) := by decide +kernel
theorem dX6_children_1 : decode cX6_children 1 = .ok (.istore_n 2, 1) := by decide +kernel
theorem dX6_children_2 : decode cX6_children 2 = .ok (.iload_n 1, 1) := by decide +kernel
theorem dX6_children_3 : decode cX6_children 3 = .ok (.iconst 1, 1) := by decide +kernel
theorem dX6_children_4 : decode cX6_children 4 = .ok (.iadd, 1) := by decide +kernel
theorem dX6_children_5 : decode cX6_children 5 = .ok (.istore_n 3, 1) := by decide +kernel
theorem dX6_children_6 : decode cX6_children 6 = .ok (.iload_n 3, 1) := by decide +kernel
theorem dX6_children_7 : decode cX6_children 7 = .ok (.aload_n 0, 1) := by decide +kernel
theorem dX6_children_8 : decode cX6_children 8 = .ok (.iload_n 1, 1) := by decide +kernel
theorem dX6_children_9 : decode cX6_children 9 = .ok (.invokevirtual 49, 3) := by decide +kernel
theorem dX6_children_12 : decode cX6_children 12 = .ok (.if_icmp .ge 32, 3) := by decide +kernel
theorem dX6_children_15 : decode cX6_children 15 = .ok (.iload_n 2, 1) := by decide +kernel
theorem dX6_children_16 : decode cX6_children 16 = .ok (.aload_n 0, 1) := by decide +kernel
theorem dX6_children_17 : decode cX6_children 17 = .ok (.iload_n 3, 1) := by decide +kernel
theorem dX6_children_18 : decode cX6_children 18 = .ok (.invokevirtual 46, 3) := by decide +kernel
theorem dX6_children_21 : decode cX6_children 21 = .ok (.aload_n 0, 1) := by decide +kernel
theorem dX6_children_22 : decode cX6_children 22 = .ok (.iload_n 1, 1) := by decide +kernel
theorem dX6_children_23 : decode cX6_children 23 = .ok (.invokevirtual 46, 3) := by decide +kernel
theorem dX6_children_26 : decode cX6_children 26 = .ok (.iconst 1, 1) := by decide +kernel
theorem dX6_children_27 : decode cX6_children 27 = .ok (.iadd, 1) := by decide +kernel
theorem dX6_children_28 : decode cX6_children 28 = .ok (.if_icmp .ne 7, 3) := by decide +kernel
theorem dX6_children_31 : decode cX6_children 31 = .ok (.iconst 1, 1) := by decide +kernel
theorem dX6_children_32 : decode cX6_children 32 = .ok (.goto 4, 3) := by decide +kernel
theorem dX6_children_35 : decode cX6_children 35 = .ok (.iconst 0, 1) := by decide +kernel
theorem dX6_children_36 : decode cX6_children 36 = .ok (.iadd, 1) := by decide +kernel
theorem dX6_children_37 : decode cX6_children 37 = .ok (.istore_n 2, 1) := by decide +kernel
theorem dX6_children_38 : decode cX6_children 38 = .ok (.iinc 3 1, 3) := by decide +kernel
theorem dX6_children_41 : decode cX6_children 41 = .ok (.goto (-35), 3) := by decide +kernel
theorem dX6_children_44 : decode cX6_children 44 = .ok (.iload_n 2, 1) := by decide +kernel
theorem dX6_children_45 : decode cX6_children 45 = .ok (.ireturn, 1) := by decide +kernel
theorem dX6_childOf_0 : decode cX6_childOf 0 = .ok (.iload_n 1, 1) := by decide +kernel
theorem dX6_childOf_1 : decode cX6_childOf 1 = .ok (.iconst 1, 1) := by decide +kernel
theorem dX6_childOf_2 : decode cX6_childOf 2 = .ok (.iadd, 1) := by decide +kernel
theorem dX6_childOf_3 : decode cX6_childOf 3 = .ok (.istore_n 3, 1) := by decide +kernel
theorem dX6_childOf_4 : decode cX6_childOf 4 = .ok (.iconst 0, 1) := by decide +kernel
theorem dX6_childOf_5 : decode cX6_childOf 5 = .ok (.istore 4, 2) := by decide +kernel
theorem dX6_childOf_7 : decode cX6_childOf 7 = .ok (.iload 4, 2) := by decide +kernel
theorem dX6_childOf_9 : decode cX6_childOf 9 = .ok (.iload_n 2, 1) := by decide +kernel
theorem dX6_childOf_10 : decode cX6_childOf 10 = .ok (.if_icmp .ge 15, 3) := by decide +kernel
theorem dX6_childOf_13 : decode cX6_childOf 13 = .ok (.aload_n 0, 1) := by decide +kernel
theorem dX6_childOf_14 : decode cX6_childOf 14 = .ok (.iload_n 3, 1) := by decide +kernel
theorem dX6_childOf_15 : decode cX6_childOf 15 = .ok (.invokevirtual 49, 3) := by decide +kernel
theorem dX6_childOf_18 : decode cX6_childOf 18 = .ok (.istore_n 3, 1) := by decide +kernel
theorem dX6_childOf_19 : decode cX6_childOf 19 = .ok (.iinc 4 1, 3) := by decide +kernel
theorem dX6_childOf_22 : decode cX6_childOf 22 = .ok (.goto (-15), 3) := by decide +kernel
theorem dX6_childOf_25 : decode cX6_childOf 25 = .ok (.iload_n 3, 1) := by decide +kernel
theorem dX6_childOf_26 : decode cX6_childOf 26 = .ok (.ireturn, 1) := by decide +kernel
theorem dX6_which_0 : decode cX6_which 0 = .ok (.iconst 0, 1) := by decide +kernel
theorem dX6_which_1 : decode cX6_which 1 = .ok (.istore_n 2, 1) := by decide +kernel
theorem dX6_which_2 : decode cX6_which 2 = .ok (.aload_n 0, 1) := by decide +kernel
theorem dX6_which_3 : decode cX6_which 3 = .ok (.iload_n 1, 1) := by decide +kernel
theorem dX6_which_4 : decode cX6_which 4 = .ok (.invokevirtual 52, 3) := by decide +kernel
theorem dX6_which_7 : decode cX6_which 7 = .ok (.iconst 1, 1) := by decide +kernel
theorem dX6_which_8 : decode cX6_which 8 = .ok (.iadd, 1) := by decide +kernel
theorem dX6_which_9 : decode cX6_which 9 = .ok (.istore_n 3, 1) := by decide +kernel
theorem dX6_which_10 : decode cX6_which 10 = .ok (.iload_n 3, 1) := by decide +kernel
theorem dX6_which_11 : decode cX6_which 11 = .ok (.iload_n 1, 1) := by decide +kernel
theorem dX6_which_12 : decode cX6_which 12 = .ok (.if_icmp .ge 30, 3) := by decide +kernel
theorem dX6_which_15 : decode cX6_which 15 = .ok (.iload_n 2, 1) := by decide +kernel
theorem dX6_which_16 : decode cX6_which 16 = .ok (.aload_n 0, 1) := by decide +kernel
theorem dX6_which_17 : decode cX6_which 17 = .ok (.iload_n 3, 1) := by decide +kernel
theorem dX6_which_18 : decode cX6_which 18 = .ok (.invokevirtual 46, 3) := by decide +kernel
theorem dX6_which_21 : decode cX6_which 21 = .ok (.aload_n 0, 1) := by decide +kernel
theorem dX6_which_22 : decode cX6_which 22 = .ok (.iload_n 1, 1) := by decide +kernel
theorem dX6_which_23 : decode cX6_which 23 = .ok (.invokevirtual 46, 3) := by decide +kernel
theorem dX6_which_26 : decode cX6_which 26 = .ok (.if_icmp .ne 7, 3) := by decide +kernel
theorem dX6_which_29 : decode cX6_which 29 = .ok (.iconst 1, 1) := by decide +kernel
theorem dX6_which_30 : decode cX6_which 30 = .ok (.goto 4, 3) := by decide +kernel
theorem dX6_which_33 : decode cX6_which 33 = .ok (.iconst 0, 1) := by decide +kernel
theorem dX6_which_34 : decode cX6_which 34 = .ok (.iadd, 1) := by decide +kernel
theorem dX6_which_35 : decode cX6_which 35 = .ok (.istore_n 2, 1) := by decide +kernel
theorem dX6_which_36 : decode cX6_which 36 = .ok (.iinc 3 1, 3) := by decide +kernel
theorem dX6_which_39 : decode cX6_which 39 = .ok (.goto (-29), 3) := by decide +kernel
theorem dX6_which_42 : decode cX6_which 42 = .ok (.iload_n 2, 1) := by decide +kernel
theorem dX6_which_43 : decode cX6_which 43 = .ok (.ireturn, 1) := by decide +kernel
theorem dX6_besides_0 : decode cX6_besides 0 = .ok (.iload_n 2, 1) := by decide +kernel
theorem dX6_besides_1 : decode cX6_besides 1 = .ok (.ifCond .eq 38, 3) := by decide +kernel
theorem dX6_besides_4 : decode cX6_besides 4 = .ok (.aload_n 0, 1) := by decide +kernel
theorem dX6_besides_5 : decode cX6_besides 5 = .ok (.iload_n 1, 1) := by decide +kernel
theorem dX6_besides_6 : decode cX6_besides 6 = .ok (.invokevirtual 49, 3) := by decide +kernel
theorem dX6_besides_9 : decode cX6_besides 9 = .ok (.istore_n 3, 1) := by decide +kernel
theorem dX6_besides_10 : decode cX6_besides 10 = .ok (.iload_n 3, 1) := by decide +kernel
theorem dX6_besides_11 : decode cX6_besides 11 = .ok (.aload_n 0, 1) := by decide +kernel
theorem dX6_besides_12 : decode cX6_besides 12 = .ok (.getfield 7, 3) := by decide +kernel
theorem dX6_besides_15 : decode cX6_besides 15 = .ok (.iconst 0, 1) := by decide +kernel
theorem dX6_besides_16 : decode cX6_besides 16 = .ok (.iaload, 1) := by decide +kernel
theorem dX6_besides_17 : decode cX6_besides 17 = .ok (.if_icmp .ge 20, 3) := by decide +kernel
theorem dX6_besides_20 : decode cX6_besides 20 = .ok (.aload_n 0, 1) := by decide +kernel
theorem dX6_besides_21 : decode cX6_besides 21 = .ok (.iload_n 3, 1) := by decide +kernel
theorem dX6_besides_22 : decode cX6_besides 22 = .ok (.invokevirtual 46, 3) := by decide +kernel
theorem dX6_besides_25 : decode cX6_besides 25 = .ok (.aload_n 0, 1) := by decide +kernel
theorem dX6_besides_26 : decode cX6_besides 26 = .ok (.iload_n 1, 1) := by decide +kernel
theorem dX6_besides_27 : decode cX6_besides 27 = .ok (.invokevirtual 46, 3) := by decide +kernel
theorem dX6_besides_30 : decode cX6_besides 30 = .ok (.if_icmp .ne 7, 3) := by decide +kernel
theorem dX6_besides_33 : decode cX6_besides 33 = .ok (.iload_n 3, 1) := by decide +kernel
theorem dX6_besides_34 : decode cX6_besides 34 = .ok (.goto 4, 3) := by decide +kernel
theorem dX6_besides_37 : decode cX6_besides 37 = .ok (.iconst (-1), 1) := by decide +kernel
theorem dX6_besides_38 : decode cX6_besides 38 = .ok (.ireturn, 1) := by decide +kernel
theorem dX6_besides_39 : decode cX6_besides 39 = .ok (.iconst (-1), 1) := by decide +kernel
theorem dX6_besides_40 : decode cX6_besides 40 = .ok (.istore_n 3, 1) := by decide +kernel
theorem dX6_besides_41 : decode cX6_besides 41 = .ok (.aload_n 0, 1) := by decide +kernel
theorem dX6_besides_42 : decode cX6_besides 42 = .ok (.iload_n 1, 1) := by decide +kernel
theorem dX6_besides_43 : decode cX6_besides 43 = .ok (.invokevirtual 52, 3) := by decide +kernel
theorem dX6_besides_46 : decode cX6_besides 46 = .ok (.iconst 1, 1) := by decide +kernel
theorem dX6_besides_47 : decode cX6_besides 47 = .ok (.iadd, 1) := by decide +kernel
theorem dX6_besides_48 : decode cX6_besides 48 = .ok (.istore 4, 2) := by decide +kernel
theorem dX6_besides_50 : decode cX6_besides 50 = .ok (.iload 4, 2) := by decide +kernel
theorem dX6_besides_52 : decode cX6_besides 52 = .ok (.iload_n 1, 1) := by decide +kernel
theorem dX6_besides_53 : decode cX6_besides 53 = .ok (.if_icmp .ge 30, 3) := by decide +kernel
theorem dX6_besides_56 : decode cX6_besides 56 = .ok (.aload_n 0, 1) := by decide +kernel
theorem dX6_besides_57 : decode cX6_besides 57 = .ok (.iload 4, 2) := by decide +kernel
theorem dX6_besides_59 : decode cX6_besides 59 = .ok (.invokevirtual 46, 3) := by decide +kernel
theorem dX6_besides_62 : decode cX6_besides 62 = .ok (.aload_n 0, 1) := by decide +kernel
theorem dX6_besides_63 : decode cX6_besides 63 = .ok (.iload_n 1, 1) := by decide +kernel
theorem dX6_besides_64 : decode cX6_besides 64 = .ok (.invokevirtual 46, 3) := by decide +kernel
theorem dX6_besides_67 : decode cX6_besides 67 = .ok (.if_icmp .ne 8, 3) := by decide +kernel
theorem dX6_besides_70 : decode cX6_besides 70 = .ok (.iload 4, 2) := by decide +kernel
theorem dX6_besides_72 : decode cX6_besides 72 = .ok (.goto 4, 3) := by decide +kernel
theorem dX6_besides_75 : decode cX6_besides 75 = .ok (.iload_n 3, 1) := by decide +kernel
theorem dX6_besides_76 : decode cX6_besides 76 = .ok (.istore_n 3, 1) := by decide +kernel
theorem dX6_besides_77 : decode cX6_besides 77 = .ok (.iinc 4 1, 3) := by decide +kernel
theorem dX6_besides_80 : decode cX6_besides 80 = .ok (.goto (-30), 3) := by decide +kernel
theorem dX6_besides_83 : decode cX6_besides 83 = .ok (.iload_n 3, 1) := by decide +kernel
theorem dX6_besides_84 : decode cX6_besides 84 = .ok (.ireturn, 1) := by decide +kernel
theorem dX6_height_0 : decode cX6_height 0 = .ok (.iconst 0, 1) := by decide +kernel
theorem dX6_height_1 : decode cX6_height 1 = .ok (.istore_n 2, 1) := by decide +kernel
theorem dX6_height_2 : decode cX6_height 2 = .ok (.iload_n 1, 1) := by decide +kernel
theorem dX6_height_3 : decode cX6_height 3 = .ok (.istore_n 3, 1) := by decide +kernel
theorem dX6_height_4 : decode cX6_height 4 = .ok (.iload_n 3, 1) := by decide +kernel
theorem dX6_height_5 : decode cX6_height 5 = .ok (.aload_n 0, 1) := by decide +kernel
theorem dX6_height_6 : decode cX6_height 6 = .ok (.iload_n 1, 1) := by decide +kernel
theorem dX6_height_7 : decode cX6_height 7 = .ok (.invokevirtual 49, 3) := by decide +kernel
theorem dX6_height_10 : decode cX6_height 10 = .ok (.if_icmp .ge 40, 3) := by decide +kernel
theorem dX6_height_13 : decode cX6_height 13 = .ok (.aload_n 0, 1) := by decide +kernel
theorem dX6_height_14 : decode cX6_height 14 = .ok (.iload_n 3, 1) := by decide +kernel
theorem dX6_height_15 : decode cX6_height 15 = .ok (.invokevirtual 46, 3) := by decide +kernel
theorem dX6_height_18 : decode cX6_height 18 = .ok (.aload_n 0, 1) := by decide +kernel
theorem dX6_height_19 : decode cX6_height 19 = .ok (.iload_n 1, 1) := by decide +kernel
theorem dX6_height_20 : decode cX6_height 20 = .ok (.invokevirtual 46, 3) := by decide +kernel
theorem dX6_height_23 : decode cX6_height 23 = .ok (.isub, 1) := by decide +kernel
theorem dX6_height_24 : decode cX6_height 24 = .ok (.iload_n 2, 1) := by decide +kernel
theorem dX6_height_25 : decode cX6_height 25 = .ok (.if_icmp .le 17, 3) := by decide +kernel
theorem dX6_height_28 : decode cX6_height 28 = .ok (.aload_n 0, 1) := by decide +kernel
theorem dX6_height_29 : decode cX6_height 29 = .ok (.iload_n 3, 1) := by decide +kernel
theorem dX6_height_30 : decode cX6_height 30 = .ok (.invokevirtual 46, 3) := by decide +kernel
theorem dX6_height_33 : decode cX6_height 33 = .ok (.aload_n 0, 1) := by decide +kernel
theorem dX6_height_34 : decode cX6_height 34 = .ok (.iload_n 1, 1) := by decide +kernel
theorem dX6_height_35 : decode cX6_height 35 = .ok (.invokevirtual 46, 3) := by decide +kernel
theorem dX6_height_38 : decode cX6_height 38 = .ok (.isub, 1) := by decide +kernel
theorem dX6_height_39 : decode cX6_height 39 = .ok (.goto 4, 3) := by decide +kernel
theorem dX6_height_42 : decode cX6_height 42 = .ok (.iload_n 2, 1) := by decide +kernel
theorem dX6_height_43 : decode cX6_height 43 = .ok (.istore_n 2, 1) := by decide +kernel
theorem dX6_height_44 : decode cX6_height 44 = .ok (.iinc 3 1, 3) := by decide +kernel
theorem dX6_height_47 : decode cX6_height 47 = .ok (.goto (-43), 3) := by decide +kernel
theorem dX6_height_50 : decode cX6_height 50 = .ok (.iload_n 2, 1) := by decide +kernel
theorem dX6_height_51 : decode cX6_height 51 = .ok (.ireturn, 1) := by decide +kernel
theorem dX6_opens_0 : decode cX6_opens 0 = .ok (.iconst 3, 1) := by decide +kernel
theorem dX6_opens_1 : decode cX6_opens 1 = .ok (.aload_n 0, 1) := by decide +kernel
theorem dX6_opens_2 : decode cX6_opens 2 = .ok (.getfield 7, 3) := by decide +kernel
theorem dX6_opens_5 : decode cX6_opens 5 = .ok (.iconst 0, 1) := by decide +kernel
theorem dX6_opens_6 : decode cX6_opens 6 = .ok (.iaload, 1) := by decide +kernel
theorem dX6_opens_7 : decode cX6_opens 7 = .ok (.imul, 1) := by decide +kernel
theorem dX6_opens_8 : decode cX6_opens 8 = .ok (.iconst 1, 1) := by decide +kernel
theorem dX6_opens_9 : decode cX6_opens 9 = .ok (.isub, 1) := by decide +kernel
theorem dX6_opens_10 : decode cX6_opens 10 = .ok (.istore_n 3, 1) := by decide +kernel
theorem dX6_opens_11 : decode cX6_opens 11 = .ok (.iload_n 3, 1) := by decide +kernel
theorem dX6_opens_12 : decode cX6_opens 12 = .ok (.iconst 3, 1) := by decide +kernel
theorem dX6_opens_13 : decode cX6_opens 13 = .ok (.iload_n 1, 1) := by decide +kernel
theorem dX6_opens_14 : decode cX6_opens 14 = .ok (.imul, 1) := by decide +kernel
theorem dX6_opens_15 : decode cX6_opens 15 = .ok (.if_icmp .lt 31, 3) := by decide +kernel
theorem dX6_opens_18 : decode cX6_opens 18 = .ok (.aload_n 0, 1) := by decide +kernel
theorem dX6_opens_19 : decode cX6_opens 19 = .ok (.getfield 7, 3) := by decide +kernel
theorem dX6_opens_22 : decode cX6_opens 22 = .ok (.bipush 18, 2) := by decide +kernel
theorem dX6_opens_24 : decode cX6_opens 24 = .ok (.iload_n 3, 1) := by decide +kernel
theorem dX6_opens_25 : decode cX6_opens 25 = .ok (.iadd, 1) := by decide +kernel
theorem dX6_opens_26 : decode cX6_opens 26 = .ok (.iconst 3, 1) := by decide +kernel
theorem dX6_opens_27 : decode cX6_opens 27 = .ok (.iload_n 2, 1) := by decide +kernel
theorem dX6_opens_28 : decode cX6_opens 28 = .ok (.imul, 1) := by decide +kernel
theorem dX6_opens_29 : decode cX6_opens 29 = .ok (.iadd, 1) := by decide +kernel
theorem dX6_opens_30 : decode cX6_opens 30 = .ok (.aload_n 0, 1) := by decide +kernel
theorem dX6_opens_31 : decode cX6_opens 31 = .ok (.getfield 7, 3) := by decide +kernel
theorem dX6_opens_34 : decode cX6_opens 34 = .ok (.bipush 18, 2) := by decide +kernel
theorem dX6_opens_36 : decode cX6_opens 36 = .ok (.iload_n 3, 1) := by decide +kernel
theorem dX6_opens_37 : decode cX6_opens 37 = .ok (.iadd, 1) := by decide +kernel
theorem dX6_opens_38 : decode cX6_opens 38 = .ok (.iaload, 1) := by decide +kernel
theorem dX6_opens_39 : decode cX6_opens 39 = .ok (.iastore, 1) := by decide +kernel
theorem dX6_opens_40 : decode cX6_opens 40 = .ok (.iinc 3 (-1), 3) := by decide +kernel
theorem dX6_opens_43 : decode cX6_opens 43 = .ok (.goto (-32), 3) := by decide +kernel
theorem dX6_opens_46 : decode cX6_opens 46 = .ok (.aload_n 0, 1) := by decide +kernel
theorem dX6_opens_47 : decode cX6_opens 47 = .ok (.getfield 7, 3) := by decide +kernel
theorem dX6_opens_50 : decode cX6_opens 50 = .ok (.iconst 0, 1) := by decide +kernel
theorem dX6_opens_51 : decode cX6_opens 51 = .ok (.dup2, 1) := by decide +kernel
theorem dX6_opens_52 : decode cX6_opens 52 = .ok (.iaload, 1) := by decide +kernel
theorem dX6_opens_53 : decode cX6_opens 53 = .ok (.iload_n 2, 1) := by decide +kernel
theorem dX6_opens_54 : decode cX6_opens 54 = .ok (.iadd, 1) := by decide +kernel
theorem dX6_opens_55 : decode cX6_opens 55 = .ok (.iastore, 1) := by decide +kernel
theorem dX6_opens_56 : decode cX6_opens 56 = .ok (.return_, 1) := by decide +kernel
theorem dX6_closes_0 : decode cX6_closes 0 = .ok (.aload_n 0, 1) := by decide +kernel
theorem dX6_closes_1 : decode cX6_closes 1 = .ok (.getfield 7, 3) := by decide +kernel
theorem dX6_closes_4 : decode cX6_closes 4 = .ok (.iconst 0, 1) := by decide +kernel
theorem dX6_closes_5 : decode cX6_closes 5 = .ok (.dup2, 1) := by decide +kernel
theorem dX6_closes_6 : decode cX6_closes 6 = .ok (.iaload, 1) := by decide +kernel
theorem dX6_closes_7 : decode cX6_closes 7 = .ok (.iload_n 2, 1) := by decide +kernel
theorem dX6_closes_8 : decode cX6_closes 8 = .ok (.isub, 1) := by decide +kernel
theorem dX6_closes_9 : decode cX6_closes 9 = .ok (.iastore, 1) := by decide +kernel
theorem dX6_closes_10 : decode cX6_closes 10 = .ok (.iconst 3, 1) := by decide +kernel
theorem dX6_closes_11 : decode cX6_closes 11 = .ok (.iload_n 1, 1) := by decide +kernel
theorem dX6_closes_12 : decode cX6_closes 12 = .ok (.imul, 1) := by decide +kernel
theorem dX6_closes_13 : decode cX6_closes 13 = .ok (.istore_n 3, 1) := by decide +kernel
theorem dX6_closes_14 : decode cX6_closes 14 = .ok (.iload_n 3, 1) := by decide +kernel
theorem dX6_closes_15 : decode cX6_closes 15 = .ok (.iconst 3, 1) := by decide +kernel
theorem dX6_closes_16 : decode cX6_closes 16 = .ok (.aload_n 0, 1) := by decide +kernel
theorem dX6_closes_17 : decode cX6_closes 17 = .ok (.getfield 7, 3) := by decide +kernel
theorem dX6_closes_20 : decode cX6_closes 20 = .ok (.iconst 0, 1) := by decide +kernel
theorem dX6_closes_21 : decode cX6_closes 21 = .ok (.iaload, 1) := by decide +kernel
theorem dX6_closes_22 : decode cX6_closes 22 = .ok (.imul, 1) := by decide +kernel
theorem dX6_closes_23 : decode cX6_closes 23 = .ok (.if_icmp .ge 31, 3) := by decide +kernel
theorem dX6_closes_26 : decode cX6_closes 26 = .ok (.aload_n 0, 1) := by decide +kernel
theorem dX6_closes_27 : decode cX6_closes 27 = .ok (.getfield 7, 3) := by decide +kernel
theorem dX6_closes_30 : decode cX6_closes 30 = .ok (.bipush 18, 2) := by decide +kernel
theorem dX6_closes_32 : decode cX6_closes 32 = .ok (.iload_n 3, 1) := by decide +kernel
theorem dX6_closes_33 : decode cX6_closes 33 = .ok (.iadd, 1) := by decide +kernel
theorem dX6_closes_34 : decode cX6_closes 34 = .ok (.aload_n 0, 1) := by decide +kernel
theorem dX6_closes_35 : decode cX6_closes 35 = .ok (.getfield 7, 3) := by decide +kernel
theorem dX6_closes_38 : decode cX6_closes 38 = .ok (.bipush 18, 2) := by decide +kernel
theorem dX6_closes_40 : decode cX6_closes 40 = .ok (.iload_n 3, 1) := by decide +kernel
theorem dX6_closes_41 : decode cX6_closes 41 = .ok (.iadd, 1) := by decide +kernel
theorem dX6_closes_42 : decode cX6_closes 42 = .ok (.iconst 3, 1) := by decide +kernel
theorem dX6_closes_43 : decode cX6_closes 43 = .ok (.iload_n 2, 1) := by decide +kernel
theorem dX6_closes_44 : decode cX6_closes 44 = .ok (.imul, 1) := by decide +kernel
theorem dX6_closes_45 : decode cX6_closes 45 = .ok (.iadd, 1) := by decide +kernel
theorem dX6_closes_46 : decode cX6_closes 46 = .ok (.iaload, 1) := by decide +kernel
theorem dX6_closes_47 : decode cX6_closes 47 = .ok (.iastore, 1) := by decide +kernel
theorem dX6_closes_48 : decode cX6_closes 48 = .ok (.iinc 3 1, 3) := by decide +kernel
theorem dX6_closes_51 : decode cX6_closes 51 = .ok (.goto (-37), 3) := by decide +kernel
theorem dX6_closes_54 : decode cX6_closes 54 = .ok (.return_, 1) := by decide +kernel
theorem dX6_lays_0 : decode cX6_lays 0 = .ok (.aload_n 0, 1) := by decide +kernel
theorem dX6_lays_1 : decode cX6_lays 1 = .ok (.getfield 7, 3) := by decide +kernel
theorem dX6_lays_4 : decode cX6_lays 4 = .ok (.bipush 18, 2) := by decide +kernel
theorem dX6_lays_6 : decode cX6_lays 6 = .ok (.iconst 3, 1) := by decide +kernel
theorem dX6_lays_7 : decode cX6_lays 7 = .ok (.iload_n 1, 1) := by decide +kernel
theorem dX6_lays_8 : decode cX6_lays 8 = .ok (.imul, 1) := by decide +kernel
theorem dX6_lays_9 : decode cX6_lays 9 = .ok (.iadd, 1) := by decide +kernel
theorem dX6_lays_10 : decode cX6_lays 10 = .ok (.iload_n 2, 1) := by decide +kernel
theorem dX6_lays_11 : decode cX6_lays 11 = .ok (.iastore, 1) := by decide +kernel
theorem dX6_lays_12 : decode cX6_lays 12 = .ok (.aload_n 0, 1) := by decide +kernel
theorem dX6_lays_13 : decode cX6_lays 13 = .ok (.getfield 7, 3) := by decide +kernel
theorem dX6_lays_16 : decode cX6_lays 16 = .ok (.bipush 18, 2) := by decide +kernel
theorem dX6_lays_18 : decode cX6_lays 18 = .ok (.iconst 3, 1) := by decide +kernel
theorem dX6_lays_19 : decode cX6_lays 19 = .ok (.iload_n 1, 1) := by decide +kernel
theorem dX6_lays_20 : decode cX6_lays 20 = .ok (.imul, 1) := by decide +kernel
theorem dX6_lays_21 : decode cX6_lays 21 = .ok (.iadd, 1) := by decide +kernel
theorem dX6_lays_22 : decode cX6_lays 22 = .ok (.iconst 1, 1) := by decide +kernel
theorem dX6_lays_23 : decode cX6_lays 23 = .ok (.iadd, 1) := by decide +kernel
theorem dX6_lays_24 : decode cX6_lays 24 = .ok (.iload_n 3, 1) := by decide +kernel
theorem dX6_lays_25 : decode cX6_lays 25 = .ok (.iastore, 1) := by decide +kernel
theorem dX6_lays_26 : decode cX6_lays 26 = .ok (.aload_n 0, 1) := by decide +kernel
theorem dX6_lays_27 : decode cX6_lays 27 = .ok (.getfield 7, 3) := by decide +kernel
theorem dX6_lays_30 : decode cX6_lays 30 = .ok (.bipush 18, 2) := by decide +kernel
theorem dX6_lays_32 : decode cX6_lays 32 = .ok (.iconst 3, 1) := by decide +kernel
theorem dX6_lays_33 : decode cX6_lays 33 = .ok (.iload_n 1, 1) := by decide +kernel
theorem dX6_lays_34 : decode cX6_lays 34 = .ok (.imul, 1) := by decide +kernel
theorem dX6_lays_35 : decode cX6_lays 35 = .ok (.iadd, 1) := by decide +kernel
theorem dX6_lays_36 : decode cX6_lays 36 = .ok (.iconst 2, 1) := by decide +kernel
theorem dX6_lays_37 : decode cX6_lays 37 = .ok (.iadd, 1) := by decide +kernel
theorem dX6_lays_38 : decode cX6_lays 38 = .ok (.aload_n 0, 1) := by decide +kernel
theorem dX6_lays_39 : decode cX6_lays 39 = .ok (.getfield 7, 3) := by decide +kernel
theorem dX6_lays_42 : decode cX6_lays 42 = .ok (.iconst 1, 1) := by decide +kernel
theorem dX6_lays_43 : decode cX6_lays 43 = .ok (.iaload, 1) := by decide +kernel
theorem dX6_lays_44 : decode cX6_lays 44 = .ok (.iastore, 1) := by decide +kernel
theorem dX6_lays_45 : decode cX6_lays 45 = .ok (.aload_n 0, 1) := by decide +kernel
theorem dX6_lays_46 : decode cX6_lays 46 = .ok (.getfield 7, 3) := by decide +kernel
theorem dX6_lays_49 : decode cX6_lays 49 = .ok (.iconst 1, 1) := by decide +kernel
theorem dX6_lays_50 : decode cX6_lays 50 = .ok (.dup2, 1) := by decide +kernel
theorem dX6_lays_51 : decode cX6_lays 51 = .ok (.iaload, 1) := by decide +kernel
theorem dX6_lays_52 : decode cX6_lays 52 = .ok (.iconst 1, 1) := by decide +kernel
theorem dX6_lays_53 : decode cX6_lays 53 = .ok (.iadd, 1) := by decide +kernel
theorem dX6_lays_54 : decode cX6_lays 54 = .ok (.iastore, 1) := by decide +kernel
theorem dX6_lays_55 : decode cX6_lays 55 = .ok (.return_, 1) := by decide +kernel
theorem dX6_sinks_0 : decode cX6_sinks 0 = .ok (.iload_n 1, 1) := by decide +kernel
theorem dX6_sinks_1 : decode cX6_sinks 1 = .ok (.istore 4, 2) := by decide +kernel
theorem dX6_sinks_3 : decode cX6_sinks 3 = .ok (.iload 4, 2) := by decide +kernel
theorem dX6_sinks_5 : decode cX6_sinks 5 = .ok (.iload_n 2, 1) := by decide +kernel
theorem dX6_sinks_6 : decode cX6_sinks 6 = .ok (.if_icmp .ge 27, 3) := by decide +kernel
theorem dX6_sinks_9 : decode cX6_sinks 9 = .ok (.aload_n 0, 1) := by decide +kernel
theorem dX6_sinks_10 : decode cX6_sinks 10 = .ok (.getfield 7, 3) := by decide +kernel
theorem dX6_sinks_13 : decode cX6_sinks 13 = .ok (.bipush 18, 2) := by decide +kernel
theorem dX6_sinks_15 : decode cX6_sinks 15 = .ok (.iconst 3, 1) := by decide +kernel
theorem dX6_sinks_16 : decode cX6_sinks 16 = .ok (.iload 4, 2) := by decide +kernel
theorem dX6_sinks_18 : decode cX6_sinks 18 = .ok (.imul, 1) := by decide +kernel
theorem dX6_sinks_19 : decode cX6_sinks 19 = .ok (.iadd, 1) := by decide +kernel
theorem dX6_sinks_20 : decode cX6_sinks 20 = .ok (.iconst 1, 1) := by decide +kernel
theorem dX6_sinks_21 : decode cX6_sinks 21 = .ok (.iadd, 1) := by decide +kernel
theorem dX6_sinks_22 : decode cX6_sinks 22 = .ok (.dup2, 1) := by decide +kernel
theorem dX6_sinks_23 : decode cX6_sinks 23 = .ok (.iaload, 1) := by decide +kernel
theorem dX6_sinks_24 : decode cX6_sinks 24 = .ok (.iload_n 3, 1) := by decide +kernel
theorem dX6_sinks_25 : decode cX6_sinks 25 = .ok (.iadd, 1) := by decide +kernel
theorem dX6_sinks_26 : decode cX6_sinks 26 = .ok (.iastore, 1) := by decide +kernel
theorem dX6_sinks_27 : decode cX6_sinks 27 = .ok (.iinc 4 1, 3) := by decide +kernel
theorem dX6_sinks_30 : decode cX6_sinks 30 = .ok (.goto (-27), 3) := by decide +kernel
theorem dX6_sinks_33 : decode cX6_sinks 33 = .ok (.return_, 1) := by decide +kernel
theorem dX6_walks_0 : decode cX6_walks 0 = .ok (.aload_n 0, 1) := by decide +kernel
theorem dX6_walks_1 : decode cX6_walks 1 = .ok (.iload_n 1, 1) := by decide +kernel
theorem dX6_walks_2 : decode cX6_walks 2 = .ok (.invokevirtual 39, 3) := by decide +kernel
theorem dX6_walks_5 : decode cX6_walks 5 = .ok (.aload_n 0, 1) := by decide +kernel
theorem dX6_walks_6 : decode cX6_walks 6 = .ok (.getfield 7, 3) := by decide +kernel
theorem dX6_walks_9 : decode cX6_walks 9 = .ok (.iconst 2, 1) := by decide +kernel
theorem dX6_walks_10 : decode cX6_walks 10 = .ok (.iaload, 1) := by decide +kernel
theorem dX6_walks_11 : decode cX6_walks 11 = .ok (.if_icmp .eq 99, 3) := by decide +kernel
theorem dX6_walks_14 : decode cX6_walks 14 = .ok (.aload_n 0, 1) := by decide +kernel
theorem dX6_walks_15 : decode cX6_walks 15 = .ok (.getfield 7, 3) := by decide +kernel
theorem dX6_walks_18 : decode cX6_walks 18 = .ok (.iconst 3, 1) := by decide +kernel
theorem dX6_walks_19 : decode cX6_walks 19 = .ok (.iaload, 1) := by decide +kernel
theorem dX6_walks_20 : decode cX6_walks 20 = .ok (.bipush 8, 2) := by decide +kernel
theorem dX6_walks_22 : decode cX6_walks 22 = .ok (.if_icmp .ne 47, 3) := by decide +kernel
theorem dX6_walks_25 : decode cX6_walks 25 = .ok (.iconst 0, 1) := by decide +kernel
theorem dX6_walks_26 : decode cX6_walks 26 = .ok (.istore_n 2, 1) := by decide +kernel
theorem dX6_walks_27 : decode cX6_walks 27 = .ok (.iload_n 2, 1) := by decide +kernel
theorem dX6_walks_28 : decode cX6_walks 28 = .ok (.bipush 7, 2) := by decide +kernel
theorem dX6_walks_30 : decode cX6_walks 30 = .ok (.if_icmp .ge 29, 3) := by decide +kernel
theorem dX6_walks_33 : decode cX6_walks 33 = .ok (.aload_n 0, 1) := by decide +kernel
theorem dX6_walks_34 : decode cX6_walks 34 = .ok (.getfield 7, 3) := by decide +kernel
theorem dX6_walks_37 : decode cX6_walks 37 = .ok (.bipush 9, 2) := by decide +kernel
theorem dX6_walks_39 : decode cX6_walks 39 = .ok (.iload_n 2, 1) := by decide +kernel
theorem dX6_walks_40 : decode cX6_walks 40 = .ok (.iadd, 1) := by decide +kernel
theorem dX6_walks_41 : decode cX6_walks 41 = .ok (.aload_n 0, 1) := by decide +kernel
theorem dX6_walks_42 : decode cX6_walks 42 = .ok (.getfield 7, 3) := by decide +kernel
theorem dX6_walks_45 : decode cX6_walks 45 = .ok (.bipush 9, 2) := by decide +kernel
theorem dX6_walks_47 : decode cX6_walks 47 = .ok (.iload_n 2, 1) := by decide +kernel
theorem dX6_walks_48 : decode cX6_walks 48 = .ok (.iadd, 1) := by decide +kernel
theorem dX6_walks_49 : decode cX6_walks 49 = .ok (.iconst 1, 1) := by decide +kernel
theorem dX6_walks_50 : decode cX6_walks 50 = .ok (.iadd, 1) := by decide +kernel
theorem dX6_walks_51 : decode cX6_walks 51 = .ok (.iaload, 1) := by decide +kernel
theorem dX6_walks_52 : decode cX6_walks 52 = .ok (.iastore, 1) := by decide +kernel
theorem dX6_walks_53 : decode cX6_walks 53 = .ok (.iinc 2 1, 3) := by decide +kernel
theorem dX6_walks_56 : decode cX6_walks 56 = .ok (.goto (-29), 3) := by decide +kernel
theorem dX6_walks_59 : decode cX6_walks 59 = .ok (.aload_n 0, 1) := by decide +kernel
theorem dX6_walks_60 : decode cX6_walks 60 = .ok (.getfield 7, 3) := by decide +kernel
theorem dX6_walks_63 : decode cX6_walks 63 = .ok (.iconst 3, 1) := by decide +kernel
theorem dX6_walks_64 : decode cX6_walks 64 = .ok (.dup2, 1) := by decide +kernel
theorem dX6_walks_65 : decode cX6_walks 65 = .ok (.iaload, 1) := by decide +kernel
theorem dX6_walks_66 : decode cX6_walks 66 = .ok (.iconst 1, 1) := by decide +kernel
theorem dX6_walks_67 : decode cX6_walks 67 = .ok (.isub, 1) := by decide +kernel
theorem dX6_walks_68 : decode cX6_walks 68 = .ok (.iastore, 1) := by decide +kernel
theorem dX6_walks_69 : decode cX6_walks 69 = .ok (.aload_n 0, 1) := by decide +kernel
theorem dX6_walks_70 : decode cX6_walks 70 = .ok (.getfield 7, 3) := by decide +kernel
theorem dX6_walks_73 : decode cX6_walks 73 = .ok (.bipush 9, 2) := by decide +kernel
theorem dX6_walks_75 : decode cX6_walks 75 = .ok (.aload_n 0, 1) := by decide +kernel
theorem dX6_walks_76 : decode cX6_walks 76 = .ok (.getfield 7, 3) := by decide +kernel
theorem dX6_walks_79 : decode cX6_walks 79 = .ok (.iconst 3, 1) := by decide +kernel
theorem dX6_walks_80 : decode cX6_walks 80 = .ok (.iaload, 1) := by decide +kernel
theorem dX6_walks_81 : decode cX6_walks 81 = .ok (.iadd, 1) := by decide +kernel
theorem dX6_walks_82 : decode cX6_walks 82 = .ok (.aload_n 0, 1) := by decide +kernel
theorem dX6_walks_83 : decode cX6_walks 83 = .ok (.getfield 7, 3) := by decide +kernel
theorem dX6_walks_86 : decode cX6_walks 86 = .ok (.iconst 2, 1) := by decide +kernel
theorem dX6_walks_87 : decode cX6_walks 87 = .ok (.iaload, 1) := by decide +kernel
theorem dX6_walks_88 : decode cX6_walks 88 = .ok (.iastore, 1) := by decide +kernel
theorem dX6_walks_89 : decode cX6_walks 89 = .ok (.aload_n 0, 1) := by decide +kernel
theorem dX6_walks_90 : decode cX6_walks 90 = .ok (.getfield 7, 3) := by decide +kernel
theorem dX6_walks_93 : decode cX6_walks 93 = .ok (.iconst 3, 1) := by decide +kernel
theorem dX6_walks_94 : decode cX6_walks 94 = .ok (.dup2, 1) := by decide +kernel
theorem dX6_walks_95 : decode cX6_walks 95 = .ok (.iaload, 1) := by decide +kernel
theorem dX6_walks_96 : decode cX6_walks 96 = .ok (.iconst 1, 1) := by decide +kernel
theorem dX6_walks_97 : decode cX6_walks 97 = .ok (.iadd, 1) := by decide +kernel
theorem dX6_walks_98 : decode cX6_walks 98 = .ok (.iastore, 1) := by decide +kernel
theorem dX6_walks_99 : decode cX6_walks 99 = .ok (.aload_n 0, 1) := by decide +kernel
theorem dX6_walks_100 : decode cX6_walks 100 = .ok (.getfield 7, 3) := by decide +kernel
theorem dX6_walks_103 : decode cX6_walks 103 = .ok (.iconst 2, 1) := by decide +kernel
theorem dX6_walks_104 : decode cX6_walks 104 = .ok (.aload_n 0, 1) := by decide +kernel
theorem dX6_walks_105 : decode cX6_walks 105 = .ok (.iload_n 1, 1) := by decide +kernel
theorem dX6_walks_106 : decode cX6_walks 106 = .ok (.invokevirtual 39, 3) := by decide +kernel
theorem dX6_walks_109 : decode cX6_walks 109 = .ok (.iastore, 1) := by decide +kernel
theorem dX6_walks_110 : decode cX6_walks 110 = .ok (.iload_n 1, 1) := by decide +kernel
theorem dX6_walks_111 : decode cX6_walks 111 = .ok (.ireturn, 1) := by decide +kernel
theorem dX6_down_0 : decode cX6_down 0 = .ok (.aload_n 0, 1) := by decide +kernel
theorem dX6_down_1 : decode cX6_down 1 = .ok (.invokevirtual 55, 3) := by decide +kernel
theorem dX6_down_4 : decode cX6_down 4 = .ok (.iload_n 1, 1) := by decide +kernel
theorem dX6_down_5 : decode cX6_down 5 = .ok (.ifCond .ge 5, 3) := by decide +kernel
theorem dX6_down_8 : decode cX6_down 8 = .ok (.iconst (-1), 1) := by decide +kernel
theorem dX6_down_9 : decode cX6_down 9 = .ok (.ireturn, 1) := by decide +kernel
theorem dX6_down_10 : decode cX6_down 10 = .ok (.aload_n 0, 1) := by decide +kernel
theorem dX6_down_11 : decode cX6_down 11 = .ok (.invokevirtual 58, 3) := by decide +kernel
theorem dX6_down_14 : decode cX6_down 14 = .ok (.istore_n 2, 1) := by decide +kernel
theorem dX6_down_15 : decode cX6_down 15 = .ok (.iload_n 1, 1) := by decide +kernel
theorem dX6_down_16 : decode cX6_down 16 = .ok (.aload_n 0, 1) := by decide +kernel
theorem dX6_down_17 : decode cX6_down 17 = .ok (.iload_n 2, 1) := by decide +kernel
theorem dX6_down_18 : decode cX6_down 18 = .ok (.invokevirtual 62, 3) := by decide +kernel
theorem dX6_down_21 : decode cX6_down 21 = .ok (.if_icmp .lt 8, 3) := by decide +kernel
theorem dX6_down_24 : decode cX6_down 24 = .ok (.bipush (-2), 2) := by decide +kernel
theorem dX6_down_26 : decode cX6_down 26 = .ok (.goto 17, 3) := by decide +kernel
theorem dX6_down_29 : decode cX6_down 29 = .ok (.aload_n 0, 1) := by decide +kernel
theorem dX6_down_30 : decode cX6_down 30 = .ok (.aload_n 0, 1) := by decide +kernel
theorem dX6_down_31 : decode cX6_down 31 = .ok (.aload_n 0, 1) := by decide +kernel
theorem dX6_down_32 : decode cX6_down 32 = .ok (.iload_n 2, 1) := by decide +kernel
theorem dX6_down_33 : decode cX6_down 33 = .ok (.iload_n 1, 1) := by decide +kernel
theorem dX6_down_34 : decode cX6_down 34 = .ok (.invokevirtual 65, 3) := by decide +kernel
theorem dX6_down_37 : decode cX6_down 37 = .ok (.invokevirtual 69, 3) := by decide +kernel
theorem dX6_down_40 : decode cX6_down 40 = .ok (.invokevirtual 72, 3) := by decide +kernel
theorem dX6_down_43 : decode cX6_down 43 = .ok (.ireturn, 1) := by decide +kernel
theorem dX6_up_0 : decode cX6_up 0 = .ok (.aload_n 0, 1) := by decide +kernel
theorem dX6_up_1 : decode cX6_up 1 = .ok (.invokevirtual 55, 3) := by decide +kernel
theorem dX6_up_4 : decode cX6_up 4 = .ok (.aload_n 0, 1) := by decide +kernel
theorem dX6_up_5 : decode cX6_up 5 = .ok (.aload_n 0, 1) := by decide +kernel
theorem dX6_up_6 : decode cX6_up 6 = .ok (.invokevirtual 58, 3) := by decide +kernel
theorem dX6_up_9 : decode cX6_up 9 = .ok (.invokevirtual 52, 3) := by decide +kernel
theorem dX6_up_12 : decode cX6_up 12 = .ok (.istore_n 1, 1) := by decide +kernel
theorem dX6_up_13 : decode cX6_up 13 = .ok (.iload_n 1, 1) := by decide +kernel
theorem dX6_up_14 : decode cX6_up 14 = .ok (.ifCond .ge 8, 3) := by decide +kernel
theorem dX6_up_17 : decode cX6_up 17 = .ok (.bipush (-2), 2) := by decide +kernel
theorem dX6_up_19 : decode cX6_up 19 = .ok (.goto 12, 3) := by decide +kernel
theorem dX6_up_22 : decode cX6_up 22 = .ok (.aload_n 0, 1) := by decide +kernel
theorem dX6_up_23 : decode cX6_up 23 = .ok (.aload_n 0, 1) := by decide +kernel
theorem dX6_up_24 : decode cX6_up 24 = .ok (.iload_n 1, 1) := by decide +kernel
theorem dX6_up_25 : decode cX6_up 25 = .ok (.invokevirtual 69, 3) := by decide +kernel
theorem dX6_up_28 : decode cX6_up 28 = .ok (.invokevirtual 72, 3) := by decide +kernel
theorem dX6_up_31 : decode cX6_up 31 = .ok (.ireturn, 1) := by decide +kernel
theorem dX6_side_0 : decode cX6_side 0 = .ok (.aload_n 0, 1) := by decide +kernel
theorem dX6_side_1 : decode cX6_side 1 = .ok (.invokevirtual 55, 3) := by decide +kernel
theorem dX6_side_4 : decode cX6_side 4 = .ok (.iload_n 1, 1) := by decide +kernel
theorem dX6_side_5 : decode cX6_side 5 = .ok (.iconst 0, 1) := by decide +kernel
theorem dX6_side_6 : decode cX6_side 6 = .ok (.iconst 1, 1) := by decide +kernel
theorem dX6_side_7 : decode cX6_side 7 = .ok (.invokestatic 35, 3) := by decide +kernel
theorem dX6_side_10 : decode cX6_side 10 = .ok (.ifCond .ne 5, 3) := by decide +kernel
theorem dX6_side_13 : decode cX6_side 13 = .ok (.iconst (-1), 1) := by decide +kernel
theorem dX6_side_14 : decode cX6_side 14 = .ok (.ireturn, 1) := by decide +kernel
theorem dX6_side_15 : decode cX6_side 15 = .ok (.aload_n 0, 1) := by decide +kernel
theorem dX6_side_16 : decode cX6_side 16 = .ok (.aload_n 0, 1) := by decide +kernel
theorem dX6_side_17 : decode cX6_side 17 = .ok (.invokevirtual 58, 3) := by decide +kernel
theorem dX6_side_20 : decode cX6_side 20 = .ok (.iload_n 1, 1) := by decide +kernel
theorem dX6_side_21 : decode cX6_side 21 = .ok (.iconst 1, 1) := by decide +kernel
theorem dX6_side_22 : decode cX6_side 22 = .ok (.if_icmp .ne 7, 3) := by decide +kernel
theorem dX6_side_25 : decode cX6_side 25 = .ok (.iconst 1, 1) := by decide +kernel
theorem dX6_side_26 : decode cX6_side 26 = .ok (.goto 4, 3) := by decide +kernel
theorem dX6_side_29 : decode cX6_side 29 = .ok (.iconst 0, 1) := by decide +kernel
theorem dX6_side_30 : decode cX6_side 30 = .ok (.invokevirtual 75, 3) := by decide +kernel
theorem dX6_side_33 : decode cX6_side 33 = .ok (.istore_n 2, 1) := by decide +kernel
theorem dX6_side_34 : decode cX6_side 34 = .ok (.iload_n 2, 1) := by decide +kernel
theorem dX6_side_35 : decode cX6_side 35 = .ok (.ifCond .ge 8, 3) := by decide +kernel
theorem dX6_side_38 : decode cX6_side 38 = .ok (.bipush (-2), 2) := by decide +kernel
theorem dX6_side_40 : decode cX6_side 40 = .ok (.goto 12, 3) := by decide +kernel
theorem dX6_side_43 : decode cX6_side 43 = .ok (.aload_n 0, 1) := by decide +kernel
theorem dX6_side_44 : decode cX6_side 44 = .ok (.aload_n 0, 1) := by decide +kernel
theorem dX6_side_45 : decode cX6_side 45 = .ok (.iload_n 2, 1) := by decide +kernel
theorem dX6_side_46 : decode cX6_side 46 = .ok (.invokevirtual 69, 3) := by decide +kernel
theorem dX6_side_49 : decode cX6_side 49 = .ok (.invokevirtual 72, 3) := by decide +kernel
theorem dX6_side_52 : decode cX6_side 52 = .ok (.ireturn, 1) := by decide +kernel
theorem dX6_step_0 : decode cX6_step 0 = .ok (.aload_n 0, 1) := by decide +kernel
theorem dX6_step_1 : decode cX6_step 1 = .ok (.invokevirtual 55, 3) := by decide +kernel
theorem dX6_step_4 : decode cX6_step 4 = .ok (.iload_n 1, 1) := by decide +kernel
theorem dX6_step_5 : decode cX6_step 5 = .ok (.iconst 0, 1) := by decide +kernel
theorem dX6_step_6 : decode cX6_step 6 = .ok (.iconst 1, 1) := by decide +kernel
theorem dX6_step_7 : decode cX6_step 7 = .ok (.invokestatic 35, 3) := by decide +kernel
theorem dX6_step_10 : decode cX6_step 10 = .ok (.ifCond .ne 5, 3) := by decide +kernel
theorem dX6_step_13 : decode cX6_step 13 = .ok (.iconst (-1), 1) := by decide +kernel
theorem dX6_step_14 : decode cX6_step 14 = .ok (.ireturn, 1) := by decide +kernel
theorem dX6_step_15 : decode cX6_step 15 = .ok (.aload_n 0, 1) := by decide +kernel
theorem dX6_step_16 : decode cX6_step 16 = .ok (.invokevirtual 58, 3) := by decide +kernel
theorem dX6_step_19 : decode cX6_step 19 = .ok (.iload_n 1, 1) := by decide +kernel
theorem dX6_step_20 : decode cX6_step 20 = .ok (.iconst 1, 1) := by decide +kernel
theorem dX6_step_21 : decode cX6_step 21 = .ok (.if_icmp .ne 7, 3) := by decide +kernel
theorem dX6_step_24 : decode cX6_step 24 = .ok (.iconst 1, 1) := by decide +kernel
theorem dX6_step_25 : decode cX6_step 25 = .ok (.goto 4, 3) := by decide +kernel
theorem dX6_step_28 : decode cX6_step 28 = .ok (.iconst (-1), 1) := by decide +kernel
theorem dX6_step_29 : decode cX6_step 29 = .ok (.iadd, 1) := by decide +kernel
theorem dX6_step_30 : decode cX6_step 30 = .ok (.istore_n 2, 1) := by decide +kernel
theorem dX6_step_31 : decode cX6_step 31 = .ok (.aload_n 0, 1) := by decide +kernel
theorem dX6_step_32 : decode cX6_step 32 = .ok (.iload_n 2, 1) := by decide +kernel
theorem dX6_step_33 : decode cX6_step 33 = .ok (.invokevirtual 79, 3) := by decide +kernel
theorem dX6_step_36 : decode cX6_step 36 = .ok (.ifCond .eq 15, 3) := by decide +kernel
theorem dX6_step_39 : decode cX6_step 39 = .ok (.aload_n 0, 1) := by decide +kernel
theorem dX6_step_40 : decode cX6_step 40 = .ok (.aload_n 0, 1) := by decide +kernel
theorem dX6_step_41 : decode cX6_step 41 = .ok (.iload_n 2, 1) := by decide +kernel
theorem dX6_step_42 : decode cX6_step 42 = .ok (.invokevirtual 69, 3) := by decide +kernel
theorem dX6_step_45 : decode cX6_step 45 = .ok (.invokevirtual 72, 3) := by decide +kernel
theorem dX6_step_48 : decode cX6_step 48 = .ok (.goto 5, 3) := by decide +kernel
theorem dX6_step_51 : decode cX6_step 51 = .ok (.bipush (-2), 2) := by decide +kernel
theorem dX6_step_53 : decode cX6_step 53 = .ok (.ireturn, 1) := by decide +kernel
theorem dX6_top_0 : decode cX6_top 0 = .ok (.aload_n 0, 1) := by decide +kernel
theorem dX6_top_1 : decode cX6_top 1 = .ok (.invokevirtual 55, 3) := by decide +kernel
theorem dX6_top_4 : decode cX6_top 4 = .ok (.aload_n 0, 1) := by decide +kernel
theorem dX6_top_5 : decode cX6_top 5 = .ok (.aload_n 0, 1) := by decide +kernel
theorem dX6_top_6 : decode cX6_top 6 = .ok (.invokevirtual 58, 3) := by decide +kernel
theorem dX6_top_9 : decode cX6_top 9 = .ok (.invokevirtual 46, 3) := by decide +kernel
theorem dX6_top_12 : decode cX6_top 12 = .ok (.istore_n 1, 1) := by decide +kernel
theorem dX6_top_13 : decode cX6_top 13 = .ok (.iload_n 1, 1) := by decide +kernel
theorem dX6_top_14 : decode cX6_top 14 = .ok (.ifCond .ne 6, 3) := by decide +kernel
theorem dX6_top_17 : decode cX6_top 17 = .ok (.bipush (-2), 2) := by decide +kernel
theorem dX6_top_19 : decode cX6_top 19 = .ok (.ireturn, 1) := by decide +kernel
theorem dX6_top_20 : decode cX6_top 20 = .ok (.aload_n 0, 1) := by decide +kernel
theorem dX6_top_21 : decode cX6_top 21 = .ok (.iconst 0, 1) := by decide +kernel
theorem dX6_top_22 : decode cX6_top 22 = .ok (.invokevirtual 69, 3) := by decide +kernel
theorem dX6_top_25 : decode cX6_top 25 = .ok (.istore_n 2, 1) := by decide +kernel
theorem dX6_top_26 : decode cX6_top 26 = .ok (.aload_n 0, 1) := by decide +kernel
theorem dX6_top_27 : decode cX6_top 27 = .ok (.iload_n 1, 1) := by decide +kernel
theorem dX6_top_28 : decode cX6_top 28 = .ok (.invokevirtual 72, 3) := by decide +kernel
theorem dX6_top_31 : decode cX6_top 31 = .ok (.ireturn, 1) := by decide +kernel
theorem dX6_back_0 : decode cX6_back 0 = .ok (.aload_n 0, 1) := by decide +kernel
theorem dX6_back_1 : decode cX6_back 1 = .ok (.invokevirtual 55, 3) := by decide +kernel
theorem dX6_back_4 : decode cX6_back 4 = .ok (.aload_n 0, 1) := by decide +kernel
theorem dX6_back_5 : decode cX6_back 5 = .ok (.getfield 7, 3) := by decide +kernel
theorem dX6_back_8 : decode cX6_back 8 = .ok (.iconst 3, 1) := by decide +kernel
theorem dX6_back_9 : decode cX6_back 9 = .ok (.iaload, 1) := by decide +kernel
theorem dX6_back_10 : decode cX6_back 10 = .ok (.istore_n 1, 1) := by decide +kernel
theorem dX6_back_11 : decode cX6_back 11 = .ok (.iload_n 1, 1) := by decide +kernel
theorem dX6_back_12 : decode cX6_back 12 = .ok (.ifCond .le 73, 3) := by decide +kernel
theorem dX6_back_15 : decode cX6_back 15 = .ok (.iinc 1 (-1), 3) := by decide +kernel
theorem dX6_back_18 : decode cX6_back 18 = .ok (.aload_n 0, 1) := by decide +kernel
theorem dX6_back_19 : decode cX6_back 19 = .ok (.aload_n 0, 1) := by decide +kernel
theorem dX6_back_20 : decode cX6_back 20 = .ok (.getfield 7, 3) := by decide +kernel
theorem dX6_back_23 : decode cX6_back 23 = .ok (.bipush 9, 2) := by decide +kernel
theorem dX6_back_25 : decode cX6_back 25 = .ok (.iload_n 1, 1) := by decide +kernel
theorem dX6_back_26 : decode cX6_back 26 = .ok (.iadd, 1) := by decide +kernel
theorem dX6_back_27 : decode cX6_back 27 = .ok (.iaload, 1) := by decide +kernel
theorem dX6_back_28 : decode cX6_back 28 = .ok (.invokevirtual 43, 3) := by decide +kernel
theorem dX6_back_31 : decode cX6_back 31 = .ok (.istore_n 2, 1) := by decide +kernel
theorem dX6_back_32 : decode cX6_back 32 = .ok (.iload_n 2, 1) := by decide +kernel
theorem dX6_back_33 : decode cX6_back 33 = .ok (.ifCond .lt 49, 3) := by decide +kernel
theorem dX6_back_36 : decode cX6_back 36 = .ok (.aload_n 0, 1) := by decide +kernel
theorem dX6_back_37 : decode cX6_back 37 = .ok (.getfield 7, 3) := by decide +kernel
theorem dX6_back_40 : decode cX6_back 40 = .ok (.bipush 9, 2) := by decide +kernel
theorem dX6_back_42 : decode cX6_back 42 = .ok (.iload_n 1, 1) := by decide +kernel
theorem dX6_back_43 : decode cX6_back 43 = .ok (.iadd, 1) := by decide +kernel
theorem dX6_back_44 : decode cX6_back 44 = .ok (.iaload, 1) := by decide +kernel
theorem dX6_back_45 : decode cX6_back 45 = .ok (.aload_n 0, 1) := by decide +kernel
theorem dX6_back_46 : decode cX6_back 46 = .ok (.getfield 7, 3) := by decide +kernel
theorem dX6_back_49 : decode cX6_back 49 = .ok (.iconst 2, 1) := by decide +kernel
theorem dX6_back_50 : decode cX6_back 50 = .ok (.iaload, 1) := by decide +kernel
theorem dX6_back_51 : decode cX6_back 51 = .ok (.if_icmp .eq 31, 3) := by decide +kernel
theorem dX6_back_54 : decode cX6_back 54 = .ok (.aload_n 0, 1) := by decide +kernel
theorem dX6_back_55 : decode cX6_back 55 = .ok (.getfield 7, 3) := by decide +kernel
theorem dX6_back_58 : decode cX6_back 58 = .ok (.iconst 2, 1) := by decide +kernel
theorem dX6_back_59 : decode cX6_back 59 = .ok (.aload_n 0, 1) := by decide +kernel
theorem dX6_back_60 : decode cX6_back 60 = .ok (.getfield 7, 3) := by decide +kernel
theorem dX6_back_63 : decode cX6_back 63 = .ok (.bipush 9, 2) := by decide +kernel
theorem dX6_back_65 : decode cX6_back 65 = .ok (.iload_n 1, 1) := by decide +kernel
theorem dX6_back_66 : decode cX6_back 66 = .ok (.iadd, 1) := by decide +kernel
theorem dX6_back_67 : decode cX6_back 67 = .ok (.iaload, 1) := by decide +kernel
theorem dX6_back_68 : decode cX6_back 68 = .ok (.iastore, 1) := by decide +kernel
theorem dX6_back_69 : decode cX6_back 69 = .ok (.aload_n 0, 1) := by decide +kernel
theorem dX6_back_70 : decode cX6_back 70 = .ok (.getfield 7, 3) := by decide +kernel
theorem dX6_back_73 : decode cX6_back 73 = .ok (.iconst 3, 1) := by decide +kernel
theorem dX6_back_74 : decode cX6_back 74 = .ok (.iload_n 1, 1) := by decide +kernel
theorem dX6_back_75 : decode cX6_back 75 = .ok (.iastore, 1) := by decide +kernel
theorem dX6_back_76 : decode cX6_back 76 = .ok (.aload_n 0, 1) := by decide +kernel
theorem dX6_back_77 : decode cX6_back 77 = .ok (.iload_n 2, 1) := by decide +kernel
theorem dX6_back_78 : decode cX6_back 78 = .ok (.invokevirtual 72, 3) := by decide +kernel
theorem dX6_back_81 : decode cX6_back 81 = .ok (.ireturn, 1) := by decide +kernel
theorem dX6_back_82 : decode cX6_back 82 = .ok (.goto (-71), 3) := by decide +kernel
theorem dX6_back_85 : decode cX6_back 85 = .ok (.bipush (-2), 2) := by decide +kernel
theorem dX6_back_87 : decode cX6_back 87 = .ok (.ireturn, 1) := by decide +kernel
theorem dX6_letter_0 : decode cX6_letter 0 = .ok (.aload_n 0, 1) := by decide +kernel
theorem dX6_letter_1 : decode cX6_letter 1 = .ok (.invokevirtual 55, 3) := by decide +kernel
theorem dX6_letter_4 : decode cX6_letter 4 = .ok (.iload_n 1, 1) := by decide +kernel
theorem dX6_letter_5 : decode cX6_letter 5 = .ok (.iconst 0, 1) := by decide +kernel
theorem dX6_letter_6 : decode cX6_letter 6 = .ok (.bipush 25, 2) := by decide +kernel
theorem dX6_letter_8 : decode cX6_letter 8 = .ok (.invokestatic 35, 3) := by decide +kernel
theorem dX6_letter_11 : decode cX6_letter 11 = .ok (.ifCond .ne 5, 3) := by decide +kernel
theorem dX6_letter_14 : decode cX6_letter 14 = .ok (.iconst (-1), 1) := by decide +kernel
theorem dX6_letter_15 : decode cX6_letter 15 = .ok (.ireturn, 1) := by decide +kernel
theorem dX6_letter_16 : decode cX6_letter 16 = .ok (.aload_n 0, 1) := by decide +kernel
theorem dX6_letter_17 : decode cX6_letter 17 = .ok (.invokevirtual 58, 3) := by decide +kernel
theorem dX6_letter_20 : decode cX6_letter 20 = .ok (.istore_n 2, 1) := by decide +kernel
theorem dX6_letter_21 : decode cX6_letter 21 = .ok (.aload_n 0, 1) := by decide +kernel
theorem dX6_letter_22 : decode cX6_letter 22 = .ok (.iload_n 2, 1) := by decide +kernel
theorem dX6_letter_23 : decode cX6_letter 23 = .ok (.invokevirtual 83, 3) := by decide +kernel
theorem dX6_letter_26 : decode cX6_letter 26 = .ok (.istore_n 3, 1) := by decide +kernel
theorem dX6_letter_27 : decode cX6_letter 27 = .ok (.aload_n 0, 1) := by decide +kernel
theorem dX6_letter_28 : decode cX6_letter 28 = .ok (.getfield 7, 3) := by decide +kernel
theorem dX6_letter_31 : decode cX6_letter 31 = .ok (.bipush 18, 2) := by decide +kernel
theorem dX6_letter_33 : decode cX6_letter 33 = .ok (.iconst 3, 1) := by decide +kernel
theorem dX6_letter_34 : decode cX6_letter 34 = .ok (.iload_n 2, 1) := by decide +kernel
theorem dX6_letter_35 : decode cX6_letter 35 = .ok (.imul, 1) := by decide +kernel
theorem dX6_letter_36 : decode cX6_letter 36 = .ok (.iadd, 1) := by decide +kernel
theorem dX6_letter_37 : decode cX6_letter 37 = .ok (.iload_n 1, 1) := by decide +kernel
theorem dX6_letter_38 : decode cX6_letter 38 = .ok (.iastore, 1) := by decide +kernel
theorem dX6_letter_39 : decode cX6_letter 39 = .ok (.aload_n 0, 1) := by decide +kernel
theorem dX6_letter_40 : decode cX6_letter 40 = .ok (.iload_n 3, 1) := by decide +kernel
theorem dX6_letter_41 : decode cX6_letter 41 = .ok (.invokevirtual 72, 3) := by decide +kernel
theorem dX6_letter_44 : decode cX6_letter 44 = .ok (.ireturn, 1) := by decide +kernel
theorem dX6_child_0 : decode cX6_child 0 = .ok (.aload_n 0, 1) := by decide +kernel
theorem dX6_child_1 : decode cX6_child 1 = .ok (.invokevirtual 55, 3) := by decide +kernel
theorem dX6_child_4 : decode cX6_child 4 = .ok (.aload_n 0, 1) := by decide +kernel
theorem dX6_child_5 : decode cX6_child 5 = .ok (.invokevirtual 58, 3) := by decide +kernel
theorem dX6_child_8 : decode cX6_child 8 = .ok (.istore_n 3, 1) := by decide +kernel
theorem dX6_child_9 : decode cX6_child 9 = .ok (.iload_n 1, 1) := by decide +kernel
theorem dX6_child_10 : decode cX6_child 10 = .ok (.iconst 0, 1) := by decide +kernel
theorem dX6_child_11 : decode cX6_child 11 = .ok (.aload_n 0, 1) := by decide +kernel
theorem dX6_child_12 : decode cX6_child 12 = .ok (.iload_n 3, 1) := by decide +kernel
theorem dX6_child_13 : decode cX6_child 13 = .ok (.invokevirtual 62, 3) := by decide +kernel
theorem dX6_child_16 : decode cX6_child 16 = .ok (.invokestatic 35, 3) := by decide +kernel
theorem dX6_child_19 : decode cX6_child 19 = .ok (.ifCond .eq 13, 3) := by decide +kernel
theorem dX6_child_22 : decode cX6_child 22 = .ok (.iload_n 2, 1) := by decide +kernel
theorem dX6_child_23 : decode cX6_child 23 = .ok (.iconst 0, 1) := by decide +kernel
theorem dX6_child_24 : decode cX6_child 24 = .ok (.bipush 25, 2) := by decide +kernel
theorem dX6_child_26 : decode cX6_child 26 = .ok (.invokestatic 35, 3) := by decide +kernel
theorem dX6_child_29 : decode cX6_child 29 = .ok (.ifCond .ne 5, 3) := by decide +kernel
theorem dX6_child_32 : decode cX6_child 32 = .ok (.iconst (-1), 1) := by decide +kernel
theorem dX6_child_33 : decode cX6_child 33 = .ok (.ireturn, 1) := by decide +kernel
theorem dX6_child_34 : decode cX6_child 34 = .ok (.aload_n 0, 1) := by decide +kernel
theorem dX6_child_35 : decode cX6_child 35 = .ok (.getfield 7, 3) := by decide +kernel
theorem dX6_child_38 : decode cX6_child 38 = .ok (.iconst 0, 1) := by decide +kernel
theorem dX6_child_39 : decode cX6_child 39 = .ok (.iaload, 1) := by decide +kernel
theorem dX6_child_40 : decode cX6_child 40 = .ok (.bipush 40, 2) := by decide +kernel
theorem dX6_child_42 : decode cX6_child 42 = .ok (.if_icmp .eq 23, 3) := by decide +kernel
theorem dX6_child_45 : decode cX6_child 45 = .ok (.aload_n 0, 1) := by decide +kernel
theorem dX6_child_46 : decode cX6_child 46 = .ok (.iload_n 3, 1) := by decide +kernel
theorem dX6_child_47 : decode cX6_child 47 = .ok (.invokevirtual 62, 3) := by decide +kernel
theorem dX6_child_50 : decode cX6_child 50 = .ok (.bipush 6, 2) := by decide +kernel
theorem dX6_child_52 : decode cX6_child 52 = .ok (.if_icmp .eq 13, 3) := by decide +kernel
theorem dX6_child_55 : decode cX6_child 55 = .ok (.aload_n 0, 1) := by decide +kernel
theorem dX6_child_56 : decode cX6_child 56 = .ok (.iload_n 3, 1) := by decide +kernel
theorem dX6_child_57 : decode cX6_child 57 = .ok (.invokevirtual 46, 3) := by decide +kernel
theorem dX6_child_60 : decode cX6_child 60 = .ok (.bipush 7, 2) := by decide +kernel
theorem dX6_child_62 : decode cX6_child 62 = .ok (.if_icmp .ne 6, 3) := by decide +kernel
theorem dX6_child_65 : decode cX6_child 65 = .ok (.bipush (-3), 2) := by decide +kernel
theorem dX6_child_67 : decode cX6_child 67 = .ok (.ireturn, 1) := by decide +kernel
theorem dX6_child_68 : decode cX6_child 68 = .ok (.aload_n 0, 1) := by decide +kernel
theorem dX6_child_69 : decode cX6_child 69 = .ok (.iload_n 3, 1) := by decide +kernel
theorem dX6_child_70 : decode cX6_child 70 = .ok (.iload_n 1, 1) := by decide +kernel
theorem dX6_child_71 : decode cX6_child 71 = .ok (.invokevirtual 65, 3) := by decide +kernel
theorem dX6_child_74 : decode cX6_child 74 = .ok (.istore 4, 2) := by decide +kernel
theorem dX6_child_76 : decode cX6_child 76 = .ok (.aload_n 0, 1) := by decide +kernel
theorem dX6_child_77 : decode cX6_child 77 = .ok (.iload 4, 2) := by decide +kernel
theorem dX6_child_79 : decode cX6_child 79 = .ok (.iconst 1, 1) := by decide +kernel
theorem dX6_child_80 : decode cX6_child 80 = .ok (.invokevirtual 86, 3) := by decide +kernel
theorem dX6_child_83 : decode cX6_child 83 = .ok (.aload_n 0, 1) := by decide +kernel
theorem dX6_child_84 : decode cX6_child 84 = .ok (.iload 4, 2) := by decide +kernel
theorem dX6_child_86 : decode cX6_child 86 = .ok (.iload_n 2, 1) := by decide +kernel
theorem dX6_child_87 : decode cX6_child 87 = .ok (.aload_n 0, 1) := by decide +kernel
theorem dX6_child_88 : decode cX6_child 88 = .ok (.iload_n 3, 1) := by decide +kernel
theorem dX6_child_89 : decode cX6_child 89 = .ok (.invokevirtual 46, 3) := by decide +kernel
theorem dX6_child_92 : decode cX6_child 92 = .ok (.iconst 1, 1) := by decide +kernel
theorem dX6_child_93 : decode cX6_child 93 = .ok (.iadd, 1) := by decide +kernel
theorem dX6_child_94 : decode cX6_child 94 = .ok (.invokevirtual 90, 3) := by decide +kernel
theorem dX6_child_97 : decode cX6_child 97 = .ok (.aload_n 0, 1) := by decide +kernel
theorem dX6_child_98 : decode cX6_child 98 = .ok (.aload_n 0, 1) := by decide +kernel
theorem dX6_child_99 : decode cX6_child 99 = .ok (.iload_n 3, 1) := by decide +kernel
theorem dX6_child_100 : decode cX6_child 100 = .ok (.invokevirtual 62, 3) := by decide +kernel
theorem dX6_child_103 : decode cX6_child 103 = .ok (.invokevirtual 72, 3) := by decide +kernel
theorem dX6_child_106 : decode cX6_child 106 = .ok (.ireturn, 1) := by decide +kernel
theorem dX6_beside_0 : decode cX6_beside 0 = .ok (.aload_n 0, 1) := by decide +kernel
theorem dX6_beside_1 : decode cX6_beside 1 = .ok (.invokevirtual 55, 3) := by decide +kernel
theorem dX6_beside_4 : decode cX6_beside 4 = .ok (.iload_n 1, 1) := by decide +kernel
theorem dX6_beside_5 : decode cX6_beside 5 = .ok (.iconst 0, 1) := by decide +kernel
theorem dX6_beside_6 : decode cX6_beside 6 = .ok (.iconst 1, 1) := by decide +kernel
theorem dX6_beside_7 : decode cX6_beside 7 = .ok (.invokestatic 35, 3) := by decide +kernel
theorem dX6_beside_10 : decode cX6_beside 10 = .ok (.ifCond .eq 13, 3) := by decide +kernel
theorem dX6_beside_13 : decode cX6_beside 13 = .ok (.iload_n 2, 1) := by decide +kernel
theorem dX6_beside_14 : decode cX6_beside 14 = .ok (.iconst 0, 1) := by decide +kernel
theorem dX6_beside_15 : decode cX6_beside 15 = .ok (.bipush 25, 2) := by decide +kernel
theorem dX6_beside_17 : decode cX6_beside 17 = .ok (.invokestatic 35, 3) := by decide +kernel
theorem dX6_beside_20 : decode cX6_beside 20 = .ok (.ifCond .ne 5, 3) := by decide +kernel
theorem dX6_beside_23 : decode cX6_beside 23 = .ok (.iconst (-1), 1) := by decide +kernel
theorem dX6_beside_24 : decode cX6_beside 24 = .ok (.ireturn, 1) := by decide +kernel
theorem dX6_beside_25 : decode cX6_beside 25 = .ok (.aload_n 0, 1) := by decide +kernel
theorem dX6_beside_26 : decode cX6_beside 26 = .ok (.invokevirtual 58, 3) := by decide +kernel
theorem dX6_beside_29 : decode cX6_beside 29 = .ok (.istore_n 3, 1) := by decide +kernel
theorem dX6_beside_30 : decode cX6_beside 30 = .ok (.aload_n 0, 1) := by decide +kernel
theorem dX6_beside_31 : decode cX6_beside 31 = .ok (.iload_n 3, 1) := by decide +kernel
theorem dX6_beside_32 : decode cX6_beside 32 = .ok (.invokevirtual 52, 3) := by decide +kernel
theorem dX6_beside_35 : decode cX6_beside 35 = .ok (.istore 4, 2) := by decide +kernel
theorem dX6_beside_37 : decode cX6_beside 37 = .ok (.iload 4, 2) := by decide +kernel
theorem dX6_beside_39 : decode cX6_beside 39 = .ok (.ifCond .ge 6, 3) := by decide +kernel
theorem dX6_beside_42 : decode cX6_beside 42 = .ok (.bipush (-2), 2) := by decide +kernel
theorem dX6_beside_44 : decode cX6_beside 44 = .ok (.ireturn, 1) := by decide +kernel
theorem dX6_beside_45 : decode cX6_beside 45 = .ok (.aload_n 0, 1) := by decide +kernel
theorem dX6_beside_46 : decode cX6_beside 46 = .ok (.getfield 7, 3) := by decide +kernel
theorem dX6_beside_49 : decode cX6_beside 49 = .ok (.iconst 0, 1) := by decide +kernel
theorem dX6_beside_50 : decode cX6_beside 50 = .ok (.iaload, 1) := by decide +kernel
theorem dX6_beside_51 : decode cX6_beside 51 = .ok (.bipush 40, 2) := by decide +kernel
theorem dX6_beside_53 : decode cX6_beside 53 = .ok (.if_icmp .eq 14, 3) := by decide +kernel
theorem dX6_beside_56 : decode cX6_beside 56 = .ok (.aload_n 0, 1) := by decide +kernel
theorem dX6_beside_57 : decode cX6_beside 57 = .ok (.iload 4, 2) := by decide +kernel
theorem dX6_beside_59 : decode cX6_beside 59 = .ok (.invokevirtual 62, 3) := by decide +kernel
theorem dX6_beside_62 : decode cX6_beside 62 = .ok (.bipush 6, 2) := by decide +kernel
theorem dX6_beside_64 : decode cX6_beside 64 = .ok (.if_icmp .ne 6, 3) := by decide +kernel
theorem dX6_beside_67 : decode cX6_beside 67 = .ok (.bipush (-3), 2) := by decide +kernel
theorem dX6_beside_69 : decode cX6_beside 69 = .ok (.ireturn, 1) := by decide +kernel
theorem dX6_beside_70 : decode cX6_beside 70 = .ok (.aload_n 0, 1) := by decide +kernel
theorem dX6_beside_71 : decode cX6_beside 71 = .ok (.iload_n 3, 1) := by decide +kernel
theorem dX6_beside_72 : decode cX6_beside 72 = .ok (.invokevirtual 46, 3) := by decide +kernel
theorem dX6_beside_75 : decode cX6_beside 75 = .ok (.istore 5, 2) := by decide +kernel
theorem dX6_beside_77 : decode cX6_beside 77 = .ok (.iload_n 1, 1) := by decide +kernel
theorem dX6_beside_78 : decode cX6_beside 78 = .ok (.iconst 1, 1) := by decide +kernel
theorem dX6_beside_79 : decode cX6_beside 79 = .ok (.if_icmp .ne 11, 3) := by decide +kernel
theorem dX6_beside_82 : decode cX6_beside 82 = .ok (.aload_n 0, 1) := by decide +kernel
theorem dX6_beside_83 : decode cX6_beside 83 = .ok (.iload_n 3, 1) := by decide +kernel
theorem dX6_beside_84 : decode cX6_beside 84 = .ok (.invokevirtual 49, 3) := by decide +kernel
theorem dX6_beside_87 : decode cX6_beside 87 = .ok (.goto 4, 3) := by decide +kernel
theorem dX6_beside_90 : decode cX6_beside 90 = .ok (.iload_n 3, 1) := by decide +kernel
theorem dX6_beside_91 : decode cX6_beside 91 = .ok (.istore 6, 2) := by decide +kernel
theorem dX6_beside_93 : decode cX6_beside 93 = .ok (.aload_n 0, 1) := by decide +kernel
theorem dX6_beside_94 : decode cX6_beside 94 = .ok (.iload 6, 2) := by decide +kernel
theorem dX6_beside_96 : decode cX6_beside 96 = .ok (.iconst 1, 1) := by decide +kernel
theorem dX6_beside_97 : decode cX6_beside 97 = .ok (.invokevirtual 86, 3) := by decide +kernel
theorem dX6_beside_100 : decode cX6_beside 100 = .ok (.aload_n 0, 1) := by decide +kernel
theorem dX6_beside_101 : decode cX6_beside 101 = .ok (.iload 6, 2) := by decide +kernel
theorem dX6_beside_103 : decode cX6_beside 103 = .ok (.iload_n 2, 1) := by decide +kernel
theorem dX6_beside_104 : decode cX6_beside 104 = .ok (.iload 5, 2) := by decide +kernel
theorem dX6_beside_106 : decode cX6_beside 106 = .ok (.invokevirtual 90, 3) := by decide +kernel
theorem dX6_beside_109 : decode cX6_beside 109 = .ok (.aload_n 0, 1) := by decide +kernel
theorem dX6_beside_110 : decode cX6_beside 110 = .ok (.aload_n 0, 1) := by decide +kernel
theorem dX6_beside_111 : decode cX6_beside 111 = .ok (.iload 4, 2) := by decide +kernel
theorem dX6_beside_113 : decode cX6_beside 113 = .ok (.invokevirtual 62, 3) := by decide +kernel
theorem dX6_beside_116 : decode cX6_beside 116 = .ok (.invokevirtual 72, 3) := by decide +kernel
theorem dX6_beside_119 : decode cX6_beside 119 = .ok (.ireturn, 1) := by decide +kernel
theorem dX6_goes_0 : decode cX6_goes 0 = .ok (.aload_n 0, 1) := by decide +kernel
theorem dX6_goes_1 : decode cX6_goes 1 = .ok (.invokevirtual 58, 3) := by decide +kernel
theorem dX6_goes_4 : decode cX6_goes 4 = .ok (.istore_n 1, 1) := by decide +kernel
theorem dX6_goes_5 : decode cX6_goes 5 = .ok (.aload_n 0, 1) := by decide +kernel
theorem dX6_goes_6 : decode cX6_goes 6 = .ok (.iload_n 1, 1) := by decide +kernel
theorem dX6_goes_7 : decode cX6_goes 7 = .ok (.invokevirtual 49, 3) := by decide +kernel
theorem dX6_goes_10 : decode cX6_goes 10 = .ok (.iload_n 1, 1) := by decide +kernel
theorem dX6_goes_11 : decode cX6_goes 11 = .ok (.isub, 1) := by decide +kernel
theorem dX6_goes_12 : decode cX6_goes 12 = .ok (.istore_n 2, 1) := by decide +kernel
theorem dX6_goes_13 : decode cX6_goes 13 = .ok (.aload_n 0, 1) := by decide +kernel
theorem dX6_goes_14 : decode cX6_goes 14 = .ok (.iload_n 1, 1) := by decide +kernel
theorem dX6_goes_15 : decode cX6_goes 15 = .ok (.iconst 1, 1) := by decide +kernel
theorem dX6_goes_16 : decode cX6_goes 16 = .ok (.invokevirtual 75, 3) := by decide +kernel
theorem dX6_goes_19 : decode cX6_goes 19 = .ok (.istore_n 3, 1) := by decide +kernel
theorem dX6_goes_20 : decode cX6_goes 20 = .ok (.iload_n 3, 1) := by decide +kernel
theorem dX6_goes_21 : decode cX6_goes 21 = .ok (.ifCond .ge 12, 3) := by decide +kernel
theorem dX6_goes_24 : decode cX6_goes 24 = .ok (.aload_n 0, 1) := by decide +kernel
theorem dX6_goes_25 : decode cX6_goes 25 = .ok (.iload_n 1, 1) := by decide +kernel
theorem dX6_goes_26 : decode cX6_goes 26 = .ok (.iconst 0, 1) := by decide +kernel
theorem dX6_goes_27 : decode cX6_goes 27 = .ok (.invokevirtual 75, 3) := by decide +kernel
theorem dX6_goes_30 : decode cX6_goes 30 = .ok (.goto 4, 3) := by decide +kernel
theorem dX6_goes_33 : decode cX6_goes 33 = .ok (.iload_n 3, 1) := by decide +kernel
theorem dX6_goes_34 : decode cX6_goes 34 = .ok (.istore_n 3, 1) := by decide +kernel
theorem dX6_goes_35 : decode cX6_goes 35 = .ok (.iload_n 3, 1) := by decide +kernel
theorem dX6_goes_36 : decode cX6_goes 36 = .ok (.ifCond .ge 11, 3) := by decide +kernel
theorem dX6_goes_39 : decode cX6_goes 39 = .ok (.aload_n 0, 1) := by decide +kernel
theorem dX6_goes_40 : decode cX6_goes 40 = .ok (.iload_n 1, 1) := by decide +kernel
theorem dX6_goes_41 : decode cX6_goes 41 = .ok (.invokevirtual 52, 3) := by decide +kernel
theorem dX6_goes_44 : decode cX6_goes 44 = .ok (.goto 4, 3) := by decide +kernel
theorem dX6_goes_47 : decode cX6_goes 47 = .ok (.iload_n 3, 1) := by decide +kernel
theorem dX6_goes_48 : decode cX6_goes 48 = .ok (.istore_n 3, 1) := by decide +kernel
theorem dX6_goes_49 : decode cX6_goes 49 = .ok (.aload_n 0, 1) := by decide +kernel
theorem dX6_goes_50 : decode cX6_goes 50 = .ok (.getfield 7, 3) := by decide +kernel
theorem dX6_goes_53 : decode cX6_goes 53 = .ok (.iconst 2, 1) := by decide +kernel
theorem dX6_goes_54 : decode cX6_goes 54 = .ok (.aload_n 0, 1) := by decide +kernel
theorem dX6_goes_55 : decode cX6_goes 55 = .ok (.iload_n 3, 1) := by decide +kernel
theorem dX6_goes_56 : decode cX6_goes 56 = .ok (.invokevirtual 39, 3) := by decide +kernel
theorem dX6_goes_59 : decode cX6_goes 59 = .ok (.iastore, 1) := by decide +kernel
theorem dX6_goes_60 : decode cX6_goes 60 = .ok (.aload_n 0, 1) := by decide +kernel
theorem dX6_goes_61 : decode cX6_goes 61 = .ok (.iload_n 1, 1) := by decide +kernel
theorem dX6_goes_62 : decode cX6_goes 62 = .ok (.iload_n 2, 1) := by decide +kernel
theorem dX6_goes_63 : decode cX6_goes 63 = .ok (.invokevirtual 94, 3) := by decide +kernel
theorem dX6_goes_66 : decode cX6_goes 66 = .ok (.iload_n 2, 1) := by decide +kernel
theorem dX6_goes_67 : decode cX6_goes 67 = .ok (.ireturn, 1) := by decide +kernel
theorem dX6_clips_0 : decode cX6_clips 0 = .ok (.aload_n 0, 1) := by decide +kernel
theorem dX6_clips_1 : decode cX6_clips 1 = .ok (.invokevirtual 58, 3) := by decide +kernel
theorem dX6_clips_4 : decode cX6_clips 4 = .ok (.istore_n 1, 1) := by decide +kernel
theorem dX6_clips_5 : decode cX6_clips 5 = .ok (.aload_n 0, 1) := by decide +kernel
theorem dX6_clips_6 : decode cX6_clips 6 = .ok (.getfield 7, 3) := by decide +kernel
theorem dX6_clips_9 : decode cX6_clips 9 = .ok (.iconst 4, 1) := by decide +kernel
theorem dX6_clips_10 : decode cX6_clips 10 = .ok (.aload_n 0, 1) := by decide +kernel
theorem dX6_clips_11 : decode cX6_clips 11 = .ok (.iload_n 1, 1) := by decide +kernel
theorem dX6_clips_12 : decode cX6_clips 12 = .ok (.invokevirtual 49, 3) := by decide +kernel
theorem dX6_clips_15 : decode cX6_clips 15 = .ok (.iload_n 1, 1) := by decide +kernel
theorem dX6_clips_16 : decode cX6_clips 16 = .ok (.isub, 1) := by decide +kernel
theorem dX6_clips_17 : decode cX6_clips 17 = .ok (.iastore, 1) := by decide +kernel
theorem dX6_clips_18 : decode cX6_clips 18 = .ok (.iconst 0, 1) := by decide +kernel
theorem dX6_clips_19 : decode cX6_clips 19 = .ok (.istore_n 2, 1) := by decide +kernel
theorem dX6_clips_20 : decode cX6_clips 20 = .ok (.iload_n 2, 1) := by decide +kernel
theorem dX6_clips_21 : decode cX6_clips 21 = .ok (.aload_n 0, 1) := by decide +kernel
theorem dX6_clips_22 : decode cX6_clips 22 = .ok (.getfield 7, 3) := by decide +kernel
theorem dX6_clips_25 : decode cX6_clips 25 = .ok (.iconst 4, 1) := by decide +kernel
theorem dX6_clips_26 : decode cX6_clips 26 = .ok (.iaload, 1) := by decide +kernel
theorem dX6_clips_27 : decode cX6_clips 27 = .ok (.if_icmp .ge 55, 3) := by decide +kernel
theorem dX6_clips_30 : decode cX6_clips 30 = .ok (.aload_n 0, 1) := by decide +kernel
theorem dX6_clips_31 : decode cX6_clips 31 = .ok (.getfield 7, 3) := by decide +kernel
theorem dX6_clips_34 : decode cX6_clips 34 = .ok (.sipush 138, 3) := by decide +kernel
theorem dX6_clips_37 : decode cX6_clips 37 = .ok (.iconst 2, 1) := by decide +kernel
theorem dX6_clips_38 : decode cX6_clips 38 = .ok (.iload_n 2, 1) := by decide +kernel
theorem dX6_clips_39 : decode cX6_clips 39 = .ok (.imul, 1) := by decide +kernel
theorem dX6_clips_40 : decode cX6_clips 40 = .ok (.iadd, 1) := by decide +kernel
theorem dX6_clips_41 : decode cX6_clips 41 = .ok (.aload_n 0, 1) := by decide +kernel
theorem dX6_clips_42 : decode cX6_clips 42 = .ok (.iload_n 1, 1) := by decide +kernel
theorem dX6_clips_43 : decode cX6_clips 43 = .ok (.iload_n 2, 1) := by decide +kernel
theorem dX6_clips_44 : decode cX6_clips 44 = .ok (.iadd, 1) := by decide +kernel
theorem dX6_clips_45 : decode cX6_clips 45 = .ok (.invokevirtual 83, 3) := by decide +kernel
theorem dX6_clips_48 : decode cX6_clips 48 = .ok (.iastore, 1) := by decide +kernel
theorem dX6_clips_49 : decode cX6_clips 49 = .ok (.aload_n 0, 1) := by decide +kernel
theorem dX6_clips_50 : decode cX6_clips 50 = .ok (.getfield 7, 3) := by decide +kernel
theorem dX6_clips_53 : decode cX6_clips 53 = .ok (.sipush 138, 3) := by decide +kernel
theorem dX6_clips_56 : decode cX6_clips 56 = .ok (.iconst 2, 1) := by decide +kernel
theorem dX6_clips_57 : decode cX6_clips 57 = .ok (.iload_n 2, 1) := by decide +kernel
theorem dX6_clips_58 : decode cX6_clips 58 = .ok (.imul, 1) := by decide +kernel
theorem dX6_clips_59 : decode cX6_clips 59 = .ok (.iadd, 1) := by decide +kernel
theorem dX6_clips_60 : decode cX6_clips 60 = .ok (.iconst 1, 1) := by decide +kernel
theorem dX6_clips_61 : decode cX6_clips 61 = .ok (.iadd, 1) := by decide +kernel
theorem dX6_clips_62 : decode cX6_clips 62 = .ok (.aload_n 0, 1) := by decide +kernel
theorem dX6_clips_63 : decode cX6_clips 63 = .ok (.iload_n 1, 1) := by decide +kernel
theorem dX6_clips_64 : decode cX6_clips 64 = .ok (.iload_n 2, 1) := by decide +kernel
theorem dX6_clips_65 : decode cX6_clips 65 = .ok (.iadd, 1) := by decide +kernel
theorem dX6_clips_66 : decode cX6_clips 66 = .ok (.invokevirtual 46, 3) := by decide +kernel
theorem dX6_clips_69 : decode cX6_clips 69 = .ok (.aload_n 0, 1) := by decide +kernel
theorem dX6_clips_70 : decode cX6_clips 70 = .ok (.iload_n 1, 1) := by decide +kernel
theorem dX6_clips_71 : decode cX6_clips 71 = .ok (.invokevirtual 46, 3) := by decide +kernel
theorem dX6_clips_74 : decode cX6_clips 74 = .ok (.isub, 1) := by decide +kernel
theorem dX6_clips_75 : decode cX6_clips 75 = .ok (.iastore, 1) := by decide +kernel
theorem dX6_clips_76 : decode cX6_clips 76 = .ok (.iinc 2 1, 3) := by decide +kernel
theorem dX6_clips_79 : decode cX6_clips 79 = .ok (.goto (-59), 3) := by decide +kernel
theorem dX6_clips_82 : decode cX6_clips 82 = .ok (.return_, 1) := by decide +kernel
theorem dX6_forgets_0 : decode cX6_forgets 0 = .ok (.iconst 0, 1) := by decide +kernel
theorem dX6_forgets_1 : decode cX6_forgets 1 = .ok (.istore_n 1, 1) := by decide +kernel
theorem dX6_forgets_2 : decode cX6_forgets 2 = .ok (.iload_n 1, 1) := by decide +kernel
theorem dX6_forgets_3 : decode cX6_forgets 3 = .ok (.iconst 4, 1) := by decide +kernel
theorem dX6_forgets_4 : decode cX6_forgets 4 = .ok (.if_icmp .ge 44, 3) := by decide +kernel
theorem dX6_forgets_7 : decode cX6_forgets 7 = .ok (.aload_n 0, 1) := by decide +kernel
theorem dX6_forgets_8 : decode cX6_forgets 8 = .ok (.getfield 7, 3) := by decide +kernel
theorem dX6_forgets_11 : decode cX6_forgets 11 = .ok (.iconst 5, 1) := by decide +kernel
theorem dX6_forgets_12 : decode cX6_forgets 12 = .ok (.iload_n 1, 1) := by decide +kernel
theorem dX6_forgets_13 : decode cX6_forgets 13 = .ok (.iadd, 1) := by decide +kernel
theorem dX6_forgets_14 : decode cX6_forgets 14 = .ok (.aload_n 0, 1) := by decide +kernel
theorem dX6_forgets_15 : decode cX6_forgets 15 = .ok (.aload_n 0, 1) := by decide +kernel
theorem dX6_forgets_16 : decode cX6_forgets 16 = .ok (.getfield 7, 3) := by decide +kernel
theorem dX6_forgets_19 : decode cX6_forgets 19 = .ok (.iconst 5, 1) := by decide +kernel
theorem dX6_forgets_20 : decode cX6_forgets 20 = .ok (.iload_n 1, 1) := by decide +kernel
theorem dX6_forgets_21 : decode cX6_forgets 21 = .ok (.iadd, 1) := by decide +kernel
theorem dX6_forgets_22 : decode cX6_forgets 22 = .ok (.iaload, 1) := by decide +kernel
theorem dX6_forgets_23 : decode cX6_forgets 23 = .ok (.invokevirtual 43, 3) := by decide +kernel
theorem dX6_forgets_26 : decode cX6_forgets 26 = .ok (.ifCond .ge 7, 3) := by decide +kernel
theorem dX6_forgets_29 : decode cX6_forgets 29 = .ok (.iconst (-1), 1) := by decide +kernel
theorem dX6_forgets_30 : decode cX6_forgets 30 = .ok (.goto 11, 3) := by decide +kernel
theorem dX6_forgets_33 : decode cX6_forgets 33 = .ok (.aload_n 0, 1) := by decide +kernel
theorem dX6_forgets_34 : decode cX6_forgets 34 = .ok (.getfield 7, 3) := by decide +kernel
theorem dX6_forgets_37 : decode cX6_forgets 37 = .ok (.iconst 5, 1) := by decide +kernel
theorem dX6_forgets_38 : decode cX6_forgets 38 = .ok (.iload_n 1, 1) := by decide +kernel
theorem dX6_forgets_39 : decode cX6_forgets 39 = .ok (.iadd, 1) := by decide +kernel
theorem dX6_forgets_40 : decode cX6_forgets 40 = .ok (.iaload, 1) := by decide +kernel
theorem dX6_forgets_41 : decode cX6_forgets 41 = .ok (.iastore, 1) := by decide +kernel
theorem dX6_forgets_42 : decode cX6_forgets 42 = .ok (.iinc 1 1, 3) := by decide +kernel
theorem dX6_forgets_45 : decode cX6_forgets 45 = .ok (.goto (-43), 3) := by decide +kernel
theorem dX6_forgets_48 : decode cX6_forgets 48 = .ok (.return_, 1) := by decide +kernel
theorem dX6_delete_0 : decode cX6_delete 0 = .ok (.aload_n 0, 1) := by decide +kernel
theorem dX6_delete_1 : decode cX6_delete 1 = .ok (.invokevirtual 55, 3) := by decide +kernel
theorem dX6_delete_4 : decode cX6_delete 4 = .ok (.aload_n 0, 1) := by decide +kernel
theorem dX6_delete_5 : decode cX6_delete 5 = .ok (.aload_n 0, 1) := by decide +kernel
theorem dX6_delete_6 : decode cX6_delete 6 = .ok (.invokevirtual 58, 3) := by decide +kernel
theorem dX6_delete_9 : decode cX6_delete 9 = .ok (.invokevirtual 46, 3) := by decide +kernel
theorem dX6_delete_12 : decode cX6_delete 12 = .ok (.ifCond .ne 6, 3) := by decide +kernel
theorem dX6_delete_15 : decode cX6_delete 15 = .ok (.bipush (-2), 2) := by decide +kernel
theorem dX6_delete_17 : decode cX6_delete 17 = .ok (.ireturn, 1) := by decide +kernel
theorem dX6_delete_18 : decode cX6_delete 18 = .ok (.aload_n 0, 1) := by decide +kernel
theorem dX6_delete_19 : decode cX6_delete 19 = .ok (.invokevirtual 97, 3) := by decide +kernel
theorem dX6_delete_22 : decode cX6_delete 22 = .ok (.istore_n 1, 1) := by decide +kernel
theorem dX6_delete_23 : decode cX6_delete 23 = .ok (.aload_n 0, 1) := by decide +kernel
theorem dX6_delete_24 : decode cX6_delete 24 = .ok (.invokevirtual 100, 3) := by decide +kernel
theorem dX6_delete_27 : decode cX6_delete 27 = .ok (.aload_n 0, 1) := by decide +kernel
theorem dX6_delete_28 : decode cX6_delete 28 = .ok (.iload_n 1, 1) := by decide +kernel
theorem dX6_delete_29 : decode cX6_delete 29 = .ok (.invokevirtual 72, 3) := by decide +kernel
theorem dX6_delete_32 : decode cX6_delete 32 = .ok (.ireturn, 1) := by decide +kernel
theorem dX6_cut_0 : decode cX6_cut 0 = .ok (.aload_n 0, 1) := by decide +kernel
theorem dX6_cut_1 : decode cX6_cut 1 = .ok (.invokevirtual 55, 3) := by decide +kernel
theorem dX6_cut_4 : decode cX6_cut 4 = .ok (.aload_n 0, 1) := by decide +kernel
theorem dX6_cut_5 : decode cX6_cut 5 = .ok (.aload_n 0, 1) := by decide +kernel
theorem dX6_cut_6 : decode cX6_cut 6 = .ok (.invokevirtual 58, 3) := by decide +kernel
theorem dX6_cut_9 : decode cX6_cut 9 = .ok (.invokevirtual 46, 3) := by decide +kernel
theorem dX6_cut_12 : decode cX6_cut 12 = .ok (.ifCond .ne 6, 3) := by decide +kernel
theorem dX6_cut_15 : decode cX6_cut 15 = .ok (.bipush (-2), 2) := by decide +kernel
theorem dX6_cut_17 : decode cX6_cut 17 = .ok (.ireturn, 1) := by decide +kernel
theorem dX6_cut_18 : decode cX6_cut 18 = .ok (.aload_n 0, 1) := by decide +kernel
theorem dX6_cut_19 : decode cX6_cut 19 = .ok (.invokevirtual 103, 3) := by decide +kernel
theorem dX6_cut_22 : decode cX6_cut 22 = .ok (.aload_n 0, 1) := by decide +kernel
theorem dX6_cut_23 : decode cX6_cut 23 = .ok (.invokevirtual 97, 3) := by decide +kernel
theorem dX6_cut_26 : decode cX6_cut 26 = .ok (.istore_n 1, 1) := by decide +kernel
theorem dX6_cut_27 : decode cX6_cut 27 = .ok (.aload_n 0, 1) := by decide +kernel
theorem dX6_cut_28 : decode cX6_cut 28 = .ok (.invokevirtual 100, 3) := by decide +kernel
theorem dX6_cut_31 : decode cX6_cut 31 = .ok (.aload_n 0, 1) := by decide +kernel
theorem dX6_cut_32 : decode cX6_cut 32 = .ok (.iload_n 1, 1) := by decide +kernel
theorem dX6_cut_33 : decode cX6_cut 33 = .ok (.invokevirtual 72, 3) := by decide +kernel
theorem dX6_cut_36 : decode cX6_cut 36 = .ok (.ireturn, 1) := by decide +kernel
theorem dX6_copy_0 : decode cX6_copy 0 = .ok (.aload_n 0, 1) := by decide +kernel
theorem dX6_copy_1 : decode cX6_copy 1 = .ok (.invokevirtual 55, 3) := by decide +kernel
theorem dX6_copy_4 : decode cX6_copy 4 = .ok (.aload_n 0, 1) := by decide +kernel
theorem dX6_copy_5 : decode cX6_copy 5 = .ok (.invokevirtual 103, 3) := by decide +kernel
theorem dX6_copy_8 : decode cX6_copy 8 = .ok (.aload_n 0, 1) := by decide +kernel
theorem dX6_copy_9 : decode cX6_copy 9 = .ok (.aload_n 0, 1) := by decide +kernel
theorem dX6_copy_10 : decode cX6_copy 10 = .ok (.getfield 7, 3) := by decide +kernel
theorem dX6_copy_13 : decode cX6_copy 13 = .ok (.iconst 4, 1) := by decide +kernel
theorem dX6_copy_14 : decode cX6_copy 14 = .ok (.iaload, 1) := by decide +kernel
theorem dX6_copy_15 : decode cX6_copy 15 = .ok (.invokevirtual 72, 3) := by decide +kernel
theorem dX6_copy_18 : decode cX6_copy 18 = .ok (.ireturn, 1) := by decide +kernel
theorem dX6_wrap_0 : decode cX6_wrap 0 = .ok (.aload_n 0, 1) := by decide +kernel
theorem dX6_wrap_1 : decode cX6_wrap 1 = .ok (.invokevirtual 55, 3) := by decide +kernel
theorem dX6_wrap_4 : decode cX6_wrap 4 = .ok (.iload_n 1, 1) := by decide +kernel
theorem dX6_wrap_5 : decode cX6_wrap 5 = .ok (.iconst 0, 1) := by decide +kernel
theorem dX6_wrap_6 : decode cX6_wrap 6 = .ok (.bipush 25, 2) := by decide +kernel
theorem dX6_wrap_8 : decode cX6_wrap 8 = .ok (.invokestatic 35, 3) := by decide +kernel
theorem dX6_wrap_11 : decode cX6_wrap 11 = .ok (.ifCond .ne 5, 3) := by decide +kernel
theorem dX6_wrap_14 : decode cX6_wrap 14 = .ok (.iconst (-1), 1) := by decide +kernel
theorem dX6_wrap_15 : decode cX6_wrap 15 = .ok (.ireturn, 1) := by decide +kernel
theorem dX6_wrap_16 : decode cX6_wrap 16 = .ok (.aload_n 0, 1) := by decide +kernel
theorem dX6_wrap_17 : decode cX6_wrap 17 = .ok (.invokevirtual 58, 3) := by decide +kernel
theorem dX6_wrap_20 : decode cX6_wrap 20 = .ok (.istore_n 2, 1) := by decide +kernel
theorem dX6_wrap_21 : decode cX6_wrap 21 = .ok (.aload_n 0, 1) := by decide +kernel
theorem dX6_wrap_22 : decode cX6_wrap 22 = .ok (.iload_n 2, 1) := by decide +kernel
theorem dX6_wrap_23 : decode cX6_wrap 23 = .ok (.invokevirtual 46, 3) := by decide +kernel
theorem dX6_wrap_26 : decode cX6_wrap 26 = .ok (.istore_n 3, 1) := by decide +kernel
theorem dX6_wrap_27 : decode cX6_wrap 27 = .ok (.aload_n 0, 1) := by decide +kernel
theorem dX6_wrap_28 : decode cX6_wrap 28 = .ok (.getfield 7, 3) := by decide +kernel
theorem dX6_wrap_31 : decode cX6_wrap 31 = .ok (.iconst 0, 1) := by decide +kernel
theorem dX6_wrap_32 : decode cX6_wrap 32 = .ok (.iaload, 1) := by decide +kernel
theorem dX6_wrap_33 : decode cX6_wrap 33 = .ok (.bipush 40, 2) := by decide +kernel
theorem dX6_wrap_35 : decode cX6_wrap 35 = .ok (.if_icmp .eq 15, 3) := by decide +kernel
theorem dX6_wrap_38 : decode cX6_wrap 38 = .ok (.iload_n 3, 1) := by decide +kernel
theorem dX6_wrap_39 : decode cX6_wrap 39 = .ok (.aload_n 0, 1) := by decide +kernel
theorem dX6_wrap_40 : decode cX6_wrap 40 = .ok (.iload_n 2, 1) := by decide +kernel
theorem dX6_wrap_41 : decode cX6_wrap 41 = .ok (.invokevirtual 106, 3) := by decide +kernel
theorem dX6_wrap_44 : decode cX6_wrap 44 = .ok (.iadd, 1) := by decide +kernel
theorem dX6_wrap_45 : decode cX6_wrap 45 = .ok (.bipush 7, 2) := by decide +kernel
theorem dX6_wrap_47 : decode cX6_wrap 47 = .ok (.if_icmp .ne 6, 3) := by decide +kernel
theorem dX6_wrap_50 : decode cX6_wrap 50 = .ok (.bipush (-3), 2) := by decide +kernel
theorem dX6_wrap_52 : decode cX6_wrap 52 = .ok (.ireturn, 1) := by decide +kernel
theorem dX6_wrap_53 : decode cX6_wrap 53 = .ok (.aload_n 0, 1) := by decide +kernel
theorem dX6_wrap_54 : decode cX6_wrap 54 = .ok (.iload_n 2, 1) := by decide +kernel
theorem dX6_wrap_55 : decode cX6_wrap 55 = .ok (.aload_n 0, 1) := by decide +kernel
theorem dX6_wrap_56 : decode cX6_wrap 56 = .ok (.iload_n 2, 1) := by decide +kernel
theorem dX6_wrap_57 : decode cX6_wrap 57 = .ok (.invokevirtual 49, 3) := by decide +kernel
theorem dX6_wrap_60 : decode cX6_wrap 60 = .ok (.iconst 1, 1) := by decide +kernel
theorem dX6_wrap_61 : decode cX6_wrap 61 = .ok (.invokevirtual 109, 3) := by decide +kernel
theorem dX6_wrap_64 : decode cX6_wrap 64 = .ok (.aload_n 0, 1) := by decide +kernel
theorem dX6_wrap_65 : decode cX6_wrap 65 = .ok (.iload_n 2, 1) := by decide +kernel
theorem dX6_wrap_66 : decode cX6_wrap 66 = .ok (.iconst 1, 1) := by decide +kernel
theorem dX6_wrap_67 : decode cX6_wrap 67 = .ok (.invokevirtual 86, 3) := by decide +kernel
theorem dX6_wrap_70 : decode cX6_wrap 70 = .ok (.aload_n 0, 1) := by decide +kernel
theorem dX6_wrap_71 : decode cX6_wrap 71 = .ok (.iload_n 2, 1) := by decide +kernel
theorem dX6_wrap_72 : decode cX6_wrap 72 = .ok (.iload_n 1, 1) := by decide +kernel
theorem dX6_wrap_73 : decode cX6_wrap 73 = .ok (.iload_n 3, 1) := by decide +kernel
theorem dX6_wrap_74 : decode cX6_wrap 74 = .ok (.invokevirtual 90, 3) := by decide +kernel
theorem dX6_wrap_77 : decode cX6_wrap 77 = .ok (.aload_n 0, 1) := by decide +kernel
theorem dX6_wrap_78 : decode cX6_wrap 78 = .ok (.getfield 7, 3) := by decide +kernel
theorem dX6_wrap_81 : decode cX6_wrap 81 = .ok (.iconst 2, 1) := by decide +kernel
theorem dX6_wrap_82 : decode cX6_wrap 82 = .ok (.aload_n 0, 1) := by decide +kernel
theorem dX6_wrap_83 : decode cX6_wrap 83 = .ok (.iload_n 2, 1) := by decide +kernel
theorem dX6_wrap_84 : decode cX6_wrap 84 = .ok (.invokevirtual 39, 3) := by decide +kernel
theorem dX6_wrap_87 : decode cX6_wrap 87 = .ok (.iastore, 1) := by decide +kernel
theorem dX6_wrap_88 : decode cX6_wrap 88 = .ok (.aload_n 0, 1) := by decide +kernel
theorem dX6_wrap_89 : decode cX6_wrap 89 = .ok (.aload_n 0, 1) := by decide +kernel
theorem dX6_wrap_90 : decode cX6_wrap 90 = .ok (.getfield 7, 3) := by decide +kernel
theorem dX6_wrap_93 : decode cX6_wrap 93 = .ok (.iconst 0, 1) := by decide +kernel
theorem dX6_wrap_94 : decode cX6_wrap 94 = .ok (.iaload, 1) := by decide +kernel
theorem dX6_wrap_95 : decode cX6_wrap 95 = .ok (.invokevirtual 72, 3) := by decide +kernel
theorem dX6_wrap_98 : decode cX6_wrap 98 = .ok (.ireturn, 1) := by decide +kernel
theorem dX6_lift_0 : decode cX6_lift 0 = .ok (.aload_n 0, 1) := by decide +kernel
theorem dX6_lift_1 : decode cX6_lift 1 = .ok (.invokevirtual 55, 3) := by decide +kernel
theorem dX6_lift_4 : decode cX6_lift 4 = .ok (.aload_n 0, 1) := by decide +kernel
theorem dX6_lift_5 : decode cX6_lift 5 = .ok (.invokevirtual 58, 3) := by decide +kernel
theorem dX6_lift_8 : decode cX6_lift 8 = .ok (.istore_n 1, 1) := by decide +kernel
theorem dX6_lift_9 : decode cX6_lift 9 = .ok (.aload_n 0, 1) := by decide +kernel
theorem dX6_lift_10 : decode cX6_lift 10 = .ok (.iload_n 1, 1) := by decide +kernel
theorem dX6_lift_11 : decode cX6_lift 11 = .ok (.invokevirtual 62, 3) := by decide +kernel
theorem dX6_lift_14 : decode cX6_lift 14 = .ok (.istore_n 2, 1) := by decide +kernel
theorem dX6_lift_15 : decode cX6_lift 15 = .ok (.aload_n 0, 1) := by decide +kernel
theorem dX6_lift_16 : decode cX6_lift 16 = .ok (.iload_n 1, 1) := by decide +kernel
theorem dX6_lift_17 : decode cX6_lift 17 = .ok (.invokevirtual 52, 3) := by decide +kernel
theorem dX6_lift_20 : decode cX6_lift 20 = .ok (.istore_n 3, 1) := by decide +kernel
theorem dX6_lift_21 : decode cX6_lift 21 = .ok (.iload_n 3, 1) := by decide +kernel
theorem dX6_lift_22 : decode cX6_lift 22 = .ok (.ifCond .ge 11, 3) := by decide +kernel
theorem dX6_lift_25 : decode cX6_lift 25 = .ok (.iload_n 2, 1) := by decide +kernel
theorem dX6_lift_26 : decode cX6_lift 26 = .ok (.iconst 1, 1) := by decide +kernel
theorem dX6_lift_27 : decode cX6_lift 27 = .ok (.if_icmp .eq 6, 3) := by decide +kernel
theorem dX6_lift_30 : decode cX6_lift 30 = .ok (.bipush (-2), 2) := by decide +kernel
theorem dX6_lift_32 : decode cX6_lift 32 = .ok (.ireturn, 1) := by decide +kernel
theorem dX6_lift_33 : decode cX6_lift 33 = .ok (.iload_n 3, 1) := by decide +kernel
theorem dX6_lift_34 : decode cX6_lift 34 = .ok (.ifCond .lt 20, 3) := by decide +kernel
theorem dX6_lift_37 : decode cX6_lift 37 = .ok (.aload_n 0, 1) := by decide +kernel
theorem dX6_lift_38 : decode cX6_lift 38 = .ok (.iload_n 3, 1) := by decide +kernel
theorem dX6_lift_39 : decode cX6_lift 39 = .ok (.invokevirtual 62, 3) := by decide +kernel
theorem dX6_lift_42 : decode cX6_lift 42 = .ok (.iconst 1, 1) := by decide +kernel
theorem dX6_lift_43 : decode cX6_lift 43 = .ok (.isub, 1) := by decide +kernel
theorem dX6_lift_44 : decode cX6_lift 44 = .ok (.iload_n 2, 1) := by decide +kernel
theorem dX6_lift_45 : decode cX6_lift 45 = .ok (.iadd, 1) := by decide +kernel
theorem dX6_lift_46 : decode cX6_lift 46 = .ok (.bipush 6, 2) := by decide +kernel
theorem dX6_lift_48 : decode cX6_lift 48 = .ok (.if_icmp .le 6, 3) := by decide +kernel
theorem dX6_lift_51 : decode cX6_lift 51 = .ok (.bipush (-3), 2) := by decide +kernel
theorem dX6_lift_53 : decode cX6_lift 53 = .ok (.ireturn, 1) := by decide +kernel
theorem dX6_lift_54 : decode cX6_lift 54 = .ok (.iload_n 2, 1) := by decide +kernel
theorem dX6_lift_55 : decode cX6_lift 55 = .ok (.ifCond .ne 12, 3) := by decide +kernel
theorem dX6_lift_58 : decode cX6_lift 58 = .ok (.aload_n 0, 1) := by decide +kernel
theorem dX6_lift_59 : decode cX6_lift 59 = .ok (.invokevirtual 97, 3) := by decide +kernel
theorem dX6_lift_62 : decode cX6_lift 62 = .ok (.istore 4, 2) := by decide +kernel
theorem dX6_lift_64 : decode cX6_lift 64 = .ok (.goto 35, 3) := by decide +kernel
theorem dX6_lift_67 : decode cX6_lift 67 = .ok (.aload_n 0, 1) := by decide +kernel
theorem dX6_lift_68 : decode cX6_lift 68 = .ok (.getfield 7, 3) := by decide +kernel
theorem dX6_lift_71 : decode cX6_lift 71 = .ok (.iconst 2, 1) := by decide +kernel
theorem dX6_lift_72 : decode cX6_lift 72 = .ok (.aload_n 0, 1) := by decide +kernel
theorem dX6_lift_73 : decode cX6_lift 73 = .ok (.iload_n 1, 1) := by decide +kernel
theorem dX6_lift_74 : decode cX6_lift 74 = .ok (.iconst 1, 1) := by decide +kernel
theorem dX6_lift_75 : decode cX6_lift 75 = .ok (.iadd, 1) := by decide +kernel
theorem dX6_lift_76 : decode cX6_lift 76 = .ok (.invokevirtual 39, 3) := by decide +kernel
theorem dX6_lift_79 : decode cX6_lift 79 = .ok (.iastore, 1) := by decide +kernel
theorem dX6_lift_80 : decode cX6_lift 80 = .ok (.aload_n 0, 1) := by decide +kernel
theorem dX6_lift_81 : decode cX6_lift 81 = .ok (.iload_n 1, 1) := by decide +kernel
theorem dX6_lift_82 : decode cX6_lift 82 = .ok (.iconst 1, 1) := by decide +kernel
theorem dX6_lift_83 : decode cX6_lift 83 = .ok (.iadd, 1) := by decide +kernel
theorem dX6_lift_84 : decode cX6_lift 84 = .ok (.aload_n 0, 1) := by decide +kernel
theorem dX6_lift_85 : decode cX6_lift 85 = .ok (.iload_n 1, 1) := by decide +kernel
theorem dX6_lift_86 : decode cX6_lift 86 = .ok (.invokevirtual 49, 3) := by decide +kernel
theorem dX6_lift_89 : decode cX6_lift 89 = .ok (.iconst (-1), 1) := by decide +kernel
theorem dX6_lift_90 : decode cX6_lift 90 = .ok (.invokevirtual 109, 3) := by decide +kernel
theorem dX6_lift_93 : decode cX6_lift 93 = .ok (.aload_n 0, 1) := by decide +kernel
theorem dX6_lift_94 : decode cX6_lift 94 = .ok (.iload_n 1, 1) := by decide +kernel
theorem dX6_lift_95 : decode cX6_lift 95 = .ok (.iconst 1, 1) := by decide +kernel
theorem dX6_lift_96 : decode cX6_lift 96 = .ok (.invokevirtual 94, 3) := by decide +kernel
theorem dX6_lift_99 : decode cX6_lift 99 = .ok (.aload_n 0, 1) := by decide +kernel
theorem dX6_lift_100 : decode cX6_lift 100 = .ok (.invokevirtual 100, 3) := by decide +kernel
theorem dX6_lift_103 : decode cX6_lift 103 = .ok (.aload_n 0, 1) := by decide +kernel
theorem dX6_lift_104 : decode cX6_lift 104 = .ok (.iload_n 2, 1) := by decide +kernel
theorem dX6_lift_105 : decode cX6_lift 105 = .ok (.invokevirtual 72, 3) := by decide +kernel
theorem dX6_lift_108 : decode cX6_lift 108 = .ok (.ireturn, 1) := by decide +kernel
theorem dX6_swaps_0 : decode cX6_swaps 0 = .ok (.iload_n 2, 1) := by decide +kernel
theorem dX6_swaps_1 : decode cX6_swaps 1 = .ok (.iload_n 1, 1) := by decide +kernel
theorem dX6_swaps_2 : decode cX6_swaps 2 = .ok (.isub, 1) := by decide +kernel
theorem dX6_swaps_3 : decode cX6_swaps 3 = .ok (.istore_n 3, 1) := by decide +kernel
theorem dX6_swaps_4 : decode cX6_swaps 4 = .ok (.aload_n 0, 1) := by decide +kernel
theorem dX6_swaps_5 : decode cX6_swaps 5 = .ok (.iload_n 2, 1) := by decide +kernel
theorem dX6_swaps_6 : decode cX6_swaps 6 = .ok (.invokevirtual 49, 3) := by decide +kernel
theorem dX6_swaps_9 : decode cX6_swaps 9 = .ok (.iload_n 1, 1) := by decide +kernel
theorem dX6_swaps_10 : decode cX6_swaps 10 = .ok (.isub, 1) := by decide +kernel
theorem dX6_swaps_11 : decode cX6_swaps 11 = .ok (.istore 4, 2) := by decide +kernel
theorem dX6_swaps_13 : decode cX6_swaps 13 = .ok (.iconst 0, 1) := by decide +kernel
theorem dX6_swaps_14 : decode cX6_swaps 14 = .ok (.istore 5, 2) := by decide +kernel
theorem dX6_swaps_16 : decode cX6_swaps 16 = .ok (.iload 5, 2) := by decide +kernel
theorem dX6_swaps_18 : decode cX6_swaps 18 = .ok (.iconst 3, 1) := by decide +kernel
theorem dX6_swaps_19 : decode cX6_swaps 19 = .ok (.iload 4, 2) := by decide +kernel
theorem dX6_swaps_21 : decode cX6_swaps 21 = .ok (.imul, 1) := by decide +kernel
theorem dX6_swaps_22 : decode cX6_swaps 22 = .ok (.if_icmp .ge 30, 3) := by decide +kernel
theorem dX6_swaps_25 : decode cX6_swaps 25 = .ok (.aload_n 0, 1) := by decide +kernel
theorem dX6_swaps_26 : decode cX6_swaps 26 = .ok (.getfield 19, 3) := by decide +kernel
theorem dX6_swaps_29 : decode cX6_swaps 29 = .ok (.iload 5, 2) := by decide +kernel
theorem dX6_swaps_31 : decode cX6_swaps 31 = .ok (.aload_n 0, 1) := by decide +kernel
theorem dX6_swaps_32 : decode cX6_swaps 32 = .ok (.getfield 7, 3) := by decide +kernel
theorem dX6_swaps_35 : decode cX6_swaps 35 = .ok (.bipush 18, 2) := by decide +kernel
theorem dX6_swaps_37 : decode cX6_swaps 37 = .ok (.iconst 3, 1) := by decide +kernel
theorem dX6_swaps_38 : decode cX6_swaps 38 = .ok (.iload_n 1, 1) := by decide +kernel
theorem dX6_swaps_39 : decode cX6_swaps 39 = .ok (.imul, 1) := by decide +kernel
theorem dX6_swaps_40 : decode cX6_swaps 40 = .ok (.iadd, 1) := by decide +kernel
theorem dX6_swaps_41 : decode cX6_swaps 41 = .ok (.iload 5, 2) := by decide +kernel
theorem dX6_swaps_43 : decode cX6_swaps 43 = .ok (.iadd, 1) := by decide +kernel
theorem dX6_swaps_44 : decode cX6_swaps 44 = .ok (.iaload, 1) := by decide +kernel
theorem dX6_swaps_45 : decode cX6_swaps 45 = .ok (.iastore, 1) := by decide +kernel
theorem dX6_swaps_46 : decode cX6_swaps 46 = .ok (.iinc 5 1, 3) := by decide +kernel
theorem dX6_swaps_49 : decode cX6_swaps 49 = .ok (.goto (-33), 3) := by decide +kernel
theorem dX6_swaps_52 : decode cX6_swaps 52 = .ok (.iconst 0, 1) := by decide +kernel
theorem dX6_swaps_53 : decode cX6_swaps 53 = .ok (.istore 5, 2) := by decide +kernel
theorem dX6_swaps_55 : decode cX6_swaps 55 = .ok (.iload 5, 2) := by decide +kernel
theorem dX6_swaps_57 : decode cX6_swaps 57 = .ok (.iconst 3, 1) := by decide +kernel
theorem dX6_swaps_58 : decode cX6_swaps 58 = .ok (.iload 4, 2) := by decide +kernel
theorem dX6_swaps_60 : decode cX6_swaps 60 = .ok (.imul, 1) := by decide +kernel
theorem dX6_swaps_61 : decode cX6_swaps 61 = .ok (.if_icmp .ge 39, 3) := by decide +kernel
theorem dX6_swaps_64 : decode cX6_swaps 64 = .ok (.aload_n 0, 1) := by decide +kernel
theorem dX6_swaps_65 : decode cX6_swaps 65 = .ok (.getfield 7, 3) := by decide +kernel
theorem dX6_swaps_68 : decode cX6_swaps 68 = .ok (.bipush 18, 2) := by decide +kernel
theorem dX6_swaps_70 : decode cX6_swaps 70 = .ok (.iconst 3, 1) := by decide +kernel
theorem dX6_swaps_71 : decode cX6_swaps 71 = .ok (.iload_n 1, 1) := by decide +kernel
theorem dX6_swaps_72 : decode cX6_swaps 72 = .ok (.imul, 1) := by decide +kernel
theorem dX6_swaps_73 : decode cX6_swaps 73 = .ok (.iadd, 1) := by decide +kernel
theorem dX6_swaps_74 : decode cX6_swaps 74 = .ok (.iload 5, 2) := by decide +kernel
theorem dX6_swaps_76 : decode cX6_swaps 76 = .ok (.iadd, 1) := by decide +kernel
theorem dX6_swaps_77 : decode cX6_swaps 77 = .ok (.aload_n 0, 1) := by decide +kernel
theorem dX6_swaps_78 : decode cX6_swaps 78 = .ok (.getfield 19, 3) := by decide +kernel
theorem dX6_swaps_81 : decode cX6_swaps 81 = .ok (.iload 5, 2) := by decide +kernel
theorem dX6_swaps_83 : decode cX6_swaps 83 = .ok (.iconst 3, 1) := by decide +kernel
theorem dX6_swaps_84 : decode cX6_swaps 84 = .ok (.iload_n 3, 1) := by decide +kernel
theorem dX6_swaps_85 : decode cX6_swaps 85 = .ok (.imul, 1) := by decide +kernel
theorem dX6_swaps_86 : decode cX6_swaps 86 = .ok (.iadd, 1) := by decide +kernel
theorem dX6_swaps_87 : decode cX6_swaps 87 = .ok (.iconst 3, 1) := by decide +kernel
theorem dX6_swaps_88 : decode cX6_swaps 88 = .ok (.iload 4, 2) := by decide +kernel
theorem dX6_swaps_90 : decode cX6_swaps 90 = .ok (.imul, 1) := by decide +kernel
theorem dX6_swaps_91 : decode cX6_swaps 91 = .ok (.irem, 1) := by decide +kernel
theorem dX6_swaps_92 : decode cX6_swaps 92 = .ok (.iaload, 1) := by decide +kernel
theorem dX6_swaps_93 : decode cX6_swaps 93 = .ok (.iastore, 1) := by decide +kernel
theorem dX6_swaps_94 : decode cX6_swaps 94 = .ok (.iinc 5 1, 3) := by decide +kernel
theorem dX6_swaps_97 : decode cX6_swaps 97 = .ok (.goto (-42), 3) := by decide +kernel
theorem dX6_swaps_100 : decode cX6_swaps 100 = .ok (.return_, 1) := by decide +kernel
theorem dX6_exchange_0 : decode cX6_exchange 0 = .ok (.aload_n 0, 1) := by decide +kernel
theorem dX6_exchange_1 : decode cX6_exchange 1 = .ok (.invokevirtual 55, 3) := by decide +kernel
theorem dX6_exchange_4 : decode cX6_exchange 4 = .ok (.iload_n 1, 1) := by decide +kernel
theorem dX6_exchange_5 : decode cX6_exchange 5 = .ok (.iconst 0, 1) := by decide +kernel
theorem dX6_exchange_6 : decode cX6_exchange 6 = .ok (.iconst 1, 1) := by decide +kernel
theorem dX6_exchange_7 : decode cX6_exchange 7 = .ok (.invokestatic 35, 3) := by decide +kernel
theorem dX6_exchange_10 : decode cX6_exchange 10 = .ok (.ifCond .ne 5, 3) := by decide +kernel
theorem dX6_exchange_13 : decode cX6_exchange 13 = .ok (.iconst (-1), 1) := by decide +kernel
theorem dX6_exchange_14 : decode cX6_exchange 14 = .ok (.ireturn, 1) := by decide +kernel
theorem dX6_exchange_15 : decode cX6_exchange 15 = .ok (.aload_n 0, 1) := by decide +kernel
theorem dX6_exchange_16 : decode cX6_exchange 16 = .ok (.invokevirtual 58, 3) := by decide +kernel
theorem dX6_exchange_19 : decode cX6_exchange 19 = .ok (.istore_n 2, 1) := by decide +kernel
theorem dX6_exchange_20 : decode cX6_exchange 20 = .ok (.aload_n 0, 1) := by decide +kernel
theorem dX6_exchange_21 : decode cX6_exchange 21 = .ok (.iload_n 2, 1) := by decide +kernel
theorem dX6_exchange_22 : decode cX6_exchange 22 = .ok (.iload_n 1, 1) := by decide +kernel
theorem dX6_exchange_23 : decode cX6_exchange 23 = .ok (.iconst 1, 1) := by decide +kernel
theorem dX6_exchange_24 : decode cX6_exchange 24 = .ok (.if_icmp .ne 7, 3) := by decide +kernel
theorem dX6_exchange_27 : decode cX6_exchange 27 = .ok (.iconst 1, 1) := by decide +kernel
theorem dX6_exchange_28 : decode cX6_exchange 28 = .ok (.goto 4, 3) := by decide +kernel
theorem dX6_exchange_31 : decode cX6_exchange 31 = .ok (.iconst 0, 1) := by decide +kernel
theorem dX6_exchange_32 : decode cX6_exchange 32 = .ok (.invokevirtual 75, 3) := by decide +kernel
theorem dX6_exchange_35 : decode cX6_exchange 35 = .ok (.istore_n 3, 1) := by decide +kernel
theorem dX6_exchange_36 : decode cX6_exchange 36 = .ok (.iload_n 3, 1) := by decide +kernel
theorem dX6_exchange_37 : decode cX6_exchange 37 = .ok (.ifCond .ge 6, 3) := by decide +kernel
theorem dX6_exchange_40 : decode cX6_exchange 40 = .ok (.bipush (-2), 2) := by decide +kernel
theorem dX6_exchange_42 : decode cX6_exchange 42 = .ok (.ireturn, 1) := by decide +kernel
theorem dX6_exchange_43 : decode cX6_exchange 43 = .ok (.aload_n 0, 1) := by decide +kernel
theorem dX6_exchange_44 : decode cX6_exchange 44 = .ok (.iload_n 2, 1) := by decide +kernel
theorem dX6_exchange_45 : decode cX6_exchange 45 = .ok (.iload_n 3, 1) := by decide +kernel
theorem dX6_exchange_46 : decode cX6_exchange 46 = .ok (.if_icmp .ge 7, 3) := by decide +kernel
theorem dX6_exchange_49 : decode cX6_exchange 49 = .ok (.iload_n 2, 1) := by decide +kernel
theorem dX6_exchange_50 : decode cX6_exchange 50 = .ok (.goto 4, 3) := by decide +kernel
theorem dX6_exchange_53 : decode cX6_exchange 53 = .ok (.iload_n 3, 1) := by decide +kernel
theorem dX6_exchange_54 : decode cX6_exchange 54 = .ok (.iload_n 2, 1) := by decide +kernel
theorem dX6_exchange_55 : decode cX6_exchange 55 = .ok (.iload_n 3, 1) := by decide +kernel
theorem dX6_exchange_56 : decode cX6_exchange 56 = .ok (.if_icmp .ge 7, 3) := by decide +kernel
theorem dX6_exchange_59 : decode cX6_exchange 59 = .ok (.iload_n 3, 1) := by decide +kernel
theorem dX6_exchange_60 : decode cX6_exchange 60 = .ok (.goto 4, 3) := by decide +kernel
theorem dX6_exchange_63 : decode cX6_exchange 63 = .ok (.iload_n 2, 1) := by decide +kernel
theorem dX6_exchange_64 : decode cX6_exchange 64 = .ok (.invokevirtual 112, 3) := by decide +kernel
theorem dX6_exchange_67 : decode cX6_exchange 67 = .ok (.aload_n 0, 1) := by decide +kernel
theorem dX6_exchange_68 : decode cX6_exchange 68 = .ok (.aload_n 0, 1) := by decide +kernel
theorem dX6_exchange_69 : decode cX6_exchange 69 = .ok (.aload_n 0, 1) := by decide +kernel
theorem dX6_exchange_70 : decode cX6_exchange 70 = .ok (.invokevirtual 58, 3) := by decide +kernel
theorem dX6_exchange_73 : decode cX6_exchange 73 = .ok (.invokevirtual 115, 3) := by decide +kernel
theorem dX6_exchange_76 : decode cX6_exchange 76 = .ok (.invokevirtual 72, 3) := by decide +kernel
theorem dX6_exchange_79 : decode cX6_exchange 79 = .ok (.ireturn, 1) := by decide +kernel
theorem dX6_clipHeight_0 : decode cX6_clipHeight 0 = .ok (.iconst 0, 1) := by decide +kernel
theorem dX6_clipHeight_1 : decode cX6_clipHeight 1 = .ok (.istore_n 1, 1) := by decide +kernel
theorem dX6_clipHeight_2 : decode cX6_clipHeight 2 = .ok (.iconst 0, 1) := by decide +kernel
theorem dX6_clipHeight_3 : decode cX6_clipHeight 3 = .ok (.istore_n 2, 1) := by decide +kernel
theorem dX6_clipHeight_4 : decode cX6_clipHeight 4 = .ok (.iload_n 2, 1) := by decide +kernel
theorem dX6_clipHeight_5 : decode cX6_clipHeight 5 = .ok (.aload_n 0, 1) := by decide +kernel
theorem dX6_clipHeight_6 : decode cX6_clipHeight 6 = .ok (.getfield 7, 3) := by decide +kernel
theorem dX6_clipHeight_9 : decode cX6_clipHeight 9 = .ok (.iconst 4, 1) := by decide +kernel
theorem dX6_clipHeight_10 : decode cX6_clipHeight 10 = .ok (.iaload, 1) := by decide +kernel
theorem dX6_clipHeight_11 : decode cX6_clipHeight 11 = .ok (.if_icmp .ge 46, 3) := by decide +kernel
theorem dX6_clipHeight_14 : decode cX6_clipHeight 14 = .ok (.aload_n 0, 1) := by decide +kernel
theorem dX6_clipHeight_15 : decode cX6_clipHeight 15 = .ok (.getfield 7, 3) := by decide +kernel
theorem dX6_clipHeight_18 : decode cX6_clipHeight 18 = .ok (.sipush 138, 3) := by decide +kernel
theorem dX6_clipHeight_21 : decode cX6_clipHeight 21 = .ok (.iconst 2, 1) := by decide +kernel
theorem dX6_clipHeight_22 : decode cX6_clipHeight 22 = .ok (.iload_n 2, 1) := by decide +kernel
theorem dX6_clipHeight_23 : decode cX6_clipHeight 23 = .ok (.imul, 1) := by decide +kernel
theorem dX6_clipHeight_24 : decode cX6_clipHeight 24 = .ok (.iadd, 1) := by decide +kernel
theorem dX6_clipHeight_25 : decode cX6_clipHeight 25 = .ok (.iconst 1, 1) := by decide +kernel
theorem dX6_clipHeight_26 : decode cX6_clipHeight 26 = .ok (.iadd, 1) := by decide +kernel
theorem dX6_clipHeight_27 : decode cX6_clipHeight 27 = .ok (.iaload, 1) := by decide +kernel
theorem dX6_clipHeight_28 : decode cX6_clipHeight 28 = .ok (.iload_n 1, 1) := by decide +kernel
theorem dX6_clipHeight_29 : decode cX6_clipHeight 29 = .ok (.if_icmp .le 20, 3) := by decide +kernel
theorem dX6_clipHeight_32 : decode cX6_clipHeight 32 = .ok (.aload_n 0, 1) := by decide +kernel
theorem dX6_clipHeight_33 : decode cX6_clipHeight 33 = .ok (.getfield 7, 3) := by decide +kernel
theorem dX6_clipHeight_36 : decode cX6_clipHeight 36 = .ok (.sipush 138, 3) := by decide +kernel
theorem dX6_clipHeight_39 : decode cX6_clipHeight 39 = .ok (.iconst 2, 1) := by decide +kernel
theorem dX6_clipHeight_40 : decode cX6_clipHeight 40 = .ok (.iload_n 2, 1) := by decide +kernel
theorem dX6_clipHeight_41 : decode cX6_clipHeight 41 = .ok (.imul, 1) := by decide +kernel
theorem dX6_clipHeight_42 : decode cX6_clipHeight 42 = .ok (.iadd, 1) := by decide +kernel
theorem dX6_clipHeight_43 : decode cX6_clipHeight 43 = .ok (.iconst 1, 1) := by decide +kernel
theorem dX6_clipHeight_44 : decode cX6_clipHeight 44 = .ok (.iadd, 1) := by decide +kernel
theorem dX6_clipHeight_45 : decode cX6_clipHeight 45 = .ok (.iaload, 1) := by decide +kernel
theorem dX6_clipHeight_46 : decode cX6_clipHeight 46 = .ok (.goto 4, 3) := by decide +kernel
theorem dX6_clipHeight_49 : decode cX6_clipHeight 49 = .ok (.iload_n 1, 1) := by decide +kernel
theorem dX6_clipHeight_50 : decode cX6_clipHeight 50 = .ok (.istore_n 1, 1) := by decide +kernel
theorem dX6_clipHeight_51 : decode cX6_clipHeight 51 = .ok (.iinc 2 1, 3) := by decide +kernel
theorem dX6_clipHeight_54 : decode cX6_clipHeight 54 = .ok (.goto (-50), 3) := by decide +kernel
theorem dX6_clipHeight_57 : decode cX6_clipHeight 57 = .ok (.iload_n 1, 1) := by decide +kernel
theorem dX6_clipHeight_58 : decode cX6_clipHeight 58 = .ok (.ireturn, 1) := by decide +kernel
theorem dX6_paste_0 : decode cX6_paste 0 = .ok (.aload_n 0, 1) := by decide +kernel
theorem dX6_paste_1 : decode cX6_paste 1 = .ok (.invokevirtual 55, 3) := by decide +kernel
theorem dX6_paste_4 : decode cX6_paste 4 = .ok (.aload_n 0, 1) := by decide +kernel
theorem dX6_paste_5 : decode cX6_paste 5 = .ok (.invokevirtual 58, 3) := by decide +kernel
theorem dX6_paste_8 : decode cX6_paste 8 = .ok (.istore_n 2, 1) := by decide +kernel
theorem dX6_paste_9 : decode cX6_paste 9 = .ok (.iload_n 1, 1) := by decide +kernel
theorem dX6_paste_10 : decode cX6_paste 10 = .ok (.iconst 0, 1) := by decide +kernel
theorem dX6_paste_11 : decode cX6_paste 11 = .ok (.aload_n 0, 1) := by decide +kernel
theorem dX6_paste_12 : decode cX6_paste 12 = .ok (.iload_n 2, 1) := by decide +kernel
theorem dX6_paste_13 : decode cX6_paste 13 = .ok (.invokevirtual 62, 3) := by decide +kernel
theorem dX6_paste_16 : decode cX6_paste 16 = .ok (.invokestatic 35, 3) := by decide +kernel
theorem dX6_paste_19 : decode cX6_paste 19 = .ok (.ifCond .ne 5, 3) := by decide +kernel
theorem dX6_paste_22 : decode cX6_paste 22 = .ok (.iconst (-1), 1) := by decide +kernel
theorem dX6_paste_23 : decode cX6_paste 23 = .ok (.ireturn, 1) := by decide +kernel
theorem dX6_paste_24 : decode cX6_paste 24 = .ok (.aload_n 0, 1) := by decide +kernel
theorem dX6_paste_25 : decode cX6_paste 25 = .ok (.getfield 7, 3) := by decide +kernel
theorem dX6_paste_28 : decode cX6_paste 28 = .ok (.iconst 4, 1) := by decide +kernel
theorem dX6_paste_29 : decode cX6_paste 29 = .ok (.iaload, 1) := by decide +kernel
theorem dX6_paste_30 : decode cX6_paste 30 = .ok (.ifCond .ne 6, 3) := by decide +kernel
theorem dX6_paste_33 : decode cX6_paste 33 = .ok (.bipush (-2), 2) := by decide +kernel
theorem dX6_paste_35 : decode cX6_paste 35 = .ok (.ireturn, 1) := by decide +kernel
theorem dX6_paste_36 : decode cX6_paste 36 = .ok (.aload_n 0, 1) := by decide +kernel
theorem dX6_paste_37 : decode cX6_paste 37 = .ok (.getfield 7, 3) := by decide +kernel
theorem dX6_paste_40 : decode cX6_paste 40 = .ok (.iconst 0, 1) := by decide +kernel
theorem dX6_paste_41 : decode cX6_paste 41 = .ok (.iaload, 1) := by decide +kernel
theorem dX6_paste_42 : decode cX6_paste 42 = .ok (.aload_n 0, 1) := by decide +kernel
theorem dX6_paste_43 : decode cX6_paste 43 = .ok (.getfield 7, 3) := by decide +kernel
theorem dX6_paste_46 : decode cX6_paste 46 = .ok (.iconst 4, 1) := by decide +kernel
theorem dX6_paste_47 : decode cX6_paste 47 = .ok (.iaload, 1) := by decide +kernel
theorem dX6_paste_48 : decode cX6_paste 48 = .ok (.iadd, 1) := by decide +kernel
theorem dX6_paste_49 : decode cX6_paste 49 = .ok (.bipush 40, 2) := by decide +kernel
theorem dX6_paste_51 : decode cX6_paste 51 = .ok (.if_icmp .gt 30, 3) := by decide +kernel
theorem dX6_paste_54 : decode cX6_paste 54 = .ok (.aload_n 0, 1) := by decide +kernel
theorem dX6_paste_55 : decode cX6_paste 55 = .ok (.iload_n 2, 1) := by decide +kernel
theorem dX6_paste_56 : decode cX6_paste 56 = .ok (.invokevirtual 62, 3) := by decide +kernel
theorem dX6_paste_59 : decode cX6_paste 59 = .ok (.bipush 6, 2) := by decide +kernel
theorem dX6_paste_61 : decode cX6_paste 61 = .ok (.if_icmp .eq 20, 3) := by decide +kernel
theorem dX6_paste_64 : decode cX6_paste 64 = .ok (.aload_n 0, 1) := by decide +kernel
theorem dX6_paste_65 : decode cX6_paste 65 = .ok (.iload_n 2, 1) := by decide +kernel
theorem dX6_paste_66 : decode cX6_paste 66 = .ok (.invokevirtual 46, 3) := by decide +kernel
theorem dX6_paste_69 : decode cX6_paste 69 = .ok (.iconst 1, 1) := by decide +kernel
theorem dX6_paste_70 : decode cX6_paste 70 = .ok (.iadd, 1) := by decide +kernel
theorem dX6_paste_71 : decode cX6_paste 71 = .ok (.aload_n 0, 1) := by decide +kernel
theorem dX6_paste_72 : decode cX6_paste 72 = .ok (.invokevirtual 118, 3) := by decide +kernel
theorem dX6_paste_75 : decode cX6_paste 75 = .ok (.iadd, 1) := by decide +kernel
theorem dX6_paste_76 : decode cX6_paste 76 = .ok (.bipush 7, 2) := by decide +kernel
theorem dX6_paste_78 : decode cX6_paste 78 = .ok (.if_icmp .le 6, 3) := by decide +kernel
theorem dX6_paste_81 : decode cX6_paste 81 = .ok (.bipush (-3), 2) := by decide +kernel
theorem dX6_paste_83 : decode cX6_paste 83 = .ok (.ireturn, 1) := by decide +kernel
theorem dX6_paste_84 : decode cX6_paste 84 = .ok (.aload_n 0, 1) := by decide +kernel
theorem dX6_paste_85 : decode cX6_paste 85 = .ok (.iload_n 2, 1) := by decide +kernel
theorem dX6_paste_86 : decode cX6_paste 86 = .ok (.iload_n 1, 1) := by decide +kernel
theorem dX6_paste_87 : decode cX6_paste 87 = .ok (.invokevirtual 65, 3) := by decide +kernel
theorem dX6_paste_90 : decode cX6_paste 90 = .ok (.istore_n 3, 1) := by decide +kernel
theorem dX6_paste_91 : decode cX6_paste 91 = .ok (.aload_n 0, 1) := by decide +kernel
theorem dX6_paste_92 : decode cX6_paste 92 = .ok (.iload_n 2, 1) := by decide +kernel
theorem dX6_paste_93 : decode cX6_paste 93 = .ok (.invokevirtual 46, 3) := by decide +kernel
theorem dX6_paste_96 : decode cX6_paste 96 = .ok (.iconst 1, 1) := by decide +kernel
theorem dX6_paste_97 : decode cX6_paste 97 = .ok (.iadd, 1) := by decide +kernel
theorem dX6_paste_98 : decode cX6_paste 98 = .ok (.istore 4, 2) := by decide +kernel
theorem dX6_paste_100 : decode cX6_paste 100 = .ok (.aload_n 0, 1) := by decide +kernel
theorem dX6_paste_101 : decode cX6_paste 101 = .ok (.iload_n 3, 1) := by decide +kernel
theorem dX6_paste_102 : decode cX6_paste 102 = .ok (.aload_n 0, 1) := by decide +kernel
theorem dX6_paste_103 : decode cX6_paste 103 = .ok (.getfield 7, 3) := by decide +kernel
theorem dX6_paste_106 : decode cX6_paste 106 = .ok (.iconst 4, 1) := by decide +kernel
theorem dX6_paste_107 : decode cX6_paste 107 = .ok (.iaload, 1) := by decide +kernel
theorem dX6_paste_108 : decode cX6_paste 108 = .ok (.invokevirtual 86, 3) := by decide +kernel
theorem dX6_paste_111 : decode cX6_paste 111 = .ok (.iconst 0, 1) := by decide +kernel
theorem dX6_paste_112 : decode cX6_paste 112 = .ok (.istore 5, 2) := by decide +kernel
theorem dX6_paste_114 : decode cX6_paste 114 = .ok (.iload 5, 2) := by decide +kernel
theorem dX6_paste_116 : decode cX6_paste 116 = .ok (.aload_n 0, 1) := by decide +kernel
theorem dX6_paste_117 : decode cX6_paste 117 = .ok (.getfield 7, 3) := by decide +kernel
theorem dX6_paste_120 : decode cX6_paste 120 = .ok (.iconst 4, 1) := by decide +kernel
theorem dX6_paste_121 : decode cX6_paste 121 = .ok (.iaload, 1) := by decide +kernel
theorem dX6_paste_122 : decode cX6_paste 122 = .ok (.if_icmp .ge 48, 3) := by decide +kernel
theorem dX6_paste_125 : decode cX6_paste 125 = .ok (.aload_n 0, 1) := by decide +kernel
theorem dX6_paste_126 : decode cX6_paste 126 = .ok (.iload_n 3, 1) := by decide +kernel
theorem dX6_paste_127 : decode cX6_paste 127 = .ok (.iload 5, 2) := by decide +kernel
theorem dX6_paste_129 : decode cX6_paste 129 = .ok (.iadd, 1) := by decide +kernel
theorem dX6_paste_130 : decode cX6_paste 130 = .ok (.aload_n 0, 1) := by decide +kernel
theorem dX6_paste_131 : decode cX6_paste 131 = .ok (.getfield 7, 3) := by decide +kernel
theorem dX6_paste_134 : decode cX6_paste 134 = .ok (.sipush 138, 3) := by decide +kernel
theorem dX6_paste_137 : decode cX6_paste 137 = .ok (.iconst 2, 1) := by decide +kernel
theorem dX6_paste_138 : decode cX6_paste 138 = .ok (.iload 5, 2) := by decide +kernel
theorem dX6_paste_140 : decode cX6_paste 140 = .ok (.imul, 1) := by decide +kernel
theorem dX6_paste_141 : decode cX6_paste 141 = .ok (.iadd, 1) := by decide +kernel
theorem dX6_paste_142 : decode cX6_paste 142 = .ok (.iaload, 1) := by decide +kernel
theorem dX6_paste_143 : decode cX6_paste 143 = .ok (.iload 4, 2) := by decide +kernel
theorem dX6_paste_145 : decode cX6_paste 145 = .ok (.aload_n 0, 1) := by decide +kernel
theorem dX6_paste_146 : decode cX6_paste 146 = .ok (.getfield 7, 3) := by decide +kernel
theorem dX6_paste_149 : decode cX6_paste 149 = .ok (.sipush 138, 3) := by decide +kernel
theorem dX6_paste_152 : decode cX6_paste 152 = .ok (.iconst 2, 1) := by decide +kernel
theorem dX6_paste_153 : decode cX6_paste 153 = .ok (.iload 5, 2) := by decide +kernel
theorem dX6_paste_155 : decode cX6_paste 155 = .ok (.imul, 1) := by decide +kernel
theorem dX6_paste_156 : decode cX6_paste 156 = .ok (.iadd, 1) := by decide +kernel
theorem dX6_paste_157 : decode cX6_paste 157 = .ok (.iconst 1, 1) := by decide +kernel
theorem dX6_paste_158 : decode cX6_paste 158 = .ok (.iadd, 1) := by decide +kernel
theorem dX6_paste_159 : decode cX6_paste 159 = .ok (.iaload, 1) := by decide +kernel
theorem dX6_paste_160 : decode cX6_paste 160 = .ok (.iadd, 1) := by decide +kernel
theorem dX6_paste_161 : decode cX6_paste 161 = .ok (.invokevirtual 90, 3) := by decide +kernel
theorem dX6_paste_164 : decode cX6_paste 164 = .ok (.iinc 5 1, 3) := by decide +kernel
theorem dX6_paste_167 : decode cX6_paste 167 = .ok (.goto (-53), 3) := by decide +kernel
theorem dX6_paste_170 : decode cX6_paste 170 = .ok (.aload_n 0, 1) := by decide +kernel
theorem dX6_paste_171 : decode cX6_paste 171 = .ok (.aload_n 0, 1) := by decide +kernel
theorem dX6_paste_172 : decode cX6_paste 172 = .ok (.getfield 7, 3) := by decide +kernel
theorem dX6_paste_175 : decode cX6_paste 175 = .ok (.iconst 0, 1) := by decide +kernel
theorem dX6_paste_176 : decode cX6_paste 176 = .ok (.iaload, 1) := by decide +kernel
theorem dX6_paste_177 : decode cX6_paste 177 = .ok (.invokevirtual 72, 3) := by decide +kernel
theorem dX6_paste_180 : decode cX6_paste 180 = .ok (.ireturn, 1) := by decide +kernel
theorem dX6_mark_0 : decode cX6_mark 0 = .ok (.aload_n 0, 1) := by decide +kernel
theorem dX6_mark_1 : decode cX6_mark 1 = .ok (.invokevirtual 55, 3) := by decide +kernel
theorem dX6_mark_4 : decode cX6_mark 4 = .ok (.iload_n 1, 1) := by decide +kernel
theorem dX6_mark_5 : decode cX6_mark 5 = .ok (.iconst 0, 1) := by decide +kernel
theorem dX6_mark_6 : decode cX6_mark 6 = .ok (.iconst 3, 1) := by decide +kernel
theorem dX6_mark_7 : decode cX6_mark 7 = .ok (.invokestatic 35, 3) := by decide +kernel
theorem dX6_mark_10 : decode cX6_mark 10 = .ok (.ifCond .ne 5, 3) := by decide +kernel
theorem dX6_mark_13 : decode cX6_mark 13 = .ok (.iconst (-1), 1) := by decide +kernel
theorem dX6_mark_14 : decode cX6_mark 14 = .ok (.ireturn, 1) := by decide +kernel
theorem dX6_mark_15 : decode cX6_mark 15 = .ok (.aload_n 0, 1) := by decide +kernel
theorem dX6_mark_16 : decode cX6_mark 16 = .ok (.aload_n 0, 1) := by decide +kernel
theorem dX6_mark_17 : decode cX6_mark 17 = .ok (.getfield 7, 3) := by decide +kernel
theorem dX6_mark_20 : decode cX6_mark 20 = .ok (.iconst 5, 1) := by decide +kernel
theorem dX6_mark_21 : decode cX6_mark 21 = .ok (.iload_n 1, 1) := by decide +kernel
theorem dX6_mark_22 : decode cX6_mark 22 = .ok (.iadd, 1) := by decide +kernel
theorem dX6_mark_23 : decode cX6_mark 23 = .ok (.iaload, 1) := by decide +kernel
theorem dX6_mark_24 : decode cX6_mark 24 = .ok (.invokevirtual 43, 3) := by decide +kernel
theorem dX6_mark_27 : decode cX6_mark 27 = .ok (.istore_n 2, 1) := by decide +kernel
theorem dX6_mark_28 : decode cX6_mark 28 = .ok (.aload_n 0, 1) := by decide +kernel
theorem dX6_mark_29 : decode cX6_mark 29 = .ok (.getfield 7, 3) := by decide +kernel
theorem dX6_mark_32 : decode cX6_mark 32 = .ok (.iconst 5, 1) := by decide +kernel
theorem dX6_mark_33 : decode cX6_mark 33 = .ok (.iload_n 1, 1) := by decide +kernel
theorem dX6_mark_34 : decode cX6_mark 34 = .ok (.iadd, 1) := by decide +kernel
theorem dX6_mark_35 : decode cX6_mark 35 = .ok (.aload_n 0, 1) := by decide +kernel
theorem dX6_mark_36 : decode cX6_mark 36 = .ok (.getfield 7, 3) := by decide +kernel
theorem dX6_mark_39 : decode cX6_mark 39 = .ok (.iconst 2, 1) := by decide +kernel
theorem dX6_mark_40 : decode cX6_mark 40 = .ok (.iaload, 1) := by decide +kernel
theorem dX6_mark_41 : decode cX6_mark 41 = .ok (.iastore, 1) := by decide +kernel
theorem dX6_mark_42 : decode cX6_mark 42 = .ok (.aload_n 0, 1) := by decide +kernel
theorem dX6_mark_43 : decode cX6_mark 43 = .ok (.iload_n 2, 1) := by decide +kernel
theorem dX6_mark_44 : decode cX6_mark 44 = .ok (.ifCond .ge 8, 3) := by decide +kernel
theorem dX6_mark_47 : decode cX6_mark 47 = .ok (.bipush 100, 2) := by decide +kernel
theorem dX6_mark_49 : decode cX6_mark 49 = .ok (.goto 4, 3) := by decide +kernel
theorem dX6_mark_52 : decode cX6_mark 52 = .ok (.iload_n 2, 1) := by decide +kernel
theorem dX6_mark_53 : decode cX6_mark 53 = .ok (.invokevirtual 72, 3) := by decide +kernel
theorem dX6_mark_56 : decode cX6_mark 56 = .ok (.ireturn, 1) := by decide +kernel
theorem dX6_goTo_0 : decode cX6_goTo 0 = .ok (.aload_n 0, 1) := by decide +kernel
theorem dX6_goTo_1 : decode cX6_goTo 1 = .ok (.invokevirtual 55, 3) := by decide +kernel
theorem dX6_goTo_4 : decode cX6_goTo 4 = .ok (.iload_n 1, 1) := by decide +kernel
theorem dX6_goTo_5 : decode cX6_goTo 5 = .ok (.iconst 0, 1) := by decide +kernel
theorem dX6_goTo_6 : decode cX6_goTo 6 = .ok (.iconst 3, 1) := by decide +kernel
theorem dX6_goTo_7 : decode cX6_goTo 7 = .ok (.invokestatic 35, 3) := by decide +kernel
theorem dX6_goTo_10 : decode cX6_goTo 10 = .ok (.ifCond .ne 5, 3) := by decide +kernel
theorem dX6_goTo_13 : decode cX6_goTo 13 = .ok (.iconst (-1), 1) := by decide +kernel
theorem dX6_goTo_14 : decode cX6_goTo 14 = .ok (.ireturn, 1) := by decide +kernel
theorem dX6_goTo_15 : decode cX6_goTo 15 = .ok (.aload_n 0, 1) := by decide +kernel
theorem dX6_goTo_16 : decode cX6_goTo 16 = .ok (.aload_n 0, 1) := by decide +kernel
theorem dX6_goTo_17 : decode cX6_goTo 17 = .ok (.getfield 7, 3) := by decide +kernel
theorem dX6_goTo_20 : decode cX6_goTo 20 = .ok (.iconst 5, 1) := by decide +kernel
theorem dX6_goTo_21 : decode cX6_goTo 21 = .ok (.iload_n 1, 1) := by decide +kernel
theorem dX6_goTo_22 : decode cX6_goTo 22 = .ok (.iadd, 1) := by decide +kernel
theorem dX6_goTo_23 : decode cX6_goTo 23 = .ok (.iaload, 1) := by decide +kernel
theorem dX6_goTo_24 : decode cX6_goTo 24 = .ok (.invokevirtual 43, 3) := by decide +kernel
theorem dX6_goTo_27 : decode cX6_goTo 27 = .ok (.istore_n 2, 1) := by decide +kernel
theorem dX6_goTo_28 : decode cX6_goTo 28 = .ok (.iload_n 2, 1) := by decide +kernel
theorem dX6_goTo_29 : decode cX6_goTo 29 = .ok (.ifCond .ge 8, 3) := by decide +kernel
theorem dX6_goTo_32 : decode cX6_goTo 32 = .ok (.bipush (-2), 2) := by decide +kernel
theorem dX6_goTo_34 : decode cX6_goTo 34 = .ok (.goto 12, 3) := by decide +kernel
theorem dX6_goTo_37 : decode cX6_goTo 37 = .ok (.aload_n 0, 1) := by decide +kernel
theorem dX6_goTo_38 : decode cX6_goTo 38 = .ok (.aload_n 0, 1) := by decide +kernel
theorem dX6_goTo_39 : decode cX6_goTo 39 = .ok (.iload_n 2, 1) := by decide +kernel
theorem dX6_goTo_40 : decode cX6_goTo 40 = .ok (.invokevirtual 69, 3) := by decide +kernel
theorem dX6_goTo_43 : decode cX6_goTo 43 = .ok (.invokevirtual 72, 3) := by decide +kernel
theorem dX6_goTo_46 : decode cX6_goTo 46 = .ok (.ireturn, 1) := by decide +kernel
theorem dX6_orNone_0 : decode cX6_orNone 0 = .ok (.iload_n 0, 1) := by decide +kernel
theorem dX6_orNone_1 : decode cX6_orNone 1 = .ok (.ifCond .ge 8, 3) := by decide +kernel
theorem dX6_orNone_4 : decode cX6_orNone 4 = .ok (.bipush (-4), 2) := by decide +kernel
theorem dX6_orNone_6 : decode cX6_orNone 6 = .ok (.goto 4, 3) := by decide +kernel
theorem dX6_orNone_9 : decode cX6_orNone 9 = .ok (.iload_n 0, 1) := by decide +kernel
theorem dX6_orNone_10 : decode cX6_orNone 10 = .ok (.ireturn, 1) := by decide +kernel
theorem dX6_marksAt_0 : decode cX6_marksAt 0 = .ok (.iconst 0, 1) := by decide +kernel
theorem dX6_marksAt_1 : decode cX6_marksAt 1 = .ok (.istore_n 2, 1) := by decide +kernel
theorem dX6_marksAt_2 : decode cX6_marksAt 2 = .ok (.iconst 0, 1) := by decide +kernel
theorem dX6_marksAt_3 : decode cX6_marksAt 3 = .ok (.istore_n 3, 1) := by decide +kernel
theorem dX6_marksAt_4 : decode cX6_marksAt 4 = .ok (.iload_n 3, 1) := by decide +kernel
theorem dX6_marksAt_5 : decode cX6_marksAt 5 = .ok (.iconst 4, 1) := by decide +kernel
theorem dX6_marksAt_6 : decode cX6_marksAt 6 = .ok (.if_icmp .ge 35, 3) := by decide +kernel
theorem dX6_marksAt_9 : decode cX6_marksAt 9 = .ok (.iload_n 2, 1) := by decide +kernel
theorem dX6_marksAt_10 : decode cX6_marksAt 10 = .ok (.aload_n 0, 1) := by decide +kernel
theorem dX6_marksAt_11 : decode cX6_marksAt 11 = .ok (.getfield 7, 3) := by decide +kernel
theorem dX6_marksAt_14 : decode cX6_marksAt 14 = .ok (.iconst 5, 1) := by decide +kernel
theorem dX6_marksAt_15 : decode cX6_marksAt 15 = .ok (.iload_n 3, 1) := by decide +kernel
theorem dX6_marksAt_16 : decode cX6_marksAt 16 = .ok (.iadd, 1) := by decide +kernel
theorem dX6_marksAt_17 : decode cX6_marksAt 17 = .ok (.iaload, 1) := by decide +kernel
theorem dX6_marksAt_18 : decode cX6_marksAt 18 = .ok (.aload_n 0, 1) := by decide +kernel
theorem dX6_marksAt_19 : decode cX6_marksAt 19 = .ok (.iload_n 1, 1) := by decide +kernel
theorem dX6_marksAt_20 : decode cX6_marksAt 20 = .ok (.invokevirtual 39, 3) := by decide +kernel
theorem dX6_marksAt_23 : decode cX6_marksAt 23 = .ok (.if_icmp .ne 9, 3) := by decide +kernel
theorem dX6_marksAt_26 : decode cX6_marksAt 26 = .ok (.iconst 1, 1) := by decide +kernel
theorem dX6_marksAt_27 : decode cX6_marksAt 27 = .ok (.iload_n 3, 1) := by decide +kernel
theorem dX6_marksAt_28 : decode cX6_marksAt 28 = .ok (.ishl, 1) := by decide +kernel
theorem dX6_marksAt_29 : decode cX6_marksAt 29 = .ok (.goto 4, 3) := by decide +kernel
theorem dX6_marksAt_32 : decode cX6_marksAt 32 = .ok (.iconst 0, 1) := by decide +kernel
theorem dX6_marksAt_33 : decode cX6_marksAt 33 = .ok (.ior, 1) := by decide +kernel
theorem dX6_marksAt_34 : decode cX6_marksAt 34 = .ok (.istore_n 2, 1) := by decide +kernel
theorem dX6_marksAt_35 : decode cX6_marksAt 35 = .ok (.iinc 3 1, 3) := by decide +kernel
theorem dX6_marksAt_38 : decode cX6_marksAt 38 = .ok (.goto (-34), 3) := by decide +kernel
theorem dX6_marksAt_41 : decode cX6_marksAt 41 = .ok (.iload_n 2, 1) := by decide +kernel
theorem dX6_marksAt_42 : decode cX6_marksAt 42 = .ok (.ireturn, 1) := by decide +kernel
theorem dX6_nodeOf_0 : decode cX6_nodeOf 0 = .ok (.aload_n 0, 1) := by decide +kernel
theorem dX6_nodeOf_1 : decode cX6_nodeOf 1 = .ok (.iload_n 1, 1) := by decide +kernel
theorem dX6_nodeOf_2 : decode cX6_nodeOf 2 = .ok (.invokevirtual 79, 3) := by decide +kernel
theorem dX6_nodeOf_5 : decode cX6_nodeOf 5 = .ok (.ifCond .eq 13, 3) := by decide +kernel
theorem dX6_nodeOf_8 : decode cX6_nodeOf 8 = .ok (.iload_n 2, 1) := by decide +kernel
theorem dX6_nodeOf_9 : decode cX6_nodeOf 9 = .ok (.iconst 0, 1) := by decide +kernel
theorem dX6_nodeOf_10 : decode cX6_nodeOf 10 = .ok (.bipush 7, 2) := by decide +kernel
theorem dX6_nodeOf_12 : decode cX6_nodeOf 12 = .ok (.invokestatic 35, 3) := by decide +kernel
theorem dX6_nodeOf_15 : decode cX6_nodeOf 15 = .ok (.ifCond .ne 5, 3) := by decide +kernel
theorem dX6_nodeOf_18 : decode cX6_nodeOf 18 = .ok (.iconst (-1), 1) := by decide +kernel
theorem dX6_nodeOf_19 : decode cX6_nodeOf 19 = .ok (.ireturn, 1) := by decide +kernel
theorem dX6_nodeOf_20 : decode cX6_nodeOf 20 = .ok (.iload_n 2, 1) := by decide +kernel
theorem dX6_nodeOf_21 : decode cX6_nodeOf 21 = .ok (.tableswitch 99 0 6 #[43, 49, 55, 64, 70, 78, 93], 43) := by decide +kernel
theorem dX6_nodeOf_64 : decode cX6_nodeOf 64 = .ok (.aload_n 0, 1) := by decide +kernel
theorem dX6_nodeOf_65 : decode cX6_nodeOf 65 = .ok (.iload_n 1, 1) := by decide +kernel
theorem dX6_nodeOf_66 : decode cX6_nodeOf 66 = .ok (.invokevirtual 83, 3) := by decide +kernel
theorem dX6_nodeOf_69 : decode cX6_nodeOf 69 = .ok (.ireturn, 1) := by decide +kernel
theorem dX6_nodeOf_70 : decode cX6_nodeOf 70 = .ok (.aload_n 0, 1) := by decide +kernel
theorem dX6_nodeOf_71 : decode cX6_nodeOf 71 = .ok (.iload_n 1, 1) := by decide +kernel
theorem dX6_nodeOf_72 : decode cX6_nodeOf 72 = .ok (.invokevirtual 62, 3) := by decide +kernel
theorem dX6_nodeOf_75 : decode cX6_nodeOf 75 = .ok (.ireturn, 1) := by decide +kernel
theorem dX6_nodeOf_76 : decode cX6_nodeOf 76 = .ok (.aload_n 0, 1) := by decide +kernel
theorem dX6_nodeOf_77 : decode cX6_nodeOf 77 = .ok (.iload_n 1, 1) := by decide +kernel
theorem dX6_nodeOf_78 : decode cX6_nodeOf 78 = .ok (.invokevirtual 52, 3) := by decide +kernel
theorem dX6_nodeOf_81 : decode cX6_nodeOf 81 = .ok (.invokestatic 121, 3) := by decide +kernel
theorem dX6_nodeOf_84 : decode cX6_nodeOf 84 = .ok (.ireturn, 1) := by decide +kernel
theorem dX6_nodeOf_85 : decode cX6_nodeOf 85 = .ok (.aload_n 0, 1) := by decide +kernel
theorem dX6_nodeOf_86 : decode cX6_nodeOf 86 = .ok (.iload_n 1, 1) := by decide +kernel
theorem dX6_nodeOf_87 : decode cX6_nodeOf 87 = .ok (.invokevirtual 46, 3) := by decide +kernel
theorem dX6_nodeOf_90 : decode cX6_nodeOf 90 = .ok (.ireturn, 1) := by decide +kernel
theorem dX6_nodeOf_91 : decode cX6_nodeOf 91 = .ok (.aload_n 0, 1) := by decide +kernel
theorem dX6_nodeOf_92 : decode cX6_nodeOf 92 = .ok (.iload_n 1, 1) := by decide +kernel
theorem dX6_nodeOf_93 : decode cX6_nodeOf 93 = .ok (.invokevirtual 49, 3) := by decide +kernel
theorem dX6_nodeOf_96 : decode cX6_nodeOf 96 = .ok (.iload_n 1, 1) := by decide +kernel
theorem dX6_nodeOf_97 : decode cX6_nodeOf 97 = .ok (.isub, 1) := by decide +kernel
theorem dX6_nodeOf_98 : decode cX6_nodeOf 98 = .ok (.ireturn, 1) := by decide +kernel
theorem dX6_nodeOf_99 : decode cX6_nodeOf 99 = .ok (.iload_n 1, 1) := by decide +kernel
theorem dX6_nodeOf_100 : decode cX6_nodeOf 100 = .ok (.ifCond .ne 8, 3) := by decide +kernel
theorem dX6_nodeOf_103 : decode cX6_nodeOf 103 = .ok (.bipush (-4), 2) := by decide +kernel
theorem dX6_nodeOf_105 : decode cX6_nodeOf 105 = .ok (.goto 8, 3) := by decide +kernel
theorem dX6_nodeOf_108 : decode cX6_nodeOf 108 = .ok (.aload_n 0, 1) := by decide +kernel
theorem dX6_nodeOf_109 : decode cX6_nodeOf 109 = .ok (.iload_n 1, 1) := by decide +kernel
theorem dX6_nodeOf_110 : decode cX6_nodeOf 110 = .ok (.invokevirtual 115, 3) := by decide +kernel
theorem dX6_nodeOf_113 : decode cX6_nodeOf 113 = .ok (.ireturn, 1) := by decide +kernel
theorem dX6_nodeOf_114 : decode cX6_nodeOf 114 = .ok (.aload_n 0, 1) := by decide +kernel
theorem dX6_nodeOf_115 : decode cX6_nodeOf 115 = .ok (.iload_n 1, 1) := by decide +kernel
theorem dX6_nodeOf_116 : decode cX6_nodeOf 116 = .ok (.invokevirtual 106, 3) := by decide +kernel
theorem dX6_nodeOf_119 : decode cX6_nodeOf 119 = .ok (.ireturn, 1) := by decide +kernel
theorem dX6_nodeOf_120 : decode cX6_nodeOf 120 = .ok (.aload_n 0, 1) := by decide +kernel
theorem dX6_nodeOf_121 : decode cX6_nodeOf 121 = .ok (.iload_n 1, 1) := by decide +kernel
theorem dX6_nodeOf_122 : decode cX6_nodeOf 122 = .ok (.invokevirtual 124, 3) := by decide +kernel
theorem dX6_nodeOf_125 : decode cX6_nodeOf 125 = .ok (.ireturn, 1) := by decide +kernel
theorem dX6_spine_0 : decode cX6_spine 0 = .ok (.iload_n 1, 1) := by decide +kernel
theorem dX6_spine_1 : decode cX6_spine 1 = .ok (.ifCond .lt 12, 3) := by decide +kernel
theorem dX6_spine_4 : decode cX6_spine 4 = .ok (.iload_n 2, 1) := by decide +kernel
theorem dX6_spine_5 : decode cX6_spine 5 = .ok (.iconst 0, 1) := by decide +kernel
theorem dX6_spine_6 : decode cX6_spine 6 = .ok (.iconst 2, 1) := by decide +kernel
theorem dX6_spine_7 : decode cX6_spine 7 = .ok (.invokestatic 35, 3) := by decide +kernel
theorem dX6_spine_10 : decode cX6_spine 10 = .ok (.ifCond .ne 5, 3) := by decide +kernel
theorem dX6_spine_13 : decode cX6_spine 13 = .ok (.iconst (-1), 1) := by decide +kernel
theorem dX6_spine_14 : decode cX6_spine 14 = .ok (.ireturn, 1) := by decide +kernel
theorem dX6_spine_15 : decode cX6_spine 15 = .ok (.aload_n 0, 1) := by decide +kernel
theorem dX6_spine_16 : decode cX6_spine 16 = .ok (.invokevirtual 58, 3) := by decide +kernel
theorem dX6_spine_19 : decode cX6_spine 19 = .ok (.istore_n 3, 1) := by decide +kernel
theorem dX6_spine_20 : decode cX6_spine 20 = .ok (.iload_n 1, 1) := by decide +kernel
theorem dX6_spine_21 : decode cX6_spine 21 = .ok (.aload_n 0, 1) := by decide +kernel
theorem dX6_spine_22 : decode cX6_spine 22 = .ok (.iload_n 3, 1) := by decide +kernel
theorem dX6_spine_23 : decode cX6_spine 23 = .ok (.invokevirtual 46, 3) := by decide +kernel
theorem dX6_spine_26 : decode cX6_spine 26 = .ok (.if_icmp .le 6, 3) := by decide +kernel
theorem dX6_spine_29 : decode cX6_spine 29 = .ok (.bipush (-4), 2) := by decide +kernel
theorem dX6_spine_31 : decode cX6_spine 31 = .ok (.ireturn, 1) := by decide +kernel
theorem dX6_spine_32 : decode cX6_spine 32 = .ok (.aload_n 0, 1) := by decide +kernel
theorem dX6_spine_33 : decode cX6_spine 33 = .ok (.iload_n 3, 1) := by decide +kernel
theorem dX6_spine_34 : decode cX6_spine 34 = .ok (.invokevirtual 46, 3) := by decide +kernel
theorem dX6_spine_37 : decode cX6_spine 37 = .ok (.iload_n 1, 1) := by decide +kernel
theorem dX6_spine_38 : decode cX6_spine 38 = .ok (.if_icmp .le 12, 3) := by decide +kernel
theorem dX6_spine_41 : decode cX6_spine 41 = .ok (.aload_n 0, 1) := by decide +kernel
theorem dX6_spine_42 : decode cX6_spine 42 = .ok (.iload_n 3, 1) := by decide +kernel
theorem dX6_spine_43 : decode cX6_spine 43 = .ok (.invokevirtual 52, 3) := by decide +kernel
theorem dX6_spine_46 : decode cX6_spine 46 = .ok (.istore_n 3, 1) := by decide +kernel
theorem dX6_spine_47 : decode cX6_spine 47 = .ok (.goto (-15), 3) := by decide +kernel
theorem dX6_spine_50 : decode cX6_spine 50 = .ok (.iload_n 2, 1) := by decide +kernel
theorem dX6_spine_51 : decode cX6_spine 51 = .ok (.ifCond .ne 7, 3) := by decide +kernel
theorem dX6_spine_54 : decode cX6_spine 54 = .ok (.iload_n 3, 1) := by decide +kernel
theorem dX6_spine_55 : decode cX6_spine 55 = .ok (.goto 29, 3) := by decide +kernel
theorem dX6_spine_58 : decode cX6_spine 58 = .ok (.iload_n 2, 1) := by decide +kernel
theorem dX6_spine_59 : decode cX6_spine 59 = .ok (.iconst 1, 1) := by decide +kernel
theorem dX6_spine_60 : decode cX6_spine 60 = .ok (.if_icmp .ne 11, 3) := by decide +kernel
theorem dX6_spine_63 : decode cX6_spine 63 = .ok (.aload_n 0, 1) := by decide +kernel
theorem dX6_spine_64 : decode cX6_spine 64 = .ok (.iload_n 3, 1) := by decide +kernel
theorem dX6_spine_65 : decode cX6_spine 65 = .ok (.invokevirtual 83, 3) := by decide +kernel
theorem dX6_spine_68 : decode cX6_spine 68 = .ok (.goto 16, 3) := by decide +kernel
theorem dX6_spine_71 : decode cX6_spine 71 = .ok (.iload_n 3, 1) := by decide +kernel
theorem dX6_spine_72 : decode cX6_spine 72 = .ok (.ifCond .ne 7, 3) := by decide +kernel
theorem dX6_spine_75 : decode cX6_spine 75 = .ok (.iconst 0, 1) := by decide +kernel
theorem dX6_spine_76 : decode cX6_spine 76 = .ok (.goto 8, 3) := by decide +kernel
theorem dX6_spine_79 : decode cX6_spine 79 = .ok (.aload_n 0, 1) := by decide +kernel
theorem dX6_spine_80 : decode cX6_spine 80 = .ok (.iload_n 3, 1) := by decide +kernel
theorem dX6_spine_81 : decode cX6_spine 81 = .ok (.invokevirtual 115, 3) := by decide +kernel
theorem dX6_spine_84 : decode cX6_spine 84 = .ok (.ireturn, 1) := by decide +kernel
theorem dX6_marked_0 : decode cX6_marked 0 = .ok (.iload_n 1, 1) := by decide +kernel
theorem dX6_marked_1 : decode cX6_marked 1 = .ok (.iconst 0, 1) := by decide +kernel
theorem dX6_marked_2 : decode cX6_marked 2 = .ok (.iconst 3, 1) := by decide +kernel
theorem dX6_marked_3 : decode cX6_marked 3 = .ok (.invokestatic 35, 3) := by decide +kernel
theorem dX6_marked_6 : decode cX6_marked 6 = .ok (.ifCond .eq 21, 3) := by decide +kernel
theorem dX6_marked_9 : decode cX6_marked 9 = .ok (.aload_n 0, 1) := by decide +kernel
theorem dX6_marked_10 : decode cX6_marked 10 = .ok (.aload_n 0, 1) := by decide +kernel
theorem dX6_marked_11 : decode cX6_marked 11 = .ok (.getfield 7, 3) := by decide +kernel
theorem dX6_marked_14 : decode cX6_marked 14 = .ok (.iconst 5, 1) := by decide +kernel
theorem dX6_marked_15 : decode cX6_marked 15 = .ok (.iload_n 1, 1) := by decide +kernel
theorem dX6_marked_16 : decode cX6_marked 16 = .ok (.iadd, 1) := by decide +kernel
theorem dX6_marked_17 : decode cX6_marked 17 = .ok (.iaload, 1) := by decide +kernel
theorem dX6_marked_18 : decode cX6_marked 18 = .ok (.invokevirtual 43, 3) := by decide +kernel
theorem dX6_marked_21 : decode cX6_marked 21 = .ok (.invokestatic 121, 3) := by decide +kernel
theorem dX6_marked_24 : decode cX6_marked 24 = .ok (.goto 4, 3) := by decide +kernel
theorem dX6_marked_27 : decode cX6_marked 27 = .ok (.iconst (-1), 1) := by decide +kernel
theorem dX6_marked_28 : decode cX6_marked 28 = .ok (.ireturn, 1) := by decide +kernel
theorem dX6_leaves_0 : decode cX6_leaves 0 = .ok (.iconst 0, 1) := by decide +kernel
theorem dX6_leaves_1 : decode cX6_leaves 1 = .ok (.istore_n 1, 1) := by decide +kernel
theorem dX6_leaves_2 : decode cX6_leaves 2 = .ok (.iconst 0, 1) := by decide +kernel
theorem dX6_leaves_3 : decode cX6_leaves 3 = .ok (.istore_n 2, 1) := by decide +kernel
theorem dX6_leaves_4 : decode cX6_leaves 4 = .ok (.iload_n 2, 1) := by decide +kernel
theorem dX6_leaves_5 : decode cX6_leaves 5 = .ok (.aload_n 0, 1) := by decide +kernel
theorem dX6_leaves_6 : decode cX6_leaves 6 = .ok (.getfield 7, 3) := by decide +kernel
theorem dX6_leaves_9 : decode cX6_leaves 9 = .ok (.iconst 0, 1) := by decide +kernel
theorem dX6_leaves_10 : decode cX6_leaves 10 = .ok (.iaload, 1) := by decide +kernel
theorem dX6_leaves_11 : decode cX6_leaves 11 = .ok (.if_icmp .ge 25, 3) := by decide +kernel
theorem dX6_leaves_14 : decode cX6_leaves 14 = .ok (.iload_n 1, 1) := by decide +kernel
theorem dX6_leaves_15 : decode cX6_leaves 15 = .ok (.aload_n 0, 1) := by decide +kernel
theorem dX6_leaves_16 : decode cX6_leaves 16 = .ok (.iload_n 2, 1) := by decide +kernel
theorem dX6_leaves_17 : decode cX6_leaves 17 = .ok (.invokevirtual 62, 3) := by decide +kernel
theorem dX6_leaves_20 : decode cX6_leaves 20 = .ok (.ifCond .ne 7, 3) := by decide +kernel
theorem dX6_leaves_23 : decode cX6_leaves 23 = .ok (.iconst 1, 1) := by decide +kernel
theorem dX6_leaves_24 : decode cX6_leaves 24 = .ok (.goto 4, 3) := by decide +kernel
theorem dX6_leaves_27 : decode cX6_leaves 27 = .ok (.iconst 0, 1) := by decide +kernel
theorem dX6_leaves_28 : decode cX6_leaves 28 = .ok (.iadd, 1) := by decide +kernel
theorem dX6_leaves_29 : decode cX6_leaves 29 = .ok (.istore_n 1, 1) := by decide +kernel
theorem dX6_leaves_30 : decode cX6_leaves 30 = .ok (.iinc 2 1, 3) := by decide +kernel
theorem dX6_leaves_33 : decode cX6_leaves 33 = .ok (.goto (-29), 3) := by decide +kernel
theorem dX6_leaves_36 : decode cX6_leaves 36 = .ok (.iload_n 1, 1) := by decide +kernel
theorem dX6_leaves_37 : decode cX6_leaves 37 = .ok (.ireturn, 1) := by decide +kernel
theorem dX6_unlike_0 : decode cX6_unlike 0 = .ok (.iconst 0, 1) := by decide +kernel
theorem dX6_unlike_1 : decode cX6_unlike 1 = .ok (.istore_n 1, 1) := by decide +kernel
theorem dX6_unlike_2 : decode cX6_unlike 2 = .ok (.iconst 0, 1) := by decide +kernel
theorem dX6_unlike_3 : decode cX6_unlike 3 = .ok (.istore_n 2, 1) := by decide +kernel
theorem dX6_unlike_4 : decode cX6_unlike 4 = .ok (.iconst 0, 1) := by decide +kernel
theorem dX6_unlike_5 : decode cX6_unlike 5 = .ok (.istore_n 3, 1) := by decide +kernel
theorem dX6_unlike_6 : decode cX6_unlike 6 = .ok (.iload_n 3, 1) := by decide +kernel
theorem dX6_unlike_7 : decode cX6_unlike 7 = .ok (.aload_n 0, 1) := by decide +kernel
theorem dX6_unlike_8 : decode cX6_unlike 8 = .ok (.getfield 7, 3) := by decide +kernel
theorem dX6_unlike_11 : decode cX6_unlike 11 = .ok (.iconst 0, 1) := by decide +kernel
theorem dX6_unlike_12 : decode cX6_unlike 12 = .ok (.iaload, 1) := by decide +kernel
theorem dX6_unlike_13 : decode cX6_unlike 13 = .ok (.if_icmp .ge 39, 3) := by decide +kernel
theorem dX6_unlike_16 : decode cX6_unlike 16 = .ok (.iload_n 1, 1) := by decide +kernel
theorem dX6_unlike_17 : decode cX6_unlike 17 = .ok (.iload_n 2, 1) := by decide +kernel
theorem dX6_unlike_18 : decode cX6_unlike 18 = .ok (.aload_n 0, 1) := by decide +kernel
theorem dX6_unlike_19 : decode cX6_unlike 19 = .ok (.iload_n 3, 1) := by decide +kernel
theorem dX6_unlike_20 : decode cX6_unlike 20 = .ok (.invokevirtual 83, 3) := by decide +kernel
theorem dX6_unlike_23 : decode cX6_unlike 23 = .ok (.ishr, 1) := by decide +kernel
theorem dX6_unlike_24 : decode cX6_unlike 24 = .ok (.iconst 1, 1) := by decide +kernel
theorem dX6_unlike_25 : decode cX6_unlike 25 = .ok (.iand, 1) := by decide +kernel
theorem dX6_unlike_26 : decode cX6_unlike 26 = .ok (.ifCond .ne 7, 3) := by decide +kernel
theorem dX6_unlike_29 : decode cX6_unlike 29 = .ok (.iconst 1, 1) := by decide +kernel
theorem dX6_unlike_30 : decode cX6_unlike 30 = .ok (.goto 4, 3) := by decide +kernel
theorem dX6_unlike_33 : decode cX6_unlike 33 = .ok (.iconst 0, 1) := by decide +kernel
theorem dX6_unlike_34 : decode cX6_unlike 34 = .ok (.iadd, 1) := by decide +kernel
theorem dX6_unlike_35 : decode cX6_unlike 35 = .ok (.istore_n 1, 1) := by decide +kernel
theorem dX6_unlike_36 : decode cX6_unlike 36 = .ok (.iload_n 2, 1) := by decide +kernel
theorem dX6_unlike_37 : decode cX6_unlike 37 = .ok (.iconst 1, 1) := by decide +kernel
theorem dX6_unlike_38 : decode cX6_unlike 38 = .ok (.aload_n 0, 1) := by decide +kernel
theorem dX6_unlike_39 : decode cX6_unlike 39 = .ok (.iload_n 3, 1) := by decide +kernel
theorem dX6_unlike_40 : decode cX6_unlike 40 = .ok (.invokevirtual 83, 3) := by decide +kernel
theorem dX6_unlike_43 : decode cX6_unlike 43 = .ok (.ishl, 1) := by decide +kernel
theorem dX6_unlike_44 : decode cX6_unlike 44 = .ok (.ior, 1) := by decide +kernel
theorem dX6_unlike_45 : decode cX6_unlike 45 = .ok (.istore_n 2, 1) := by decide +kernel
theorem dX6_unlike_46 : decode cX6_unlike 46 = .ok (.iinc 3 1, 3) := by decide +kernel
theorem dX6_unlike_49 : decode cX6_unlike 49 = .ok (.goto (-43), 3) := by decide +kernel
theorem dX6_unlike_52 : decode cX6_unlike 52 = .ok (.iload_n 1, 1) := by decide +kernel
theorem dX6_unlike_53 : decode cX6_unlike 53 = .ok (.ireturn, 1) := by decide +kernel
theorem dX6_count_0 : decode cX6_count 0 = .ok (.iload_n 1, 1) := by decide +kernel
theorem dX6_count_1 : decode cX6_count 1 = .ok (.tableswitch 107 0 8 #[51, 58, 63, 72, 77, 83, 90, 97, 102], 51) := by decide +kernel
theorem dX6_count_52 : decode cX6_count 52 = .ok (.aload_n 0, 1) := by decide +kernel
theorem dX6_count_53 : decode cX6_count 53 = .ok (.getfield 7, 3) := by decide +kernel
theorem dX6_count_56 : decode cX6_count 56 = .ok (.iconst 0, 1) := by decide +kernel
theorem dX6_count_57 : decode cX6_count 57 = .ok (.iaload, 1) := by decide +kernel
theorem dX6_count_58 : decode cX6_count 58 = .ok (.ireturn, 1) := by decide +kernel
theorem dX6_count_59 : decode cX6_count 59 = .ok (.aload_n 0, 1) := by decide +kernel
theorem dX6_count_60 : decode cX6_count 60 = .ok (.invokevirtual 58, 3) := by decide +kernel
theorem dX6_count_63 : decode cX6_count 63 = .ok (.ireturn, 1) := by decide +kernel
theorem dX6_count_64 : decode cX6_count 64 = .ok (.aload_n 0, 1) := by decide +kernel
theorem dX6_count_65 : decode cX6_count 65 = .ok (.aload_n 0, 1) := by decide +kernel
theorem dX6_count_66 : decode cX6_count 66 = .ok (.invokevirtual 58, 3) := by decide +kernel
theorem dX6_count_69 : decode cX6_count 69 = .ok (.invokevirtual 46, 3) := by decide +kernel
theorem dX6_count_72 : decode cX6_count 72 = .ok (.ireturn, 1) := by decide +kernel
theorem dX6_count_73 : decode cX6_count 73 = .ok (.aload_n 0, 1) := by decide +kernel
theorem dX6_count_74 : decode cX6_count 74 = .ok (.invokevirtual 127, 3) := by decide +kernel
theorem dX6_count_77 : decode cX6_count 77 = .ok (.ireturn, 1) := by decide +kernel
theorem dX6_count_78 : decode cX6_count 78 = .ok (.aload_n 0, 1) := by decide +kernel
theorem dX6_count_79 : decode cX6_count 79 = .ok (.iconst 0, 1) := by decide +kernel
theorem dX6_count_80 : decode cX6_count 80 = .ok (.invokevirtual 106, 3) := by decide +kernel
theorem dX6_count_83 : decode cX6_count 83 = .ok (.ireturn, 1) := by decide +kernel
theorem dX6_count_84 : decode cX6_count 84 = .ok (.aload_n 0, 1) := by decide +kernel
theorem dX6_count_85 : decode cX6_count 85 = .ok (.getfield 7, 3) := by decide +kernel
theorem dX6_count_88 : decode cX6_count 88 = .ok (.iconst 3, 1) := by decide +kernel
theorem dX6_count_89 : decode cX6_count 89 = .ok (.iaload, 1) := by decide +kernel
theorem dX6_count_90 : decode cX6_count 90 = .ok (.ireturn, 1) := by decide +kernel
theorem dX6_count_91 : decode cX6_count 91 = .ok (.aload_n 0, 1) := by decide +kernel
theorem dX6_count_92 : decode cX6_count 92 = .ok (.getfield 7, 3) := by decide +kernel
theorem dX6_count_95 : decode cX6_count 95 = .ok (.iconst 4, 1) := by decide +kernel
theorem dX6_count_96 : decode cX6_count 96 = .ok (.iaload, 1) := by decide +kernel
theorem dX6_count_97 : decode cX6_count 97 = .ok (.ireturn, 1) := by decide +kernel
theorem dX6_count_98 : decode cX6_count 98 = .ok (.aload_n 0, 1) := by decide +kernel
theorem dX6_count_99 : decode cX6_count 99 = .ok (.getfield 31, 3) := by decide +kernel
theorem dX6_count_102 : decode cX6_count 102 = .ok (.ireturn, 1) := by decide +kernel
theorem dX6_count_103 : decode cX6_count 103 = .ok (.aload_n 0, 1) := by decide +kernel
theorem dX6_count_104 : decode cX6_count 104 = .ok (.getfield 130, 3) := by decide +kernel
theorem dX6_count_107 : decode cX6_count 107 = .ok (.ireturn, 1) := by decide +kernel
theorem dX6_count_108 : decode cX6_count 108 = .ok (.iload_n 1, 1) := by decide +kernel
theorem dX6_count_109 : decode cX6_count 109 = .ok (.bipush 9, 2) := by decide +kernel
theorem dX6_count_111 : decode cX6_count 111 = .ok (.if_icmp .ne 10, 3) := by decide +kernel
theorem dX6_count_114 : decode cX6_count 114 = .ok (.aload_n 0, 1) := by decide +kernel
theorem dX6_count_115 : decode cX6_count 115 = .ok (.invokevirtual 133, 3) := by decide +kernel
theorem dX6_count_118 : decode cX6_count 118 = .ok (.goto 4, 3) := by decide +kernel
theorem dX6_count_121 : decode cX6_count 121 = .ok (.iconst (-1), 1) := by decide +kernel
theorem dX6_count_122 : decode cX6_count 122 = .ok (.ireturn, 1) := by decide +kernel
theorem dX6_areLike_0 : decode cX6_areLike 0 = .ok (.aload_n 0, 1) := by decide +kernel
theorem dX6_areLike_1 : decode cX6_areLike 1 = .ok (.iload_n 1, 1) := by decide +kernel
theorem dX6_areLike_2 : decode cX6_areLike 2 = .ok (.invokevirtual 49, 3) := by decide +kernel
theorem dX6_areLike_5 : decode cX6_areLike 5 = .ok (.iload_n 1, 1) := by decide +kernel
theorem dX6_areLike_6 : decode cX6_areLike 6 = .ok (.isub, 1) := by decide +kernel
theorem dX6_areLike_7 : decode cX6_areLike 7 = .ok (.istore_n 3, 1) := by decide +kernel
theorem dX6_areLike_8 : decode cX6_areLike 8 = .ok (.aload_n 0, 1) := by decide +kernel
theorem dX6_areLike_9 : decode cX6_areLike 9 = .ok (.iload_n 2, 1) := by decide +kernel
theorem dX6_areLike_10 : decode cX6_areLike 10 = .ok (.invokevirtual 49, 3) := by decide +kernel
theorem dX6_areLike_13 : decode cX6_areLike 13 = .ok (.iload_n 2, 1) := by decide +kernel
theorem dX6_areLike_14 : decode cX6_areLike 14 = .ok (.isub, 1) := by decide +kernel
theorem dX6_areLike_15 : decode cX6_areLike 15 = .ok (.iload_n 3, 1) := by decide +kernel
theorem dX6_areLike_16 : decode cX6_areLike 16 = .ok (.if_icmp .ne 7, 3) := by decide +kernel
theorem dX6_areLike_19 : decode cX6_areLike 19 = .ok (.iconst 1, 1) := by decide +kernel
theorem dX6_areLike_20 : decode cX6_areLike 20 = .ok (.goto 4, 3) := by decide +kernel
theorem dX6_areLike_23 : decode cX6_areLike 23 = .ok (.iconst 0, 1) := by decide +kernel
theorem dX6_areLike_24 : decode cX6_areLike 24 = .ok (.istore 4, 2) := by decide +kernel
theorem dX6_areLike_26 : decode cX6_areLike 26 = .ok (.iconst 0, 1) := by decide +kernel
theorem dX6_areLike_27 : decode cX6_areLike 27 = .ok (.istore 5, 2) := by decide +kernel
theorem dX6_areLike_29 : decode cX6_areLike 29 = .ok (.iload 5, 2) := by decide +kernel
theorem dX6_areLike_31 : decode cX6_areLike 31 = .ok (.iload_n 3, 1) := by decide +kernel
theorem dX6_areLike_32 : decode cX6_areLike 32 = .ok (.if_icmp .ge 71, 3) := by decide +kernel
theorem dX6_areLike_35 : decode cX6_areLike 35 = .ok (.iload 4, 2) := by decide +kernel
theorem dX6_areLike_37 : decode cX6_areLike 37 = .ok (.ifCond .eq 66, 3) := by decide +kernel
theorem dX6_areLike_40 : decode cX6_areLike 40 = .ok (.aload_n 0, 1) := by decide +kernel
theorem dX6_areLike_41 : decode cX6_areLike 41 = .ok (.iload_n 1, 1) := by decide +kernel
theorem dX6_areLike_42 : decode cX6_areLike 42 = .ok (.iload 5, 2) := by decide +kernel
theorem dX6_areLike_44 : decode cX6_areLike 44 = .ok (.iadd, 1) := by decide +kernel
theorem dX6_areLike_45 : decode cX6_areLike 45 = .ok (.invokevirtual 83, 3) := by decide +kernel
theorem dX6_areLike_48 : decode cX6_areLike 48 = .ok (.aload_n 0, 1) := by decide +kernel
theorem dX6_areLike_49 : decode cX6_areLike 49 = .ok (.iload_n 2, 1) := by decide +kernel
theorem dX6_areLike_50 : decode cX6_areLike 50 = .ok (.iload 5, 2) := by decide +kernel
theorem dX6_areLike_52 : decode cX6_areLike 52 = .ok (.iadd, 1) := by decide +kernel
theorem dX6_areLike_53 : decode cX6_areLike 53 = .ok (.invokevirtual 83, 3) := by decide +kernel
theorem dX6_areLike_56 : decode cX6_areLike 56 = .ok (.if_icmp .ne 38, 3) := by decide +kernel
theorem dX6_areLike_59 : decode cX6_areLike 59 = .ok (.aload_n 0, 1) := by decide +kernel
theorem dX6_areLike_60 : decode cX6_areLike 60 = .ok (.iload_n 1, 1) := by decide +kernel
theorem dX6_areLike_61 : decode cX6_areLike 61 = .ok (.iload 5, 2) := by decide +kernel
theorem dX6_areLike_63 : decode cX6_areLike 63 = .ok (.iadd, 1) := by decide +kernel
theorem dX6_areLike_64 : decode cX6_areLike 64 = .ok (.invokevirtual 46, 3) := by decide +kernel
theorem dX6_areLike_67 : decode cX6_areLike 67 = .ok (.aload_n 0, 1) := by decide +kernel
theorem dX6_areLike_68 : decode cX6_areLike 68 = .ok (.iload_n 1, 1) := by decide +kernel
theorem dX6_areLike_69 : decode cX6_areLike 69 = .ok (.invokevirtual 46, 3) := by decide +kernel
theorem dX6_areLike_72 : decode cX6_areLike 72 = .ok (.isub, 1) := by decide +kernel
theorem dX6_areLike_73 : decode cX6_areLike 73 = .ok (.aload_n 0, 1) := by decide +kernel
theorem dX6_areLike_74 : decode cX6_areLike 74 = .ok (.iload_n 2, 1) := by decide +kernel
theorem dX6_areLike_75 : decode cX6_areLike 75 = .ok (.iload 5, 2) := by decide +kernel
theorem dX6_areLike_77 : decode cX6_areLike 77 = .ok (.iadd, 1) := by decide +kernel
theorem dX6_areLike_78 : decode cX6_areLike 78 = .ok (.invokevirtual 46, 3) := by decide +kernel
theorem dX6_areLike_81 : decode cX6_areLike 81 = .ok (.aload_n 0, 1) := by decide +kernel
theorem dX6_areLike_82 : decode cX6_areLike 82 = .ok (.iload_n 2, 1) := by decide +kernel
theorem dX6_areLike_83 : decode cX6_areLike 83 = .ok (.invokevirtual 46, 3) := by decide +kernel
theorem dX6_areLike_86 : decode cX6_areLike 86 = .ok (.isub, 1) := by decide +kernel
theorem dX6_areLike_87 : decode cX6_areLike 87 = .ok (.if_icmp .ne 7, 3) := by decide +kernel
theorem dX6_areLike_90 : decode cX6_areLike 90 = .ok (.iconst 1, 1) := by decide +kernel
theorem dX6_areLike_91 : decode cX6_areLike 91 = .ok (.goto 4, 3) := by decide +kernel
theorem dX6_areLike_94 : decode cX6_areLike 94 = .ok (.iconst 0, 1) := by decide +kernel
theorem dX6_areLike_95 : decode cX6_areLike 95 = .ok (.istore 4, 2) := by decide +kernel
theorem dX6_areLike_97 : decode cX6_areLike 97 = .ok (.iinc 5 1, 3) := by decide +kernel
theorem dX6_areLike_100 : decode cX6_areLike 100 = .ok (.goto (-71), 3) := by decide +kernel
theorem dX6_areLike_103 : decode cX6_areLike 103 = .ok (.iload 4, 2) := by decide +kernel
theorem dX6_areLike_105 : decode cX6_areLike 105 = .ok (.ireturn, 1) := by decide +kernel
theorem dX6_like_0 : decode cX6_like 0 = .ok (.aload_n 0, 1) := by decide +kernel
theorem dX6_like_1 : decode cX6_like 1 = .ok (.invokevirtual 58, 3) := by decide +kernel
theorem dX6_like_4 : decode cX6_like 4 = .ok (.istore_n 1, 1) := by decide +kernel
theorem dX6_like_5 : decode cX6_like 5 = .ok (.iconst 0, 1) := by decide +kernel
theorem dX6_like_6 : decode cX6_like 6 = .ok (.istore_n 2, 1) := by decide +kernel
theorem dX6_like_7 : decode cX6_like 7 = .ok (.iconst 0, 1) := by decide +kernel
theorem dX6_like_8 : decode cX6_like 8 = .ok (.istore_n 3, 1) := by decide +kernel
theorem dX6_like_9 : decode cX6_like 9 = .ok (.iload_n 3, 1) := by decide +kernel
theorem dX6_like_10 : decode cX6_like 10 = .ok (.aload_n 0, 1) := by decide +kernel
theorem dX6_like_11 : decode cX6_like 11 = .ok (.getfield 7, 3) := by decide +kernel
theorem dX6_like_14 : decode cX6_like 14 = .ok (.iconst 0, 1) := by decide +kernel
theorem dX6_like_15 : decode cX6_like 15 = .ok (.iaload, 1) := by decide +kernel
theorem dX6_like_16 : decode cX6_like 16 = .ok (.if_icmp .ge 26, 3) := by decide +kernel
theorem dX6_like_19 : decode cX6_like 19 = .ok (.iload_n 2, 1) := by decide +kernel
theorem dX6_like_20 : decode cX6_like 20 = .ok (.aload_n 0, 1) := by decide +kernel
theorem dX6_like_21 : decode cX6_like 21 = .ok (.iload_n 1, 1) := by decide +kernel
theorem dX6_like_22 : decode cX6_like 22 = .ok (.iload_n 3, 1) := by decide +kernel
theorem dX6_like_23 : decode cX6_like 23 = .ok (.invokevirtual 136, 3) := by decide +kernel
theorem dX6_like_26 : decode cX6_like 26 = .ok (.ifCond .eq 7, 3) := by decide +kernel
theorem dX6_like_29 : decode cX6_like 29 = .ok (.iconst 1, 1) := by decide +kernel
theorem dX6_like_30 : decode cX6_like 30 = .ok (.goto 4, 3) := by decide +kernel
theorem dX6_like_33 : decode cX6_like 33 = .ok (.iconst 0, 1) := by decide +kernel
theorem dX6_like_34 : decode cX6_like 34 = .ok (.iadd, 1) := by decide +kernel
theorem dX6_like_35 : decode cX6_like 35 = .ok (.istore_n 2, 1) := by decide +kernel
theorem dX6_like_36 : decode cX6_like 36 = .ok (.iinc 3 1, 3) := by decide +kernel
theorem dX6_like_39 : decode cX6_like 39 = .ok (.goto (-30), 3) := by decide +kernel
theorem dX6_like_42 : decode cX6_like 42 = .ok (.iload_n 2, 1) := by decide +kernel
theorem dX6_like_43 : decode cX6_like 43 = .ok (.ireturn, 1) := by decide +kernel
theorem dX6_meet_0 : decode cX6_meet 0 = .ok (.aload_n 0, 1) := by decide +kernel
theorem dX6_meet_1 : decode cX6_meet 1 = .ok (.iload_n 1, 1) := by decide +kernel
theorem dX6_meet_2 : decode cX6_meet 2 = .ok (.invokevirtual 79, 3) := by decide +kernel
theorem dX6_meet_5 : decode cX6_meet 5 = .ok (.ifCond .eq 11, 3) := by decide +kernel
theorem dX6_meet_8 : decode cX6_meet 8 = .ok (.aload_n 0, 1) := by decide +kernel
theorem dX6_meet_9 : decode cX6_meet 9 = .ok (.iload_n 2, 1) := by decide +kernel
theorem dX6_meet_10 : decode cX6_meet 10 = .ok (.invokevirtual 79, 3) := by decide +kernel
theorem dX6_meet_13 : decode cX6_meet 13 = .ok (.ifCond .ne 5, 3) := by decide +kernel
theorem dX6_meet_16 : decode cX6_meet 16 = .ok (.iconst (-1), 1) := by decide +kernel
theorem dX6_meet_17 : decode cX6_meet 17 = .ok (.ireturn, 1) := by decide +kernel
theorem dX6_meet_18 : decode cX6_meet 18 = .ok (.iload_n 1, 1) := by decide +kernel
theorem dX6_meet_19 : decode cX6_meet 19 = .ok (.istore_n 3, 1) := by decide +kernel
theorem dX6_meet_20 : decode cX6_meet 20 = .ok (.iload_n 2, 1) := by decide +kernel
theorem dX6_meet_21 : decode cX6_meet 21 = .ok (.istore 4, 2) := by decide +kernel
theorem dX6_meet_23 : decode cX6_meet 23 = .ok (.iload_n 3, 1) := by decide +kernel
theorem dX6_meet_24 : decode cX6_meet 24 = .ok (.iload 4, 2) := by decide +kernel
theorem dX6_meet_26 : decode cX6_meet 26 = .ok (.if_icmp .eq 61, 3) := by decide +kernel
theorem dX6_meet_29 : decode cX6_meet 29 = .ok (.aload_n 0, 1) := by decide +kernel
theorem dX6_meet_30 : decode cX6_meet 30 = .ok (.iload_n 3, 1) := by decide +kernel
theorem dX6_meet_31 : decode cX6_meet 31 = .ok (.invokevirtual 46, 3) := by decide +kernel
theorem dX6_meet_34 : decode cX6_meet 34 = .ok (.aload_n 0, 1) := by decide +kernel
theorem dX6_meet_35 : decode cX6_meet 35 = .ok (.iload 4, 2) := by decide +kernel
theorem dX6_meet_37 : decode cX6_meet 37 = .ok (.invokevirtual 46, 3) := by decide +kernel
theorem dX6_meet_40 : decode cX6_meet 40 = .ok (.if_icmp .lt 11, 3) := by decide +kernel
theorem dX6_meet_43 : decode cX6_meet 43 = .ok (.aload_n 0, 1) := by decide +kernel
theorem dX6_meet_44 : decode cX6_meet 44 = .ok (.iload_n 3, 1) := by decide +kernel
theorem dX6_meet_45 : decode cX6_meet 45 = .ok (.invokevirtual 52, 3) := by decide +kernel
theorem dX6_meet_48 : decode cX6_meet 48 = .ok (.goto 4, 3) := by decide +kernel
theorem dX6_meet_51 : decode cX6_meet 51 = .ok (.iload_n 3, 1) := by decide +kernel
theorem dX6_meet_52 : decode cX6_meet 52 = .ok (.istore 5, 2) := by decide +kernel
theorem dX6_meet_54 : decode cX6_meet 54 = .ok (.aload_n 0, 1) := by decide +kernel
theorem dX6_meet_55 : decode cX6_meet 55 = .ok (.iload_n 3, 1) := by decide +kernel
theorem dX6_meet_56 : decode cX6_meet 56 = .ok (.invokevirtual 46, 3) := by decide +kernel
theorem dX6_meet_59 : decode cX6_meet 59 = .ok (.aload_n 0, 1) := by decide +kernel
theorem dX6_meet_60 : decode cX6_meet 60 = .ok (.iload 4, 2) := by decide +kernel
theorem dX6_meet_62 : decode cX6_meet 62 = .ok (.invokevirtual 46, 3) := by decide +kernel
theorem dX6_meet_65 : decode cX6_meet 65 = .ok (.if_icmp .lt 8, 3) := by decide +kernel
theorem dX6_meet_68 : decode cX6_meet 68 = .ok (.iload 4, 2) := by decide +kernel
theorem dX6_meet_70 : decode cX6_meet 70 = .ok (.goto 9, 3) := by decide +kernel
theorem dX6_meet_73 : decode cX6_meet 73 = .ok (.aload_n 0, 1) := by decide +kernel
theorem dX6_meet_74 : decode cX6_meet 74 = .ok (.iload 4, 2) := by decide +kernel
theorem dX6_meet_76 : decode cX6_meet 76 = .ok (.invokevirtual 52, 3) := by decide +kernel
theorem dX6_meet_79 : decode cX6_meet 79 = .ok (.istore 4, 2) := by decide +kernel
theorem dX6_meet_81 : decode cX6_meet 81 = .ok (.iload 5, 2) := by decide +kernel
theorem dX6_meet_83 : decode cX6_meet 83 = .ok (.istore_n 3, 1) := by decide +kernel
theorem dX6_meet_84 : decode cX6_meet 84 = .ok (.goto (-61), 3) := by decide +kernel
theorem dX6_meet_87 : decode cX6_meet 87 = .ok (.iload_n 3, 1) := by decide +kernel
theorem dX6_meet_88 : decode cX6_meet 88 = .ok (.ireturn, 1) := by decide +kernel
theorem dX6_find_0 : decode cX6_find 0 = .ok (.iload_n 1, 1) := by decide +kernel
theorem dX6_find_1 : decode cX6_find 1 = .ok (.iconst 0, 1) := by decide +kernel
theorem dX6_find_2 : decode cX6_find 2 = .ok (.bipush 25, 2) := by decide +kernel
theorem dX6_find_4 : decode cX6_find 4 = .ok (.invokestatic 35, 3) := by decide +kernel
theorem dX6_find_7 : decode cX6_find 7 = .ok (.ifCond .ne 5, 3) := by decide +kernel
theorem dX6_find_10 : decode cX6_find 10 = .ok (.iconst (-1), 1) := by decide +kernel
theorem dX6_find_11 : decode cX6_find 11 = .ok (.ireturn, 1) := by decide +kernel
theorem dX6_find_12 : decode cX6_find 12 = .ok (.aload_n 0, 1) := by decide +kernel
theorem dX6_find_13 : decode cX6_find 13 = .ok (.invokevirtual 58, 3) := by decide +kernel
theorem dX6_find_16 : decode cX6_find 16 = .ok (.istore_n 2, 1) := by decide +kernel
theorem dX6_find_17 : decode cX6_find 17 = .ok (.iconst 1, 1) := by decide +kernel
theorem dX6_find_18 : decode cX6_find 18 = .ok (.istore_n 3, 1) := by decide +kernel
theorem dX6_find_19 : decode cX6_find 19 = .ok (.iload_n 3, 1) := by decide +kernel
theorem dX6_find_20 : decode cX6_find 20 = .ok (.aload_n 0, 1) := by decide +kernel
theorem dX6_find_21 : decode cX6_find 21 = .ok (.getfield 7, 3) := by decide +kernel
theorem dX6_find_24 : decode cX6_find 24 = .ok (.iconst 0, 1) := by decide +kernel
theorem dX6_find_25 : decode cX6_find 25 = .ok (.iaload, 1) := by decide +kernel
theorem dX6_find_26 : decode cX6_find 26 = .ok (.if_icmp .gt 34, 3) := by decide +kernel
theorem dX6_find_29 : decode cX6_find 29 = .ok (.iload_n 2, 1) := by decide +kernel
theorem dX6_find_30 : decode cX6_find 30 = .ok (.iload_n 3, 1) := by decide +kernel
theorem dX6_find_31 : decode cX6_find 31 = .ok (.iadd, 1) := by decide +kernel
theorem dX6_find_32 : decode cX6_find 32 = .ok (.aload_n 0, 1) := by decide +kernel
theorem dX6_find_33 : decode cX6_find 33 = .ok (.getfield 7, 3) := by decide +kernel
theorem dX6_find_36 : decode cX6_find 36 = .ok (.iconst 0, 1) := by decide +kernel
theorem dX6_find_37 : decode cX6_find 37 = .ok (.iaload, 1) := by decide +kernel
theorem dX6_find_38 : decode cX6_find 38 = .ok (.irem, 1) := by decide +kernel
theorem dX6_find_39 : decode cX6_find 39 = .ok (.istore 4, 2) := by decide +kernel
theorem dX6_find_41 : decode cX6_find 41 = .ok (.aload_n 0, 1) := by decide +kernel
theorem dX6_find_42 : decode cX6_find 42 = .ok (.iload 4, 2) := by decide +kernel
theorem dX6_find_44 : decode cX6_find 44 = .ok (.invokevirtual 83, 3) := by decide +kernel
theorem dX6_find_47 : decode cX6_find 47 = .ok (.iload_n 1, 1) := by decide +kernel
theorem dX6_find_48 : decode cX6_find 48 = .ok (.if_icmp .ne 6, 3) := by decide +kernel
theorem dX6_find_51 : decode cX6_find 51 = .ok (.iload 4, 2) := by decide +kernel
theorem dX6_find_53 : decode cX6_find 53 = .ok (.ireturn, 1) := by decide +kernel
theorem dX6_find_54 : decode cX6_find 54 = .ok (.iinc 3 1, 3) := by decide +kernel
theorem dX6_find_57 : decode cX6_find 57 = .ok (.goto (-38), 3) := by decide +kernel
theorem dX6_find_60 : decode cX6_find 60 = .ok (.bipush (-4), 2) := by decide +kernel
theorem dX6_find_62 : decode cX6_find 62 = .ok (.ireturn, 1) := by decide +kernel
theorem dX6_undo_0 : decode cX6_undo 0 = .ok (.aload_n 0, 1) := by decide +kernel
theorem dX6_undo_1 : decode cX6_undo 1 = .ok (.getfield 31, 3) := by decide +kernel
theorem dX6_undo_4 : decode cX6_undo 4 = .ok (.ifCond .ne 6, 3) := by decide +kernel
theorem dX6_undo_7 : decode cX6_undo 7 = .ok (.bipush (-2), 2) := by decide +kernel
theorem dX6_undo_9 : decode cX6_undo 9 = .ok (.ireturn, 1) := by decide +kernel
theorem dX6_undo_10 : decode cX6_undo 10 = .ok (.aload_n 0, 1) := by decide +kernel
theorem dX6_undo_11 : decode cX6_undo 11 = .ok (.dup, 1) := by decide +kernel
theorem dX6_undo_12 : decode cX6_undo 12 = .ok (.getfield 31, 3) := by decide +kernel
theorem dX6_undo_15 : decode cX6_undo 15 = .ok (.iconst 1, 1) := by decide +kernel
theorem dX6_undo_16 : decode cX6_undo 16 = .ok (.isub, 1) := by decide +kernel
theorem dX6_undo_17 : decode cX6_undo 17 = .ok (.putfield 31, 3) := by decide +kernel
theorem dX6_undo_20 : decode cX6_undo 20 = .ok (.iconst 0, 1) := by decide +kernel
theorem dX6_undo_21 : decode cX6_undo 21 = .ok (.istore_n 1, 1) := by decide +kernel
theorem dX6_undo_22 : decode cX6_undo 22 = .ok (.iload_n 1, 1) := by decide +kernel
theorem dX6_undo_23 : decode cX6_undo 23 = .ok (.sipush 218, 3) := by decide +kernel
theorem dX6_undo_26 : decode cX6_undo 26 = .ok (.if_icmp .ge 30, 3) := by decide +kernel
theorem dX6_undo_29 : decode cX6_undo 29 = .ok (.aload_n 0, 1) := by decide +kernel
theorem dX6_undo_30 : decode cX6_undo 30 = .ok (.getfield 7, 3) := by decide +kernel
theorem dX6_undo_33 : decode cX6_undo 33 = .ok (.iload_n 1, 1) := by decide +kernel
theorem dX6_undo_34 : decode cX6_undo 34 = .ok (.aload_n 0, 1) := by decide +kernel
theorem dX6_undo_35 : decode cX6_undo 35 = .ok (.getfield 16, 3) := by decide +kernel
theorem dX6_undo_38 : decode cX6_undo 38 = .ok (.sipush 218, 3) := by decide +kernel
theorem dX6_undo_41 : decode cX6_undo 41 = .ok (.aload_n 0, 1) := by decide +kernel
theorem dX6_undo_42 : decode cX6_undo 42 = .ok (.getfield 31, 3) := by decide +kernel
theorem dX6_undo_45 : decode cX6_undo 45 = .ok (.imul, 1) := by decide +kernel
theorem dX6_undo_46 : decode cX6_undo 46 = .ok (.iload_n 1, 1) := by decide +kernel
theorem dX6_undo_47 : decode cX6_undo 47 = .ok (.iadd, 1) := by decide +kernel
theorem dX6_undo_48 : decode cX6_undo 48 = .ok (.iaload, 1) := by decide +kernel
theorem dX6_undo_49 : decode cX6_undo 49 = .ok (.iastore, 1) := by decide +kernel
theorem dX6_undo_50 : decode cX6_undo 50 = .ok (.iinc 1 1, 3) := by decide +kernel
theorem dX6_undo_53 : decode cX6_undo 53 = .ok (.goto (-31), 3) := by decide +kernel
theorem dX6_undo_56 : decode cX6_undo 56 = .ok (.aload_n 0, 1) := by decide +kernel
theorem dX6_undo_57 : decode cX6_undo 57 = .ok (.getfield 31, 3) := by decide +kernel
theorem dX6_undo_60 : decode cX6_undo 60 = .ok (.ireturn, 1) := by decide +kernel
theorem dX6_type_0 : decode cX6_type 0 = .ok (.iload_n 1, 1) := by decide +kernel
theorem dX6_type_1 : decode cX6_type 1 = .ok (.bipush 32, 2) := by decide +kernel
theorem dX6_type_3 : decode cX6_type 3 = .ok (.bipush 126, 2) := by decide +kernel
theorem dX6_type_5 : decode cX6_type 5 = .ok (.invokestatic 35, 3) := by decide +kernel
theorem dX6_type_8 : decode cX6_type 8 = .ok (.ifCond .ne 5, 3) := by decide +kernel
theorem dX6_type_11 : decode cX6_type 11 = .ok (.iconst (-1), 1) := by decide +kernel
theorem dX6_type_12 : decode cX6_type 12 = .ok (.ireturn, 1) := by decide +kernel
theorem dX6_type_13 : decode cX6_type 13 = .ok (.aload_n 0, 1) := by decide +kernel
theorem dX6_type_14 : decode cX6_type 14 = .ok (.getfield 130, 3) := by decide +kernel
theorem dX6_type_17 : decode cX6_type 17 = .ok (.bipush 120, 2) := by decide +kernel
theorem dX6_type_19 : decode cX6_type 19 = .ok (.if_icmp .ne 6, 3) := by decide +kernel
theorem dX6_type_22 : decode cX6_type 22 = .ok (.bipush (-3), 2) := by decide +kernel
theorem dX6_type_24 : decode cX6_type 24 = .ok (.ireturn, 1) := by decide +kernel
theorem dX6_type_25 : decode cX6_type 25 = .ok (.aload_n 0, 1) := by decide +kernel
theorem dX6_type_26 : decode cX6_type 26 = .ok (.getfield 22, 3) := by decide +kernel
theorem dX6_type_29 : decode cX6_type 29 = .ok (.aload_n 0, 1) := by decide +kernel
theorem dX6_type_30 : decode cX6_type 30 = .ok (.getfield 130, 3) := by decide +kernel
theorem dX6_type_33 : decode cX6_type 33 = .ok (.iload_n 1, 1) := by decide +kernel
theorem dX6_type_34 : decode cX6_type 34 = .ok (.iastore, 1) := by decide +kernel
theorem dX6_type_35 : decode cX6_type 35 = .ok (.aload_n 0, 1) := by decide +kernel
theorem dX6_type_36 : decode cX6_type 36 = .ok (.dup, 1) := by decide +kernel
theorem dX6_type_37 : decode cX6_type 37 = .ok (.getfield 130, 3) := by decide +kernel
theorem dX6_type_40 : decode cX6_type 40 = .ok (.iconst 1, 1) := by decide +kernel
theorem dX6_type_41 : decode cX6_type 41 = .ok (.iadd, 1) := by decide +kernel
theorem dX6_type_42 : decode cX6_type 42 = .ok (.putfield 130, 3) := by decide +kernel
theorem dX6_type_45 : decode cX6_type 45 = .ok (.aload_n 0, 1) := by decide +kernel
theorem dX6_type_46 : decode cX6_type 46 = .ok (.getfield 130, 3) := by decide +kernel
theorem dX6_type_49 : decode cX6_type 49 = .ok (.ireturn, 1) := by decide +kernel
theorem dX6_clearText_0 : decode cX6_clearText 0 = .ok (.aload_n 0, 1) := by decide +kernel
theorem dX6_clearText_1 : decode cX6_clearText 1 = .ok (.getfield 130, 3) := by decide +kernel
theorem dX6_clearText_4 : decode cX6_clearText 4 = .ok (.istore_n 1, 1) := by decide +kernel
theorem dX6_clearText_5 : decode cX6_clearText 5 = .ok (.aload_n 0, 1) := by decide +kernel
theorem dX6_clearText_6 : decode cX6_clearText 6 = .ok (.iconst 0, 1) := by decide +kernel
theorem dX6_clearText_7 : decode cX6_clearText 7 = .ok (.putfield 130, 3) := by decide +kernel
theorem dX6_clearText_10 : decode cX6_clearText 10 = .ok (.iload_n 1, 1) := by decide +kernel
theorem dX6_clearText_11 : decode cX6_clearText 11 = .ok (.ireturn, 1) := by decide +kernel
theorem dX6_puts_0 : decode cX6_puts 0 = .ok (.aload_n 0, 1) := by decide +kernel
theorem dX6_puts_1 : decode cX6_puts 1 = .ok (.getfield 22, 3) := by decide +kernel
theorem dX6_puts_4 : decode cX6_puts 4 = .ok (.aload_n 0, 1) := by decide +kernel
theorem dX6_puts_5 : decode cX6_puts 5 = .ok (.getfield 130, 3) := by decide +kernel
theorem dX6_puts_8 : decode cX6_puts 8 = .ok (.iload_n 1, 1) := by decide +kernel
theorem dX6_puts_9 : decode cX6_puts 9 = .ok (.iastore, 1) := by decide +kernel
theorem dX6_puts_10 : decode cX6_puts 10 = .ok (.aload_n 0, 1) := by decide +kernel
theorem dX6_puts_11 : decode cX6_puts 11 = .ok (.dup, 1) := by decide +kernel
theorem dX6_puts_12 : decode cX6_puts 12 = .ok (.getfield 130, 3) := by decide +kernel
theorem dX6_puts_15 : decode cX6_puts 15 = .ok (.iconst 1, 1) := by decide +kernel
theorem dX6_puts_16 : decode cX6_puts 16 = .ok (.iadd, 1) := by decide +kernel
theorem dX6_puts_17 : decode cX6_puts 17 = .ok (.putfield 130, 3) := by decide +kernel
theorem dX6_puts_20 : decode cX6_puts 20 = .ok (.return_, 1) := by decide +kernel
theorem dX6_write_0 : decode cX6_write 0 = .ok (.aload_n 0, 1) := by decide +kernel
theorem dX6_write_1 : decode cX6_write 1 = .ok (.iconst 0, 1) := by decide +kernel
theorem dX6_write_2 : decode cX6_write 2 = .ok (.putfield 130, 3) := by decide +kernel
theorem dX6_write_5 : decode cX6_write 5 = .ok (.iconst 0, 1) := by decide +kernel
theorem dX6_write_6 : decode cX6_write 6 = .ok (.istore_n 1, 1) := by decide +kernel
theorem dX6_write_7 : decode cX6_write 7 = .ok (.iload_n 1, 1) := by decide +kernel
theorem dX6_write_8 : decode cX6_write 8 = .ok (.aload_n 0, 1) := by decide +kernel
theorem dX6_write_9 : decode cX6_write 9 = .ok (.getfield 7, 3) := by decide +kernel
theorem dX6_write_12 : decode cX6_write 12 = .ok (.iconst 0, 1) := by decide +kernel
theorem dX6_write_13 : decode cX6_write 13 = .ok (.iaload, 1) := by decide +kernel
theorem dX6_write_14 : decode cX6_write 14 = .ok (.if_icmp .ge 104, 3) := by decide +kernel
theorem dX6_write_17 : decode cX6_write 17 = .ok (.aload_n 0, 1) := by decide +kernel
theorem dX6_write_18 : decode cX6_write 18 = .ok (.bipush 97, 2) := by decide +kernel
theorem dX6_write_20 : decode cX6_write 20 = .ok (.aload_n 0, 1) := by decide +kernel
theorem dX6_write_21 : decode cX6_write 21 = .ok (.iload_n 1, 1) := by decide +kernel
theorem dX6_write_22 : decode cX6_write 22 = .ok (.invokevirtual 83, 3) := by decide +kernel
theorem dX6_write_25 : decode cX6_write 25 = .ok (.iadd, 1) := by decide +kernel
theorem dX6_write_26 : decode cX6_write 26 = .ok (.invokevirtual 140, 3) := by decide +kernel
theorem dX6_write_29 : decode cX6_write 29 = .ok (.iload_n 1, 1) := by decide +kernel
theorem dX6_write_30 : decode cX6_write 30 = .ok (.iconst 1, 1) := by decide +kernel
theorem dX6_write_31 : decode cX6_write 31 = .ok (.iadd, 1) := by decide +kernel
theorem dX6_write_32 : decode cX6_write 32 = .ok (.aload_n 0, 1) := by decide +kernel
theorem dX6_write_33 : decode cX6_write 33 = .ok (.getfield 7, 3) := by decide +kernel
theorem dX6_write_36 : decode cX6_write 36 = .ok (.iconst 0, 1) := by decide +kernel
theorem dX6_write_37 : decode cX6_write 37 = .ok (.iaload, 1) := by decide +kernel
theorem dX6_write_38 : decode cX6_write 38 = .ok (.if_icmp .ge 13, 3) := by decide +kernel
theorem dX6_write_41 : decode cX6_write 41 = .ok (.aload_n 0, 1) := by decide +kernel
theorem dX6_write_42 : decode cX6_write 42 = .ok (.iload_n 1, 1) := by decide +kernel
theorem dX6_write_43 : decode cX6_write 43 = .ok (.iconst 1, 1) := by decide +kernel
theorem dX6_write_44 : decode cX6_write 44 = .ok (.iadd, 1) := by decide +kernel
theorem dX6_write_45 : decode cX6_write 45 = .ok (.invokevirtual 46, 3) := by decide +kernel
theorem dX6_write_48 : decode cX6_write 48 = .ok (.goto 4, 3) := by decide +kernel
theorem dX6_write_51 : decode cX6_write 51 = .ok (.iconst 0, 1) := by decide +kernel
theorem dX6_write_52 : decode cX6_write 52 = .ok (.istore_n 2, 1) := by decide +kernel
theorem dX6_write_53 : decode cX6_write 53 = .ok (.aload_n 0, 1) := by decide +kernel
theorem dX6_write_54 : decode cX6_write 54 = .ok (.iload_n 1, 1) := by decide +kernel
theorem dX6_write_55 : decode cX6_write 55 = .ok (.invokevirtual 46, 3) := by decide +kernel
theorem dX6_write_58 : decode cX6_write 58 = .ok (.istore_n 3, 1) := by decide +kernel
theorem dX6_write_59 : decode cX6_write 59 = .ok (.iload_n 3, 1) := by decide +kernel
theorem dX6_write_60 : decode cX6_write 60 = .ok (.iload_n 2, 1) := by decide +kernel
theorem dX6_write_61 : decode cX6_write 61 = .ok (.if_icmp .le 15, 3) := by decide +kernel
theorem dX6_write_64 : decode cX6_write 64 = .ok (.aload_n 0, 1) := by decide +kernel
theorem dX6_write_65 : decode cX6_write 65 = .ok (.bipush 41, 2) := by decide +kernel
theorem dX6_write_67 : decode cX6_write 67 = .ok (.invokevirtual 140, 3) := by decide +kernel
theorem dX6_write_70 : decode cX6_write 70 = .ok (.iinc 3 (-1), 3) := by decide +kernel
theorem dX6_write_73 : decode cX6_write 73 = .ok (.goto (-14), 3) := by decide +kernel
theorem dX6_write_76 : decode cX6_write 76 = .ok (.iload_n 2, 1) := by decide +kernel
theorem dX6_write_77 : decode cX6_write 77 = .ok (.aload_n 0, 1) := by decide +kernel
theorem dX6_write_78 : decode cX6_write 78 = .ok (.iload_n 1, 1) := by decide +kernel
theorem dX6_write_79 : decode cX6_write 79 = .ok (.invokevirtual 46, 3) := by decide +kernel
theorem dX6_write_82 : decode cX6_write 82 = .ok (.if_icmp .le 12, 3) := by decide +kernel
theorem dX6_write_85 : decode cX6_write 85 = .ok (.aload_n 0, 1) := by decide +kernel
theorem dX6_write_86 : decode cX6_write 86 = .ok (.bipush 40, 2) := by decide +kernel
theorem dX6_write_88 : decode cX6_write 88 = .ok (.invokevirtual 140, 3) := by decide +kernel
theorem dX6_write_91 : decode cX6_write 91 = .ok (.goto 21, 3) := by decide +kernel
theorem dX6_write_94 : decode cX6_write 94 = .ok (.iload_n 1, 1) := by decide +kernel
theorem dX6_write_95 : decode cX6_write 95 = .ok (.iconst 1, 1) := by decide +kernel
theorem dX6_write_96 : decode cX6_write 96 = .ok (.iadd, 1) := by decide +kernel
theorem dX6_write_97 : decode cX6_write 97 = .ok (.aload_n 0, 1) := by decide +kernel
theorem dX6_write_98 : decode cX6_write 98 = .ok (.getfield 7, 3) := by decide +kernel
theorem dX6_write_101 : decode cX6_write 101 = .ok (.iconst 0, 1) := by decide +kernel
theorem dX6_write_102 : decode cX6_write 102 = .ok (.iaload, 1) := by decide +kernel
theorem dX6_write_103 : decode cX6_write 103 = .ok (.if_icmp .ge 9, 3) := by decide +kernel
theorem dX6_write_106 : decode cX6_write 106 = .ok (.aload_n 0, 1) := by decide +kernel
theorem dX6_write_107 : decode cX6_write 107 = .ok (.bipush 44, 2) := by decide +kernel
theorem dX6_write_109 : decode cX6_write 109 = .ok (.invokevirtual 140, 3) := by decide +kernel
theorem dX6_write_112 : decode cX6_write 112 = .ok (.iinc 1 1, 3) := by decide +kernel
theorem dX6_write_115 : decode cX6_write 115 = .ok (.goto (-108), 3) := by decide +kernel
theorem dX6_write_118 : decode cX6_write 118 = .ok (.aload_n 0, 1) := by decide +kernel
theorem dX6_write_119 : decode cX6_write 119 = .ok (.getfield 130, 3) := by decide +kernel
theorem dX6_write_122 : decode cX6_write 122 = .ok (.ireturn, 1) := by decide +kernel
theorem dX6_breaks_0 : decode cX6_breaks 0 = .ok (.aload_n 0, 1) := by decide +kernel
theorem dX6_breaks_1 : decode cX6_breaks 1 = .ok (.iload_n 1, 1) := by decide +kernel
theorem dX6_breaks_2 : decode cX6_breaks 2 = .ok (.putfield 144, 3) := by decide +kernel
theorem dX6_breaks_5 : decode cX6_breaks 5 = .ok (.aload_n 0, 1) := by decide +kernel
theorem dX6_breaks_6 : decode cX6_breaks 6 = .ok (.iload_n 2, 1) := by decide +kernel
theorem dX6_breaks_7 : decode cX6_breaks 7 = .ok (.putfield 147, 3) := by decide +kernel
theorem dX6_breaks_10 : decode cX6_breaks 10 = .ok (.iconst 0, 1) := by decide +kernel
theorem dX6_breaks_11 : decode cX6_breaks 11 = .ok (.ireturn, 1) := by decide +kernel
theorem dX6_isTree_0 : decode cX6_isTree 0 = .ok (.aload_n 0, 1) := by decide +kernel
theorem dX6_isTree_1 : decode cX6_isTree 1 = .ok (.iconst 0, 1) := by decide +kernel
theorem dX6_isTree_2 : decode cX6_isTree 2 = .ok (.putfield 150, 3) := by decide +kernel
theorem dX6_isTree_5 : decode cX6_isTree 5 = .ok (.iconst 0, 1) := by decide +kernel
theorem dX6_isTree_6 : decode cX6_isTree 6 = .ok (.istore_n 1, 1) := by decide +kernel
theorem dX6_isTree_7 : decode cX6_isTree 7 = .ok (.iconst 1, 1) := by decide +kernel
theorem dX6_isTree_8 : decode cX6_isTree 8 = .ok (.istore_n 2, 1) := by decide +kernel
theorem dX6_isTree_9 : decode cX6_isTree 9 = .ok (.aload_n 0, 1) := by decide +kernel
theorem dX6_isTree_10 : decode cX6_isTree 10 = .ok (.getfield 28, 3) := by decide +kernel
theorem dX6_isTree_13 : decode cX6_isTree 13 = .ok (.iconst 0, 1) := by decide +kernel
theorem dX6_isTree_14 : decode cX6_isTree 14 = .ok (.iconst 1, 1) := by decide +kernel
theorem dX6_isTree_15 : decode cX6_isTree 15 = .ok (.iastore, 1) := by decide +kernel
theorem dX6_isTree_16 : decode cX6_isTree 16 = .ok (.iconst 0, 1) := by decide +kernel
theorem dX6_isTree_17 : decode cX6_isTree 17 = .ok (.istore_n 3, 1) := by decide +kernel
theorem dX6_isTree_18 : decode cX6_isTree 18 = .ok (.iload_n 3, 1) := by decide +kernel
theorem dX6_isTree_19 : decode cX6_isTree 19 = .ok (.aload_n 0, 1) := by decide +kernel
theorem dX6_isTree_20 : decode cX6_isTree 20 = .ok (.getfield 130, 3) := by decide +kernel
theorem dX6_isTree_23 : decode cX6_isTree 23 = .ok (.if_icmp .ge 226, 3) := by decide +kernel
theorem dX6_isTree_26 : decode cX6_isTree 26 = .ok (.aload_n 0, 1) := by decide +kernel
theorem dX6_isTree_27 : decode cX6_isTree 27 = .ok (.getfield 22, 3) := by decide +kernel
theorem dX6_isTree_30 : decode cX6_isTree 30 = .ok (.iload_n 3, 1) := by decide +kernel
theorem dX6_isTree_31 : decode cX6_isTree 31 = .ok (.iaload, 1) := by decide +kernel
theorem dX6_isTree_32 : decode cX6_isTree 32 = .ok (.istore 4, 2) := by decide +kernel
theorem dX6_isTree_34 : decode cX6_isTree 34 = .ok (.iload_n 2, 1) := by decide +kernel
theorem dX6_isTree_35 : decode cX6_isTree 35 = .ok (.ifCond .eq 83, 3) := by decide +kernel
theorem dX6_isTree_38 : decode cX6_isTree 38 = .ok (.iload 4, 2) := by decide +kernel
theorem dX6_isTree_40 : decode cX6_isTree 40 = .ok (.bipush 97, 2) := by decide +kernel
theorem dX6_isTree_42 : decode cX6_isTree 42 = .ok (.bipush 122, 2) := by decide +kernel
theorem dX6_isTree_44 : decode cX6_isTree 44 = .ok (.invokestatic 35, 3) := by decide +kernel
theorem dX6_isTree_47 : decode cX6_isTree 47 = .ok (.ifCond .ne 10, 3) := by decide +kernel
theorem dX6_isTree_50 : decode cX6_isTree 50 = .ok (.aload_n 0, 1) := by decide +kernel
theorem dX6_isTree_51 : decode cX6_isTree 51 = .ok (.iload_n 3, 1) := by decide +kernel
theorem dX6_isTree_52 : decode cX6_isTree 52 = .ok (.iconst 1, 1) := by decide +kernel
theorem dX6_isTree_53 : decode cX6_isTree 53 = .ok (.invokevirtual 153, 3) := by decide +kernel
theorem dX6_isTree_56 : decode cX6_isTree 56 = .ok (.ireturn, 1) := by decide +kernel
theorem dX6_isTree_57 : decode cX6_isTree 57 = .ok (.aload_n 0, 1) := by decide +kernel
theorem dX6_isTree_58 : decode cX6_isTree 58 = .ok (.getfield 150, 3) := by decide +kernel
theorem dX6_isTree_61 : decode cX6_isTree 61 = .ok (.bipush 40, 2) := by decide +kernel
theorem dX6_isTree_63 : decode cX6_isTree 63 = .ok (.if_icmp .ne 10, 3) := by decide +kernel
theorem dX6_isTree_66 : decode cX6_isTree 66 = .ok (.aload_n 0, 1) := by decide +kernel
theorem dX6_isTree_67 : decode cX6_isTree 67 = .ok (.iload_n 3, 1) := by decide +kernel
theorem dX6_isTree_68 : decode cX6_isTree 68 = .ok (.iconst 2, 1) := by decide +kernel
theorem dX6_isTree_69 : decode cX6_isTree 69 = .ok (.invokevirtual 153, 3) := by decide +kernel
theorem dX6_isTree_72 : decode cX6_isTree 72 = .ok (.ireturn, 1) := by decide +kernel
theorem dX6_isTree_73 : decode cX6_isTree 73 = .ok (.aload_n 0, 1) := by decide +kernel
theorem dX6_isTree_74 : decode cX6_isTree 74 = .ok (.getfield 25, 3) := by decide +kernel
theorem dX6_isTree_77 : decode cX6_isTree 77 = .ok (.iconst 2, 1) := by decide +kernel
theorem dX6_isTree_78 : decode cX6_isTree 78 = .ok (.aload_n 0, 1) := by decide +kernel
theorem dX6_isTree_79 : decode cX6_isTree 79 = .ok (.getfield 150, 3) := by decide +kernel
theorem dX6_isTree_82 : decode cX6_isTree 82 = .ok (.imul, 1) := by decide +kernel
theorem dX6_isTree_83 : decode cX6_isTree 83 = .ok (.iload 4, 2) := by decide +kernel
theorem dX6_isTree_85 : decode cX6_isTree 85 = .ok (.bipush 97, 2) := by decide +kernel
theorem dX6_isTree_87 : decode cX6_isTree 87 = .ok (.isub, 1) := by decide +kernel
theorem dX6_isTree_88 : decode cX6_isTree 88 = .ok (.iastore, 1) := by decide +kernel
theorem dX6_isTree_89 : decode cX6_isTree 89 = .ok (.aload_n 0, 1) := by decide +kernel
theorem dX6_isTree_90 : decode cX6_isTree 90 = .ok (.getfield 25, 3) := by decide +kernel
theorem dX6_isTree_93 : decode cX6_isTree 93 = .ok (.iconst 2, 1) := by decide +kernel
theorem dX6_isTree_94 : decode cX6_isTree 94 = .ok (.aload_n 0, 1) := by decide +kernel
theorem dX6_isTree_95 : decode cX6_isTree 95 = .ok (.getfield 150, 3) := by decide +kernel
theorem dX6_isTree_98 : decode cX6_isTree 98 = .ok (.imul, 1) := by decide +kernel
theorem dX6_isTree_99 : decode cX6_isTree 99 = .ok (.iconst 1, 1) := by decide +kernel
theorem dX6_isTree_100 : decode cX6_isTree 100 = .ok (.iadd, 1) := by decide +kernel
theorem dX6_isTree_101 : decode cX6_isTree 101 = .ok (.iload_n 1, 1) := by decide +kernel
theorem dX6_isTree_102 : decode cX6_isTree 102 = .ok (.iastore, 1) := by decide +kernel
theorem dX6_isTree_103 : decode cX6_isTree 103 = .ok (.aload_n 0, 1) := by decide +kernel
theorem dX6_isTree_104 : decode cX6_isTree 104 = .ok (.dup, 1) := by decide +kernel
theorem dX6_isTree_105 : decode cX6_isTree 105 = .ok (.getfield 150, 3) := by decide +kernel
theorem dX6_isTree_108 : decode cX6_isTree 108 = .ok (.iconst 1, 1) := by decide +kernel
theorem dX6_isTree_109 : decode cX6_isTree 109 = .ok (.iadd, 1) := by decide +kernel
theorem dX6_isTree_110 : decode cX6_isTree 110 = .ok (.putfield 150, 3) := by decide +kernel
theorem dX6_isTree_113 : decode cX6_isTree 113 = .ok (.iconst 0, 1) := by decide +kernel
theorem dX6_isTree_114 : decode cX6_isTree 114 = .ok (.istore_n 2, 1) := by decide +kernel
theorem dX6_isTree_115 : decode cX6_isTree 115 = .ok (.goto 128, 3) := by decide +kernel
theorem dX6_isTree_118 : decode cX6_isTree 118 = .ok (.iload 4, 2) := by decide +kernel
theorem dX6_isTree_120 : decode cX6_isTree 120 = .ok (.bipush 40, 2) := by decide +kernel
theorem dX6_isTree_122 : decode cX6_isTree 122 = .ok (.if_icmp .ne 53, 3) := by decide +kernel
theorem dX6_isTree_125 : decode cX6_isTree 125 = .ok (.iload_n 3, 1) := by decide +kernel
theorem dX6_isTree_126 : decode cX6_isTree 126 = .ok (.ifCond .le 49, 3) := by decide +kernel
theorem dX6_isTree_129 : decode cX6_isTree 129 = .ok (.aload_n 0, 1) := by decide +kernel
theorem dX6_isTree_130 : decode cX6_isTree 130 = .ok (.getfield 22, 3) := by decide +kernel
theorem dX6_isTree_133 : decode cX6_isTree 133 = .ok (.iload_n 3, 1) := by decide +kernel
theorem dX6_isTree_134 : decode cX6_isTree 134 = .ok (.iconst 1, 1) := by decide +kernel
theorem dX6_isTree_135 : decode cX6_isTree 135 = .ok (.isub, 1) := by decide +kernel
theorem dX6_isTree_136 : decode cX6_isTree 136 = .ok (.iaload, 1) := by decide +kernel
theorem dX6_isTree_137 : decode cX6_isTree 137 = .ok (.bipush 97, 2) := by decide +kernel
theorem dX6_isTree_139 : decode cX6_isTree 139 = .ok (.bipush 122, 2) := by decide +kernel
theorem dX6_isTree_141 : decode cX6_isTree 141 = .ok (.invokestatic 35, 3) := by decide +kernel
theorem dX6_isTree_144 : decode cX6_isTree 144 = .ok (.ifCond .eq 31, 3) := by decide +kernel
theorem dX6_isTree_147 : decode cX6_isTree 147 = .ok (.iload_n 1, 1) := by decide +kernel
theorem dX6_isTree_148 : decode cX6_isTree 148 = .ok (.bipush 7, 2) := by decide +kernel
theorem dX6_isTree_150 : decode cX6_isTree 150 = .ok (.if_icmp .ne 10, 3) := by decide +kernel
theorem dX6_isTree_153 : decode cX6_isTree 153 = .ok (.aload_n 0, 1) := by decide +kernel
theorem dX6_isTree_154 : decode cX6_isTree 154 = .ok (.iload_n 3, 1) := by decide +kernel
theorem dX6_isTree_155 : decode cX6_isTree 155 = .ok (.iconst 3, 1) := by decide +kernel
theorem dX6_isTree_156 : decode cX6_isTree 156 = .ok (.invokevirtual 153, 3) := by decide +kernel
theorem dX6_isTree_159 : decode cX6_isTree 159 = .ok (.ireturn, 1) := by decide +kernel
theorem dX6_isTree_160 : decode cX6_isTree 160 = .ok (.iinc 1 1, 3) := by decide +kernel
theorem dX6_isTree_163 : decode cX6_isTree 163 = .ok (.aload_n 0, 1) := by decide +kernel
theorem dX6_isTree_164 : decode cX6_isTree 164 = .ok (.getfield 28, 3) := by decide +kernel
theorem dX6_isTree_167 : decode cX6_isTree 167 = .ok (.iload_n 1, 1) := by decide +kernel
theorem dX6_isTree_168 : decode cX6_isTree 168 = .ok (.iconst 1, 1) := by decide +kernel
theorem dX6_isTree_169 : decode cX6_isTree 169 = .ok (.iastore, 1) := by decide +kernel
theorem dX6_isTree_170 : decode cX6_isTree 170 = .ok (.iconst 1, 1) := by decide +kernel
theorem dX6_isTree_171 : decode cX6_isTree 171 = .ok (.istore_n 2, 1) := by decide +kernel
theorem dX6_isTree_172 : decode cX6_isTree 172 = .ok (.goto 71, 3) := by decide +kernel
theorem dX6_isTree_175 : decode cX6_isTree 175 = .ok (.iload 4, 2) := by decide +kernel
theorem dX6_isTree_177 : decode cX6_isTree 177 = .ok (.bipush 44, 2) := by decide +kernel
theorem dX6_isTree_179 : decode cX6_isTree 179 = .ok (.if_icmp .ne 40, 3) := by decide +kernel
theorem dX6_isTree_182 : decode cX6_isTree 182 = .ok (.iload_n 1, 1) := by decide +kernel
theorem dX6_isTree_183 : decode cX6_isTree 183 = .ok (.ifCond .le 36, 3) := by decide +kernel
theorem dX6_isTree_186 : decode cX6_isTree 186 = .ok (.aload_n 0, 1) := by decide +kernel
theorem dX6_isTree_187 : decode cX6_isTree 187 = .ok (.getfield 28, 3) := by decide +kernel
theorem dX6_isTree_190 : decode cX6_isTree 190 = .ok (.iload_n 1, 1) := by decide +kernel
theorem dX6_isTree_191 : decode cX6_isTree 191 = .ok (.iaload, 1) := by decide +kernel
theorem dX6_isTree_192 : decode cX6_isTree 192 = .ok (.bipush 6, 2) := by decide +kernel
theorem dX6_isTree_194 : decode cX6_isTree 194 = .ok (.if_icmp .ne 10, 3) := by decide +kernel
theorem dX6_isTree_197 : decode cX6_isTree 197 = .ok (.aload_n 0, 1) := by decide +kernel
theorem dX6_isTree_198 : decode cX6_isTree 198 = .ok (.iload_n 3, 1) := by decide +kernel
theorem dX6_isTree_199 : decode cX6_isTree 199 = .ok (.iconst 4, 1) := by decide +kernel
theorem dX6_isTree_200 : decode cX6_isTree 200 = .ok (.invokevirtual 153, 3) := by decide +kernel
theorem dX6_isTree_203 : decode cX6_isTree 203 = .ok (.ireturn, 1) := by decide +kernel
theorem dX6_isTree_204 : decode cX6_isTree 204 = .ok (.aload_n 0, 1) := by decide +kernel
theorem dX6_isTree_205 : decode cX6_isTree 205 = .ok (.getfield 28, 3) := by decide +kernel
theorem dX6_isTree_208 : decode cX6_isTree 208 = .ok (.iload_n 1, 1) := by decide +kernel
theorem dX6_isTree_209 : decode cX6_isTree 209 = .ok (.dup2, 1) := by decide +kernel
theorem dX6_isTree_210 : decode cX6_isTree 210 = .ok (.iaload, 1) := by decide +kernel
theorem dX6_isTree_211 : decode cX6_isTree 211 = .ok (.iconst 1, 1) := by decide +kernel
theorem dX6_isTree_212 : decode cX6_isTree 212 = .ok (.iadd, 1) := by decide +kernel
theorem dX6_isTree_213 : decode cX6_isTree 213 = .ok (.iastore, 1) := by decide +kernel
theorem dX6_isTree_214 : decode cX6_isTree 214 = .ok (.iconst 1, 1) := by decide +kernel
theorem dX6_isTree_215 : decode cX6_isTree 215 = .ok (.istore_n 2, 1) := by decide +kernel
theorem dX6_isTree_216 : decode cX6_isTree 216 = .ok (.goto 27, 3) := by decide +kernel
theorem dX6_isTree_219 : decode cX6_isTree 219 = .ok (.iload 4, 2) := by decide +kernel
theorem dX6_isTree_221 : decode cX6_isTree 221 = .ok (.bipush 41, 2) := by decide +kernel
theorem dX6_isTree_223 : decode cX6_isTree 223 = .ok (.if_icmp .ne 13, 3) := by decide +kernel
theorem dX6_isTree_226 : decode cX6_isTree 226 = .ok (.iload_n 1, 1) := by decide +kernel
theorem dX6_isTree_227 : decode cX6_isTree 227 = .ok (.ifCond .le 9, 3) := by decide +kernel
theorem dX6_isTree_230 : decode cX6_isTree 230 = .ok (.iinc 1 (-1), 3) := by decide +kernel
theorem dX6_isTree_233 : decode cX6_isTree 233 = .ok (.goto 10, 3) := by decide +kernel
theorem dX6_isTree_236 : decode cX6_isTree 236 = .ok (.aload_n 0, 1) := by decide +kernel
theorem dX6_isTree_237 : decode cX6_isTree 237 = .ok (.iload_n 3, 1) := by decide +kernel
theorem dX6_isTree_238 : decode cX6_isTree 238 = .ok (.iconst 1, 1) := by decide +kernel
theorem dX6_isTree_239 : decode cX6_isTree 239 = .ok (.invokevirtual 153, 3) := by decide +kernel
theorem dX6_isTree_242 : decode cX6_isTree 242 = .ok (.ireturn, 1) := by decide +kernel
theorem dX6_isTree_243 : decode cX6_isTree 243 = .ok (.iinc 3 1, 3) := by decide +kernel
theorem dX6_isTree_246 : decode cX6_isTree 246 = .ok (.goto (-228), 3) := by decide +kernel
theorem dX6_isTree_249 : decode cX6_isTree 249 = .ok (.iload_n 2, 1) := by decide +kernel
theorem dX6_isTree_250 : decode cX6_isTree 250 = .ok (.ifCond .ne 7, 3) := by decide +kernel
theorem dX6_isTree_253 : decode cX6_isTree 253 = .ok (.iload_n 1, 1) := by decide +kernel
theorem dX6_isTree_254 : decode cX6_isTree 254 = .ok (.ifCond .eq 15, 3) := by decide +kernel
theorem dX6_isTree_257 : decode cX6_isTree 257 = .ok (.aload_n 0, 1) := by decide +kernel
theorem dX6_isTree_258 : decode cX6_isTree 258 = .ok (.aload_n 0, 1) := by decide +kernel
theorem dX6_isTree_259 : decode cX6_isTree 259 = .ok (.getfield 130, 3) := by decide +kernel
theorem dX6_isTree_262 : decode cX6_isTree 262 = .ok (.iconst 1, 1) := by decide +kernel
theorem dX6_isTree_263 : decode cX6_isTree 263 = .ok (.invokevirtual 153, 3) := by decide +kernel
theorem dX6_isTree_266 : decode cX6_isTree 266 = .ok (.ifCond .eq 7, 3) := by decide +kernel
theorem dX6_isTree_269 : decode cX6_isTree 269 = .ok (.iconst 1, 1) := by decide +kernel
theorem dX6_isTree_270 : decode cX6_isTree 270 = .ok (.goto 4, 3) := by decide +kernel
theorem dX6_isTree_273 : decode cX6_isTree 273 = .ok (.iconst 0, 1) := by decide +kernel
theorem dX6_isTree_274 : decode cX6_isTree 274 = .ok (.ireturn, 1) := by decide +kernel
theorem dX6_fault_0 : decode cX6_fault 0 = .ok (.iload_n 1, 1) := by decide +kernel
theorem dX6_fault_1 : decode cX6_fault 1 = .ok (.iconst 0, 1) := by decide +kernel
theorem dX6_fault_2 : decode cX6_fault 2 = .ok (.iconst 1, 1) := by decide +kernel
theorem dX6_fault_3 : decode cX6_fault 3 = .ok (.invokestatic 35, 3) := by decide +kernel
theorem dX6_fault_6 : decode cX6_fault 6 = .ok (.ifCond .ne 5, 3) := by decide +kernel
theorem dX6_fault_9 : decode cX6_fault 9 = .ok (.iconst (-1), 1) := by decide +kernel
theorem dX6_fault_10 : decode cX6_fault 10 = .ok (.ireturn, 1) := by decide +kernel
theorem dX6_fault_11 : decode cX6_fault 11 = .ok (.aload_n 0, 1) := by decide +kernel
theorem dX6_fault_12 : decode cX6_fault 12 = .ok (.invokevirtual 156, 3) := by decide +kernel
theorem dX6_fault_15 : decode cX6_fault 15 = .ok (.ifCond .eq 6, 3) := by decide +kernel
theorem dX6_fault_18 : decode cX6_fault 18 = .ok (.bipush (-4), 2) := by decide +kernel
theorem dX6_fault_20 : decode cX6_fault 20 = .ok (.ireturn, 1) := by decide +kernel
theorem dX6_fault_21 : decode cX6_fault 21 = .ok (.iload_n 1, 1) := by decide +kernel
theorem dX6_fault_22 : decode cX6_fault 22 = .ok (.ifCond .ne 10, 3) := by decide +kernel
theorem dX6_fault_25 : decode cX6_fault 25 = .ok (.aload_n 0, 1) := by decide +kernel
theorem dX6_fault_26 : decode cX6_fault 26 = .ok (.getfield 144, 3) := by decide +kernel
theorem dX6_fault_29 : decode cX6_fault 29 = .ok (.goto 7, 3) := by decide +kernel
theorem dX6_fault_32 : decode cX6_fault 32 = .ok (.aload_n 0, 1) := by decide +kernel
theorem dX6_fault_33 : decode cX6_fault 33 = .ok (.getfield 147, 3) := by decide +kernel
theorem dX6_fault_36 : decode cX6_fault 36 = .ok (.ireturn, 1) := by decide +kernel
theorem dX6_read_0 : decode cX6_read 0 = .ok (.aload_n 0, 1) := by decide +kernel
theorem dX6_read_1 : decode cX6_read 1 = .ok (.invokevirtual 55, 3) := by decide +kernel
theorem dX6_read_4 : decode cX6_read 4 = .ok (.aload_n 0, 1) := by decide +kernel
theorem dX6_read_5 : decode cX6_read 5 = .ok (.invokevirtual 156, 3) := by decide +kernel
theorem dX6_read_8 : decode cX6_read 8 = .ok (.ifCond .ne 6, 3) := by decide +kernel
theorem dX6_read_11 : decode cX6_read 11 = .ok (.bipush (-2), 2) := by decide +kernel
theorem dX6_read_13 : decode cX6_read 13 = .ok (.ireturn, 1) := by decide +kernel
theorem dX6_read_14 : decode cX6_read 14 = .ok (.aload_n 0, 1) := by decide +kernel
theorem dX6_read_15 : decode cX6_read 15 = .ok (.getfield 7, 3) := by decide +kernel
theorem dX6_read_18 : decode cX6_read 18 = .ok (.iconst 0, 1) := by decide +kernel
theorem dX6_read_19 : decode cX6_read 19 = .ok (.aload_n 0, 1) := by decide +kernel
theorem dX6_read_20 : decode cX6_read 20 = .ok (.getfield 150, 3) := by decide +kernel
theorem dX6_read_23 : decode cX6_read 23 = .ok (.iastore, 1) := by decide +kernel
theorem dX6_read_24 : decode cX6_read 24 = .ok (.iconst 0, 1) := by decide +kernel
theorem dX6_read_25 : decode cX6_read 25 = .ok (.istore_n 1, 1) := by decide +kernel
theorem dX6_read_26 : decode cX6_read 26 = .ok (.iload_n 1, 1) := by decide +kernel
theorem dX6_read_27 : decode cX6_read 27 = .ok (.aload_n 0, 1) := by decide +kernel
theorem dX6_read_28 : decode cX6_read 28 = .ok (.getfield 150, 3) := by decide +kernel
theorem dX6_read_31 : decode cX6_read 31 = .ok (.if_icmp .ge 32, 3) := by decide +kernel
theorem dX6_read_34 : decode cX6_read 34 = .ok (.aload_n 0, 1) := by decide +kernel
theorem dX6_read_35 : decode cX6_read 35 = .ok (.iload_n 1, 1) := by decide +kernel
theorem dX6_read_36 : decode cX6_read 36 = .ok (.aload_n 0, 1) := by decide +kernel
theorem dX6_read_37 : decode cX6_read 37 = .ok (.getfield 25, 3) := by decide +kernel
theorem dX6_read_40 : decode cX6_read 40 = .ok (.iconst 2, 1) := by decide +kernel
theorem dX6_read_41 : decode cX6_read 41 = .ok (.iload_n 1, 1) := by decide +kernel
theorem dX6_read_42 : decode cX6_read 42 = .ok (.imul, 1) := by decide +kernel
theorem dX6_read_43 : decode cX6_read 43 = .ok (.iaload, 1) := by decide +kernel
theorem dX6_read_44 : decode cX6_read 44 = .ok (.aload_n 0, 1) := by decide +kernel
theorem dX6_read_45 : decode cX6_read 45 = .ok (.getfield 25, 3) := by decide +kernel
theorem dX6_read_48 : decode cX6_read 48 = .ok (.iconst 2, 1) := by decide +kernel
theorem dX6_read_49 : decode cX6_read 49 = .ok (.iload_n 1, 1) := by decide +kernel
theorem dX6_read_50 : decode cX6_read 50 = .ok (.imul, 1) := by decide +kernel
theorem dX6_read_51 : decode cX6_read 51 = .ok (.iconst 1, 1) := by decide +kernel
theorem dX6_read_52 : decode cX6_read 52 = .ok (.iadd, 1) := by decide +kernel
theorem dX6_read_53 : decode cX6_read 53 = .ok (.iaload, 1) := by decide +kernel
theorem dX6_read_54 : decode cX6_read 54 = .ok (.invokevirtual 90, 3) := by decide +kernel
theorem dX6_read_57 : decode cX6_read 57 = .ok (.iinc 1 1, 3) := by decide +kernel
theorem dX6_read_60 : decode cX6_read 60 = .ok (.goto (-34), 3) := by decide +kernel
theorem dX6_read_63 : decode cX6_read 63 = .ok (.aload_n 0, 1) := by decide +kernel
theorem dX6_read_64 : decode cX6_read 64 = .ok (.getfield 7, 3) := by decide +kernel
theorem dX6_read_67 : decode cX6_read 67 = .ok (.iconst 2, 1) := by decide +kernel
theorem dX6_read_68 : decode cX6_read 68 = .ok (.aload_n 0, 1) := by decide +kernel
theorem dX6_read_69 : decode cX6_read 69 = .ok (.iconst 0, 1) := by decide +kernel
theorem dX6_read_70 : decode cX6_read 70 = .ok (.invokevirtual 39, 3) := by decide +kernel
theorem dX6_read_73 : decode cX6_read 73 = .ok (.iastore, 1) := by decide +kernel
theorem dX6_read_74 : decode cX6_read 74 = .ok (.aload_n 0, 1) := by decide +kernel
theorem dX6_read_75 : decode cX6_read 75 = .ok (.getfield 7, 3) := by decide +kernel
theorem dX6_read_78 : decode cX6_read 78 = .ok (.iconst 3, 1) := by decide +kernel
theorem dX6_read_79 : decode cX6_read 79 = .ok (.iconst 0, 1) := by decide +kernel
theorem dX6_read_80 : decode cX6_read 80 = .ok (.iastore, 1) := by decide +kernel
theorem dX6_read_81 : decode cX6_read 81 = .ok (.iconst 0, 1) := by decide +kernel
theorem dX6_read_82 : decode cX6_read 82 = .ok (.istore_n 1, 1) := by decide +kernel
theorem dX6_read_83 : decode cX6_read 83 = .ok (.iload_n 1, 1) := by decide +kernel
theorem dX6_read_84 : decode cX6_read 84 = .ok (.iconst 4, 1) := by decide +kernel
theorem dX6_read_85 : decode cX6_read 85 = .ok (.if_icmp .ge 18, 3) := by decide +kernel
theorem dX6_read_88 : decode cX6_read 88 = .ok (.aload_n 0, 1) := by decide +kernel
theorem dX6_read_89 : decode cX6_read 89 = .ok (.getfield 7, 3) := by decide +kernel
theorem dX6_read_92 : decode cX6_read 92 = .ok (.iconst 5, 1) := by decide +kernel
theorem dX6_read_93 : decode cX6_read 93 = .ok (.iload_n 1, 1) := by decide +kernel
theorem dX6_read_94 : decode cX6_read 94 = .ok (.iadd, 1) := by decide +kernel
theorem dX6_read_95 : decode cX6_read 95 = .ok (.iconst (-1), 1) := by decide +kernel
theorem dX6_read_96 : decode cX6_read 96 = .ok (.iastore, 1) := by decide +kernel
theorem dX6_read_97 : decode cX6_read 97 = .ok (.iinc 1 1, 3) := by decide +kernel
theorem dX6_read_100 : decode cX6_read 100 = .ok (.goto (-17), 3) := by decide +kernel
theorem dX6_read_103 : decode cX6_read 103 = .ok (.aload_n 0, 1) := by decide +kernel
theorem dX6_read_104 : decode cX6_read 104 = .ok (.aload_n 0, 1) := by decide +kernel
theorem dX6_read_105 : decode cX6_read 105 = .ok (.getfield 150, 3) := by decide +kernel
theorem dX6_read_108 : decode cX6_read 108 = .ok (.invokevirtual 72, 3) := by decide +kernel
theorem dX6_read_111 : decode cX6_read 111 = .ok (.ireturn, 1) := by decide +kernel
theorem dJ6_bitCount_0f7a4_0 : decode cJ6_bitCount_0f7a4 0 = .ok (.iload_n 0, 1) := by decide +kernel
theorem dJ6_bitCount_0f7a4_1 : decode cJ6_bitCount_0f7a4 1 = .ok (.iload_n 0, 1) := by decide +kernel
theorem dJ6_bitCount_0f7a4_2 : decode cJ6_bitCount_0f7a4 2 = .ok (.iconst 1, 1) := by decide +kernel
theorem dJ6_bitCount_0f7a4_3 : decode cJ6_bitCount_0f7a4 3 = .ok (.iushr, 1) := by decide +kernel
theorem dJ6_bitCount_0f7a4_4 : decode cJ6_bitCount_0f7a4 4 = .ok (.ldc_w 265, 3) := by decide +kernel
theorem dJ6_bitCount_0f7a4_7 : decode cJ6_bitCount_0f7a4 7 = .ok (.iand, 1) := by decide +kernel
theorem dJ6_bitCount_0f7a4_8 : decode cJ6_bitCount_0f7a4 8 = .ok (.isub, 1) := by decide +kernel
theorem dJ6_bitCount_0f7a4_9 : decode cJ6_bitCount_0f7a4 9 = .ok (.istore_n 0, 1) := by decide +kernel
theorem dJ6_bitCount_0f7a4_10 : decode cJ6_bitCount_0f7a4 10 = .ok (.iload_n 0, 1) := by decide +kernel
theorem dJ6_bitCount_0f7a4_11 : decode cJ6_bitCount_0f7a4 11 = .ok (.ldc_w 266, 3) := by decide +kernel
theorem dJ6_bitCount_0f7a4_14 : decode cJ6_bitCount_0f7a4 14 = .ok (.iand, 1) := by decide +kernel
theorem dJ6_bitCount_0f7a4_15 : decode cJ6_bitCount_0f7a4 15 = .ok (.iload_n 0, 1) := by decide +kernel
theorem dJ6_bitCount_0f7a4_16 : decode cJ6_bitCount_0f7a4 16 = .ok (.iconst 2, 1) := by decide +kernel
theorem dJ6_bitCount_0f7a4_17 : decode cJ6_bitCount_0f7a4 17 = .ok (.iushr, 1) := by decide +kernel
theorem dJ6_bitCount_0f7a4_18 : decode cJ6_bitCount_0f7a4 18 = .ok (.ldc_w 266, 3) := by decide +kernel
theorem dJ6_bitCount_0f7a4_21 : decode cJ6_bitCount_0f7a4 21 = .ok (.iand, 1) := by decide +kernel
theorem dJ6_bitCount_0f7a4_22 : decode cJ6_bitCount_0f7a4 22 = .ok (.iadd, 1) := by decide +kernel
theorem dJ6_bitCount_0f7a4_23 : decode cJ6_bitCount_0f7a4 23 = .ok (.istore_n 0, 1) := by decide +kernel
theorem dJ6_bitCount_0f7a4_24 : decode cJ6_bitCount_0f7a4 24 = .ok (.iload_n 0, 1) := by decide +kernel
theorem dJ6_bitCount_0f7a4_25 : decode cJ6_bitCount_0f7a4 25 = .ok (.iload_n 0, 1) := by decide +kernel
theorem dJ6_bitCount_0f7a4_26 : decode cJ6_bitCount_0f7a4 26 = .ok (.iconst 4, 1) := by decide +kernel
theorem dJ6_bitCount_0f7a4_27 : decode cJ6_bitCount_0f7a4 27 = .ok (.iushr, 1) := by decide +kernel
theorem dJ6_bitCount_0f7a4_28 : decode cJ6_bitCount_0f7a4 28 = .ok (.iadd, 1) := by decide +kernel
theorem dJ6_bitCount_0f7a4_29 : decode cJ6_bitCount_0f7a4 29 = .ok (.ldc_w 267, 3) := by decide +kernel
theorem dJ6_bitCount_0f7a4_32 : decode cJ6_bitCount_0f7a4 32 = .ok (.iand, 1) := by decide +kernel
theorem dJ6_bitCount_0f7a4_33 : decode cJ6_bitCount_0f7a4 33 = .ok (.istore_n 0, 1) := by decide +kernel
theorem dJ6_bitCount_0f7a4_34 : decode cJ6_bitCount_0f7a4 34 = .ok (.iload_n 0, 1) := by decide +kernel
theorem dJ6_bitCount_0f7a4_35 : decode cJ6_bitCount_0f7a4 35 = .ok (.iload_n 0, 1) := by decide +kernel
theorem dJ6_bitCount_0f7a4_36 : decode cJ6_bitCount_0f7a4 36 = .ok (.bipush 8, 2) := by decide +kernel
theorem dJ6_bitCount_0f7a4_38 : decode cJ6_bitCount_0f7a4 38 = .ok (.iushr, 1) := by decide +kernel
theorem dJ6_bitCount_0f7a4_39 : decode cJ6_bitCount_0f7a4 39 = .ok (.iadd, 1) := by decide +kernel
theorem dJ6_bitCount_0f7a4_40 : decode cJ6_bitCount_0f7a4 40 = .ok (.istore_n 0, 1) := by decide +kernel
theorem dJ6_bitCount_0f7a4_41 : decode cJ6_bitCount_0f7a4 41 = .ok (.iload_n 0, 1) := by decide +kernel
theorem dJ6_bitCount_0f7a4_42 : decode cJ6_bitCount_0f7a4 42 = .ok (.iload_n 0, 1) := by decide +kernel
theorem dJ6_bitCount_0f7a4_43 : decode cJ6_bitCount_0f7a4 43 = .ok (.bipush 16, 2) := by decide +kernel
theorem dJ6_bitCount_0f7a4_45 : decode cJ6_bitCount_0f7a4 45 = .ok (.iushr, 1) := by decide +kernel
theorem dJ6_bitCount_0f7a4_46 : decode cJ6_bitCount_0f7a4 46 = .ok (.iadd, 1) := by decide +kernel
theorem dJ6_bitCount_0f7a4_47 : decode cJ6_bitCount_0f7a4 47 = .ok (.istore_n 0, 1) := by decide +kernel
theorem dJ6_bitCount_0f7a4_48 : decode cJ6_bitCount_0f7a4 48 = .ok (.iload_n 0, 1) := by decide +kernel
theorem dJ6_bitCount_0f7a4_49 : decode cJ6_bitCount_0f7a4 49 = .ok (.bipush 63, 2) := by decide +kernel
theorem dJ6_bitCount_0f7a4_51 : decode cJ6_bitCount_0f7a4 51 = .ok (.iand, 1) := by decide +kernel
theorem dJ6_bitCount_0f7a4_52 : decode cJ6_bitCount_0f7a4 52 = .ok (.ireturn, 1) := by decide +kernel
theorem dL_law_0 : decode cL_law 0 = .ok (.new 7, 3) := by decide +kernel
theorem dL_law_3 : decode cL_law 3 = .ok (.dup, 1) := by decide +kernel
theorem dL_law_4 : decode cL_law 4 = .ok (.invokespecial 9, 3) := by decide +kernel
theorem dL_law_7 : decode cL_law 7 = .ok (.astore_n 1, 1) := by decide +kernel
theorem dL_law_8 : decode cL_law 8 = .ok (.new 10, 3) := by decide +kernel
theorem dL_law_11 : decode cL_law 11 = .ok (.dup, 1) := by decide +kernel
theorem dL_law_12 : decode cL_law 12 = .ok (.invokespecial 12, 3) := by decide +kernel
theorem dL_law_15 : decode cL_law 15 = .ok (.astore_n 2, 1) := by decide +kernel
theorem dL_law_16 : decode cL_law 16 = .ok (.iconst 0, 1) := by decide +kernel
theorem dL_law_17 : decode cL_law 17 = .ok (.istore_n 3, 1) := by decide +kernel
theorem dL_law_18 : decode cL_law 18 = .ok (.iload_n 3, 1) := by decide +kernel
theorem dL_law_19 : decode cL_law 19 = .ok (.aload_n 0, 1) := by decide +kernel
theorem dL_law_20 : decode cL_law 20 = .ok (.arraylength, 1) := by decide +kernel
theorem dL_law_21 : decode cL_law 21 = .ok (.iconst 3, 1) := by decide +kernel
theorem dL_law_22 : decode cL_law 22 = .ok (.isub, 1) := by decide +kernel
theorem dL_law_23 : decode cL_law 23 = .ok (.if_icmp .gt 798, 3) := by decide +kernel
theorem dL_law_26 : decode cL_law 26 = .ok (.aload_n 0, 1) := by decide +kernel
theorem dL_law_27 : decode cL_law 27 = .ok (.iload_n 3, 1) := by decide +kernel
theorem dL_law_28 : decode cL_law 28 = .ok (.iaload, 1) := by decide +kernel
theorem dL_law_29 : decode cL_law 29 = .ok (.bipush 31, 2) := by decide +kernel
theorem dL_law_31 : decode cL_law 31 = .ok (.iand, 1) := by decide +kernel
theorem dL_law_32 : decode cL_law 32 = .ok (.tableswitch 783 0 30 #[140, 163, 176, 199, 222, 235, 248, 271, 304, 337, 350, 373, 386, 409, 422, 435, 458, 481, 504, 537, 570, 593, 616, 629, 662, 685, 698, 721, 734, 747, 770], 140) := by decide +kernel
theorem dL_law_172 : decode cL_law 172 = .ok (.aload_n 1, 1) := by decide +kernel
theorem dL_law_173 : decode cL_law 173 = .ok (.aload_n 0, 1) := by decide +kernel
theorem dL_law_174 : decode cL_law 174 = .ok (.iload_n 3, 1) := by decide +kernel
theorem dL_law_175 : decode cL_law 175 = .ok (.iconst 1, 1) := by decide +kernel
theorem dL_law_176 : decode cL_law 176 = .ok (.iadd, 1) := by decide +kernel
theorem dL_law_177 : decode cL_law 177 = .ok (.iaload, 1) := by decide +kernel
theorem dL_law_178 : decode cL_law 178 = .ok (.invokevirtual 13, 3) := by decide +kernel
theorem dL_law_181 : decode cL_law 181 = .ok (.aload_n 2, 1) := by decide +kernel
theorem dL_law_182 : decode cL_law 182 = .ok (.aload_n 0, 1) := by decide +kernel
theorem dL_law_183 : decode cL_law 183 = .ok (.iload_n 3, 1) := by decide +kernel
theorem dL_law_184 : decode cL_law 184 = .ok (.iconst 1, 1) := by decide +kernel
theorem dL_law_185 : decode cL_law 185 = .ok (.iadd, 1) := by decide +kernel
theorem dL_law_186 : decode cL_law 186 = .ok (.iaload, 1) := by decide +kernel
theorem dL_law_187 : decode cL_law 187 = .ok (.invokevirtual 17, 3) := by decide +kernel
theorem dL_law_190 : decode cL_law 190 = .ok (.if_icmp .eq 625, 3) := by decide +kernel
theorem dL_law_193 : decode cL_law 193 = .ok (.iconst 0, 1) := by decide +kernel
theorem dL_law_194 : decode cL_law 194 = .ok (.ireturn, 1) := by decide +kernel
theorem dL_law_195 : decode cL_law 195 = .ok (.aload_n 1, 1) := by decide +kernel
theorem dL_law_196 : decode cL_law 196 = .ok (.invokevirtual 18, 3) := by decide +kernel
theorem dL_law_199 : decode cL_law 199 = .ok (.aload_n 2, 1) := by decide +kernel
theorem dL_law_200 : decode cL_law 200 = .ok (.invokevirtual 22, 3) := by decide +kernel
theorem dL_law_203 : decode cL_law 203 = .ok (.if_icmp .eq 612, 3) := by decide +kernel
theorem dL_law_206 : decode cL_law 206 = .ok (.iconst 0, 1) := by decide +kernel
theorem dL_law_207 : decode cL_law 207 = .ok (.ireturn, 1) := by decide +kernel
theorem dL_law_208 : decode cL_law 208 = .ok (.aload_n 1, 1) := by decide +kernel
theorem dL_law_209 : decode cL_law 209 = .ok (.aload_n 0, 1) := by decide +kernel
theorem dL_law_210 : decode cL_law 210 = .ok (.iload_n 3, 1) := by decide +kernel
theorem dL_law_211 : decode cL_law 211 = .ok (.iconst 1, 1) := by decide +kernel
theorem dL_law_212 : decode cL_law 212 = .ok (.iadd, 1) := by decide +kernel
theorem dL_law_213 : decode cL_law 213 = .ok (.iaload, 1) := by decide +kernel
theorem dL_law_214 : decode cL_law 214 = .ok (.invokevirtual 23, 3) := by decide +kernel
theorem dL_law_217 : decode cL_law 217 = .ok (.aload_n 2, 1) := by decide +kernel
theorem dL_law_218 : decode cL_law 218 = .ok (.aload_n 0, 1) := by decide +kernel
theorem dL_law_219 : decode cL_law 219 = .ok (.iload_n 3, 1) := by decide +kernel
theorem dL_law_220 : decode cL_law 220 = .ok (.iconst 1, 1) := by decide +kernel
theorem dL_law_221 : decode cL_law 221 = .ok (.iadd, 1) := by decide +kernel
theorem dL_law_222 : decode cL_law 222 = .ok (.iaload, 1) := by decide +kernel
theorem dL_law_223 : decode cL_law 223 = .ok (.invokevirtual 26, 3) := by decide +kernel
theorem dL_law_226 : decode cL_law 226 = .ok (.if_icmp .eq 589, 3) := by decide +kernel
theorem dL_law_229 : decode cL_law 229 = .ok (.iconst 0, 1) := by decide +kernel
theorem dL_law_230 : decode cL_law 230 = .ok (.ireturn, 1) := by decide +kernel
theorem dL_law_231 : decode cL_law 231 = .ok (.aload_n 1, 1) := by decide +kernel
theorem dL_law_232 : decode cL_law 232 = .ok (.aload_n 0, 1) := by decide +kernel
theorem dL_law_233 : decode cL_law 233 = .ok (.iload_n 3, 1) := by decide +kernel
theorem dL_law_234 : decode cL_law 234 = .ok (.iconst 1, 1) := by decide +kernel
theorem dL_law_235 : decode cL_law 235 = .ok (.iadd, 1) := by decide +kernel
theorem dL_law_236 : decode cL_law 236 = .ok (.iaload, 1) := by decide +kernel
theorem dL_law_237 : decode cL_law 237 = .ok (.invokevirtual 27, 3) := by decide +kernel
theorem dL_law_240 : decode cL_law 240 = .ok (.aload_n 2, 1) := by decide +kernel
theorem dL_law_241 : decode cL_law 241 = .ok (.aload_n 0, 1) := by decide +kernel
theorem dL_law_242 : decode cL_law 242 = .ok (.iload_n 3, 1) := by decide +kernel
theorem dL_law_243 : decode cL_law 243 = .ok (.iconst 1, 1) := by decide +kernel
theorem dL_law_244 : decode cL_law 244 = .ok (.iadd, 1) := by decide +kernel
theorem dL_law_245 : decode cL_law 245 = .ok (.iaload, 1) := by decide +kernel
theorem dL_law_246 : decode cL_law 246 = .ok (.invokevirtual 30, 3) := by decide +kernel
theorem dL_law_249 : decode cL_law 249 = .ok (.if_icmp .eq 566, 3) := by decide +kernel
theorem dL_law_252 : decode cL_law 252 = .ok (.iconst 0, 1) := by decide +kernel
theorem dL_law_253 : decode cL_law 253 = .ok (.ireturn, 1) := by decide +kernel
theorem dL_law_254 : decode cL_law 254 = .ok (.aload_n 1, 1) := by decide +kernel
theorem dL_law_255 : decode cL_law 255 = .ok (.invokevirtual 31, 3) := by decide +kernel
theorem dL_law_258 : decode cL_law 258 = .ok (.aload_n 2, 1) := by decide +kernel
theorem dL_law_259 : decode cL_law 259 = .ok (.invokevirtual 34, 3) := by decide +kernel
theorem dL_law_262 : decode cL_law 262 = .ok (.if_icmp .eq 553, 3) := by decide +kernel
theorem dL_law_265 : decode cL_law 265 = .ok (.iconst 0, 1) := by decide +kernel
theorem dL_law_266 : decode cL_law 266 = .ok (.ireturn, 1) := by decide +kernel
theorem dL_law_267 : decode cL_law 267 = .ok (.aload_n 1, 1) := by decide +kernel
theorem dL_law_268 : decode cL_law 268 = .ok (.invokevirtual 35, 3) := by decide +kernel
theorem dL_law_271 : decode cL_law 271 = .ok (.aload_n 2, 1) := by decide +kernel
theorem dL_law_272 : decode cL_law 272 = .ok (.invokevirtual 38, 3) := by decide +kernel
theorem dL_law_275 : decode cL_law 275 = .ok (.if_icmp .eq 540, 3) := by decide +kernel
theorem dL_law_278 : decode cL_law 278 = .ok (.iconst 0, 1) := by decide +kernel
theorem dL_law_279 : decode cL_law 279 = .ok (.ireturn, 1) := by decide +kernel
theorem dL_law_280 : decode cL_law 280 = .ok (.aload_n 1, 1) := by decide +kernel
theorem dL_law_281 : decode cL_law 281 = .ok (.aload_n 0, 1) := by decide +kernel
theorem dL_law_282 : decode cL_law 282 = .ok (.iload_n 3, 1) := by decide +kernel
theorem dL_law_283 : decode cL_law 283 = .ok (.iconst 1, 1) := by decide +kernel
theorem dL_law_284 : decode cL_law 284 = .ok (.iadd, 1) := by decide +kernel
theorem dL_law_285 : decode cL_law 285 = .ok (.iaload, 1) := by decide +kernel
theorem dL_law_286 : decode cL_law 286 = .ok (.invokevirtual 39, 3) := by decide +kernel
theorem dL_law_289 : decode cL_law 289 = .ok (.aload_n 2, 1) := by decide +kernel
theorem dL_law_290 : decode cL_law 290 = .ok (.aload_n 0, 1) := by decide +kernel
theorem dL_law_291 : decode cL_law 291 = .ok (.iload_n 3, 1) := by decide +kernel
theorem dL_law_292 : decode cL_law 292 = .ok (.iconst 1, 1) := by decide +kernel
theorem dL_law_293 : decode cL_law 293 = .ok (.iadd, 1) := by decide +kernel
theorem dL_law_294 : decode cL_law 294 = .ok (.iaload, 1) := by decide +kernel
theorem dL_law_295 : decode cL_law 295 = .ok (.invokevirtual 42, 3) := by decide +kernel
theorem dL_law_298 : decode cL_law 298 = .ok (.if_icmp .eq 517, 3) := by decide +kernel
theorem dL_law_301 : decode cL_law 301 = .ok (.iconst 0, 1) := by decide +kernel
theorem dL_law_302 : decode cL_law 302 = .ok (.ireturn, 1) := by decide +kernel
theorem dL_law_303 : decode cL_law 303 = .ok (.aload_n 1, 1) := by decide +kernel
theorem dL_law_304 : decode cL_law 304 = .ok (.aload_n 0, 1) := by decide +kernel
theorem dL_law_305 : decode cL_law 305 = .ok (.iload_n 3, 1) := by decide +kernel
theorem dL_law_306 : decode cL_law 306 = .ok (.iconst 1, 1) := by decide +kernel
theorem dL_law_307 : decode cL_law 307 = .ok (.iadd, 1) := by decide +kernel
theorem dL_law_308 : decode cL_law 308 = .ok (.iaload, 1) := by decide +kernel
theorem dL_law_309 : decode cL_law 309 = .ok (.aload_n 0, 1) := by decide +kernel
theorem dL_law_310 : decode cL_law 310 = .ok (.iload_n 3, 1) := by decide +kernel
theorem dL_law_311 : decode cL_law 311 = .ok (.iconst 2, 1) := by decide +kernel
theorem dL_law_312 : decode cL_law 312 = .ok (.iadd, 1) := by decide +kernel
theorem dL_law_313 : decode cL_law 313 = .ok (.iaload, 1) := by decide +kernel
theorem dL_law_314 : decode cL_law 314 = .ok (.invokevirtual 43, 3) := by decide +kernel
theorem dL_law_317 : decode cL_law 317 = .ok (.aload_n 2, 1) := by decide +kernel
theorem dL_law_318 : decode cL_law 318 = .ok (.aload_n 0, 1) := by decide +kernel
theorem dL_law_319 : decode cL_law 319 = .ok (.iload_n 3, 1) := by decide +kernel
theorem dL_law_320 : decode cL_law 320 = .ok (.iconst 1, 1) := by decide +kernel
theorem dL_law_321 : decode cL_law 321 = .ok (.iadd, 1) := by decide +kernel
theorem dL_law_322 : decode cL_law 322 = .ok (.iaload, 1) := by decide +kernel
theorem dL_law_323 : decode cL_law 323 = .ok (.aload_n 0, 1) := by decide +kernel
theorem dL_law_324 : decode cL_law 324 = .ok (.iload_n 3, 1) := by decide +kernel
theorem dL_law_325 : decode cL_law 325 = .ok (.iconst 2, 1) := by decide +kernel
theorem dL_law_326 : decode cL_law 326 = .ok (.iadd, 1) := by decide +kernel
theorem dL_law_327 : decode cL_law 327 = .ok (.iaload, 1) := by decide +kernel
theorem dL_law_328 : decode cL_law 328 = .ok (.invokevirtual 47, 3) := by decide +kernel
theorem dL_law_331 : decode cL_law 331 = .ok (.if_icmp .eq 484, 3) := by decide +kernel
theorem dL_law_334 : decode cL_law 334 = .ok (.iconst 0, 1) := by decide +kernel
theorem dL_law_335 : decode cL_law 335 = .ok (.ireturn, 1) := by decide +kernel
theorem dL_law_336 : decode cL_law 336 = .ok (.aload_n 1, 1) := by decide +kernel
theorem dL_law_337 : decode cL_law 337 = .ok (.aload_n 0, 1) := by decide +kernel
theorem dL_law_338 : decode cL_law 338 = .ok (.iload_n 3, 1) := by decide +kernel
theorem dL_law_339 : decode cL_law 339 = .ok (.iconst 1, 1) := by decide +kernel
theorem dL_law_340 : decode cL_law 340 = .ok (.iadd, 1) := by decide +kernel
theorem dL_law_341 : decode cL_law 341 = .ok (.iaload, 1) := by decide +kernel
theorem dL_law_342 : decode cL_law 342 = .ok (.aload_n 0, 1) := by decide +kernel
theorem dL_law_343 : decode cL_law 343 = .ok (.iload_n 3, 1) := by decide +kernel
theorem dL_law_344 : decode cL_law 344 = .ok (.iconst 2, 1) := by decide +kernel
theorem dL_law_345 : decode cL_law 345 = .ok (.iadd, 1) := by decide +kernel
theorem dL_law_346 : decode cL_law 346 = .ok (.iaload, 1) := by decide +kernel
theorem dL_law_347 : decode cL_law 347 = .ok (.invokevirtual 48, 3) := by decide +kernel
theorem dL_law_350 : decode cL_law 350 = .ok (.aload_n 2, 1) := by decide +kernel
theorem dL_law_351 : decode cL_law 351 = .ok (.aload_n 0, 1) := by decide +kernel
theorem dL_law_352 : decode cL_law 352 = .ok (.iload_n 3, 1) := by decide +kernel
theorem dL_law_353 : decode cL_law 353 = .ok (.iconst 1, 1) := by decide +kernel
theorem dL_law_354 : decode cL_law 354 = .ok (.iadd, 1) := by decide +kernel
theorem dL_law_355 : decode cL_law 355 = .ok (.iaload, 1) := by decide +kernel
theorem dL_law_356 : decode cL_law 356 = .ok (.aload_n 0, 1) := by decide +kernel
theorem dL_law_357 : decode cL_law 357 = .ok (.iload_n 3, 1) := by decide +kernel
theorem dL_law_358 : decode cL_law 358 = .ok (.iconst 2, 1) := by decide +kernel
theorem dL_law_359 : decode cL_law 359 = .ok (.iadd, 1) := by decide +kernel
theorem dL_law_360 : decode cL_law 360 = .ok (.iaload, 1) := by decide +kernel
theorem dL_law_361 : decode cL_law 361 = .ok (.invokevirtual 51, 3) := by decide +kernel
theorem dL_law_364 : decode cL_law 364 = .ok (.if_icmp .eq 451, 3) := by decide +kernel
theorem dL_law_367 : decode cL_law 367 = .ok (.iconst 0, 1) := by decide +kernel
theorem dL_law_368 : decode cL_law 368 = .ok (.ireturn, 1) := by decide +kernel
theorem dL_law_369 : decode cL_law 369 = .ok (.aload_n 1, 1) := by decide +kernel
theorem dL_law_370 : decode cL_law 370 = .ok (.invokevirtual 52, 3) := by decide +kernel
theorem dL_law_373 : decode cL_law 373 = .ok (.aload_n 2, 1) := by decide +kernel
theorem dL_law_374 : decode cL_law 374 = .ok (.invokevirtual 55, 3) := by decide +kernel
theorem dL_law_377 : decode cL_law 377 = .ok (.if_icmp .eq 438, 3) := by decide +kernel
theorem dL_law_380 : decode cL_law 380 = .ok (.iconst 0, 1) := by decide +kernel
theorem dL_law_381 : decode cL_law 381 = .ok (.ireturn, 1) := by decide +kernel
theorem dL_law_382 : decode cL_law 382 = .ok (.aload_n 1, 1) := by decide +kernel
theorem dL_law_383 : decode cL_law 383 = .ok (.aload_n 0, 1) := by decide +kernel
theorem dL_law_384 : decode cL_law 384 = .ok (.iload_n 3, 1) := by decide +kernel
theorem dL_law_385 : decode cL_law 385 = .ok (.iconst 1, 1) := by decide +kernel
theorem dL_law_386 : decode cL_law 386 = .ok (.iadd, 1) := by decide +kernel
theorem dL_law_387 : decode cL_law 387 = .ok (.iaload, 1) := by decide +kernel
theorem dL_law_388 : decode cL_law 388 = .ok (.invokevirtual 56, 3) := by decide +kernel
theorem dL_law_391 : decode cL_law 391 = .ok (.aload_n 2, 1) := by decide +kernel
theorem dL_law_392 : decode cL_law 392 = .ok (.aload_n 0, 1) := by decide +kernel
theorem dL_law_393 : decode cL_law 393 = .ok (.iload_n 3, 1) := by decide +kernel
theorem dL_law_394 : decode cL_law 394 = .ok (.iconst 1, 1) := by decide +kernel
theorem dL_law_395 : decode cL_law 395 = .ok (.iadd, 1) := by decide +kernel
theorem dL_law_396 : decode cL_law 396 = .ok (.iaload, 1) := by decide +kernel
theorem dL_law_397 : decode cL_law 397 = .ok (.invokevirtual 59, 3) := by decide +kernel
theorem dL_law_400 : decode cL_law 400 = .ok (.if_icmp .eq 415, 3) := by decide +kernel
theorem dL_law_403 : decode cL_law 403 = .ok (.iconst 0, 1) := by decide +kernel
theorem dL_law_404 : decode cL_law 404 = .ok (.ireturn, 1) := by decide +kernel
theorem dL_law_405 : decode cL_law 405 = .ok (.aload_n 1, 1) := by decide +kernel
theorem dL_law_406 : decode cL_law 406 = .ok (.invokevirtual 60, 3) := by decide +kernel
theorem dL_law_409 : decode cL_law 409 = .ok (.aload_n 2, 1) := by decide +kernel
theorem dL_law_410 : decode cL_law 410 = .ok (.invokevirtual 63, 3) := by decide +kernel
theorem dL_law_413 : decode cL_law 413 = .ok (.if_icmp .eq 402, 3) := by decide +kernel
theorem dL_law_416 : decode cL_law 416 = .ok (.iconst 0, 1) := by decide +kernel
theorem dL_law_417 : decode cL_law 417 = .ok (.ireturn, 1) := by decide +kernel
theorem dL_law_418 : decode cL_law 418 = .ok (.aload_n 1, 1) := by decide +kernel
theorem dL_law_419 : decode cL_law 419 = .ok (.aload_n 0, 1) := by decide +kernel
theorem dL_law_420 : decode cL_law 420 = .ok (.iload_n 3, 1) := by decide +kernel
theorem dL_law_421 : decode cL_law 421 = .ok (.iconst 1, 1) := by decide +kernel
theorem dL_law_422 : decode cL_law 422 = .ok (.iadd, 1) := by decide +kernel
theorem dL_law_423 : decode cL_law 423 = .ok (.iaload, 1) := by decide +kernel
theorem dL_law_424 : decode cL_law 424 = .ok (.invokevirtual 64, 3) := by decide +kernel
theorem dL_law_427 : decode cL_law 427 = .ok (.aload_n 2, 1) := by decide +kernel
theorem dL_law_428 : decode cL_law 428 = .ok (.aload_n 0, 1) := by decide +kernel
theorem dL_law_429 : decode cL_law 429 = .ok (.iload_n 3, 1) := by decide +kernel
theorem dL_law_430 : decode cL_law 430 = .ok (.iconst 1, 1) := by decide +kernel
theorem dL_law_431 : decode cL_law 431 = .ok (.iadd, 1) := by decide +kernel
theorem dL_law_432 : decode cL_law 432 = .ok (.iaload, 1) := by decide +kernel
theorem dL_law_433 : decode cL_law 433 = .ok (.invokevirtual 67, 3) := by decide +kernel
theorem dL_law_436 : decode cL_law 436 = .ok (.if_icmp .eq 379, 3) := by decide +kernel
theorem dL_law_439 : decode cL_law 439 = .ok (.iconst 0, 1) := by decide +kernel
theorem dL_law_440 : decode cL_law 440 = .ok (.ireturn, 1) := by decide +kernel
theorem dL_law_441 : decode cL_law 441 = .ok (.aload_n 1, 1) := by decide +kernel
theorem dL_law_442 : decode cL_law 442 = .ok (.invokevirtual 68, 3) := by decide +kernel
theorem dL_law_445 : decode cL_law 445 = .ok (.aload_n 2, 1) := by decide +kernel
theorem dL_law_446 : decode cL_law 446 = .ok (.invokevirtual 71, 3) := by decide +kernel
theorem dL_law_449 : decode cL_law 449 = .ok (.if_icmp .eq 366, 3) := by decide +kernel
theorem dL_law_452 : decode cL_law 452 = .ok (.iconst 0, 1) := by decide +kernel
theorem dL_law_453 : decode cL_law 453 = .ok (.ireturn, 1) := by decide +kernel
theorem dL_law_454 : decode cL_law 454 = .ok (.aload_n 1, 1) := by decide +kernel
theorem dL_law_455 : decode cL_law 455 = .ok (.invokevirtual 72, 3) := by decide +kernel
theorem dL_law_458 : decode cL_law 458 = .ok (.aload_n 2, 1) := by decide +kernel
theorem dL_law_459 : decode cL_law 459 = .ok (.invokevirtual 75, 3) := by decide +kernel
theorem dL_law_462 : decode cL_law 462 = .ok (.if_icmp .eq 353, 3) := by decide +kernel
theorem dL_law_465 : decode cL_law 465 = .ok (.iconst 0, 1) := by decide +kernel
theorem dL_law_466 : decode cL_law 466 = .ok (.ireturn, 1) := by decide +kernel
theorem dL_law_467 : decode cL_law 467 = .ok (.aload_n 1, 1) := by decide +kernel
theorem dL_law_468 : decode cL_law 468 = .ok (.aload_n 0, 1) := by decide +kernel
theorem dL_law_469 : decode cL_law 469 = .ok (.iload_n 3, 1) := by decide +kernel
theorem dL_law_470 : decode cL_law 470 = .ok (.iconst 1, 1) := by decide +kernel
theorem dL_law_471 : decode cL_law 471 = .ok (.iadd, 1) := by decide +kernel
theorem dL_law_472 : decode cL_law 472 = .ok (.iaload, 1) := by decide +kernel
theorem dL_law_473 : decode cL_law 473 = .ok (.invokevirtual 76, 3) := by decide +kernel
theorem dL_law_476 : decode cL_law 476 = .ok (.aload_n 2, 1) := by decide +kernel
theorem dL_law_477 : decode cL_law 477 = .ok (.aload_n 0, 1) := by decide +kernel
theorem dL_law_478 : decode cL_law 478 = .ok (.iload_n 3, 1) := by decide +kernel
theorem dL_law_479 : decode cL_law 479 = .ok (.iconst 1, 1) := by decide +kernel
theorem dL_law_480 : decode cL_law 480 = .ok (.iadd, 1) := by decide +kernel
theorem dL_law_481 : decode cL_law 481 = .ok (.iaload, 1) := by decide +kernel
theorem dL_law_482 : decode cL_law 482 = .ok (.invokevirtual 79, 3) := by decide +kernel
theorem dL_law_485 : decode cL_law 485 = .ok (.if_icmp .eq 330, 3) := by decide +kernel
theorem dL_law_488 : decode cL_law 488 = .ok (.iconst 0, 1) := by decide +kernel
theorem dL_law_489 : decode cL_law 489 = .ok (.ireturn, 1) := by decide +kernel
theorem dL_law_490 : decode cL_law 490 = .ok (.aload_n 1, 1) := by decide +kernel
theorem dL_law_491 : decode cL_law 491 = .ok (.aload_n 0, 1) := by decide +kernel
theorem dL_law_492 : decode cL_law 492 = .ok (.iload_n 3, 1) := by decide +kernel
theorem dL_law_493 : decode cL_law 493 = .ok (.iconst 1, 1) := by decide +kernel
theorem dL_law_494 : decode cL_law 494 = .ok (.iadd, 1) := by decide +kernel
theorem dL_law_495 : decode cL_law 495 = .ok (.iaload, 1) := by decide +kernel
theorem dL_law_496 : decode cL_law 496 = .ok (.invokevirtual 80, 3) := by decide +kernel
theorem dL_law_499 : decode cL_law 499 = .ok (.aload_n 2, 1) := by decide +kernel
theorem dL_law_500 : decode cL_law 500 = .ok (.aload_n 0, 1) := by decide +kernel
theorem dL_law_501 : decode cL_law 501 = .ok (.iload_n 3, 1) := by decide +kernel
theorem dL_law_502 : decode cL_law 502 = .ok (.iconst 1, 1) := by decide +kernel
theorem dL_law_503 : decode cL_law 503 = .ok (.iadd, 1) := by decide +kernel
theorem dL_law_504 : decode cL_law 504 = .ok (.iaload, 1) := by decide +kernel
theorem dL_law_505 : decode cL_law 505 = .ok (.invokevirtual 83, 3) := by decide +kernel
theorem dL_law_508 : decode cL_law 508 = .ok (.if_icmp .eq 307, 3) := by decide +kernel
theorem dL_law_511 : decode cL_law 511 = .ok (.iconst 0, 1) := by decide +kernel
theorem dL_law_512 : decode cL_law 512 = .ok (.ireturn, 1) := by decide +kernel
theorem dL_law_513 : decode cL_law 513 = .ok (.aload_n 1, 1) := by decide +kernel
theorem dL_law_514 : decode cL_law 514 = .ok (.aload_n 0, 1) := by decide +kernel
theorem dL_law_515 : decode cL_law 515 = .ok (.iload_n 3, 1) := by decide +kernel
theorem dL_law_516 : decode cL_law 516 = .ok (.iconst 1, 1) := by decide +kernel
theorem dL_law_517 : decode cL_law 517 = .ok (.iadd, 1) := by decide +kernel
theorem dL_law_518 : decode cL_law 518 = .ok (.iaload, 1) := by decide +kernel
theorem dL_law_519 : decode cL_law 519 = .ok (.invokevirtual 84, 3) := by decide +kernel
theorem dL_law_522 : decode cL_law 522 = .ok (.aload_n 2, 1) := by decide +kernel
theorem dL_law_523 : decode cL_law 523 = .ok (.aload_n 0, 1) := by decide +kernel
theorem dL_law_524 : decode cL_law 524 = .ok (.iload_n 3, 1) := by decide +kernel
theorem dL_law_525 : decode cL_law 525 = .ok (.iconst 1, 1) := by decide +kernel
theorem dL_law_526 : decode cL_law 526 = .ok (.iadd, 1) := by decide +kernel
theorem dL_law_527 : decode cL_law 527 = .ok (.iaload, 1) := by decide +kernel
theorem dL_law_528 : decode cL_law 528 = .ok (.invokevirtual 87, 3) := by decide +kernel
theorem dL_law_531 : decode cL_law 531 = .ok (.if_icmp .eq 284, 3) := by decide +kernel
theorem dL_law_534 : decode cL_law 534 = .ok (.iconst 0, 1) := by decide +kernel
theorem dL_law_535 : decode cL_law 535 = .ok (.ireturn, 1) := by decide +kernel
theorem dL_law_536 : decode cL_law 536 = .ok (.aload_n 1, 1) := by decide +kernel
theorem dL_law_537 : decode cL_law 537 = .ok (.aload_n 0, 1) := by decide +kernel
theorem dL_law_538 : decode cL_law 538 = .ok (.iload_n 3, 1) := by decide +kernel
theorem dL_law_539 : decode cL_law 539 = .ok (.iconst 1, 1) := by decide +kernel
theorem dL_law_540 : decode cL_law 540 = .ok (.iadd, 1) := by decide +kernel
theorem dL_law_541 : decode cL_law 541 = .ok (.iaload, 1) := by decide +kernel
theorem dL_law_542 : decode cL_law 542 = .ok (.aload_n 0, 1) := by decide +kernel
theorem dL_law_543 : decode cL_law 543 = .ok (.iload_n 3, 1) := by decide +kernel
theorem dL_law_544 : decode cL_law 544 = .ok (.iconst 2, 1) := by decide +kernel
theorem dL_law_545 : decode cL_law 545 = .ok (.iadd, 1) := by decide +kernel
theorem dL_law_546 : decode cL_law 546 = .ok (.iaload, 1) := by decide +kernel
theorem dL_law_547 : decode cL_law 547 = .ok (.invokevirtual 88, 3) := by decide +kernel
theorem dL_law_550 : decode cL_law 550 = .ok (.aload_n 2, 1) := by decide +kernel
theorem dL_law_551 : decode cL_law 551 = .ok (.aload_n 0, 1) := by decide +kernel
theorem dL_law_552 : decode cL_law 552 = .ok (.iload_n 3, 1) := by decide +kernel
theorem dL_law_553 : decode cL_law 553 = .ok (.iconst 1, 1) := by decide +kernel
theorem dL_law_554 : decode cL_law 554 = .ok (.iadd, 1) := by decide +kernel
theorem dL_law_555 : decode cL_law 555 = .ok (.iaload, 1) := by decide +kernel
theorem dL_law_556 : decode cL_law 556 = .ok (.aload_n 0, 1) := by decide +kernel
theorem dL_law_557 : decode cL_law 557 = .ok (.iload_n 3, 1) := by decide +kernel
theorem dL_law_558 : decode cL_law 558 = .ok (.iconst 2, 1) := by decide +kernel
theorem dL_law_559 : decode cL_law 559 = .ok (.iadd, 1) := by decide +kernel
theorem dL_law_560 : decode cL_law 560 = .ok (.iaload, 1) := by decide +kernel
theorem dL_law_561 : decode cL_law 561 = .ok (.invokevirtual 91, 3) := by decide +kernel
theorem dL_law_564 : decode cL_law 564 = .ok (.if_icmp .eq 251, 3) := by decide +kernel
theorem dL_law_567 : decode cL_law 567 = .ok (.iconst 0, 1) := by decide +kernel
theorem dL_law_568 : decode cL_law 568 = .ok (.ireturn, 1) := by decide +kernel
theorem dL_law_569 : decode cL_law 569 = .ok (.aload_n 1, 1) := by decide +kernel
theorem dL_law_570 : decode cL_law 570 = .ok (.aload_n 0, 1) := by decide +kernel
theorem dL_law_571 : decode cL_law 571 = .ok (.iload_n 3, 1) := by decide +kernel
theorem dL_law_572 : decode cL_law 572 = .ok (.iconst 1, 1) := by decide +kernel
theorem dL_law_573 : decode cL_law 573 = .ok (.iadd, 1) := by decide +kernel
theorem dL_law_574 : decode cL_law 574 = .ok (.iaload, 1) := by decide +kernel
theorem dL_law_575 : decode cL_law 575 = .ok (.aload_n 0, 1) := by decide +kernel
theorem dL_law_576 : decode cL_law 576 = .ok (.iload_n 3, 1) := by decide +kernel
theorem dL_law_577 : decode cL_law 577 = .ok (.iconst 2, 1) := by decide +kernel
theorem dL_law_578 : decode cL_law 578 = .ok (.iadd, 1) := by decide +kernel
theorem dL_law_579 : decode cL_law 579 = .ok (.iaload, 1) := by decide +kernel
theorem dL_law_580 : decode cL_law 580 = .ok (.invokevirtual 92, 3) := by decide +kernel
theorem dL_law_583 : decode cL_law 583 = .ok (.aload_n 2, 1) := by decide +kernel
theorem dL_law_584 : decode cL_law 584 = .ok (.aload_n 0, 1) := by decide +kernel
theorem dL_law_585 : decode cL_law 585 = .ok (.iload_n 3, 1) := by decide +kernel
theorem dL_law_586 : decode cL_law 586 = .ok (.iconst 1, 1) := by decide +kernel
theorem dL_law_587 : decode cL_law 587 = .ok (.iadd, 1) := by decide +kernel
theorem dL_law_588 : decode cL_law 588 = .ok (.iaload, 1) := by decide +kernel
theorem dL_law_589 : decode cL_law 589 = .ok (.aload_n 0, 1) := by decide +kernel
theorem dL_law_590 : decode cL_law 590 = .ok (.iload_n 3, 1) := by decide +kernel
theorem dL_law_591 : decode cL_law 591 = .ok (.iconst 2, 1) := by decide +kernel
theorem dL_law_592 : decode cL_law 592 = .ok (.iadd, 1) := by decide +kernel
theorem dL_law_593 : decode cL_law 593 = .ok (.iaload, 1) := by decide +kernel
theorem dL_law_594 : decode cL_law 594 = .ok (.invokevirtual 95, 3) := by decide +kernel
theorem dL_law_597 : decode cL_law 597 = .ok (.if_icmp .eq 218, 3) := by decide +kernel
theorem dL_law_600 : decode cL_law 600 = .ok (.iconst 0, 1) := by decide +kernel
theorem dL_law_601 : decode cL_law 601 = .ok (.ireturn, 1) := by decide +kernel
theorem dL_law_602 : decode cL_law 602 = .ok (.aload_n 1, 1) := by decide +kernel
theorem dL_law_603 : decode cL_law 603 = .ok (.aload_n 0, 1) := by decide +kernel
theorem dL_law_604 : decode cL_law 604 = .ok (.iload_n 3, 1) := by decide +kernel
theorem dL_law_605 : decode cL_law 605 = .ok (.iconst 1, 1) := by decide +kernel
theorem dL_law_606 : decode cL_law 606 = .ok (.iadd, 1) := by decide +kernel
theorem dL_law_607 : decode cL_law 607 = .ok (.iaload, 1) := by decide +kernel
theorem dL_law_608 : decode cL_law 608 = .ok (.invokevirtual 96, 3) := by decide +kernel
theorem dL_law_611 : decode cL_law 611 = .ok (.aload_n 2, 1) := by decide +kernel
theorem dL_law_612 : decode cL_law 612 = .ok (.aload_n 0, 1) := by decide +kernel
theorem dL_law_613 : decode cL_law 613 = .ok (.iload_n 3, 1) := by decide +kernel
theorem dL_law_614 : decode cL_law 614 = .ok (.iconst 1, 1) := by decide +kernel
theorem dL_law_615 : decode cL_law 615 = .ok (.iadd, 1) := by decide +kernel
theorem dL_law_616 : decode cL_law 616 = .ok (.iaload, 1) := by decide +kernel
theorem dL_law_617 : decode cL_law 617 = .ok (.invokevirtual 99, 3) := by decide +kernel
theorem dL_law_620 : decode cL_law 620 = .ok (.if_icmp .eq 195, 3) := by decide +kernel
theorem dL_law_623 : decode cL_law 623 = .ok (.iconst 0, 1) := by decide +kernel
theorem dL_law_624 : decode cL_law 624 = .ok (.ireturn, 1) := by decide +kernel
theorem dL_law_625 : decode cL_law 625 = .ok (.aload_n 1, 1) := by decide +kernel
theorem dL_law_626 : decode cL_law 626 = .ok (.aload_n 0, 1) := by decide +kernel
theorem dL_law_627 : decode cL_law 627 = .ok (.iload_n 3, 1) := by decide +kernel
theorem dL_law_628 : decode cL_law 628 = .ok (.iconst 1, 1) := by decide +kernel
theorem dL_law_629 : decode cL_law 629 = .ok (.iadd, 1) := by decide +kernel
theorem dL_law_630 : decode cL_law 630 = .ok (.iaload, 1) := by decide +kernel
theorem dL_law_631 : decode cL_law 631 = .ok (.invokevirtual 100, 3) := by decide +kernel
theorem dL_law_634 : decode cL_law 634 = .ok (.aload_n 2, 1) := by decide +kernel
theorem dL_law_635 : decode cL_law 635 = .ok (.aload_n 0, 1) := by decide +kernel
theorem dL_law_636 : decode cL_law 636 = .ok (.iload_n 3, 1) := by decide +kernel
theorem dL_law_637 : decode cL_law 637 = .ok (.iconst 1, 1) := by decide +kernel
theorem dL_law_638 : decode cL_law 638 = .ok (.iadd, 1) := by decide +kernel
theorem dL_law_639 : decode cL_law 639 = .ok (.iaload, 1) := by decide +kernel
theorem dL_law_640 : decode cL_law 640 = .ok (.invokevirtual 103, 3) := by decide +kernel
theorem dL_law_643 : decode cL_law 643 = .ok (.if_icmp .eq 172, 3) := by decide +kernel
theorem dL_law_646 : decode cL_law 646 = .ok (.iconst 0, 1) := by decide +kernel
theorem dL_law_647 : decode cL_law 647 = .ok (.ireturn, 1) := by decide +kernel
theorem dL_law_648 : decode cL_law 648 = .ok (.aload_n 1, 1) := by decide +kernel
theorem dL_law_649 : decode cL_law 649 = .ok (.invokevirtual 104, 3) := by decide +kernel
theorem dL_law_652 : decode cL_law 652 = .ok (.aload_n 2, 1) := by decide +kernel
theorem dL_law_653 : decode cL_law 653 = .ok (.invokevirtual 107, 3) := by decide +kernel
theorem dL_law_656 : decode cL_law 656 = .ok (.if_icmp .eq 159, 3) := by decide +kernel
theorem dL_law_659 : decode cL_law 659 = .ok (.iconst 0, 1) := by decide +kernel
theorem dL_law_660 : decode cL_law 660 = .ok (.ireturn, 1) := by decide +kernel
theorem dL_law_661 : decode cL_law 661 = .ok (.aload_n 1, 1) := by decide +kernel
theorem dL_law_662 : decode cL_law 662 = .ok (.aload_n 0, 1) := by decide +kernel
theorem dL_law_663 : decode cL_law 663 = .ok (.iload_n 3, 1) := by decide +kernel
theorem dL_law_664 : decode cL_law 664 = .ok (.iconst 1, 1) := by decide +kernel
theorem dL_law_665 : decode cL_law 665 = .ok (.iadd, 1) := by decide +kernel
theorem dL_law_666 : decode cL_law 666 = .ok (.iaload, 1) := by decide +kernel
theorem dL_law_667 : decode cL_law 667 = .ok (.aload_n 0, 1) := by decide +kernel
theorem dL_law_668 : decode cL_law 668 = .ok (.iload_n 3, 1) := by decide +kernel
theorem dL_law_669 : decode cL_law 669 = .ok (.iconst 2, 1) := by decide +kernel
theorem dL_law_670 : decode cL_law 670 = .ok (.iadd, 1) := by decide +kernel
theorem dL_law_671 : decode cL_law 671 = .ok (.iaload, 1) := by decide +kernel
theorem dL_law_672 : decode cL_law 672 = .ok (.invokevirtual 108, 3) := by decide +kernel
theorem dL_law_675 : decode cL_law 675 = .ok (.aload_n 2, 1) := by decide +kernel
theorem dL_law_676 : decode cL_law 676 = .ok (.aload_n 0, 1) := by decide +kernel
theorem dL_law_677 : decode cL_law 677 = .ok (.iload_n 3, 1) := by decide +kernel
theorem dL_law_678 : decode cL_law 678 = .ok (.iconst 1, 1) := by decide +kernel
theorem dL_law_679 : decode cL_law 679 = .ok (.iadd, 1) := by decide +kernel
theorem dL_law_680 : decode cL_law 680 = .ok (.iaload, 1) := by decide +kernel
theorem dL_law_681 : decode cL_law 681 = .ok (.aload_n 0, 1) := by decide +kernel
theorem dL_law_682 : decode cL_law 682 = .ok (.iload_n 3, 1) := by decide +kernel
theorem dL_law_683 : decode cL_law 683 = .ok (.iconst 2, 1) := by decide +kernel
theorem dL_law_684 : decode cL_law 684 = .ok (.iadd, 1) := by decide +kernel
theorem dL_law_685 : decode cL_law 685 = .ok (.iaload, 1) := by decide +kernel
theorem dL_law_686 : decode cL_law 686 = .ok (.invokevirtual 111, 3) := by decide +kernel
theorem dL_law_689 : decode cL_law 689 = .ok (.if_icmp .eq 126, 3) := by decide +kernel
theorem dL_law_692 : decode cL_law 692 = .ok (.iconst 0, 1) := by decide +kernel
theorem dL_law_693 : decode cL_law 693 = .ok (.ireturn, 1) := by decide +kernel
theorem dL_law_694 : decode cL_law 694 = .ok (.aload_n 1, 1) := by decide +kernel
theorem dL_law_695 : decode cL_law 695 = .ok (.aload_n 0, 1) := by decide +kernel
theorem dL_law_696 : decode cL_law 696 = .ok (.iload_n 3, 1) := by decide +kernel
theorem dL_law_697 : decode cL_law 697 = .ok (.iconst 1, 1) := by decide +kernel
theorem dL_law_698 : decode cL_law 698 = .ok (.iadd, 1) := by decide +kernel
theorem dL_law_699 : decode cL_law 699 = .ok (.iaload, 1) := by decide +kernel
theorem dL_law_700 : decode cL_law 700 = .ok (.invokevirtual 112, 3) := by decide +kernel
theorem dL_law_703 : decode cL_law 703 = .ok (.aload_n 2, 1) := by decide +kernel
theorem dL_law_704 : decode cL_law 704 = .ok (.aload_n 0, 1) := by decide +kernel
theorem dL_law_705 : decode cL_law 705 = .ok (.iload_n 3, 1) := by decide +kernel
theorem dL_law_706 : decode cL_law 706 = .ok (.iconst 1, 1) := by decide +kernel
theorem dL_law_707 : decode cL_law 707 = .ok (.iadd, 1) := by decide +kernel
theorem dL_law_708 : decode cL_law 708 = .ok (.iaload, 1) := by decide +kernel
theorem dL_law_709 : decode cL_law 709 = .ok (.invokevirtual 115, 3) := by decide +kernel
theorem dL_law_712 : decode cL_law 712 = .ok (.if_icmp .eq 103, 3) := by decide +kernel
theorem dL_law_715 : decode cL_law 715 = .ok (.iconst 0, 1) := by decide +kernel
theorem dL_law_716 : decode cL_law 716 = .ok (.ireturn, 1) := by decide +kernel
theorem dL_law_717 : decode cL_law 717 = .ok (.aload_n 1, 1) := by decide +kernel
theorem dL_law_718 : decode cL_law 718 = .ok (.invokevirtual 116, 3) := by decide +kernel
theorem dL_law_721 : decode cL_law 721 = .ok (.aload_n 2, 1) := by decide +kernel
theorem dL_law_722 : decode cL_law 722 = .ok (.invokevirtual 119, 3) := by decide +kernel
theorem dL_law_725 : decode cL_law 725 = .ok (.if_icmp .eq 90, 3) := by decide +kernel
theorem dL_law_728 : decode cL_law 728 = .ok (.iconst 0, 1) := by decide +kernel
theorem dL_law_729 : decode cL_law 729 = .ok (.ireturn, 1) := by decide +kernel
theorem dL_law_730 : decode cL_law 730 = .ok (.aload_n 1, 1) := by decide +kernel
theorem dL_law_731 : decode cL_law 731 = .ok (.aload_n 0, 1) := by decide +kernel
theorem dL_law_732 : decode cL_law 732 = .ok (.iload_n 3, 1) := by decide +kernel
theorem dL_law_733 : decode cL_law 733 = .ok (.iconst 1, 1) := by decide +kernel
theorem dL_law_734 : decode cL_law 734 = .ok (.iadd, 1) := by decide +kernel
theorem dL_law_735 : decode cL_law 735 = .ok (.iaload, 1) := by decide +kernel
theorem dL_law_736 : decode cL_law 736 = .ok (.invokevirtual 120, 3) := by decide +kernel
theorem dL_law_739 : decode cL_law 739 = .ok (.aload_n 2, 1) := by decide +kernel
theorem dL_law_740 : decode cL_law 740 = .ok (.aload_n 0, 1) := by decide +kernel
theorem dL_law_741 : decode cL_law 741 = .ok (.iload_n 3, 1) := by decide +kernel
theorem dL_law_742 : decode cL_law 742 = .ok (.iconst 1, 1) := by decide +kernel
theorem dL_law_743 : decode cL_law 743 = .ok (.iadd, 1) := by decide +kernel
theorem dL_law_744 : decode cL_law 744 = .ok (.iaload, 1) := by decide +kernel
theorem dL_law_745 : decode cL_law 745 = .ok (.invokevirtual 123, 3) := by decide +kernel
theorem dL_law_748 : decode cL_law 748 = .ok (.if_icmp .eq 67, 3) := by decide +kernel
theorem dL_law_751 : decode cL_law 751 = .ok (.iconst 0, 1) := by decide +kernel
theorem dL_law_752 : decode cL_law 752 = .ok (.ireturn, 1) := by decide +kernel
theorem dL_law_753 : decode cL_law 753 = .ok (.aload_n 1, 1) := by decide +kernel
theorem dL_law_754 : decode cL_law 754 = .ok (.invokevirtual 124, 3) := by decide +kernel
theorem dL_law_757 : decode cL_law 757 = .ok (.aload_n 2, 1) := by decide +kernel
theorem dL_law_758 : decode cL_law 758 = .ok (.invokevirtual 127, 3) := by decide +kernel
theorem dL_law_761 : decode cL_law 761 = .ok (.if_icmp .eq 54, 3) := by decide +kernel
theorem dL_law_764 : decode cL_law 764 = .ok (.iconst 0, 1) := by decide +kernel
theorem dL_law_765 : decode cL_law 765 = .ok (.ireturn, 1) := by decide +kernel
theorem dL_law_766 : decode cL_law 766 = .ok (.aload_n 1, 1) := by decide +kernel
theorem dL_law_767 : decode cL_law 767 = .ok (.invokevirtual 128, 3) := by decide +kernel
theorem dL_law_770 : decode cL_law 770 = .ok (.aload_n 2, 1) := by decide +kernel
theorem dL_law_771 : decode cL_law 771 = .ok (.invokevirtual 131, 3) := by decide +kernel
theorem dL_law_774 : decode cL_law 774 = .ok (.if_icmp .eq 41, 3) := by decide +kernel
theorem dL_law_777 : decode cL_law 777 = .ok (.iconst 0, 1) := by decide +kernel
theorem dL_law_778 : decode cL_law 778 = .ok (.ireturn, 1) := by decide +kernel
theorem dL_law_779 : decode cL_law 779 = .ok (.aload_n 1, 1) := by decide +kernel
theorem dL_law_780 : decode cL_law 780 = .ok (.aload_n 0, 1) := by decide +kernel
theorem dL_law_781 : decode cL_law 781 = .ok (.iload_n 3, 1) := by decide +kernel
theorem dL_law_782 : decode cL_law 782 = .ok (.iconst 1, 1) := by decide +kernel
theorem dL_law_783 : decode cL_law 783 = .ok (.iadd, 1) := by decide +kernel
theorem dL_law_784 : decode cL_law 784 = .ok (.iaload, 1) := by decide +kernel
theorem dL_law_785 : decode cL_law 785 = .ok (.invokevirtual 132, 3) := by decide +kernel
theorem dL_law_788 : decode cL_law 788 = .ok (.aload_n 2, 1) := by decide +kernel
theorem dL_law_789 : decode cL_law 789 = .ok (.aload_n 0, 1) := by decide +kernel
theorem dL_law_790 : decode cL_law 790 = .ok (.iload_n 3, 1) := by decide +kernel
theorem dL_law_791 : decode cL_law 791 = .ok (.iconst 1, 1) := by decide +kernel
theorem dL_law_792 : decode cL_law 792 = .ok (.iadd, 1) := by decide +kernel
theorem dL_law_793 : decode cL_law 793 = .ok (.iaload, 1) := by decide +kernel
theorem dL_law_794 : decode cL_law 794 = .ok (.invokevirtual 135, 3) := by decide +kernel
theorem dL_law_797 : decode cL_law 797 = .ok (.if_icmp .eq 18, 3) := by decide +kernel
theorem dL_law_800 : decode cL_law 800 = .ok (.iconst 0, 1) := by decide +kernel
theorem dL_law_801 : decode cL_law 801 = .ok (.ireturn, 1) := by decide +kernel
theorem dL_law_802 : decode cL_law 802 = .ok (.aload_n 1, 1) := by decide +kernel
theorem dL_law_803 : decode cL_law 803 = .ok (.invokevirtual 136, 3) := by decide +kernel
theorem dL_law_806 : decode cL_law 806 = .ok (.aload_n 2, 1) := by decide +kernel
theorem dL_law_807 : decode cL_law 807 = .ok (.invokevirtual 139, 3) := by decide +kernel
theorem dL_law_810 : decode cL_law 810 = .ok (.if_icmp .eq 5, 3) := by decide +kernel
theorem dL_law_813 : decode cL_law 813 = .ok (.iconst 0, 1) := by decide +kernel
theorem dL_law_814 : decode cL_law 814 = .ok (.ireturn, 1) := by decide +kernel
theorem dL_law_815 : decode cL_law 815 = .ok (.iinc 3 3, 3) := by decide +kernel
theorem dL_law_818 : decode cL_law 818 = .ok (.goto (-800), 3) := by decide +kernel
theorem dL_law_821 : decode cL_law 821 = .ok (.iconst 1, 1) := by decide +kernel
theorem dL_law_822 : decode cL_law 822 = .ok (.ireturn, 1) := by decide +kernel
