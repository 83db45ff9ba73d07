theorem dX3_init_0 : decode cX3_init 0 = .ok (.aload_n 0, 1) := by decide +kernel
theorem dX3_init_1 : decode cX3_init 1 = .ok (.invokespecial 1, 3) := by decide +kernel
theorem dX3_init_4 : decode cX3_init 4 = .ok (.return_, 1) := by decide +kernel
theorem dX4_init_0 : decode cX4_init 0 = .ok (.aload_n 0, 1) := by decide +kernel
theorem dX4_init_1 : decode cX4_init 1 = .ok (.invokespecial 1, 3) := by decide +kernel
theorem dX4_init_4 : decode cX4_init 4 = .ok (.aload_n 0, 1) := by decide +kernel
theorem dX4_init_5 : decode cX4_init 5 = .ok (.iconst 0, 1) := by decide +kernel
theorem dX4_init_6 : decode cX4_init 6 = .ok (.anewarray 7, 3) := by decide +kernel
theorem dX4_init_9 : decode cX4_init 9 = .ok (.putfield 9, 3) := by decide +kernel
theorem dX4_init_12 : decode cX4_init 12 = .ok (.aload_n 0, 1) := by decide +kernel
theorem dX4_init_13 : decode cX4_init 13 = .ok (.iconst 0, 1) := by decide +kernel
theorem dX4_init_14 : decode cX4_init 14 = .ok (.anewarray 15, 3) := by decide +kernel
theorem dX4_init_17 : decode cX4_init 17 = .ok (.putfield 17, 3) := by decide +kernel
theorem dX4_init_20 : decode cX4_init 20 = .ok (.return_, 1) := by decide +kernel
theorem dX4_with_0 : decode cX4_with 0 = .ok (.aload_n 0, 1) := by decide +kernel
theorem dX4_with_1 : decode cX4_with 1 = .ok (.arraylength, 1) := by decide +kernel
theorem dX4_with_2 : decode cX4_with 2 = .ok (.iconst 1, 1) := by decide +kernel
theorem dX4_with_3 : decode cX4_with 3 = .ok (.iadd, 1) := by decide +kernel
theorem dX4_with_4 : decode cX4_with 4 = .ok (.newarray .int, 2) := by decide +kernel
theorem dX4_with_6 : decode cX4_with 6 = .ok (.astore_n 2, 1) := by decide +kernel
theorem dX4_with_7 : decode cX4_with 7 = .ok (.iconst 0, 1) := by decide +kernel
theorem dX4_with_8 : decode cX4_with 8 = .ok (.istore_n 3, 1) := by decide +kernel
theorem dX4_with_9 : decode cX4_with 9 = .ok (.iload_n 3, 1) := by decide +kernel
theorem dX4_with_10 : decode cX4_with 10 = .ok (.aload_n 0, 1) := by decide +kernel
theorem dX4_with_11 : decode cX4_with 11 = .ok (.arraylength, 1) := by decide +kernel
theorem dX4_with_12 : decode cX4_with 12 = .ok (.if_icmp .ge 15, 3) := by decide +kernel
theorem dX4_with_15 : decode cX4_with 15 = .ok (.aload_n 2, 1) := by decide +kernel
theorem dX4_with_16 : decode cX4_with 16 = .ok (.iload_n 3, 1) := by decide +kernel
theorem dX4_with_17 : decode cX4_with 17 = .ok (.aload_n 0, 1) := by decide +kernel
theorem dX4_with_18 : decode cX4_with 18 = .ok (.iload_n 3, 1) := by decide +kernel
theorem dX4_with_19 : decode cX4_with 19 = .ok (.iaload, 1) := by decide +kernel
theorem dX4_with_20 : decode cX4_with 20 = .ok (.iastore, 1) := by decide +kernel
theorem dX4_with_21 : decode cX4_with 21 = .ok (.iinc 3 1, 3) := by decide +kernel
theorem dX4_with_24 : decode cX4_with 24 = .ok (.goto (-15), 3) := by decide +kernel
theorem dX4_with_27 : decode cX4_with 27 = .ok (.aload_n 2, 1) := by decide +kernel
theorem dX4_with_28 : decode cX4_with 28 = .ok (.aload_n 0, 1) := by decide +kernel
theorem dX4_with_29 : decode cX4_with 29 = .ok (.arraylength, 1) := by decide +kernel
theorem dX4_with_30 : decode cX4_with 30 = .ok (.iload_n 1, 1) := by decide +kernel
theorem dX4_with_31 : decode cX4_with 31 = .ok (.iastore, 1) := by decide +kernel
theorem dX4_with_32 : decode cX4_with 32 = .ok (.aload_n 2, 1) := by decide +kernel
theorem dX4_with_33 : decode cX4_with 33 = .ok (.areturn, 1) := by decide +kernel
theorem dX4_changed_0 : decode cX4_changed 0 = .ok (.aload_n 0, 1) := by decide +kernel
theorem dX4_changed_1 : decode cX4_changed 1 = .ok (.invokevirtual 21, 3) := by decide +kernel
theorem dX4_changed_4 : decode cX4_changed 4 = .ok (.checkcast 7, 3) := by decide +kernel
theorem dX4_changed_7 : decode cX4_changed 7 = .ok (.astore_n 3, 1) := by decide +kernel
theorem dX4_changed_8 : decode cX4_changed 8 = .ok (.aload_n 3, 1) := by decide +kernel
theorem dX4_changed_9 : decode cX4_changed 9 = .ok (.iload_n 1, 1) := by decide +kernel
theorem dX4_changed_10 : decode cX4_changed 10 = .ok (.iload_n 2, 1) := by decide +kernel
theorem dX4_changed_11 : decode cX4_changed 11 = .ok (.iastore, 1) := by decide +kernel
theorem dX4_changed_12 : decode cX4_changed 12 = .ok (.aload_n 3, 1) := by decide +kernel
theorem dX4_changed_13 : decode cX4_changed 13 = .ok (.areturn, 1) := by decide +kernel
theorem dX4_add_0 : decode cX4_add 0 = .ok (.aload_n 0, 1) := by decide +kernel
theorem dX4_add_1 : decode cX4_add 1 = .ok (.getfield 9, 3) := by decide +kernel
theorem dX4_add_4 : decode cX4_add 4 = .ok (.arraylength, 1) := by decide +kernel
theorem dX4_add_5 : decode cX4_add 5 = .ok (.iconst 1, 1) := by decide +kernel
theorem dX4_add_6 : decode cX4_add 6 = .ok (.iadd, 1) := by decide +kernel
theorem dX4_add_7 : decode cX4_add 7 = .ok (.anewarray 7, 3) := by decide +kernel
theorem dX4_add_10 : decode cX4_add 10 = .ok (.astore_n 2, 1) := by decide +kernel
theorem dX4_add_11 : decode cX4_add 11 = .ok (.iconst 0, 1) := by decide +kernel
theorem dX4_add_12 : decode cX4_add 12 = .ok (.istore_n 3, 1) := by decide +kernel
theorem dX4_add_13 : decode cX4_add 13 = .ok (.iload_n 3, 1) := by decide +kernel
theorem dX4_add_14 : decode cX4_add 14 = .ok (.aload_n 0, 1) := by decide +kernel
theorem dX4_add_15 : decode cX4_add 15 = .ok (.getfield 9, 3) := by decide +kernel
theorem dX4_add_18 : decode cX4_add 18 = .ok (.arraylength, 1) := by decide +kernel
theorem dX4_add_19 : decode cX4_add 19 = .ok (.if_icmp .ge 18, 3) := by decide +kernel
theorem dX4_add_22 : decode cX4_add 22 = .ok (.aload_n 2, 1) := by decide +kernel
theorem dX4_add_23 : decode cX4_add 23 = .ok (.iload_n 3, 1) := by decide +kernel
theorem dX4_add_24 : decode cX4_add 24 = .ok (.aload_n 0, 1) := by decide +kernel
theorem dX4_add_25 : decode cX4_add 25 = .ok (.getfield 9, 3) := by decide +kernel
theorem dX4_add_28 : decode cX4_add 28 = .ok (.iload_n 3, 1) := by decide +kernel
theorem dX4_add_29 : decode cX4_add 29 = .ok (.aaload, 1) := by decide +kernel
theorem dX4_add_30 : decode cX4_add 30 = .ok (.aastore, 1) := by decide +kernel
theorem dX4_add_31 : decode cX4_add 31 = .ok (.iinc 3 1, 3) := by decide +kernel
theorem dX4_add_34 : decode cX4_add 34 = .ok (.goto (-21), 3) := by decide +kernel
theorem dX4_add_37 : decode cX4_add 37 = .ok (.aload_n 2, 1) := by decide +kernel
theorem dX4_add_38 : decode cX4_add 38 = .ok (.aload_n 0, 1) := by decide +kernel
theorem dX4_add_39 : decode cX4_add 39 = .ok (.getfield 9, 3) := by decide +kernel
theorem dX4_add_42 : decode cX4_add 42 = .ok (.arraylength, 1) := by decide +kernel
theorem dX4_add_43 : decode cX4_add 43 = .ok (.aload_n 1, 1) := by decide +kernel
theorem dX4_add_44 : decode cX4_add 44 = .ok (.aastore, 1) := by decide +kernel
theorem dX4_add_45 : decode cX4_add 45 = .ok (.aload_n 0, 1) := by decide +kernel
theorem dX4_add_46 : decode cX4_add 46 = .ok (.aload_n 2, 1) := by decide +kernel
theorem dX4_add_47 : decode cX4_add 47 = .ok (.putfield 9, 3) := by decide +kernel
theorem dX4_add_50 : decode cX4_add 50 = .ok (.return_, 1) := by decide +kernel
theorem dX4_nextSeal_0 : decode cX4_nextSeal 0 = .ok (.ldc2_w 25, 3) := by decide +kernel
theorem dX4_nextSeal_3 : decode cX4_nextSeal 3 = .ok (.aload_n 0, 1) := by decide +kernel
theorem dX4_nextSeal_4 : decode cX4_nextSeal 4 = .ok (.getfield 17, 3) := by decide +kernel
theorem dX4_nextSeal_7 : decode cX4_nextSeal 7 = .ok (.arraylength, 1) := by decide +kernel
theorem dX4_nextSeal_8 : decode cX4_nextSeal 8 = .ok (.ifCond .ne 7, 3) := by decide +kernel
theorem dX4_nextSeal_11 : decode cX4_nextSeal 11 = .ok (.iconst 1, 1) := by decide +kernel
theorem dX4_nextSeal_12 : decode cX4_nextSeal 12 = .ok (.goto 18, 3) := by decide +kernel
theorem dX4_nextSeal_15 : decode cX4_nextSeal 15 = .ok (.aload_n 0, 1) := by decide +kernel
theorem dX4_nextSeal_16 : decode cX4_nextSeal 16 = .ok (.getfield 17, 3) := by decide +kernel
theorem dX4_nextSeal_19 : decode cX4_nextSeal 19 = .ok (.aload_n 0, 1) := by decide +kernel
theorem dX4_nextSeal_20 : decode cX4_nextSeal 20 = .ok (.getfield 17, 3) := by decide +kernel
theorem dX4_nextSeal_23 : decode cX4_nextSeal 23 = .ok (.arraylength, 1) := by decide +kernel
theorem dX4_nextSeal_24 : decode cX4_nextSeal 24 = .ok (.iconst 1, 1) := by decide +kernel
theorem dX4_nextSeal_25 : decode cX4_nextSeal 25 = .ok (.isub, 1) := by decide +kernel
theorem dX4_nextSeal_26 : decode cX4_nextSeal 26 = .ok (.aaload, 1) := by decide +kernel
theorem dX4_nextSeal_27 : decode cX4_nextSeal 27 = .ok (.getfield 27, 3) := by decide +kernel
theorem dX4_nextSeal_30 : decode cX4_nextSeal 30 = .ok (.i2l, 1) := by decide +kernel
theorem dX4_nextSeal_31 : decode cX4_nextSeal 31 = .ok (.lmul, 1) := by decide +kernel
theorem dX4_nextSeal_32 : decode cX4_nextSeal 32 = .ok (.iload_n 1, 1) := by decide +kernel
theorem dX4_nextSeal_33 : decode cX4_nextSeal 33 = .ok (.i2l, 1) := by decide +kernel
theorem dX4_nextSeal_34 : decode cX4_nextSeal 34 = .ok (.ladd, 1) := by decide +kernel
theorem dX4_nextSeal_35 : decode cX4_nextSeal 35 = .ok (.ldc2_w 31, 3) := by decide +kernel
theorem dX4_nextSeal_38 : decode cX4_nextSeal 38 = .ok (.lrem, 1) := by decide +kernel
theorem dX4_nextSeal_39 : decode cX4_nextSeal 39 = .ok (.l2i, 1) := by decide +kernel
theorem dX4_nextSeal_40 : decode cX4_nextSeal 40 = .ok (.ireturn, 1) := by decide +kernel
theorem dX4_seal_0 : decode cX4_seal 0 = .ok (.new 15, 3) := by decide +kernel
theorem dX4_seal_3 : decode cX4_seal 3 = .ok (.dup, 1) := by decide +kernel
theorem dX4_seal_4 : decode cX4_seal 4 = .ok (.invokespecial 33, 3) := by decide +kernel
theorem dX4_seal_7 : decode cX4_seal 7 = .ok (.astore_n 2, 1) := by decide +kernel
theorem dX4_seal_8 : decode cX4_seal 8 = .ok (.aload_n 2, 1) := by decide +kernel
theorem dX4_seal_9 : decode cX4_seal 9 = .ok (.iload_n 1, 1) := by decide +kernel
theorem dX4_seal_10 : decode cX4_seal 10 = .ok (.putfield 34, 3) := by decide +kernel
theorem dX4_seal_13 : decode cX4_seal 13 = .ok (.aload_n 2, 1) := by decide +kernel
theorem dX4_seal_14 : decode cX4_seal 14 = .ok (.aload_n 0, 1) := by decide +kernel
theorem dX4_seal_15 : decode cX4_seal 15 = .ok (.getfield 9, 3) := by decide +kernel
theorem dX4_seal_18 : decode cX4_seal 18 = .ok (.iload_n 1, 1) := by decide +kernel
theorem dX4_seal_19 : decode cX4_seal 19 = .ok (.aaload, 1) := by decide +kernel
theorem dX4_seal_20 : decode cX4_seal 20 = .ok (.putfield 37, 3) := by decide +kernel
theorem dX4_seal_23 : decode cX4_seal 23 = .ok (.aload_n 2, 1) := by decide +kernel
theorem dX4_seal_24 : decode cX4_seal 24 = .ok (.aload_n 2, 1) := by decide +kernel
theorem dX4_seal_25 : decode cX4_seal 25 = .ok (.getfield 37, 3) := by decide +kernel
theorem dX4_seal_28 : decode cX4_seal 28 = .ok (.invokestatic 40, 3) := by decide +kernel
theorem dX4_seal_31 : decode cX4_seal 31 = .ok (.putfield 44, 3) := by decide +kernel
theorem dX4_seal_34 : decode cX4_seal 34 = .ok (.aload_n 2, 1) := by decide +kernel
theorem dX4_seal_35 : decode cX4_seal 35 = .ok (.aload_n 0, 1) := by decide +kernel
theorem dX4_seal_36 : decode cX4_seal 36 = .ok (.aload_n 2, 1) := by decide +kernel
theorem dX4_seal_37 : decode cX4_seal 37 = .ok (.getfield 44, 3) := by decide +kernel
theorem dX4_seal_40 : decode cX4_seal 40 = .ok (.invokevirtual 46, 3) := by decide +kernel
theorem dX4_seal_43 : decode cX4_seal 43 = .ok (.putfield 27, 3) := by decide +kernel
theorem dX4_seal_46 : decode cX4_seal 46 = .ok (.aload_n 0, 1) := by decide +kernel
theorem dX4_seal_47 : decode cX4_seal 47 = .ok (.getfield 17, 3) := by decide +kernel
theorem dX4_seal_50 : decode cX4_seal 50 = .ok (.arraylength, 1) := by decide +kernel
theorem dX4_seal_51 : decode cX4_seal 51 = .ok (.iconst 1, 1) := by decide +kernel
theorem dX4_seal_52 : decode cX4_seal 52 = .ok (.iadd, 1) := by decide +kernel
theorem dX4_seal_53 : decode cX4_seal 53 = .ok (.anewarray 15, 3) := by decide +kernel
theorem dX4_seal_56 : decode cX4_seal 56 = .ok (.astore_n 3, 1) := by decide +kernel
theorem dX4_seal_57 : decode cX4_seal 57 = .ok (.iconst 0, 1) := by decide +kernel
theorem dX4_seal_58 : decode cX4_seal 58 = .ok (.istore 4, 2) := by decide +kernel
theorem dX4_seal_60 : decode cX4_seal 60 = .ok (.iload 4, 2) := by decide +kernel
theorem dX4_seal_62 : decode cX4_seal 62 = .ok (.aload_n 0, 1) := by decide +kernel
theorem dX4_seal_63 : decode cX4_seal 63 = .ok (.getfield 17, 3) := by decide +kernel
theorem dX4_seal_66 : decode cX4_seal 66 = .ok (.arraylength, 1) := by decide +kernel
theorem dX4_seal_67 : decode cX4_seal 67 = .ok (.if_icmp .ge 20, 3) := by decide +kernel
theorem dX4_seal_70 : decode cX4_seal 70 = .ok (.aload_n 3, 1) := by decide +kernel
theorem dX4_seal_71 : decode cX4_seal 71 = .ok (.iload 4, 2) := by decide +kernel
theorem dX4_seal_73 : decode cX4_seal 73 = .ok (.aload_n 0, 1) := by decide +kernel
theorem dX4_seal_74 : decode cX4_seal 74 = .ok (.getfield 17, 3) := by decide +kernel
theorem dX4_seal_77 : decode cX4_seal 77 = .ok (.iload 4, 2) := by decide +kernel
theorem dX4_seal_79 : decode cX4_seal 79 = .ok (.aaload, 1) := by decide +kernel
theorem dX4_seal_80 : decode cX4_seal 80 = .ok (.aastore, 1) := by decide +kernel
theorem dX4_seal_81 : decode cX4_seal 81 = .ok (.iinc 4 1, 3) := by decide +kernel
theorem dX4_seal_84 : decode cX4_seal 84 = .ok (.goto (-24), 3) := by decide +kernel
theorem dX4_seal_87 : decode cX4_seal 87 = .ok (.aload_n 3, 1) := by decide +kernel
theorem dX4_seal_88 : decode cX4_seal 88 = .ok (.aload_n 0, 1) := by decide +kernel
theorem dX4_seal_89 : decode cX4_seal 89 = .ok (.getfield 17, 3) := by decide +kernel
theorem dX4_seal_92 : decode cX4_seal 92 = .ok (.arraylength, 1) := by decide +kernel
theorem dX4_seal_93 : decode cX4_seal 93 = .ok (.aload_n 2, 1) := by decide +kernel
theorem dX4_seal_94 : decode cX4_seal 94 = .ok (.aastore, 1) := by decide +kernel
theorem dX4_seal_95 : decode cX4_seal 95 = .ok (.aload_n 0, 1) := by decide +kernel
theorem dX4_seal_96 : decode cX4_seal 96 = .ok (.aload_n 3, 1) := by decide +kernel
theorem dX4_seal_97 : decode cX4_seal 97 = .ok (.putfield 17, 3) := by decide +kernel
theorem dX4_seal_100 : decode cX4_seal 100 = .ok (.return_, 1) := by decide +kernel
theorem dX4_unseal_0 : decode cX4_unseal 0 = .ok (.aload_n 0, 1) := by decide +kernel
theorem dX4_unseal_1 : decode cX4_unseal 1 = .ok (.getfield 17, 3) := by decide +kernel
theorem dX4_unseal_4 : decode cX4_unseal 4 = .ok (.arraylength, 1) := by decide +kernel
theorem dX4_unseal_5 : decode cX4_unseal 5 = .ok (.iconst 1, 1) := by decide +kernel
theorem dX4_unseal_6 : decode cX4_unseal 6 = .ok (.isub, 1) := by decide +kernel
theorem dX4_unseal_7 : decode cX4_unseal 7 = .ok (.anewarray 15, 3) := by decide +kernel
theorem dX4_unseal_10 : decode cX4_unseal 10 = .ok (.astore_n 1, 1) := by decide +kernel
theorem dX4_unseal_11 : decode cX4_unseal 11 = .ok (.iconst 0, 1) := by decide +kernel
theorem dX4_unseal_12 : decode cX4_unseal 12 = .ok (.istore_n 2, 1) := by decide +kernel
theorem dX4_unseal_13 : decode cX4_unseal 13 = .ok (.iload_n 2, 1) := by decide +kernel
theorem dX4_unseal_14 : decode cX4_unseal 14 = .ok (.aload_n 1, 1) := by decide +kernel
theorem dX4_unseal_15 : decode cX4_unseal 15 = .ok (.arraylength, 1) := by decide +kernel
theorem dX4_unseal_16 : decode cX4_unseal 16 = .ok (.if_icmp .ge 18, 3) := by decide +kernel
theorem dX4_unseal_19 : decode cX4_unseal 19 = .ok (.aload_n 1, 1) := by decide +kernel
theorem dX4_unseal_20 : decode cX4_unseal 20 = .ok (.iload_n 2, 1) := by decide +kernel
theorem dX4_unseal_21 : decode cX4_unseal 21 = .ok (.aload_n 0, 1) := by decide +kernel
theorem dX4_unseal_22 : decode cX4_unseal 22 = .ok (.getfield 17, 3) := by decide +kernel
theorem dX4_unseal_25 : decode cX4_unseal 25 = .ok (.iload_n 2, 1) := by decide +kernel
theorem dX4_unseal_26 : decode cX4_unseal 26 = .ok (.aaload, 1) := by decide +kernel
theorem dX4_unseal_27 : decode cX4_unseal 27 = .ok (.aastore, 1) := by decide +kernel
theorem dX4_unseal_28 : decode cX4_unseal 28 = .ok (.iinc 2 1, 3) := by decide +kernel
theorem dX4_unseal_31 : decode cX4_unseal 31 = .ok (.goto (-18), 3) := by decide +kernel
theorem dX4_unseal_34 : decode cX4_unseal 34 = .ok (.aload_n 0, 1) := by decide +kernel
theorem dX4_unseal_35 : decode cX4_unseal 35 = .ok (.getfield 17, 3) := by decide +kernel
theorem dX4_unseal_38 : decode cX4_unseal 38 = .ok (.aload_n 1, 1) := by decide +kernel
theorem dX4_unseal_39 : decode cX4_unseal 39 = .ok (.arraylength, 1) := by decide +kernel
theorem dX4_unseal_40 : decode cX4_unseal 40 = .ok (.aaload, 1) := by decide +kernel
theorem dX4_unseal_41 : decode cX4_unseal 41 = .ok (.getfield 27, 3) := by decide +kernel
theorem dX4_unseal_44 : decode cX4_unseal 44 = .ok (.istore_n 2, 1) := by decide +kernel
theorem dX4_unseal_45 : decode cX4_unseal 45 = .ok (.aload_n 0, 1) := by decide +kernel
theorem dX4_unseal_46 : decode cX4_unseal 46 = .ok (.aload_n 1, 1) := by decide +kernel
theorem dX4_unseal_47 : decode cX4_unseal 47 = .ok (.putfield 17, 3) := by decide +kernel
theorem dX4_unseal_50 : decode cX4_unseal 50 = .ok (.iload_n 2, 1) := by decide +kernel
theorem dX4_unseal_51 : decode cX4_unseal 51 = .ok (.ireturn, 1) := by decide +kernel
theorem dX4_digest_0 : decode cX4_digest 0 = .ok (.iconst 5, 1) := by decide +kernel
theorem dX4_digest_1 : decode cX4_digest 1 = .ok (.istore_n 1, 1) := by decide +kernel
theorem dX4_digest_2 : decode cX4_digest 2 = .ok (.aload_n 0, 1) := by decide +kernel
theorem dX4_digest_3 : decode cX4_digest 3 = .ok (.astore_n 2, 1) := by decide +kernel
theorem dX4_digest_4 : decode cX4_digest 4 = .ok (.aload_n 2, 1) := by decide +kernel
theorem dX4_digest_5 : decode cX4_digest 5 = .ok (.arraylength, 1) := by decide +kernel
theorem dX4_digest_6 : decode cX4_digest 6 = .ok (.istore_n 3, 1) := by decide +kernel
theorem dX4_digest_7 : decode cX4_digest 7 = .ok (.iconst 0, 1) := by decide +kernel
theorem dX4_digest_8 : decode cX4_digest 8 = .ok (.istore 4, 2) := by decide +kernel
theorem dX4_digest_10 : decode cX4_digest 10 = .ok (.iload 4, 2) := by decide +kernel
theorem dX4_digest_12 : decode cX4_digest 12 = .ok (.iload_n 3, 1) := by decide +kernel
theorem dX4_digest_13 : decode cX4_digest 13 = .ok (.if_icmp .ge 29, 3) := by decide +kernel
theorem dX4_digest_16 : decode cX4_digest 16 = .ok (.aload_n 2, 1) := by decide +kernel
theorem dX4_digest_17 : decode cX4_digest 17 = .ok (.iload 4, 2) := by decide +kernel
theorem dX4_digest_19 : decode cX4_digest 19 = .ok (.iaload, 1) := by decide +kernel
theorem dX4_digest_20 : decode cX4_digest 20 = .ok (.istore 5, 2) := by decide +kernel
theorem dX4_digest_22 : decode cX4_digest 22 = .ok (.bipush 37, 2) := by decide +kernel
theorem dX4_digest_24 : decode cX4_digest 24 = .ok (.iload_n 1, 1) := by decide +kernel
theorem dX4_digest_25 : decode cX4_digest 25 = .ok (.imul, 1) := by decide +kernel
theorem dX4_digest_26 : decode cX4_digest 26 = .ok (.iload 5, 2) := by decide +kernel
theorem dX4_digest_28 : decode cX4_digest 28 = .ok (.iadd, 1) := by decide +kernel
theorem dX4_digest_29 : decode cX4_digest 29 = .ok (.iconst 1, 1) := by decide +kernel
theorem dX4_digest_30 : decode cX4_digest 30 = .ok (.iadd, 1) := by decide +kernel
theorem dX4_digest_31 : decode cX4_digest 31 = .ok (.sipush 8191, 3) := by decide +kernel
theorem dX4_digest_34 : decode cX4_digest 34 = .ok (.irem, 1) := by decide +kernel
theorem dX4_digest_35 : decode cX4_digest 35 = .ok (.istore_n 1, 1) := by decide +kernel
theorem dX4_digest_36 : decode cX4_digest 36 = .ok (.iinc 4 1, 3) := by decide +kernel
theorem dX4_digest_39 : decode cX4_digest 39 = .ok (.goto (-29), 3) := by decide +kernel
theorem dX4_digest_42 : decode cX4_digest 42 = .ok (.iload_n 1, 1) := by decide +kernel
theorem dX4_digest_43 : decode cX4_digest 43 = .ok (.ireturn, 1) := by decide +kernel
theorem dX4_count_0 : decode cX4_count 0 = .ok (.iconst 0, 1) := by decide +kernel
theorem dX4_count_1 : decode cX4_count 1 = .ok (.istore_n 2, 1) := by decide +kernel
theorem dX4_count_2 : decode cX4_count 2 = .ok (.aload_n 0, 1) := by decide +kernel
theorem dX4_count_3 : decode cX4_count 3 = .ok (.astore_n 3, 1) := by decide +kernel
theorem dX4_count_4 : decode cX4_count 4 = .ok (.aload_n 3, 1) := by decide +kernel
theorem dX4_count_5 : decode cX4_count 5 = .ok (.arraylength, 1) := by decide +kernel
theorem dX4_count_6 : decode cX4_count 6 = .ok (.istore 4, 2) := by decide +kernel
theorem dX4_count_8 : decode cX4_count 8 = .ok (.iconst 0, 1) := by decide +kernel
theorem dX4_count_9 : decode cX4_count 9 = .ok (.istore 5, 2) := by decide +kernel
theorem dX4_count_11 : decode cX4_count 11 = .ok (.iload 5, 2) := by decide +kernel
theorem dX4_count_13 : decode cX4_count 13 = .ok (.iload 4, 2) := by decide +kernel
theorem dX4_count_15 : decode cX4_count 15 = .ok (.if_icmp .ge 29, 3) := by decide +kernel
theorem dX4_count_18 : decode cX4_count 18 = .ok (.aload_n 3, 1) := by decide +kernel
theorem dX4_count_19 : decode cX4_count 19 = .ok (.iload 5, 2) := by decide +kernel
theorem dX4_count_21 : decode cX4_count 21 = .ok (.iaload, 1) := by decide +kernel
theorem dX4_count_22 : decode cX4_count 22 = .ok (.istore 6, 2) := by decide +kernel
theorem dX4_count_24 : decode cX4_count 24 = .ok (.iload_n 2, 1) := by decide +kernel
theorem dX4_count_25 : decode cX4_count 25 = .ok (.iload 6, 2) := by decide +kernel
theorem dX4_count_27 : decode cX4_count 27 = .ok (.iload_n 1, 1) := by decide +kernel
theorem dX4_count_28 : decode cX4_count 28 = .ok (.if_icmp .ne 7, 3) := by decide +kernel
theorem dX4_count_31 : decode cX4_count 31 = .ok (.iconst 1, 1) := by decide +kernel
theorem dX4_count_32 : decode cX4_count 32 = .ok (.goto 4, 3) := by decide +kernel
theorem dX4_count_35 : decode cX4_count 35 = .ok (.iconst 0, 1) := by decide +kernel
theorem dX4_count_36 : decode cX4_count 36 = .ok (.iadd, 1) := by decide +kernel
theorem dX4_count_37 : decode cX4_count 37 = .ok (.istore_n 2, 1) := by decide +kernel
theorem dX4_count_38 : decode cX4_count 38 = .ok (.iinc 5 1, 3) := by decide +kernel
theorem dX4_count_41 : decode cX4_count 41 = .ok (.goto (-30), 3) := by decide +kernel
theorem dX4_count_44 : decode cX4_count 44 = .ok (.iload_n 2, 1) := by decide +kernel
theorem dX4_count_45 : decode cX4_count 45 = .ok (.ireturn, 1) := by decide +kernel
theorem dX4_isAlike_0 : decode cX4_isAlike 0 = .ok (.iload_n 1, 1) := by decide +kernel
theorem dX4_isAlike_1 : decode cX4_isAlike 1 = .ok (.iload 4, 2) := by decide +kernel
theorem dX4_isAlike_3 : decode cX4_isAlike 3 = .ok (.iadd, 1) := by decide +kernel
theorem dX4_isAlike_4 : decode cX4_isAlike 4 = .ok (.aload_n 0, 1) := by decide +kernel
theorem dX4_isAlike_5 : decode cX4_isAlike 5 = .ok (.arraylength, 1) := by decide +kernel
theorem dX4_isAlike_6 : decode cX4_isAlike 6 = .ok (.if_icmp .gt 12, 3) := by decide +kernel
theorem dX4_isAlike_9 : decode cX4_isAlike 9 = .ok (.iload_n 3, 1) := by decide +kernel
theorem dX4_isAlike_10 : decode cX4_isAlike 10 = .ok (.iload 4, 2) := by decide +kernel
theorem dX4_isAlike_12 : decode cX4_isAlike 12 = .ok (.iadd, 1) := by decide +kernel
theorem dX4_isAlike_13 : decode cX4_isAlike 13 = .ok (.aload_n 2, 1) := by decide +kernel
theorem dX4_isAlike_14 : decode cX4_isAlike 14 = .ok (.arraylength, 1) := by decide +kernel
theorem dX4_isAlike_15 : decode cX4_isAlike 15 = .ok (.if_icmp .le 5, 3) := by decide +kernel
theorem dX4_isAlike_18 : decode cX4_isAlike 18 = .ok (.iconst 0, 1) := by decide +kernel
theorem dX4_isAlike_19 : decode cX4_isAlike 19 = .ok (.ireturn, 1) := by decide +kernel
theorem dX4_isAlike_20 : decode cX4_isAlike 20 = .ok (.iconst 0, 1) := by decide +kernel
theorem dX4_isAlike_21 : decode cX4_isAlike 21 = .ok (.istore 5, 2) := by decide +kernel
theorem dX4_isAlike_23 : decode cX4_isAlike 23 = .ok (.iload 5, 2) := by decide +kernel
theorem dX4_isAlike_25 : decode cX4_isAlike 25 = .ok (.iload 4, 2) := by decide +kernel
theorem dX4_isAlike_27 : decode cX4_isAlike 27 = .ok (.if_icmp .ge 26, 3) := by decide +kernel
theorem dX4_isAlike_30 : decode cX4_isAlike 30 = .ok (.aload_n 0, 1) := by decide +kernel
theorem dX4_isAlike_31 : decode cX4_isAlike 31 = .ok (.iload_n 1, 1) := by decide +kernel
theorem dX4_isAlike_32 : decode cX4_isAlike 32 = .ok (.iload 5, 2) := by decide +kernel
theorem dX4_isAlike_34 : decode cX4_isAlike 34 = .ok (.iadd, 1) := by decide +kernel
theorem dX4_isAlike_35 : decode cX4_isAlike 35 = .ok (.iaload, 1) := by decide +kernel
theorem dX4_isAlike_36 : decode cX4_isAlike 36 = .ok (.aload_n 2, 1) := by decide +kernel
theorem dX4_isAlike_37 : decode cX4_isAlike 37 = .ok (.iload_n 3, 1) := by decide +kernel
theorem dX4_isAlike_38 : decode cX4_isAlike 38 = .ok (.iload 5, 2) := by decide +kernel
theorem dX4_isAlike_40 : decode cX4_isAlike 40 = .ok (.iadd, 1) := by decide +kernel
theorem dX4_isAlike_41 : decode cX4_isAlike 41 = .ok (.iaload, 1) := by decide +kernel
theorem dX4_isAlike_42 : decode cX4_isAlike 42 = .ok (.if_icmp .eq 5, 3) := by decide +kernel
theorem dX4_isAlike_45 : decode cX4_isAlike 45 = .ok (.iconst 0, 1) := by decide +kernel
theorem dX4_isAlike_46 : decode cX4_isAlike 46 = .ok (.ireturn, 1) := by decide +kernel
theorem dX4_isAlike_47 : decode cX4_isAlike 47 = .ok (.iinc 5 1, 3) := by decide +kernel
theorem dX4_isAlike_50 : decode cX4_isAlike 50 = .ok (.goto (-27), 3) := by decide +kernel
theorem dX4_isAlike_53 : decode cX4_isAlike 53 = .ok (.iconst 1, 1) := by decide +kernel
theorem dX4_isAlike_54 : decode cX4_isAlike 54 = .ok (.ireturn, 1) := by decide +kernel
theorem dX4_added_0 : decode cX4_added 0 = .ok (.iconst 0, 1) := by decide +kernel
theorem dX4_added_1 : decode cX4_added 1 = .ok (.istore_n 2, 1) := by decide +kernel
theorem dX4_added_2 : decode cX4_added 2 = .ok (.iconst 0, 1) := by decide +kernel
theorem dX4_added_3 : decode cX4_added 3 = .ok (.istore_n 3, 1) := by decide +kernel
theorem dX4_added_4 : decode cX4_added 4 = .ok (.iload_n 3, 1) := by decide +kernel
theorem dX4_added_5 : decode cX4_added 5 = .ok (.aload_n 0, 1) := by decide +kernel
theorem dX4_added_6 : decode cX4_added 6 = .ok (.arraylength, 1) := by decide +kernel
theorem dX4_added_7 : decode cX4_added 7 = .ok (.if_icmp .ge 27, 3) := by decide +kernel
theorem dX4_added_10 : decode cX4_added 10 = .ok (.iload_n 2, 1) := by decide +kernel
theorem dX4_added_11 : decode cX4_added 11 = .ok (.aload_n 0, 1) := by decide +kernel
theorem dX4_added_12 : decode cX4_added 12 = .ok (.iload_n 3, 1) := by decide +kernel
theorem dX4_added_13 : decode cX4_added 13 = .ok (.iaload, 1) := by decide +kernel
theorem dX4_added_14 : decode cX4_added 14 = .ok (.iload_n 1, 1) := by decide +kernel
theorem dX4_added_15 : decode cX4_added 15 = .ok (.ifCond .eq 9, 3) := by decide +kernel
theorem dX4_added_18 : decode cX4_added 18 = .ok (.iload_n 3, 1) := by decide +kernel
theorem dX4_added_19 : decode cX4_added 19 = .ok (.iconst 1, 1) := by decide +kernel
theorem dX4_added_20 : decode cX4_added 20 = .ok (.iadd, 1) := by decide +kernel
theorem dX4_added_21 : decode cX4_added 21 = .ok (.goto 4, 3) := by decide +kernel
theorem dX4_added_24 : decode cX4_added 24 = .ok (.iconst 1, 1) := by decide +kernel
theorem dX4_added_25 : decode cX4_added 25 = .ok (.imul, 1) := by decide +kernel
theorem dX4_added_26 : decode cX4_added 26 = .ok (.iadd, 1) := by decide +kernel
theorem dX4_added_27 : decode cX4_added 27 = .ok (.istore_n 2, 1) := by decide +kernel
theorem dX4_added_28 : decode cX4_added 28 = .ok (.iinc 3 1, 3) := by decide +kernel
theorem dX4_added_31 : decode cX4_added 31 = .ok (.goto (-27), 3) := by decide +kernel
theorem dX4_added_34 : decode cX4_added 34 = .ok (.iload_n 2, 1) := by decide +kernel
theorem dX4_added_35 : decode cX4_added 35 = .ok (.ireturn, 1) := by decide +kernel
theorem dX4_isWhole_0 : decode cX4_isWhole 0 = .ok (.aload_n 0, 1) := by decide +kernel
theorem dX4_isWhole_1 : decode cX4_isWhole 1 = .ok (.getfield 9, 3) := by decide +kernel
theorem dX4_isWhole_4 : decode cX4_isWhole 4 = .ok (.aload_n 1, 1) := by decide +kernel
theorem dX4_isWhole_5 : decode cX4_isWhole 5 = .ok (.getfield 34, 3) := by decide +kernel
theorem dX4_isWhole_8 : decode cX4_isWhole 8 = .ok (.aaload, 1) := by decide +kernel
theorem dX4_isWhole_9 : decode cX4_isWhole 9 = .ok (.invokestatic 40, 3) := by decide +kernel
theorem dX4_isWhole_12 : decode cX4_isWhole 12 = .ok (.aload_n 1, 1) := by decide +kernel
theorem dX4_isWhole_13 : decode cX4_isWhole 13 = .ok (.getfield 44, 3) := by decide +kernel
theorem dX4_isWhole_16 : decode cX4_isWhole 16 = .ok (.if_icmp .ne 7, 3) := by decide +kernel
theorem dX4_isWhole_19 : decode cX4_isWhole 19 = .ok (.iconst 1, 1) := by decide +kernel
theorem dX4_isWhole_20 : decode cX4_isWhole 20 = .ok (.goto 4, 3) := by decide +kernel
theorem dX4_isWhole_23 : decode cX4_isWhole 23 = .ok (.iconst 0, 1) := by decide +kernel
theorem dX4_isWhole_24 : decode cX4_isWhole 24 = .ok (.ireturn, 1) := by decide +kernel
theorem dX4_isSame_0 : decode cX4_isSame 0 = .ok (.iconst 0, 1) := by decide +kernel
theorem dX4_isSame_1 : decode cX4_isSame 1 = .ok (.istore_n 2, 1) := by decide +kernel
theorem dX4_isSame_2 : decode cX4_isSame 2 = .ok (.iconst 0, 1) := by decide +kernel
theorem dX4_isSame_3 : decode cX4_isSame 3 = .ok (.istore_n 3, 1) := by decide +kernel
theorem dX4_isSame_4 : decode cX4_isSame 4 = .ok (.iload_n 3, 1) := by decide +kernel
theorem dX4_isSame_5 : decode cX4_isSame 5 = .ok (.aload_n 0, 1) := by decide +kernel
theorem dX4_isSame_6 : decode cX4_isSame 6 = .ok (.getfield 9, 3) := by decide +kernel
theorem dX4_isSame_9 : decode cX4_isSame 9 = .ok (.arraylength, 1) := by decide +kernel
theorem dX4_isSame_10 : decode cX4_isSame 10 = .ok (.if_icmp .ge 113, 3) := by decide +kernel
theorem dX4_isSame_13 : decode cX4_isSame 13 = .ok (.aload_n 0, 1) := by decide +kernel
theorem dX4_isSame_14 : decode cX4_isSame 14 = .ok (.getfield 9, 3) := by decide +kernel
theorem dX4_isSame_17 : decode cX4_isSame 17 = .ok (.iload_n 3, 1) := by decide +kernel
theorem dX4_isSame_18 : decode cX4_isSame 18 = .ok (.aaload, 1) := by decide +kernel
theorem dX4_isSame_19 : decode cX4_isSame 19 = .ok (.astore 4, 2) := by decide +kernel
theorem dX4_isSame_21 : decode cX4_isSame 21 = .ok (.iload_n 2, 1) := by decide +kernel
theorem dX4_isSame_22 : decode cX4_isSame 22 = .ok (.aload 4, 2) := by decide +kernel
theorem dX4_isSame_24 : decode cX4_isSame 24 = .ok (.arraylength, 1) := by decide +kernel
theorem dX4_isSame_25 : decode cX4_isSame 25 = .ok (.iadd, 1) := by decide +kernel
theorem dX4_isSame_26 : decode cX4_isSame 26 = .ok (.istore_n 2, 1) := by decide +kernel
theorem dX4_isSame_27 : decode cX4_isSame 27 = .ok (.aload_n 1, 1) := by decide +kernel
theorem dX4_isSame_28 : decode cX4_isSame 28 = .ok (.iload_n 3, 1) := by decide +kernel
theorem dX4_isSame_29 : decode cX4_isSame 29 = .ok (.invokevirtual 66, 3) := by decide +kernel
theorem dX4_isSame_32 : decode cX4_isSame 32 = .ok (.aload 4, 2) := by decide +kernel
theorem dX4_isSame_34 : decode cX4_isSame 34 = .ok (.arraylength, 1) := by decide +kernel
theorem dX4_isSame_35 : decode cX4_isSame 35 = .ok (.if_icmp .ne 46, 3) := by decide +kernel
theorem dX4_isSame_38 : decode cX4_isSame 38 = .ok (.aload_n 1, 1) := by decide +kernel
theorem dX4_isSame_39 : decode cX4_isSame 39 = .ok (.iload_n 3, 1) := by decide +kernel
theorem dX4_isSame_40 : decode cX4_isSame 40 = .ok (.invokevirtual 71, 3) := by decide +kernel
theorem dX4_isSame_43 : decode cX4_isSame 43 = .ok (.aload 4, 2) := by decide +kernel
theorem dX4_isSame_45 : decode cX4_isSame 45 = .ok (.bipush 27, 2) := by decide +kernel
theorem dX4_isSame_47 : decode cX4_isSame 47 = .ok (.invokestatic 74, 3) := by decide +kernel
theorem dX4_isSame_50 : decode cX4_isSame 50 = .ok (.if_icmp .ne 31, 3) := by decide +kernel
theorem dX4_isSame_53 : decode cX4_isSame 53 = .ok (.aload_n 1, 1) := by decide +kernel
theorem dX4_isSame_54 : decode cX4_isSame 54 = .ok (.iload_n 3, 1) := by decide +kernel
theorem dX4_isSame_55 : decode cX4_isSame 55 = .ok (.invokevirtual 77, 3) := by decide +kernel
theorem dX4_isSame_58 : decode cX4_isSame 58 = .ok (.aload 4, 2) := by decide +kernel
theorem dX4_isSame_60 : decode cX4_isSame 60 = .ok (.bipush 30, 2) := by decide +kernel
theorem dX4_isSame_62 : decode cX4_isSame 62 = .ok (.invokestatic 74, 3) := by decide +kernel
theorem dX4_isSame_65 : decode cX4_isSame 65 = .ok (.if_icmp .ne 16, 3) := by decide +kernel
theorem dX4_isSame_68 : decode cX4_isSame 68 = .ok (.aload_n 1, 1) := by decide +kernel
theorem dX4_isSame_69 : decode cX4_isSame 69 = .ok (.iload_n 3, 1) := by decide +kernel
theorem dX4_isSame_70 : decode cX4_isSame 70 = .ok (.invokevirtual 80, 3) := by decide +kernel
theorem dX4_isSame_73 : decode cX4_isSame 73 = .ok (.aload 4, 2) := by decide +kernel
theorem dX4_isSame_75 : decode cX4_isSame 75 = .ok (.invokestatic 40, 3) := by decide +kernel
theorem dX4_isSame_78 : decode cX4_isSame 78 = .ok (.if_icmp .eq 5, 3) := by decide +kernel
theorem dX4_isSame_81 : decode cX4_isSame 81 = .ok (.iconst 0, 1) := by decide +kernel
theorem dX4_isSame_82 : decode cX4_isSame 82 = .ok (.ireturn, 1) := by decide +kernel
theorem dX4_isSame_83 : decode cX4_isSame 83 = .ok (.iconst 0, 1) := by decide +kernel
theorem dX4_isSame_84 : decode cX4_isSame 84 = .ok (.istore 5, 2) := by decide +kernel
theorem dX4_isSame_86 : decode cX4_isSame 86 = .ok (.iload 5, 2) := by decide +kernel
theorem dX4_isSame_88 : decode cX4_isSame 88 = .ok (.aload 4, 2) := by decide +kernel
theorem dX4_isSame_90 : decode cX4_isSame 90 = .ok (.arraylength, 1) := by decide +kernel
theorem dX4_isSame_91 : decode cX4_isSame 91 = .ok (.if_icmp .ge 26, 3) := by decide +kernel
theorem dX4_isSame_94 : decode cX4_isSame 94 = .ok (.aload_n 1, 1) := by decide +kernel
theorem dX4_isSame_95 : decode cX4_isSame 95 = .ok (.iload_n 3, 1) := by decide +kernel
theorem dX4_isSame_96 : decode cX4_isSame 96 = .ok (.iload 5, 2) := by decide +kernel
theorem dX4_isSame_98 : decode cX4_isSame 98 = .ok (.invokevirtual 83, 3) := by decide +kernel
theorem dX4_isSame_101 : decode cX4_isSame 101 = .ok (.aload 4, 2) := by decide +kernel
theorem dX4_isSame_103 : decode cX4_isSame 103 = .ok (.iload 5, 2) := by decide +kernel
theorem dX4_isSame_105 : decode cX4_isSame 105 = .ok (.iaload, 1) := by decide +kernel
theorem dX4_isSame_106 : decode cX4_isSame 106 = .ok (.if_icmp .eq 5, 3) := by decide +kernel
theorem dX4_isSame_109 : decode cX4_isSame 109 = .ok (.iconst 0, 1) := by decide +kernel
theorem dX4_isSame_110 : decode cX4_isSame 110 = .ok (.ireturn, 1) := by decide +kernel
theorem dX4_isSame_111 : decode cX4_isSame 111 = .ok (.iinc 5 1, 3) := by decide +kernel
theorem dX4_isSame_114 : decode cX4_isSame 114 = .ok (.goto (-28), 3) := by decide +kernel
theorem dX4_isSame_117 : decode cX4_isSame 117 = .ok (.iinc 3 1, 3) := by decide +kernel
theorem dX4_isSame_120 : decode cX4_isSame 120 = .ok (.goto (-116), 3) := by decide +kernel
theorem dX4_isSame_123 : decode cX4_isSame 123 = .ok (.iconst (-1), 1) := by decide +kernel
theorem dX4_isSame_124 : decode cX4_isSame 124 = .ok (.istore_n 3, 1) := by decide +kernel
theorem dX4_isSame_125 : decode cX4_isSame 125 = .ok (.aload_n 0, 1) := by decide +kernel
theorem dX4_isSame_126 : decode cX4_isSame 126 = .ok (.getfield 17, 3) := by decide +kernel
theorem dX4_isSame_129 : decode cX4_isSame 129 = .ok (.arraylength, 1) := by decide +kernel
theorem dX4_isSame_130 : decode cX4_isSame 130 = .ok (.iconst 1, 1) := by decide +kernel
theorem dX4_isSame_131 : decode cX4_isSame 131 = .ok (.isub, 1) := by decide +kernel
theorem dX4_isSame_132 : decode cX4_isSame 132 = .ok (.istore 4, 2) := by decide +kernel
theorem dX4_isSame_134 : decode cX4_isSame 134 = .ok (.iload 4, 2) := by decide +kernel
theorem dX4_isSame_136 : decode cX4_isSame 136 = .ok (.ifCond .lt 89, 3) := by decide +kernel
theorem dX4_isSame_139 : decode cX4_isSame 139 = .ok (.aload_n 0, 1) := by decide +kernel
theorem dX4_isSame_140 : decode cX4_isSame 140 = .ok (.getfield 17, 3) := by decide +kernel
theorem dX4_isSame_143 : decode cX4_isSame 143 = .ok (.iload 4, 2) := by decide +kernel
theorem dX4_isSame_145 : decode cX4_isSame 145 = .ok (.aaload, 1) := by decide +kernel
theorem dX4_isSame_146 : decode cX4_isSame 146 = .ok (.astore 5, 2) := by decide +kernel
theorem dX4_isSame_148 : decode cX4_isSame 148 = .ok (.aload_n 0, 1) := by decide +kernel
theorem dX4_isSame_149 : decode cX4_isSame 149 = .ok (.aload 5, 2) := by decide +kernel
theorem dX4_isSame_151 : decode cX4_isSame 151 = .ok (.invokevirtual 58, 3) := by decide +kernel
theorem dX4_isSame_154 : decode cX4_isSame 154 = .ok (.ifCond .ne 6, 3) := by decide +kernel
theorem dX4_isSame_157 : decode cX4_isSame 157 = .ok (.iload 4, 2) := by decide +kernel
theorem dX4_isSame_159 : decode cX4_isSame 159 = .ok (.istore_n 3, 1) := by decide +kernel
theorem dX4_isSame_160 : decode cX4_isSame 160 = .ok (.aload_n 1, 1) := by decide +kernel
theorem dX4_isSame_161 : decode cX4_isSame 161 = .ok (.iload 4, 2) := by decide +kernel
theorem dX4_isSame_163 : decode cX4_isSame 163 = .ok (.invokevirtual 87, 3) := by decide +kernel
theorem dX4_isSame_166 : decode cX4_isSame 166 = .ok (.aload 5, 2) := by decide +kernel
theorem dX4_isSame_168 : decode cX4_isSame 168 = .ok (.getfield 34, 3) := by decide +kernel
theorem dX4_isSame_171 : decode cX4_isSame 171 = .ok (.if_icmp .ne 46, 3) := by decide +kernel
theorem dX4_isSame_174 : decode cX4_isSame 174 = .ok (.aload_n 1, 1) := by decide +kernel
theorem dX4_isSame_175 : decode cX4_isSame 175 = .ok (.iload 4, 2) := by decide +kernel
theorem dX4_isSame_177 : decode cX4_isSame 177 = .ok (.invokevirtual 90, 3) := by decide +kernel
theorem dX4_isSame_180 : decode cX4_isSame 180 = .ok (.aload 5, 2) := by decide +kernel
theorem dX4_isSame_182 : decode cX4_isSame 182 = .ok (.getfield 44, 3) := by decide +kernel
theorem dX4_isSame_185 : decode cX4_isSame 185 = .ok (.if_icmp .ne 32, 3) := by decide +kernel
theorem dX4_isSame_188 : decode cX4_isSame 188 = .ok (.aload_n 1, 1) := by decide +kernel
theorem dX4_isSame_189 : decode cX4_isSame 189 = .ok (.iload 4, 2) := by decide +kernel
theorem dX4_isSame_191 : decode cX4_isSame 191 = .ok (.invokevirtual 93, 3) := by decide +kernel
theorem dX4_isSame_194 : decode cX4_isSame 194 = .ok (.aload 5, 2) := by decide +kernel
theorem dX4_isSame_196 : decode cX4_isSame 196 = .ok (.getfield 27, 3) := by decide +kernel
theorem dX4_isSame_199 : decode cX4_isSame 199 = .ok (.if_icmp .ne 18, 3) := by decide +kernel
theorem dX4_isSame_202 : decode cX4_isSame 202 = .ok (.aload_n 1, 1) := by decide +kernel
theorem dX4_isSame_203 : decode cX4_isSame 203 = .ok (.iload 4, 2) := by decide +kernel
theorem dX4_isSame_205 : decode cX4_isSame 205 = .ok (.invokevirtual 96, 3) := by decide +kernel
theorem dX4_isSame_208 : decode cX4_isSame 208 = .ok (.aload_n 0, 1) := by decide +kernel
theorem dX4_isSame_209 : decode cX4_isSame 209 = .ok (.aload 5, 2) := by decide +kernel
theorem dX4_isSame_211 : decode cX4_isSame 211 = .ok (.invokevirtual 58, 3) := by decide +kernel
theorem dX4_isSame_214 : decode cX4_isSame 214 = .ok (.if_icmp .eq 5, 3) := by decide +kernel
theorem dX4_isSame_217 : decode cX4_isSame 217 = .ok (.iconst 0, 1) := by decide +kernel
theorem dX4_isSame_218 : decode cX4_isSame 218 = .ok (.ireturn, 1) := by decide +kernel
theorem dX4_isSame_219 : decode cX4_isSame 219 = .ok (.iinc 4 (-1), 3) := by decide +kernel
theorem dX4_isSame_222 : decode cX4_isSame 222 = .ok (.goto (-88), 3) := by decide +kernel
theorem dX4_isSame_225 : decode cX4_isSame 225 = .ok (.aload_n 1, 1) := by decide +kernel
theorem dX4_isSame_226 : decode cX4_isSame 226 = .ok (.invokevirtual 99, 3) := by decide +kernel
theorem dX4_isSame_229 : decode cX4_isSame 229 = .ok (.aload_n 0, 1) := by decide +kernel
theorem dX4_isSame_230 : decode cX4_isSame 230 = .ok (.getfield 9, 3) := by decide +kernel
theorem dX4_isSame_233 : decode cX4_isSame 233 = .ok (.arraylength, 1) := by decide +kernel
theorem dX4_isSame_234 : decode cX4_isSame 234 = .ok (.if_icmp .ne 56, 3) := by decide +kernel
theorem dX4_isSame_237 : decode cX4_isSame 237 = .ok (.aload_n 1, 1) := by decide +kernel
theorem dX4_isSame_238 : decode cX4_isSame 238 = .ok (.invokevirtual 102, 3) := by decide +kernel
theorem dX4_isSame_241 : decode cX4_isSame 241 = .ok (.aload_n 0, 1) := by decide +kernel
theorem dX4_isSame_242 : decode cX4_isSame 242 = .ok (.getfield 17, 3) := by decide +kernel
theorem dX4_isSame_245 : decode cX4_isSame 245 = .ok (.arraylength, 1) := by decide +kernel
theorem dX4_isSame_246 : decode cX4_isSame 246 = .ok (.if_icmp .ne 44, 3) := by decide +kernel
theorem dX4_isSame_249 : decode cX4_isSame 249 = .ok (.aload_n 1, 1) := by decide +kernel
theorem dX4_isSame_250 : decode cX4_isSame 250 = .ok (.invokevirtual 104, 3) := by decide +kernel
theorem dX4_isSame_253 : decode cX4_isSame 253 = .ok (.iload_n 3, 1) := by decide +kernel
theorem dX4_isSame_254 : decode cX4_isSame 254 = .ok (.if_icmp .ne 36, 3) := by decide +kernel
theorem dX4_isSame_257 : decode cX4_isSame 257 = .ok (.aload_n 1, 1) := by decide +kernel
theorem dX4_isSame_258 : decode cX4_isSame 258 = .ok (.invokevirtual 107, 3) := by decide +kernel
theorem dX4_isSame_261 : decode cX4_isSame 261 = .ok (.aload_n 0, 1) := by decide +kernel
theorem dX4_isSame_262 : decode cX4_isSame 262 = .ok (.getfield 9, 3) := by decide +kernel
theorem dX4_isSame_265 : decode cX4_isSame 265 = .ok (.arraylength, 1) := by decide +kernel
theorem dX4_isSame_266 : decode cX4_isSame 266 = .ok (.ifCond .ne 7, 3) := by decide +kernel
theorem dX4_isSame_269 : decode cX4_isSame 269 = .ok (.dconst 0, 1) := by decide +kernel
theorem dX4_isSame_270 : decode cX4_isSame 270 = .ok (.goto 12, 3) := by decide +kernel
theorem dX4_isSame_273 : decode cX4_isSame 273 = .ok (.iload_n 2, 1) := by decide +kernel
theorem dX4_isSame_274 : decode cX4_isSame 274 = .ok (.i2d, 1) := by decide +kernel
theorem dX4_isSame_275 : decode cX4_isSame 275 = .ok (.aload_n 0, 1) := by decide +kernel
theorem dX4_isSame_276 : decode cX4_isSame 276 = .ok (.getfield 9, 3) := by decide +kernel
theorem dX4_isSame_279 : decode cX4_isSame 279 = .ok (.arraylength, 1) := by decide +kernel
theorem dX4_isSame_280 : decode cX4_isSame 280 = .ok (.i2d, 1) := by decide +kernel
theorem dX4_isSame_281 : decode cX4_isSame 281 = .ok (.ddiv, 1) := by decide +kernel
theorem dX4_isSame_282 : decode cX4_isSame 282 = .ok (.dcmp .l, 1) := by decide +kernel
theorem dX4_isSame_283 : decode cX4_isSame 283 = .ok (.ifCond .ne 7, 3) := by decide +kernel
theorem dX4_isSame_286 : decode cX4_isSame 286 = .ok (.iconst 1, 1) := by decide +kernel
theorem dX4_isSame_287 : decode cX4_isSame 287 = .ok (.goto 4, 3) := by decide +kernel
theorem dX4_isSame_290 : decode cX4_isSame 290 = .ok (.iconst 0, 1) := by decide +kernel
theorem dX4_isSame_291 : decode cX4_isSame 291 = .ok (.ireturn, 1) := by decide +kernel
theorem dL_below_0 : decode cL_below 0 = .ok (.iload_n 0, 1) := by decide +kernel
theorem dL_below_1 : decode cL_below 1 = .ok (.ldc 7, 2) := by decide +kernel
theorem dL_below_3 : decode cL_below 3 = .ok (.iand, 1) := by decide +kernel
theorem dL_below_4 : decode cL_below 4 = .ok (.iload_n 1, 1) := by decide +kernel
theorem dL_below_5 : decode cL_below 5 = .ok (.irem, 1) := by decide +kernel
theorem dL_below_6 : decode cL_below 6 = .ok (.ireturn, 1) := by decide +kernel
theorem dL_cell_0 : decode cL_cell 0 = .ok (.iload_n 1, 1) := by decide +kernel
theorem dL_cell_1 : decode cL_cell 1 = .ok (.aload_n 0, 1) := by decide +kernel
theorem dL_cell_2 : decode cL_cell 2 = .ok (.arraylength, 1) := by decide +kernel
theorem dL_cell_3 : decode cL_cell 3 = .ok (.if_icmp .ge 9, 3) := by decide +kernel
theorem dL_cell_6 : decode cL_cell 6 = .ok (.aload_n 0, 1) := by decide +kernel
theorem dL_cell_7 : decode cL_cell 7 = .ok (.iload_n 1, 1) := by decide +kernel
theorem dL_cell_8 : decode cL_cell 8 = .ok (.iaload, 1) := by decide +kernel
theorem dL_cell_9 : decode cL_cell 9 = .ok (.goto 9, 3) := by decide +kernel
theorem dL_cell_12 : decode cL_cell 12 = .ok (.ldc 8, 2) := by decide +kernel
theorem dL_cell_14 : decode cL_cell 14 = .ok (.iload_n 1, 1) := by decide +kernel
theorem dL_cell_15 : decode cL_cell 15 = .ok (.iconst 3, 1) := by decide +kernel
theorem dL_cell_16 : decode cL_cell 16 = .ok (.iadd, 1) := by decide +kernel
theorem dL_cell_17 : decode cL_cell 17 = .ok (.imul, 1) := by decide +kernel
theorem dL_cell_18 : decode cL_cell 18 = .ok (.ireturn, 1) := by decide +kernel
theorem dL_act_0 : decode cL_act 0 = .ok (.aload_n 1, 1) := by decide +kernel
theorem dL_act_1 : decode cL_act 1 = .ok (.getfield 9, 3) := by decide +kernel
theorem dL_act_4 : decode cL_act 4 = .ok (.arraylength, 1) := by decide +kernel
theorem dL_act_5 : decode cL_act 5 = .ok (.istore_n 3, 1) := by decide +kernel
theorem dL_act_6 : decode cL_act 6 = .ok (.iload_n 2, 1) := by decide +kernel
theorem dL_act_7 : decode cL_act 7 = .ok (.bipush 18, 2) := by decide +kernel
theorem dL_act_9 : decode cL_act 9 = .ok (.invokestatic 15, 3) := by decide +kernel
theorem dL_act_12 : decode cL_act 12 = .ok (.istore 4, 2) := by decide +kernel
theorem dL_act_14 : decode cL_act 14 = .ok (.iconst 1, 1) := by decide +kernel
theorem dL_act_15 : decode cL_act 15 = .ok (.istore 5, 2) := by decide +kernel
theorem dL_act_17 : decode cL_act 17 = .ok (.iload_n 3, 1) := by decide +kernel
theorem dL_act_18 : decode cL_act 18 = .ok (.ifCond .eq 8, 3) := by decide +kernel
theorem dL_act_21 : decode cL_act 21 = .ok (.iload 4, 2) := by decide +kernel
theorem dL_act_23 : decode cL_act 23 = .ok (.ifCond .ne 47, 3) := by decide +kernel
theorem dL_act_26 : decode cL_act 26 = .ok (.iload_n 3, 1) := by decide +kernel
theorem dL_act_27 : decode cL_act 27 = .ok (.bipush 12, 2) := by decide +kernel
theorem dL_act_29 : decode cL_act 29 = .ok (.if_icmp .ge 7, 3) := by decide +kernel
theorem dL_act_32 : decode cL_act 32 = .ok (.iconst 1, 1) := by decide +kernel
theorem dL_act_33 : decode cL_act 33 = .ok (.goto 4, 3) := by decide +kernel
theorem dL_act_36 : decode cL_act 36 = .ok (.iconst 0, 1) := by decide +kernel
theorem dL_act_37 : decode cL_act 37 = .ok (.istore 5, 2) := by decide +kernel
theorem dL_act_39 : decode cL_act 39 = .ok (.iload 5, 2) := by decide +kernel
theorem dL_act_41 : decode cL_act 41 = .ok (.ifCond .eq 10, 3) := by decide +kernel
theorem dL_act_44 : decode cL_act 44 = .ok (.aload_n 1, 1) := by decide +kernel
theorem dL_act_45 : decode cL_act 45 = .ok (.iconst 0, 1) := by decide +kernel
theorem dL_act_46 : decode cL_act 46 = .ok (.newarray .int, 2) := by decide +kernel
theorem dL_act_48 : decode cL_act 48 = .ok (.invokevirtual 21, 3) := by decide +kernel
theorem dL_act_51 : decode cL_act 51 = .ok (.aload_n 0, 1) := by decide +kernel
theorem dL_act_52 : decode cL_act 52 = .ok (.invokevirtual 25, 3) := by decide +kernel
theorem dL_act_55 : decode cL_act 55 = .ok (.iload_n 3, 1) := by decide +kernel
theorem dL_act_56 : decode cL_act 56 = .ok (.if_icmp .ne 12, 3) := by decide +kernel
theorem dL_act_59 : decode cL_act 59 = .ok (.iload 5, 2) := by decide +kernel
theorem dL_act_61 : decode cL_act 61 = .ok (.ifCond .eq 7, 3) := by decide +kernel
theorem dL_act_64 : decode cL_act 64 = .ok (.iconst 1, 1) := by decide +kernel
theorem dL_act_65 : decode cL_act 65 = .ok (.goto 4, 3) := by decide +kernel
theorem dL_act_68 : decode cL_act 68 = .ok (.iconst 0, 1) := by decide +kernel
theorem dL_act_69 : decode cL_act 69 = .ok (.ireturn, 1) := by decide +kernel
theorem dL_act_70 : decode cL_act 70 = .ok (.iload_n 2, 1) := by decide +kernel
theorem dL_act_71 : decode cL_act 71 = .ok (.iconst 5, 1) := by decide +kernel
theorem dL_act_72 : decode cL_act 72 = .ok (.ishr, 1) := by decide +kernel
theorem dL_act_73 : decode cL_act 73 = .ok (.iload_n 3, 1) := by decide +kernel
theorem dL_act_74 : decode cL_act 74 = .ok (.invokestatic 15, 3) := by decide +kernel
theorem dL_act_77 : decode cL_act 77 = .ok (.istore 6, 2) := by decide +kernel
theorem dL_act_79 : decode cL_act 79 = .ok (.aload_n 1, 1) := by decide +kernel
theorem dL_act_80 : decode cL_act 80 = .ok (.getfield 9, 3) := by decide +kernel
theorem dL_act_83 : decode cL_act 83 = .ok (.iload 6, 2) := by decide +kernel
theorem dL_act_85 : decode cL_act 85 = .ok (.aaload, 1) := by decide +kernel
theorem dL_act_86 : decode cL_act 86 = .ok (.astore 7, 2) := by decide +kernel
theorem dL_act_88 : decode cL_act 88 = .ok (.aload 7, 2) := by decide +kernel
theorem dL_act_90 : decode cL_act 90 = .ok (.arraylength, 1) := by decide +kernel
theorem dL_act_91 : decode cL_act 91 = .ok (.istore 8, 2) := by decide +kernel
theorem dL_act_93 : decode cL_act 93 = .ok (.iload_n 2, 1) := by decide +kernel
theorem dL_act_94 : decode cL_act 94 = .ok (.bipush 8, 2) := by decide +kernel
theorem dL_act_96 : decode cL_act 96 = .ok (.ishr, 1) := by decide +kernel
theorem dL_act_97 : decode cL_act 97 = .ok (.iload_n 2, 1) := by decide +kernel
theorem dL_act_98 : decode cL_act 98 = .ok (.bipush 6, 2) := by decide +kernel
theorem dL_act_100 : decode cL_act 100 = .ok (.ishr, 1) := by decide +kernel
theorem dL_act_101 : decode cL_act 101 = .ok (.iconst 2, 1) := by decide +kernel
theorem dL_act_102 : decode cL_act 102 = .ok (.invokestatic 15, 3) := by decide +kernel
theorem dL_act_105 : decode cL_act 105 = .ok (.ifCond .ne 8, 3) := by decide +kernel
theorem dL_act_108 : decode cL_act 108 = .ok (.bipush 30, 2) := by decide +kernel
theorem dL_act_110 : decode cL_act 110 = .ok (.goto 4, 3) := by decide +kernel
theorem dL_act_113 : decode cL_act 113 = .ok (.iconst 3, 1) := by decide +kernel
theorem dL_act_114 : decode cL_act 114 = .ok (.invokestatic 15, 3) := by decide +kernel
theorem dL_act_117 : decode cL_act 117 = .ok (.istore 9, 2) := by decide +kernel
theorem dL_act_119 : decode cL_act 119 = .ok (.iload 8, 2) := by decide +kernel
theorem dL_act_121 : decode cL_act 121 = .ok (.ifCond .ne 7, 3) := by decide +kernel
theorem dL_act_124 : decode cL_act 124 = .ok (.iconst 0, 1) := by decide +kernel
theorem dL_act_125 : decode cL_act 125 = .ok (.goto 12, 3) := by decide +kernel
theorem dL_act_128 : decode cL_act 128 = .ok (.iload_n 2, 1) := by decide +kernel
theorem dL_act_129 : decode cL_act 129 = .ok (.bipush 7, 2) := by decide +kernel
theorem dL_act_131 : decode cL_act 131 = .ok (.ishr, 1) := by decide +kernel
theorem dL_act_132 : decode cL_act 132 = .ok (.iload 8, 2) := by decide +kernel
theorem dL_act_134 : decode cL_act 134 = .ok (.invokestatic 15, 3) := by decide +kernel
theorem dL_act_137 : decode cL_act 137 = .ok (.istore 10, 2) := by decide +kernel
theorem dL_act_139 : decode cL_act 139 = .ok (.iload 4, 2) := by decide +kernel
theorem dL_act_141 : decode cL_act 141 = .ok (.tableswitch 594 1 16 #[79, 124, 124, 124, 124, 124, 124, 183, 279, 279, 380, 380, 482, 482, 482, 544], 79) := by decide +kernel
theorem dL_act_220 : decode cL_act 220 = .ok (.iload_n 3, 1) := by decide +kernel
theorem dL_act_221 : decode cL_act 221 = .ok (.bipush 12, 2) := by decide +kernel
theorem dL_act_223 : decode cL_act 223 = .ok (.if_icmp .ge 7, 3) := by decide +kernel
theorem dL_act_226 : decode cL_act 226 = .ok (.iconst 1, 1) := by decide +kernel
theorem dL_act_227 : decode cL_act 227 = .ok (.goto 4, 3) := by decide +kernel
theorem dL_act_230 : decode cL_act 230 = .ok (.iconst 0, 1) := by decide +kernel
theorem dL_act_231 : decode cL_act 231 = .ok (.istore 5, 2) := by decide +kernel
theorem dL_act_233 : decode cL_act 233 = .ok (.iload 5, 2) := by decide +kernel
theorem dL_act_235 : decode cL_act 235 = .ok (.ifCond .eq 9, 3) := by decide +kernel
theorem dL_act_238 : decode cL_act 238 = .ok (.aload_n 1, 1) := by decide +kernel
theorem dL_act_239 : decode cL_act 239 = .ok (.aload 7, 2) := by decide +kernel
theorem dL_act_241 : decode cL_act 241 = .ok (.invokevirtual 21, 3) := by decide +kernel
theorem dL_act_244 : decode cL_act 244 = .ok (.aload_n 0, 1) := by decide +kernel
theorem dL_act_245 : decode cL_act 245 = .ok (.iload 6, 2) := by decide +kernel
theorem dL_act_247 : decode cL_act 247 = .ok (.invokevirtual 31, 3) := by decide +kernel
theorem dL_act_250 : decode cL_act 250 = .ok (.iload_n 3, 1) := by decide +kernel
theorem dL_act_251 : decode cL_act 251 = .ok (.if_icmp .ne 12, 3) := by decide +kernel
theorem dL_act_254 : decode cL_act 254 = .ok (.iload 5, 2) := by decide +kernel
theorem dL_act_256 : decode cL_act 256 = .ok (.ifCond .eq 7, 3) := by decide +kernel
theorem dL_act_259 : decode cL_act 259 = .ok (.iconst 1, 1) := by decide +kernel
theorem dL_act_260 : decode cL_act 260 = .ok (.goto 4, 3) := by decide +kernel
theorem dL_act_263 : decode cL_act 263 = .ok (.iconst 0, 1) := by decide +kernel
theorem dL_act_264 : decode cL_act 264 = .ok (.ireturn, 1) := by decide +kernel
theorem dL_act_265 : decode cL_act 265 = .ok (.iload 8, 2) := by decide +kernel
theorem dL_act_267 : decode cL_act 267 = .ok (.bipush 40, 2) := by decide +kernel
theorem dL_act_269 : decode cL_act 269 = .ok (.if_icmp .ge 7, 3) := by decide +kernel
theorem dL_act_272 : decode cL_act 272 = .ok (.iconst 1, 1) := by decide +kernel
theorem dL_act_273 : decode cL_act 273 = .ok (.goto 4, 3) := by decide +kernel
theorem dL_act_276 : decode cL_act 276 = .ok (.iconst 0, 1) := by decide +kernel
theorem dL_act_277 : decode cL_act 277 = .ok (.istore 5, 2) := by decide +kernel
theorem dL_act_279 : decode cL_act 279 = .ok (.iload 5, 2) := by decide +kernel
theorem dL_act_281 : decode cL_act 281 = .ok (.ifCond .eq 17, 3) := by decide +kernel
theorem dL_act_284 : decode cL_act 284 = .ok (.aload_n 1, 1) := by decide +kernel
theorem dL_act_285 : decode cL_act 285 = .ok (.getfield 9, 3) := by decide +kernel
theorem dL_act_288 : decode cL_act 288 = .ok (.iload 6, 2) := by decide +kernel
theorem dL_act_290 : decode cL_act 290 = .ok (.aload 7, 2) := by decide +kernel
theorem dL_act_292 : decode cL_act 292 = .ok (.iload 9, 2) := by decide +kernel
theorem dL_act_294 : decode cL_act 294 = .ok (.invokestatic 35, 3) := by decide +kernel
theorem dL_act_297 : decode cL_act 297 = .ok (.aastore, 1) := by decide +kernel
theorem dL_act_298 : decode cL_act 298 = .ok (.aload_n 0, 1) := by decide +kernel
theorem dL_act_299 : decode cL_act 299 = .ok (.iload 6, 2) := by decide +kernel
theorem dL_act_301 : decode cL_act 301 = .ok (.iload 9, 2) := by decide +kernel
theorem dL_act_303 : decode cL_act 303 = .ok (.invokevirtual 39, 3) := by decide +kernel
theorem dL_act_306 : decode cL_act 306 = .ok (.iload 8, 2) := by decide +kernel
theorem dL_act_308 : decode cL_act 308 = .ok (.iconst 1, 1) := by decide +kernel
theorem dL_act_309 : decode cL_act 309 = .ok (.iadd, 1) := by decide +kernel
theorem dL_act_310 : decode cL_act 310 = .ok (.if_icmp .ne 12, 3) := by decide +kernel
theorem dL_act_313 : decode cL_act 313 = .ok (.iload 5, 2) := by decide +kernel
theorem dL_act_315 : decode cL_act 315 = .ok (.ifCond .eq 7, 3) := by decide +kernel
theorem dL_act_318 : decode cL_act 318 = .ok (.iconst 1, 1) := by decide +kernel
theorem dL_act_319 : decode cL_act 319 = .ok (.goto 4, 3) := by decide +kernel
theorem dL_act_322 : decode cL_act 322 = .ok (.iconst 0, 1) := by decide +kernel
theorem dL_act_323 : decode cL_act 323 = .ok (.ireturn, 1) := by decide +kernel
theorem dL_act_324 : decode cL_act 324 = .ok (.iload 8, 2) := by decide +kernel
theorem dL_act_326 : decode cL_act 326 = .ok (.ifCond .le 7, 3) := by decide +kernel
theorem dL_act_329 : decode cL_act 329 = .ok (.iconst 1, 1) := by decide +kernel
theorem dL_act_330 : decode cL_act 330 = .ok (.goto 4, 3) := by decide +kernel
theorem dL_act_333 : decode cL_act 333 = .ok (.iconst 0, 1) := by decide +kernel
theorem dL_act_334 : decode cL_act 334 = .ok (.istore 5, 2) := by decide +kernel
theorem dL_act_336 : decode cL_act 336 = .ok (.iconst 0, 1) := by decide +kernel
theorem dL_act_337 : decode cL_act 337 = .ok (.iload 8, 2) := by decide +kernel
theorem dL_act_339 : decode cL_act 339 = .ok (.iconst 1, 1) := by decide +kernel
theorem dL_act_340 : decode cL_act 340 = .ok (.isub, 1) := by decide +kernel
theorem dL_act_341 : decode cL_act 341 = .ok (.invokestatic 42, 3) := by decide +kernel
theorem dL_act_344 : decode cL_act 344 = .ok (.newarray .int, 2) := by decide +kernel
theorem dL_act_346 : decode cL_act 346 = .ok (.astore 11, 2) := by decide +kernel
theorem dL_act_348 : decode cL_act 348 = .ok (.iconst 0, 1) := by decide +kernel
theorem dL_act_349 : decode cL_act 349 = .ok (.istore 12, 2) := by decide +kernel
theorem dL_act_351 : decode cL_act 351 = .ok (.iload 12, 2) := by decide +kernel
theorem dL_act_353 : decode cL_act 353 = .ok (.aload 11, 2) := by decide +kernel
theorem dL_act_355 : decode cL_act 355 = .ok (.arraylength, 1) := by decide +kernel
theorem dL_act_356 : decode cL_act 356 = .ok (.if_icmp .ge 19, 3) := by decide +kernel
theorem dL_act_359 : decode cL_act 359 = .ok (.aload 11, 2) := by decide +kernel
theorem dL_act_361 : decode cL_act 361 = .ok (.iload 12, 2) := by decide +kernel
theorem dL_act_363 : decode cL_act 363 = .ok (.aload 7, 2) := by decide +kernel
theorem dL_act_365 : decode cL_act 365 = .ok (.iload 12, 2) := by decide +kernel
theorem dL_act_367 : decode cL_act 367 = .ok (.iaload, 1) := by decide +kernel
theorem dL_act_368 : decode cL_act 368 = .ok (.iastore, 1) := by decide +kernel
theorem dL_act_369 : decode cL_act 369 = .ok (.iinc 12 1, 3) := by decide +kernel
theorem dL_act_372 : decode cL_act 372 = .ok (.goto (-21), 3) := by decide +kernel
theorem dL_act_375 : decode cL_act 375 = .ok (.aload_n 1, 1) := by decide +kernel
theorem dL_act_376 : decode cL_act 376 = .ok (.getfield 9, 3) := by decide +kernel
theorem dL_act_379 : decode cL_act 379 = .ok (.iload 6, 2) := by decide +kernel
theorem dL_act_381 : decode cL_act 381 = .ok (.aload 11, 2) := by decide +kernel
theorem dL_act_383 : decode cL_act 383 = .ok (.aastore, 1) := by decide +kernel
theorem dL_act_384 : decode cL_act 384 = .ok (.aload_n 0, 1) := by decide +kernel
theorem dL_act_385 : decode cL_act 385 = .ok (.iload 6, 2) := by decide +kernel
theorem dL_act_387 : decode cL_act 387 = .ok (.invokevirtual 47, 3) := by decide +kernel
theorem dL_act_390 : decode cL_act 390 = .ok (.iload 5, 2) := by decide +kernel
theorem dL_act_392 : decode cL_act 392 = .ok (.ifCond .eq 13, 3) := by decide +kernel
theorem dL_act_395 : decode cL_act 395 = .ok (.aload 7, 2) := by decide +kernel
theorem dL_act_397 : decode cL_act 397 = .ok (.iload 8, 2) := by decide +kernel
theorem dL_act_399 : decode cL_act 399 = .ok (.iconst 1, 1) := by decide +kernel
theorem dL_act_400 : decode cL_act 400 = .ok (.isub, 1) := by decide +kernel
theorem dL_act_401 : decode cL_act 401 = .ok (.iaload, 1) := by decide +kernel
theorem dL_act_402 : decode cL_act 402 = .ok (.goto 4, 3) := by decide +kernel
theorem dL_act_405 : decode cL_act 405 = .ok (.iconst (-1), 1) := by decide +kernel
theorem dL_act_406 : decode cL_act 406 = .ok (.if_icmp .ne 12, 3) := by decide +kernel
theorem dL_act_409 : decode cL_act 409 = .ok (.iload 5, 2) := by decide +kernel
theorem dL_act_411 : decode cL_act 411 = .ok (.ifCond .eq 7, 3) := by decide +kernel
theorem dL_act_414 : decode cL_act 414 = .ok (.iconst 1, 1) := by decide +kernel
theorem dL_act_415 : decode cL_act 415 = .ok (.goto 4, 3) := by decide +kernel
theorem dL_act_418 : decode cL_act 418 = .ok (.iconst 0, 1) := by decide +kernel
theorem dL_act_419 : decode cL_act 419 = .ok (.ireturn, 1) := by decide +kernel
theorem dL_act_420 : decode cL_act 420 = .ok (.iload 8, 2) := by decide +kernel
theorem dL_act_422 : decode cL_act 422 = .ok (.ifCond .ne 5, 3) := by decide +kernel
theorem dL_act_425 : decode cL_act 425 = .ok (.iconst 1, 1) := by decide +kernel
theorem dL_act_426 : decode cL_act 426 = .ok (.ireturn, 1) := by decide +kernel
theorem dL_act_427 : decode cL_act 427 = .ok (.iload 4, 2) := by decide +kernel
theorem dL_act_429 : decode cL_act 429 = .ok (.bipush 9, 2) := by decide +kernel
theorem dL_act_431 : decode cL_act 431 = .ok (.if_icmp .ne 8, 3) := by decide +kernel
theorem dL_act_434 : decode cL_act 434 = .ok (.bipush 27, 2) := by decide +kernel
theorem dL_act_436 : decode cL_act 436 = .ok (.goto 5, 3) := by decide +kernel
theorem dL_act_439 : decode cL_act 439 = .ok (.bipush 30, 2) := by decide +kernel
theorem dL_act_441 : decode cL_act 441 = .ok (.istore 11, 2) := by decide +kernel
theorem dL_act_443 : decode cL_act 443 = .ok (.aload 7, 2) := by decide +kernel
theorem dL_act_445 : decode cL_act 445 = .ok (.iload 10, 2) := by decide +kernel
theorem dL_act_447 : decode cL_act 447 = .ok (.iaload, 1) := by decide +kernel
theorem dL_act_448 : decode cL_act 448 = .ok (.iload 11, 2) := by decide +kernel
theorem dL_act_450 : decode cL_act 450 = .ok (.if_icmp .eq 7, 3) := by decide +kernel
theorem dL_act_453 : decode cL_act 453 = .ok (.iconst 1, 1) := by decide +kernel
theorem dL_act_454 : decode cL_act 454 = .ok (.goto 4, 3) := by decide +kernel
theorem dL_act_457 : decode cL_act 457 = .ok (.iconst 0, 1) := by decide +kernel
theorem dL_act_458 : decode cL_act 458 = .ok (.istore 5, 2) := by decide +kernel
theorem dL_act_460 : decode cL_act 460 = .ok (.aload_n 1, 1) := by decide +kernel
theorem dL_act_461 : decode cL_act 461 = .ok (.getfield 9, 3) := by decide +kernel
theorem dL_act_464 : decode cL_act 464 = .ok (.iload 6, 2) := by decide +kernel
theorem dL_act_466 : decode cL_act 466 = .ok (.aload 7, 2) := by decide +kernel
theorem dL_act_468 : decode cL_act 468 = .ok (.iload 10, 2) := by decide +kernel
theorem dL_act_470 : decode cL_act 470 = .ok (.iload 11, 2) := by decide +kernel
theorem dL_act_472 : decode cL_act 472 = .ok (.invokestatic 50, 3) := by decide +kernel
theorem dL_act_475 : decode cL_act 475 = .ok (.aastore, 1) := by decide +kernel
theorem dL_act_476 : decode cL_act 476 = .ok (.iload 4, 2) := by decide +kernel
theorem dL_act_478 : decode cL_act 478 = .ok (.bipush 9, 2) := by decide +kernel
theorem dL_act_480 : decode cL_act 480 = .ok (.if_icmp .ne 14, 3) := by decide +kernel
theorem dL_act_483 : decode cL_act 483 = .ok (.aload_n 0, 1) := by decide +kernel
theorem dL_act_484 : decode cL_act 484 = .ok (.iload 6, 2) := by decide +kernel
theorem dL_act_486 : decode cL_act 486 = .ok (.iload 10, 2) := by decide +kernel
theorem dL_act_488 : decode cL_act 488 = .ok (.invokevirtual 54, 3) := by decide +kernel
theorem dL_act_491 : decode cL_act 491 = .ok (.goto 11, 3) := by decide +kernel
theorem dL_act_494 : decode cL_act 494 = .ok (.aload_n 0, 1) := by decide +kernel
theorem dL_act_495 : decode cL_act 495 = .ok (.iload 6, 2) := by decide +kernel
theorem dL_act_497 : decode cL_act 497 = .ok (.iload 10, 2) := by decide +kernel
theorem dL_act_499 : decode cL_act 499 = .ok (.invokevirtual 57, 3) := by decide +kernel
theorem dL_act_502 : decode cL_act 502 = .ok (.aload 7, 2) := by decide +kernel
theorem dL_act_504 : decode cL_act 504 = .ok (.iload 10, 2) := by decide +kernel
theorem dL_act_506 : decode cL_act 506 = .ok (.iaload, 1) := by decide +kernel
theorem dL_act_507 : decode cL_act 507 = .ok (.if_icmp .ne 12, 3) := by decide +kernel
theorem dL_act_510 : decode cL_act 510 = .ok (.iload 5, 2) := by decide +kernel
theorem dL_act_512 : decode cL_act 512 = .ok (.ifCond .eq 7, 3) := by decide +kernel
theorem dL_act_515 : decode cL_act 515 = .ok (.iconst 1, 1) := by decide +kernel
theorem dL_act_516 : decode cL_act 516 = .ok (.goto 4, 3) := by decide +kernel
theorem dL_act_519 : decode cL_act 519 = .ok (.iconst 0, 1) := by decide +kernel
theorem dL_act_520 : decode cL_act 520 = .ok (.ireturn, 1) := by decide +kernel
theorem dL_act_521 : decode cL_act 521 = .ok (.iload 8, 2) := by decide +kernel
theorem dL_act_523 : decode cL_act 523 = .ok (.ifCond .ne 5, 3) := by decide +kernel
theorem dL_act_526 : decode cL_act 526 = .ok (.iconst 1, 1) := by decide +kernel
theorem dL_act_527 : decode cL_act 527 = .ok (.ireturn, 1) := by decide +kernel
theorem dL_act_528 : decode cL_act 528 = .ok (.iload 10, 2) := by decide +kernel
theorem dL_act_530 : decode cL_act 530 = .ok (.ifCond .le 19, 3) := by decide +kernel
theorem dL_act_533 : decode cL_act 533 = .ok (.aload 7, 2) := by decide +kernel
theorem dL_act_535 : decode cL_act 535 = .ok (.iload 10, 2) := by decide +kernel
theorem dL_act_537 : decode cL_act 537 = .ok (.iaload, 1) := by decide +kernel
theorem dL_act_538 : decode cL_act 538 = .ok (.bipush 30, 2) := by decide +kernel
theorem dL_act_540 : decode cL_act 540 = .ok (.if_icmp .eq 9, 3) := by decide +kernel
theorem dL_act_543 : decode cL_act 543 = .ok (.iinc 10 (-1), 3) := by decide +kernel
theorem dL_act_546 : decode cL_act 546 = .ok (.goto (-18), 3) := by decide +kernel
theorem dL_act_549 : decode cL_act 549 = .ok (.aload 7, 2) := by decide +kernel
theorem dL_act_551 : decode cL_act 551 = .ok (.iload 10, 2) := by decide +kernel
theorem dL_act_553 : decode cL_act 553 = .ok (.iaload, 1) := by decide +kernel
theorem dL_act_554 : decode cL_act 554 = .ok (.bipush 30, 2) := by decide +kernel
theorem dL_act_556 : decode cL_act 556 = .ok (.if_icmp .ne 7, 3) := by decide +kernel
theorem dL_act_559 : decode cL_act 559 = .ok (.iconst 1, 1) := by decide +kernel
theorem dL_act_560 : decode cL_act 560 = .ok (.goto 4, 3) := by decide +kernel
theorem dL_act_563 : decode cL_act 563 = .ok (.iconst 0, 1) := by decide +kernel
theorem dL_act_564 : decode cL_act 564 = .ok (.istore 5, 2) := by decide +kernel
theorem dL_act_566 : decode cL_act 566 = .ok (.iload 5, 2) := by decide +kernel
theorem dL_act_568 : decode cL_act 568 = .ok (.ifCond .eq 19, 3) := by decide +kernel
theorem dL_act_571 : decode cL_act 571 = .ok (.aload_n 1, 1) := by decide +kernel
theorem dL_act_572 : decode cL_act 572 = .ok (.getfield 9, 3) := by decide +kernel
theorem dL_act_575 : decode cL_act 575 = .ok (.iload 6, 2) := by decide +kernel
theorem dL_act_577 : decode cL_act 577 = .ok (.aload 7, 2) := by decide +kernel
theorem dL_act_579 : decode cL_act 579 = .ok (.iload 10, 2) := by decide +kernel
theorem dL_act_581 : decode cL_act 581 = .ok (.iload 9, 2) := by decide +kernel
theorem dL_act_583 : decode cL_act 583 = .ok (.invokestatic 50, 3) := by decide +kernel
theorem dL_act_586 : decode cL_act 586 = .ok (.aastore, 1) := by decide +kernel
theorem dL_act_587 : decode cL_act 587 = .ok (.aload_n 0, 1) := by decide +kernel
theorem dL_act_588 : decode cL_act 588 = .ok (.iload 6, 2) := by decide +kernel
theorem dL_act_590 : decode cL_act 590 = .ok (.iload 10, 2) := by decide +kernel
theorem dL_act_592 : decode cL_act 592 = .ok (.iload 9, 2) := by decide +kernel
theorem dL_act_594 : decode cL_act 594 = .ok (.invokevirtual 60, 3) := by decide +kernel
theorem dL_act_597 : decode cL_act 597 = .ok (.aload_n 1, 1) := by decide +kernel
theorem dL_act_598 : decode cL_act 598 = .ok (.getfield 9, 3) := by decide +kernel
theorem dL_act_601 : decode cL_act 601 = .ok (.iload 6, 2) := by decide +kernel
theorem dL_act_603 : decode cL_act 603 = .ok (.aaload, 1) := by decide +kernel
theorem dL_act_604 : decode cL_act 604 = .ok (.bipush 30, 2) := by decide +kernel
theorem dL_act_606 : decode cL_act 606 = .ok (.invokestatic 64, 3) := by decide +kernel
theorem dL_act_609 : decode cL_act 609 = .ok (.if_icmp .ne 12, 3) := by decide +kernel
theorem dL_act_612 : decode cL_act 612 = .ok (.iload 5, 2) := by decide +kernel
theorem dL_act_614 : decode cL_act 614 = .ok (.ifCond .eq 7, 3) := by decide +kernel
theorem dL_act_617 : decode cL_act 617 = .ok (.iconst 1, 1) := by decide +kernel
theorem dL_act_618 : decode cL_act 618 = .ok (.goto 4, 3) := by decide +kernel
theorem dL_act_621 : decode cL_act 621 = .ok (.iconst 0, 1) := by decide +kernel
theorem dL_act_622 : decode cL_act 622 = .ok (.ireturn, 1) := by decide +kernel
theorem dL_act_623 : decode cL_act 623 = .ok (.iload 8, 2) := by decide +kernel
theorem dL_act_625 : decode cL_act 625 = .ok (.ifCond .le 17, 3) := by decide +kernel
theorem dL_act_628 : decode cL_act 628 = .ok (.aload_n 1, 1) := by decide +kernel
theorem dL_act_629 : decode cL_act 629 = .ok (.getfield 68, 3) := by decide +kernel
theorem dL_act_632 : decode cL_act 632 = .ok (.arraylength, 1) := by decide +kernel
theorem dL_act_633 : decode cL_act 633 = .ok (.bipush 24, 2) := by decide +kernel
theorem dL_act_635 : decode cL_act 635 = .ok (.if_icmp .ge 7, 3) := by decide +kernel
theorem dL_act_638 : decode cL_act 638 = .ok (.iconst 1, 1) := by decide +kernel
theorem dL_act_639 : decode cL_act 639 = .ok (.goto 4, 3) := by decide +kernel
theorem dL_act_642 : decode cL_act 642 = .ok (.iconst 0, 1) := by decide +kernel
theorem dL_act_643 : decode cL_act 643 = .ok (.istore 5, 2) := by decide +kernel
theorem dL_act_645 : decode cL_act 645 = .ok (.aload_n 1, 1) := by decide +kernel
theorem dL_act_646 : decode cL_act 646 = .ok (.getfield 68, 3) := by decide +kernel
theorem dL_act_649 : decode cL_act 649 = .ok (.arraylength, 1) := by decide +kernel
theorem dL_act_650 : decode cL_act 650 = .ok (.istore 11, 2) := by decide +kernel
theorem dL_act_652 : decode cL_act 652 = .ok (.iload 5, 2) := by decide +kernel
theorem dL_act_654 : decode cL_act 654 = .ok (.ifCond .eq 9, 3) := by decide +kernel
theorem dL_act_657 : decode cL_act 657 = .ok (.aload_n 1, 1) := by decide +kernel
theorem dL_act_658 : decode cL_act 658 = .ok (.iload 6, 2) := by decide +kernel
theorem dL_act_660 : decode cL_act 660 = .ok (.invokevirtual 72, 3) := by decide +kernel
theorem dL_act_663 : decode cL_act 663 = .ok (.aload_n 0, 1) := by decide +kernel
theorem dL_act_664 : decode cL_act 664 = .ok (.iload 6, 2) := by decide +kernel
theorem dL_act_666 : decode cL_act 666 = .ok (.invokevirtual 76, 3) := by decide +kernel
theorem dL_act_669 : decode cL_act 669 = .ok (.iload 11, 2) := by decide +kernel
theorem dL_act_671 : decode cL_act 671 = .ok (.if_icmp .ne 12, 3) := by decide +kernel
theorem dL_act_674 : decode cL_act 674 = .ok (.iload 5, 2) := by decide +kernel
theorem dL_act_676 : decode cL_act 676 = .ok (.ifCond .eq 7, 3) := by decide +kernel
theorem dL_act_679 : decode cL_act 679 = .ok (.iconst 1, 1) := by decide +kernel
theorem dL_act_680 : decode cL_act 680 = .ok (.goto 4, 3) := by decide +kernel
theorem dL_act_683 : decode cL_act 683 = .ok (.iconst 0, 1) := by decide +kernel
theorem dL_act_684 : decode cL_act 684 = .ok (.ireturn, 1) := by decide +kernel
theorem dL_act_685 : decode cL_act 685 = .ok (.aload_n 1, 1) := by decide +kernel
theorem dL_act_686 : decode cL_act 686 = .ok (.getfield 68, 3) := by decide +kernel
theorem dL_act_689 : decode cL_act 689 = .ok (.arraylength, 1) := by decide +kernel
theorem dL_act_690 : decode cL_act 690 = .ok (.ifCond .le 7, 3) := by decide +kernel
theorem dL_act_693 : decode cL_act 693 = .ok (.iconst 1, 1) := by decide +kernel
theorem dL_act_694 : decode cL_act 694 = .ok (.goto 4, 3) := by decide +kernel
theorem dL_act_697 : decode cL_act 697 = .ok (.iconst 0, 1) := by decide +kernel
theorem dL_act_698 : decode cL_act 698 = .ok (.istore 5, 2) := by decide +kernel
theorem dL_act_700 : decode cL_act 700 = .ok (.iload 5, 2) := by decide +kernel
theorem dL_act_702 : decode cL_act 702 = .ok (.ifCond .eq 10, 3) := by decide +kernel
theorem dL_act_705 : decode cL_act 705 = .ok (.aload_n 1, 1) := by decide +kernel
theorem dL_act_706 : decode cL_act 706 = .ok (.invokevirtual 78, 3) := by decide +kernel
theorem dL_act_709 : decode cL_act 709 = .ok (.goto 4, 3) := by decide +kernel
theorem dL_act_712 : decode cL_act 712 = .ok (.iconst (-1), 1) := by decide +kernel
theorem dL_act_713 : decode cL_act 713 = .ok (.istore 11, 2) := by decide +kernel
theorem dL_act_715 : decode cL_act 715 = .ok (.aload_n 0, 1) := by decide +kernel
theorem dL_act_716 : decode cL_act 716 = .ok (.invokevirtual 81, 3) := by decide +kernel
theorem dL_act_719 : decode cL_act 719 = .ok (.iload 11, 2) := by decide +kernel
theorem dL_act_721 : decode cL_act 721 = .ok (.if_icmp .ne 12, 3) := by decide +kernel
theorem dL_act_724 : decode cL_act 724 = .ok (.iload 5, 2) := by decide +kernel
theorem dL_act_726 : decode cL_act 726 = .ok (.ifCond .eq 7, 3) := by decide +kernel
theorem dL_act_729 : decode cL_act 729 = .ok (.iconst 1, 1) := by decide +kernel
theorem dL_act_730 : decode cL_act 730 = .ok (.goto 4, 3) := by decide +kernel
theorem dL_act_733 : decode cL_act 733 = .ok (.iconst 0, 1) := by decide +kernel
theorem dL_act_734 : decode cL_act 734 = .ok (.ireturn, 1) := by decide +kernel
theorem dL_act_735 : decode cL_act 735 = .ok (.iconst 0, 1) := by decide +kernel
theorem dL_act_736 : decode cL_act 736 = .ok (.istore 11, 2) := by decide +kernel
theorem dL_act_738 : decode cL_act 738 = .ok (.iload 11, 2) := by decide +kernel
theorem dL_act_740 : decode cL_act 740 = .ok (.iconst 5, 1) := by decide +kernel
theorem dL_act_741 : decode cL_act 741 = .ok (.if_icmp .ge 79, 3) := by decide +kernel
theorem dL_act_744 : decode cL_act 744 = .ok (.aload_n 1, 1) := by decide +kernel
theorem dL_act_745 : decode cL_act 745 = .ok (.getfield 9, 3) := by decide +kernel
theorem dL_act_748 : decode cL_act 748 = .ok (.iload 6, 2) := by decide +kernel
theorem dL_act_750 : decode cL_act 750 = .ok (.aaload, 1) := by decide +kernel
theorem dL_act_751 : decode cL_act 751 = .ok (.arraylength, 1) := by decide +kernel
theorem dL_act_752 : decode cL_act 752 = .ok (.bipush 40, 2) := by decide +kernel
theorem dL_act_754 : decode cL_act 754 = .ok (.if_icmp .ge 66, 3) := by decide +kernel
theorem dL_act_757 : decode cL_act 757 = .ok (.iload_n 2, 1) := by decide +kernel
theorem dL_act_758 : decode cL_act 758 = .ok (.iload 11, 2) := by decide +kernel
theorem dL_act_760 : decode cL_act 760 = .ok (.ishr, 1) := by decide +kernel
theorem dL_act_761 : decode cL_act 761 = .ok (.bipush 7, 2) := by decide +kernel
theorem dL_act_763 : decode cL_act 763 = .ok (.iload 11, 2) := by decide +kernel
theorem dL_act_765 : decode cL_act 765 = .ok (.imul, 1) := by decide +kernel
theorem dL_act_766 : decode cL_act 766 = .ok (.iadd, 1) := by decide +kernel
theorem dL_act_767 : decode cL_act 767 = .ok (.bipush 30, 2) := by decide +kernel
theorem dL_act_769 : decode cL_act 769 = .ok (.invokestatic 15, 3) := by decide +kernel
theorem dL_act_772 : decode cL_act 772 = .ok (.istore 12, 2) := by decide +kernel
theorem dL_act_774 : decode cL_act 774 = .ok (.aload_n 1, 1) := by decide +kernel
theorem dL_act_775 : decode cL_act 775 = .ok (.getfield 9, 3) := by decide +kernel
theorem dL_act_778 : decode cL_act 778 = .ok (.iload 6, 2) := by decide +kernel
theorem dL_act_780 : decode cL_act 780 = .ok (.aload_n 1, 1) := by decide +kernel
theorem dL_act_781 : decode cL_act 781 = .ok (.getfield 9, 3) := by decide +kernel
theorem dL_act_784 : decode cL_act 784 = .ok (.iload 6, 2) := by decide +kernel
theorem dL_act_786 : decode cL_act 786 = .ok (.aaload, 1) := by decide +kernel
theorem dL_act_787 : decode cL_act 787 = .ok (.iload 12, 2) := by decide +kernel
theorem dL_act_789 : decode cL_act 789 = .ok (.invokestatic 35, 3) := by decide +kernel
theorem dL_act_792 : decode cL_act 792 = .ok (.aastore, 1) := by decide +kernel
theorem dL_act_793 : decode cL_act 793 = .ok (.aload_n 0, 1) := by decide +kernel
theorem dL_act_794 : decode cL_act 794 = .ok (.iload 6, 2) := by decide +kernel
theorem dL_act_796 : decode cL_act 796 = .ok (.iload 12, 2) := by decide +kernel
theorem dL_act_798 : decode cL_act 798 = .ok (.invokevirtual 39, 3) := by decide +kernel
theorem dL_act_801 : decode cL_act 801 = .ok (.aload_n 1, 1) := by decide +kernel
theorem dL_act_802 : decode cL_act 802 = .ok (.getfield 9, 3) := by decide +kernel
theorem dL_act_805 : decode cL_act 805 = .ok (.iload 6, 2) := by decide +kernel
theorem dL_act_807 : decode cL_act 807 = .ok (.aaload, 1) := by decide +kernel
theorem dL_act_808 : decode cL_act 808 = .ok (.arraylength, 1) := by decide +kernel
theorem dL_act_809 : decode cL_act 809 = .ok (.if_icmp .eq 5, 3) := by decide +kernel
theorem dL_act_812 : decode cL_act 812 = .ok (.iconst 0, 1) := by decide +kernel
theorem dL_act_813 : decode cL_act 813 = .ok (.ireturn, 1) := by decide +kernel
theorem dL_act_814 : decode cL_act 814 = .ok (.iinc 11 1, 3) := by decide +kernel
theorem dL_act_817 : decode cL_act 817 = .ok (.goto (-79), 3) := by decide +kernel
theorem dL_act_820 : decode cL_act 820 = .ok (.iconst 1, 1) := by decide +kernel
theorem dL_act_821 : decode cL_act 821 = .ok (.ireturn, 1) := by decide +kernel
theorem dL_act_822 : decode cL_act 822 = .ok (.astore 6, 2) := by decide +kernel
theorem dL_act_824 : decode cL_act 824 = .ok (.iload 5, 2) := by decide +kernel
theorem dL_act_826 : decode cL_act 826 = .ok (.ifCond .ne 7, 3) := by decide +kernel
theorem dL_act_829 : decode cL_act 829 = .ok (.iconst 1, 1) := by decide +kernel
theorem dL_act_830 : decode cL_act 830 = .ok (.goto 4, 3) := by decide +kernel
theorem dL_act_833 : decode cL_act 833 = .ok (.iconst 0, 1) := by decide +kernel
theorem dL_act_834 : decode cL_act 834 = .ok (.ireturn, 1) := by decide +kernel
theorem dL_build_0 : decode cL_build 0 = .ok (.new 10, 3) := by decide +kernel
theorem dL_build_3 : decode cL_build 3 = .ok (.dup, 1) := by decide +kernel
theorem dL_build_4 : decode cL_build 4 = .ok (.invokespecial 84, 3) := by decide +kernel
theorem dL_build_7 : decode cL_build 7 = .ok (.astore_n 2, 1) := by decide +kernel
theorem dL_build_8 : decode cL_build 8 = .ok (.bipush 16, 2) := by decide +kernel
theorem dL_build_10 : decode cL_build 10 = .ok (.aload_n 1, 1) := by decide +kernel
theorem dL_build_11 : decode cL_build 11 = .ok (.iconst 0, 1) := by decide +kernel
theorem dL_build_12 : decode cL_build 12 = .ok (.invokestatic 85, 3) := by decide +kernel
theorem dL_build_15 : decode cL_build 15 = .ok (.bipush 24, 2) := by decide +kernel
theorem dL_build_17 : decode cL_build 17 = .ok (.invokestatic 15, 3) := by decide +kernel
theorem dL_build_20 : decode cL_build 20 = .ok (.iadd, 1) := by decide +kernel
theorem dL_build_21 : decode cL_build 21 = .ok (.istore_n 3, 1) := by decide +kernel
theorem dL_build_22 : decode cL_build 22 = .ok (.iconst 0, 1) := by decide +kernel
theorem dL_build_23 : decode cL_build 23 = .ok (.istore 4, 2) := by decide +kernel
theorem dL_build_25 : decode cL_build 25 = .ok (.iload 4, 2) := by decide +kernel
theorem dL_build_27 : decode cL_build 27 = .ok (.iload_n 3, 1) := by decide +kernel
theorem dL_build_28 : decode cL_build 28 = .ok (.if_icmp .ge 88, 3) := by decide +kernel
theorem dL_build_31 : decode cL_build 31 = .ok (.aload_n 1, 1) := by decide +kernel
theorem dL_build_32 : decode cL_build 32 = .ok (.iconst 1, 1) := by decide +kernel
theorem dL_build_33 : decode cL_build 33 = .ok (.iload 4, 2) := by decide +kernel
theorem dL_build_35 : decode cL_build 35 = .ok (.bipush 15, 2) := by decide +kernel
theorem dL_build_37 : decode cL_build 37 = .ok (.irem, 1) := by decide +kernel
theorem dL_build_38 : decode cL_build 38 = .ok (.iadd, 1) := by decide +kernel
theorem dL_build_39 : decode cL_build 39 = .ok (.invokestatic 85, 3) := by decide +kernel
theorem dL_build_42 : decode cL_build 42 = .ok (.iload 4, 2) := by decide +kernel
theorem dL_build_44 : decode cL_build 44 = .ok (.bipush 15, 2) := by decide +kernel
theorem dL_build_46 : decode cL_build 46 = .ok (.idiv, 1) := by decide +kernel
theorem dL_build_47 : decode cL_build 47 = .ok (.iconst 3, 1) := by decide +kernel
theorem dL_build_48 : decode cL_build 48 = .ok (.imul, 1) := by decide +kernel
theorem dL_build_49 : decode cL_build 49 = .ok (.ishr, 1) := by decide +kernel
theorem dL_build_50 : decode cL_build 50 = .ok (.bipush 37, 2) := by decide +kernel
theorem dL_build_52 : decode cL_build 52 = .ok (.iload 4, 2) := by decide +kernel
theorem dL_build_54 : decode cL_build 54 = .ok (.imul, 1) := by decide +kernel
theorem dL_build_55 : decode cL_build 55 = .ok (.iadd, 1) := by decide +kernel
theorem dL_build_56 : decode cL_build 56 = .ok (.istore 5, 2) := by decide +kernel
theorem dL_build_58 : decode cL_build 58 = .ok (.aload_n 0, 1) := by decide +kernel
theorem dL_build_59 : decode cL_build 59 = .ok (.aload_n 2, 1) := by decide +kernel
theorem dL_build_60 : decode cL_build 60 = .ok (.iload 4, 2) := by decide +kernel
theorem dL_build_62 : decode cL_build 62 = .ok (.iconst 5, 1) := by decide +kernel
theorem dL_build_63 : decode cL_build 63 = .ok (.irem, 1) := by decide +kernel
theorem dL_build_64 : decode cL_build 64 = .ok (.iconst 3, 1) := by decide +kernel
theorem dL_build_65 : decode cL_build 65 = .ok (.if_icmp .ge 35, 3) := by decide +kernel
theorem dL_build_68 : decode cL_build 68 = .ok (.iload 5, 2) := by decide +kernel
theorem dL_build_70 : decode cL_build 70 = .ok (.iload 5, 2) := by decide +kernel
theorem dL_build_72 : decode cL_build 72 = .ok (.bipush 18, 2) := by decide +kernel
theorem dL_build_74 : decode cL_build 74 = .ok (.invokestatic 15, 3) := by decide +kernel
theorem dL_build_77 : decode cL_build 77 = .ok (.isub, 1) := by decide +kernel
theorem dL_build_78 : decode cL_build 78 = .ok (.iload 4, 2) := by decide +kernel
theorem dL_build_80 : decode cL_build 80 = .ok (.iconst 5, 1) := by decide +kernel
theorem dL_build_81 : decode cL_build 81 = .ok (.irem, 1) := by decide +kernel
theorem dL_build_82 : decode cL_build 82 = .ok (.ifCond .ne 8, 3) := by decide +kernel
theorem dL_build_85 : decode cL_build 85 = .ok (.bipush 17, 2) := by decide +kernel
theorem dL_build_87 : decode cL_build 87 = .ok (.goto 9, 3) := by decide +kernel
theorem dL_build_90 : decode cL_build 90 = .ok (.iconst 2, 1) := by decide +kernel
theorem dL_build_91 : decode cL_build 91 = .ok (.iload 4, 2) := by decide +kernel
theorem dL_build_93 : decode cL_build 93 = .ok (.iconst 3, 1) := by decide +kernel
theorem dL_build_94 : decode cL_build 94 = .ok (.irem, 1) := by decide +kernel
theorem dL_build_95 : decode cL_build 95 = .ok (.iadd, 1) := by decide +kernel
theorem dL_build_96 : decode cL_build 96 = .ok (.iadd, 1) := by decide +kernel
theorem dL_build_97 : decode cL_build 97 = .ok (.goto 5, 3) := by decide +kernel
theorem dL_build_100 : decode cL_build 100 = .ok (.iload 5, 2) := by decide +kernel
theorem dL_build_102 : decode cL_build 102 = .ok (.invokestatic 88, 3) := by decide +kernel
theorem dL_build_105 : decode cL_build 105 = .ok (.ifCond .ne 5, 3) := by decide +kernel
theorem dL_build_108 : decode cL_build 108 = .ok (.aconst_null, 1) := by decide +kernel
theorem dL_build_109 : decode cL_build 109 = .ok (.areturn, 1) := by decide +kernel
theorem dL_build_110 : decode cL_build 110 = .ok (.iinc 4 1, 3) := by decide +kernel
theorem dL_build_113 : decode cL_build 113 = .ok (.goto (-88), 3) := by decide +kernel
theorem dL_build_116 : decode cL_build 116 = .ok (.aload_n 2, 1) := by decide +kernel
theorem dL_build_117 : decode cL_build 117 = .ok (.areturn, 1) := by decide +kernel
theorem dL_law_0 : decode cL_law 0 = .ok (.new 26, 3) := by decide +kernel
theorem dL_law_3 : decode cL_law 3 = .ok (.dup, 1) := by decide +kernel
theorem dL_law_4 : decode cL_law 4 = .ok (.invokespecial 92, 3) := by decide +kernel
theorem dL_law_7 : decode cL_law 7 = .ok (.astore_n 1, 1) := by decide +kernel
theorem dL_law_8 : decode cL_law 8 = .ok (.aload_n 1, 1) := by decide +kernel
theorem dL_law_9 : decode cL_law 9 = .ok (.aload_n 0, 1) := by decide +kernel
theorem dL_law_10 : decode cL_law 10 = .ok (.invokestatic 93, 3) := by decide +kernel
theorem dL_law_13 : decode cL_law 13 = .ok (.astore_n 2, 1) := by decide +kernel
theorem dL_law_14 : decode cL_law 14 = .ok (.aload_n 2, 1) := by decide +kernel
theorem dL_law_15 : decode cL_law 15 = .ok (.ifnonnull 5, 3) := by decide +kernel
theorem dL_law_18 : decode cL_law 18 = .ok (.iconst 0, 1) := by decide +kernel
theorem dL_law_19 : decode cL_law 19 = .ok (.ireturn, 1) := by decide +kernel
theorem dL_law_20 : decode cL_law 20 = .ok (.iconst 0, 1) := by decide +kernel
theorem dL_law_21 : decode cL_law 21 = .ok (.istore_n 3, 1) := by decide +kernel
theorem dL_law_22 : decode cL_law 22 = .ok (.iload_n 3, 1) := by decide +kernel
theorem dL_law_23 : decode cL_law 23 = .ok (.iconst 5, 1) := by decide +kernel
theorem dL_law_24 : decode cL_law 24 = .ok (.if_icmp .ge 1009, 3) := by decide +kernel
theorem dL_law_27 : decode cL_law 27 = .ok (.aload_n 0, 1) := by decide +kernel
theorem dL_law_28 : decode cL_law 28 = .ok (.iload_n 3, 1) := by decide +kernel
theorem dL_law_29 : decode cL_law 29 = .ok (.invokestatic 85, 3) := by decide +kernel
theorem dL_law_32 : decode cL_law 32 = .ok (.iconst 2, 1) := by decide +kernel
theorem dL_law_33 : decode cL_law 33 = .ok (.ishr, 1) := by decide +kernel
theorem dL_law_34 : decode cL_law 34 = .ok (.bipush 53, 2) := by decide +kernel
theorem dL_law_36 : decode cL_law 36 = .ok (.iload_n 3, 1) := by decide +kernel
theorem dL_law_37 : decode cL_law 37 = .ok (.imul, 1) := by decide +kernel
theorem dL_law_38 : decode cL_law 38 = .ok (.iadd, 1) := by decide +kernel
theorem dL_law_39 : decode cL_law 39 = .ok (.istore 4, 2) := by decide +kernel
theorem dL_law_41 : decode cL_law 41 = .ok (.iconst 0, 1) := by decide +kernel
theorem dL_law_42 : decode cL_law 42 = .ok (.istore 5, 2) := by decide +kernel
theorem dL_law_44 : decode cL_law 44 = .ok (.iload 5, 2) := by decide +kernel
theorem dL_law_46 : decode cL_law 46 = .ok (.iconst 5, 1) := by decide +kernel
theorem dL_law_47 : decode cL_law 47 = .ok (.if_icmp .ge 32, 3) := by decide +kernel
theorem dL_law_50 : decode cL_law 50 = .ok (.aload_n 1, 1) := by decide +kernel
theorem dL_law_51 : decode cL_law 51 = .ok (.aload_n 2, 1) := by decide +kernel
theorem dL_law_52 : decode cL_law 52 = .ok (.iload 4, 2) := by decide +kernel
theorem dL_law_54 : decode cL_law 54 = .ok (.iconst 3, 1) := by decide +kernel
theorem dL_law_55 : decode cL_law 55 = .ok (.iload 5, 2) := by decide +kernel
theorem dL_law_57 : decode cL_law 57 = .ok (.imul, 1) := by decide +kernel
theorem dL_law_58 : decode cL_law 58 = .ok (.ishr, 1) := by decide +kernel
theorem dL_law_59 : decode cL_law 59 = .ok (.bipush 29, 2) := by decide +kernel
theorem dL_law_61 : decode cL_law 61 = .ok (.iload 5, 2) := by decide +kernel
theorem dL_law_63 : decode cL_law 63 = .ok (.imul, 1) := by decide +kernel
theorem dL_law_64 : decode cL_law 64 = .ok (.iadd, 1) := by decide +kernel
theorem dL_law_65 : decode cL_law 65 = .ok (.invokestatic 88, 3) := by decide +kernel
theorem dL_law_68 : decode cL_law 68 = .ok (.ifCond .ne 5, 3) := by decide +kernel
theorem dL_law_71 : decode cL_law 71 = .ok (.iconst 0, 1) := by decide +kernel
theorem dL_law_72 : decode cL_law 72 = .ok (.ireturn, 1) := by decide +kernel
theorem dL_law_73 : decode cL_law 73 = .ok (.iinc 5 1, 3) := by decide +kernel
theorem dL_law_76 : decode cL_law 76 = .ok (.goto (-32), 3) := by decide +kernel
theorem dL_law_79 : decode cL_law 79 = .ok (.aload_n 1, 1) := by decide +kernel
theorem dL_law_80 : decode cL_law 80 = .ok (.invokevirtual 97, 3) := by decide +kernel
theorem dL_law_83 : decode cL_law 83 = .ok (.lstore 5, 2) := by decide +kernel
theorem dL_law_85 : decode cL_law 85 = .ok (.aload_n 1, 1) := by decide +kernel
theorem dL_law_86 : decode cL_law 86 = .ok (.invokevirtual 101, 3) := by decide +kernel
theorem dL_law_89 : decode cL_law 89 = .ok (.istore 7, 2) := by decide +kernel
theorem dL_law_91 : decode cL_law 91 = .ok (.iconst 0, 1) := by decide +kernel
theorem dL_law_92 : decode cL_law 92 = .ok (.istore 8, 2) := by decide +kernel
theorem dL_law_94 : decode cL_law 94 = .ok (.iload 8, 2) := by decide +kernel
theorem dL_law_96 : decode cL_law 96 = .ok (.iload 7, 2) := by decide +kernel
theorem dL_law_98 : decode cL_law 98 = .ok (.if_icmp .ge 553, 3) := by decide +kernel
theorem dL_law_101 : decode cL_law 101 = .ok (.aload_n 1, 1) := by decide +kernel
theorem dL_law_102 : decode cL_law 102 = .ok (.iload 8, 2) := by decide +kernel
theorem dL_law_104 : decode cL_law 104 = .ok (.invokevirtual 103, 3) := by decide +kernel
theorem dL_law_107 : decode cL_law 107 = .ok (.istore 9, 2) := by decide +kernel
theorem dL_law_109 : decode cL_law 109 = .ok (.iconst 0, 1) := by decide +kernel
theorem dL_law_110 : decode cL_law 110 = .ok (.istore 10, 2) := by decide +kernel
theorem dL_law_112 : decode cL_law 112 = .ok (.iconst 0, 1) := by decide +kernel
theorem dL_law_113 : decode cL_law 113 = .ok (.istore 11, 2) := by decide +kernel
theorem dL_law_115 : decode cL_law 115 = .ok (.iconst 0, 1) := by decide +kernel
theorem dL_law_116 : decode cL_law 116 = .ok (.istore 12, 2) := by decide +kernel
theorem dL_law_118 : decode cL_law 118 = .ok (.iload 12, 2) := by decide +kernel
theorem dL_law_120 : decode cL_law 120 = .ok (.iload 9, 2) := by decide +kernel
theorem dL_law_122 : decode cL_law 122 = .ok (.if_icmp .ge 67, 3) := by decide +kernel
theorem dL_law_125 : decode cL_law 125 = .ok (.aload_n 1, 1) := by decide +kernel
theorem dL_law_126 : decode cL_law 126 = .ok (.iload 8, 2) := by decide +kernel
theorem dL_law_128 : decode cL_law 128 = .ok (.iload 12, 2) := by decide +kernel
theorem dL_law_130 : decode cL_law 130 = .ok (.invokevirtual 106, 3) := by decide +kernel
theorem dL_law_133 : decode cL_law 133 = .ok (.istore 13, 2) := by decide +kernel
theorem dL_law_135 : decode cL_law 135 = .ok (.iload 10, 2) := by decide +kernel
theorem dL_law_137 : decode cL_law 137 = .ok (.iload 13, 2) := by decide +kernel
theorem dL_law_139 : decode cL_law 139 = .ok (.bipush 27, 2) := by decide +kernel
theorem dL_law_141 : decode cL_law 141 = .ok (.if_icmp .ne 7, 3) := by decide +kernel
theorem dL_law_144 : decode cL_law 144 = .ok (.iconst 1, 1) := by decide +kernel
theorem dL_law_145 : decode cL_law 145 = .ok (.goto 4, 3) := by decide +kernel
theorem dL_law_148 : decode cL_law 148 = .ok (.iconst 0, 1) := by decide +kernel
theorem dL_law_149 : decode cL_law 149 = .ok (.iadd, 1) := by decide +kernel
theorem dL_law_150 : decode cL_law 150 = .ok (.istore 10, 2) := by decide +kernel
theorem dL_law_152 : decode cL_law 152 = .ok (.iload 11, 2) := by decide +kernel
theorem dL_law_154 : decode cL_law 154 = .ok (.iload 13, 2) := by decide +kernel
theorem dL_law_156 : decode cL_law 156 = .ok (.bipush 30, 2) := by decide +kernel
theorem dL_law_158 : decode cL_law 158 = .ok (.if_icmp .ne 7, 3) := by decide +kernel
theorem dL_law_161 : decode cL_law 161 = .ok (.iconst 1, 1) := by decide +kernel
theorem dL_law_162 : decode cL_law 162 = .ok (.goto 4, 3) := by decide +kernel
theorem dL_law_165 : decode cL_law 165 = .ok (.iconst 0, 1) := by decide +kernel
theorem dL_law_166 : decode cL_law 166 = .ok (.iadd, 1) := by decide +kernel
theorem dL_law_167 : decode cL_law 167 = .ok (.istore 11, 2) := by decide +kernel
theorem dL_law_169 : decode cL_law 169 = .ok (.iload 13, 2) := by decide +kernel
theorem dL_law_171 : decode cL_law 171 = .ok (.ifCond .lt 10, 3) := by decide +kernel
theorem dL_law_174 : decode cL_law 174 = .ok (.iload 13, 2) := by decide +kernel
theorem dL_law_176 : decode cL_law 176 = .ok (.bipush 30, 2) := by decide +kernel
theorem dL_law_178 : decode cL_law 178 = .ok (.if_icmp .le 5, 3) := by decide +kernel
theorem dL_law_181 : decode cL_law 181 = .ok (.iconst 0, 1) := by decide +kernel
theorem dL_law_182 : decode cL_law 182 = .ok (.ireturn, 1) := by decide +kernel
theorem dL_law_183 : decode cL_law 183 = .ok (.iinc 12 1, 3) := by decide +kernel
theorem dL_law_186 : decode cL_law 186 = .ok (.goto (-68), 3) := by decide +kernel
theorem dL_law_189 : decode cL_law 189 = .ok (.iload 9, 2) := by decide +kernel
theorem dL_law_191 : decode cL_law 191 = .ok (.ifCond .lt 76, 3) := by decide +kernel
theorem dL_law_194 : decode cL_law 194 = .ok (.iload 9, 2) := by decide +kernel
theorem dL_law_196 : decode cL_law 196 = .ok (.bipush 40, 2) := by decide +kernel
theorem dL_law_198 : decode cL_law 198 = .ok (.if_icmp .gt 69, 3) := by decide +kernel
theorem dL_law_201 : decode cL_law 201 = .ok (.iload 10, 2) := by decide +kernel
theorem dL_law_203 : decode cL_law 203 = .ok (.aload_n 1, 1) := by decide +kernel
theorem dL_law_204 : decode cL_law 204 = .ok (.iload 8, 2) := by decide +kernel
theorem dL_law_206 : decode cL_law 206 = .ok (.invokevirtual 109, 3) := by decide +kernel
theorem dL_law_209 : decode cL_law 209 = .ok (.if_icmp .ne 58, 3) := by decide +kernel
theorem dL_law_212 : decode cL_law 212 = .ok (.iload 11, 2) := by decide +kernel
theorem dL_law_214 : decode cL_law 214 = .ok (.aload_n 1, 1) := by decide +kernel
theorem dL_law_215 : decode cL_law 215 = .ok (.iload 8, 2) := by decide +kernel
theorem dL_law_217 : decode cL_law 217 = .ok (.invokevirtual 112, 3) := by decide +kernel
theorem dL_law_220 : decode cL_law 220 = .ok (.if_icmp .ne 47, 3) := by decide +kernel
theorem dL_law_223 : decode cL_law 223 = .ok (.aload_n 1, 1) := by decide +kernel
theorem dL_law_224 : decode cL_law 224 = .ok (.iload 8, 2) := by decide +kernel
theorem dL_law_226 : decode cL_law 226 = .ok (.invokevirtual 115, 3) := by decide +kernel
theorem dL_law_229 : decode cL_law 229 = .ok (.ifCond .lt 38, 3) := by decide +kernel
theorem dL_law_232 : decode cL_law 232 = .ok (.aload_n 1, 1) := by decide +kernel
theorem dL_law_233 : decode cL_law 233 = .ok (.iload 8, 2) := by decide +kernel
theorem dL_law_235 : decode cL_law 235 = .ok (.invokevirtual 115, 3) := by decide +kernel
theorem dL_law_238 : decode cL_law 238 = .ok (.sipush 8190, 3) := by decide +kernel
theorem dL_law_241 : decode cL_law 241 = .ok (.if_icmp .gt 26, 3) := by decide +kernel
theorem dL_law_244 : decode cL_law 244 = .ok (.aload_n 1, 1) := by decide +kernel
theorem dL_law_245 : decode cL_law 245 = .ok (.iload 8, 2) := by decide +kernel
theorem dL_law_247 : decode cL_law 247 = .ok (.invokevirtual 118, 3) := by decide +kernel
theorem dL_law_250 : decode cL_law 250 = .ok (.ifCond .lt 17, 3) := by decide +kernel
theorem dL_law_253 : decode cL_law 253 = .ok (.aload_n 1, 1) := by decide +kernel
theorem dL_law_254 : decode cL_law 254 = .ok (.iload 8, 2) := by decide +kernel
theorem dL_law_256 : decode cL_law 256 = .ok (.invokevirtual 118, 3) := by decide +kernel
theorem dL_law_259 : decode cL_law 259 = .ok (.iload 9, 2) := by decide +kernel
theorem dL_law_261 : decode cL_law 261 = .ok (.iload 10, 2) := by decide +kernel
theorem dL_law_263 : decode cL_law 263 = .ok (.isub, 1) := by decide +kernel
theorem dL_law_264 : decode cL_law 264 = .ok (.if_icmp .le 5, 3) := by decide +kernel
theorem dL_law_267 : decode cL_law 267 = .ok (.iconst 0, 1) := by decide +kernel
theorem dL_law_268 : decode cL_law 268 = .ok (.ireturn, 1) := by decide +kernel
theorem dL_law_269 : decode cL_law 269 = .ok (.iconst 1, 1) := by decide +kernel
theorem dL_law_270 : decode cL_law 270 = .ok (.iload 4, 2) := by decide +kernel
theorem dL_law_272 : decode cL_law 272 = .ok (.iload 8, 2) := by decide +kernel
theorem dL_law_274 : decode cL_law 274 = .ok (.ishr, 1) := by decide +kernel
theorem dL_law_275 : decode cL_law 275 = .ok (.bipush 6, 2) := by decide +kernel
theorem dL_law_277 : decode cL_law 277 = .ok (.invokestatic 15, 3) := by decide +kernel
theorem dL_law_280 : decode cL_law 280 = .ok (.iadd, 1) := by decide +kernel
theorem dL_law_281 : decode cL_law 281 = .ok (.istore 12, 2) := by decide +kernel
theorem dL_law_283 : decode cL_law 283 = .ok (.iconst 0, 1) := by decide +kernel
theorem dL_law_284 : decode cL_law 284 = .ok (.istore 13, 2) := by decide +kernel
theorem dL_law_286 : decode cL_law 286 = .ok (.iconst 0, 1) := by decide +kernel
theorem dL_law_287 : decode cL_law 287 = .ok (.istore 14, 2) := by decide +kernel
theorem dL_law_289 : decode cL_law 289 = .ok (.iload 14, 2) := by decide +kernel
theorem dL_law_291 : decode cL_law 291 = .ok (.iload 12, 2) := by decide +kernel
theorem dL_law_293 : decode cL_law 293 = .ok (.iadd, 1) := by decide +kernel
theorem dL_law_294 : decode cL_law 294 = .ok (.iload 9, 2) := by decide +kernel
theorem dL_law_296 : decode cL_law 296 = .ok (.if_icmp .gt 58, 3) := by decide +kernel
theorem dL_law_299 : decode cL_law 299 = .ok (.iconst 0, 1) := by decide +kernel
theorem dL_law_300 : decode cL_law 300 = .ok (.istore 15, 2) := by decide +kernel
theorem dL_law_302 : decode cL_law 302 = .ok (.iload 15, 2) := by decide +kernel
theorem dL_law_304 : decode cL_law 304 = .ok (.iload 14, 2) := by decide +kernel
theorem dL_law_306 : decode cL_law 306 = .ok (.if_icmp .ge 42, 3) := by decide +kernel
theorem dL_law_309 : decode cL_law 309 = .ok (.iload 13, 2) := by decide +kernel
theorem dL_law_311 : decode cL_law 311 = .ok (.aload_n 1, 1) := by decide +kernel
theorem dL_law_312 : decode cL_law 312 = .ok (.iload 8, 2) := by decide +kernel
theorem dL_law_314 : decode cL_law 314 = .ok (.iload 14, 2) := by decide +kernel
theorem dL_law_316 : decode cL_law 316 = .ok (.iload 12, 2) := by decide +kernel
theorem dL_law_318 : decode cL_law 318 = .ok (.invokevirtual 121, 3) := by decide +kernel
theorem dL_law_321 : decode cL_law 321 = .ok (.aload_n 1, 1) := by decide +kernel
theorem dL_law_322 : decode cL_law 322 = .ok (.iload 8, 2) := by decide +kernel
theorem dL_law_324 : decode cL_law 324 = .ok (.iload 15, 2) := by decide +kernel
theorem dL_law_326 : decode cL_law 326 = .ok (.iload 12, 2) := by decide +kernel
theorem dL_law_328 : decode cL_law 328 = .ok (.invokevirtual 121, 3) := by decide +kernel
theorem dL_law_331 : decode cL_law 331 = .ok (.if_icmp .ne 7, 3) := by decide +kernel
theorem dL_law_334 : decode cL_law 334 = .ok (.iconst 1, 1) := by decide +kernel
theorem dL_law_335 : decode cL_law 335 = .ok (.goto 4, 3) := by decide +kernel
theorem dL_law_338 : decode cL_law 338 = .ok (.iconst 0, 1) := by decide +kernel
theorem dL_law_339 : decode cL_law 339 = .ok (.iadd, 1) := by decide +kernel
theorem dL_law_340 : decode cL_law 340 = .ok (.istore 13, 2) := by decide +kernel
theorem dL_law_342 : decode cL_law 342 = .ok (.iinc 15 1, 3) := by decide +kernel
theorem dL_law_345 : decode cL_law 345 = .ok (.goto (-43), 3) := by decide +kernel
theorem dL_law_348 : decode cL_law 348 = .ok (.iinc 14 1, 3) := by decide +kernel
theorem dL_law_351 : decode cL_law 351 = .ok (.goto (-62), 3) := by decide +kernel
theorem dL_law_354 : decode cL_law 354 = .ok (.aload_n 1, 1) := by decide +kernel
theorem dL_law_355 : decode cL_law 355 = .ok (.iload 8, 2) := by decide +kernel
theorem dL_law_357 : decode cL_law 357 = .ok (.iload 12, 2) := by decide +kernel
theorem dL_law_359 : decode cL_law 359 = .ok (.invokevirtual 124, 3) := by decide +kernel
theorem dL_law_362 : decode cL_law 362 = .ok (.iload 13, 2) := by decide +kernel
theorem dL_law_364 : decode cL_law 364 = .ok (.if_icmp .ne 27, 3) := by decide +kernel
theorem dL_law_367 : decode cL_law 367 = .ok (.aload_n 1, 1) := by decide +kernel
theorem dL_law_368 : decode cL_law 368 = .ok (.iload 8, 2) := by decide +kernel
theorem dL_law_370 : decode cL_law 370 = .ok (.iload 12, 2) := by decide +kernel
theorem dL_law_372 : decode cL_law 372 = .ok (.invokevirtual 127, 3) := by decide +kernel
theorem dL_law_375 : decode cL_law 375 = .ok (.iload 13, 2) := by decide +kernel
theorem dL_law_377 : decode cL_law 377 = .ok (.if_icmp .gt 14, 3) := by decide +kernel
theorem dL_law_380 : decode cL_law 380 = .ok (.aload_n 1, 1) := by decide +kernel
theorem dL_law_381 : decode cL_law 381 = .ok (.iload 8, 2) := by decide +kernel
theorem dL_law_383 : decode cL_law 383 = .ok (.iload 12, 2) := by decide +kernel
theorem dL_law_385 : decode cL_law 385 = .ok (.invokevirtual 127, 3) := by decide +kernel
theorem dL_law_388 : decode cL_law 388 = .ok (.ifCond .ge 5, 3) := by decide +kernel
theorem dL_law_391 : decode cL_law 391 = .ok (.iconst 0, 1) := by decide +kernel
theorem dL_law_392 : decode cL_law 392 = .ok (.ireturn, 1) := by decide +kernel
theorem dL_law_393 : decode cL_law 393 = .ok (.iload 4, 2) := by decide +kernel
theorem dL_law_395 : decode cL_law 395 = .ok (.iconst 4, 1) := by decide +kernel
theorem dL_law_396 : decode cL_law 396 = .ok (.ishr, 1) := by decide +kernel
theorem dL_law_397 : decode cL_law 397 = .ok (.iload 7, 2) := by decide +kernel
theorem dL_law_399 : decode cL_law 399 = .ok (.invokestatic 15, 3) := by decide +kernel
theorem dL_law_402 : decode cL_law 402 = .ok (.istore 14, 2) := by decide +kernel
theorem dL_law_404 : decode cL_law 404 = .ok (.aload_n 1, 1) := by decide +kernel
theorem dL_law_405 : decode cL_law 405 = .ok (.iload 14, 2) := by decide +kernel
theorem dL_law_407 : decode cL_law 407 = .ok (.invokevirtual 103, 3) := by decide +kernel
theorem dL_law_410 : decode cL_law 410 = .ok (.ifCond .le 106, 3) := by decide +kernel
theorem dL_law_413 : decode cL_law 413 = .ok (.aload_n 1, 1) := by decide +kernel
theorem dL_law_414 : decode cL_law 414 = .ok (.iload 8, 2) := by decide +kernel
theorem dL_law_416 : decode cL_law 416 = .ok (.iload 14, 2) := by decide +kernel
theorem dL_law_418 : decode cL_law 418 = .ok (.invokevirtual 130, 3) := by decide +kernel
theorem dL_law_421 : decode cL_law 421 = .ok (.istore 15, 2) := by decide +kernel
theorem dL_law_423 : decode cL_law 423 = .ok (.iload 15, 2) := by decide +kernel
theorem dL_law_425 : decode cL_law 425 = .ok (.ifCond .lt 34, 3) := by decide +kernel
theorem dL_law_428 : decode cL_law 428 = .ok (.aload_n 2, 1) := by decide +kernel
theorem dL_law_429 : decode cL_law 429 = .ok (.getfield 9, 3) := by decide +kernel
theorem dL_law_432 : decode cL_law 432 = .ok (.iload 8, 2) := by decide +kernel
theorem dL_law_434 : decode cL_law 434 = .ok (.aaload, 1) := by decide +kernel
theorem dL_law_435 : decode cL_law 435 = .ok (.iload 15, 2) := by decide +kernel
theorem dL_law_437 : decode cL_law 437 = .ok (.aload_n 2, 1) := by decide +kernel
theorem dL_law_438 : decode cL_law 438 = .ok (.getfield 9, 3) := by decide +kernel
theorem dL_law_441 : decode cL_law 441 = .ok (.iload 14, 2) := by decide +kernel
theorem dL_law_443 : decode cL_law 443 = .ok (.aaload, 1) := by decide +kernel
theorem dL_law_444 : decode cL_law 444 = .ok (.iconst 0, 1) := by decide +kernel
theorem dL_law_445 : decode cL_law 445 = .ok (.aload_n 1, 1) := by decide +kernel
theorem dL_law_446 : decode cL_law 446 = .ok (.iload 14, 2) := by decide +kernel
theorem dL_law_448 : decode cL_law 448 = .ok (.invokevirtual 103, 3) := by decide +kernel
theorem dL_law_451 : decode cL_law 451 = .ok (.invokestatic 133, 3) := by decide +kernel
theorem dL_law_454 : decode cL_law 454 = .ok (.ifCond .ne 5, 3) := by decide +kernel
theorem dL_law_457 : decode cL_law 457 = .ok (.iconst 0, 1) := by decide +kernel
theorem dL_law_458 : decode cL_law 458 = .ok (.ireturn, 1) := by decide +kernel
theorem dL_law_459 : decode cL_law 459 = .ok (.iconst 0, 1) := by decide +kernel
theorem dL_law_460 : decode cL_law 460 = .ok (.istore 16, 2) := by decide +kernel
theorem dL_law_462 : decode cL_law 462 = .ok (.iload 16, 2) := by decide +kernel
theorem dL_law_464 : decode cL_law 464 = .ok (.iload 15, 2) := by decide +kernel
theorem dL_law_466 : decode cL_law 466 = .ok (.ifCond .ge 8, 3) := by decide +kernel
theorem dL_law_469 : decode cL_law 469 = .ok (.iload 9, 2) := by decide +kernel
theorem dL_law_471 : decode cL_law 471 = .ok (.goto 5, 3) := by decide +kernel
theorem dL_law_474 : decode cL_law 474 = .ok (.iload 15, 2) := by decide +kernel
theorem dL_law_476 : decode cL_law 476 = .ok (.if_icmp .ge 40, 3) := by decide +kernel
theorem dL_law_479 : decode cL_law 479 = .ok (.aload_n 2, 1) := by decide +kernel
theorem dL_law_480 : decode cL_law 480 = .ok (.getfield 9, 3) := by decide +kernel
theorem dL_law_483 : decode cL_law 483 = .ok (.iload 8, 2) := by decide +kernel
theorem dL_law_485 : decode cL_law 485 = .ok (.aaload, 1) := by decide +kernel
theorem dL_law_486 : decode cL_law 486 = .ok (.iload 16, 2) := by decide +kernel
theorem dL_law_488 : decode cL_law 488 = .ok (.aload_n 2, 1) := by decide +kernel
theorem dL_law_489 : decode cL_law 489 = .ok (.getfield 9, 3) := by decide +kernel
theorem dL_law_492 : decode cL_law 492 = .ok (.iload 14, 2) := by decide +kernel
theorem dL_law_494 : decode cL_law 494 = .ok (.aaload, 1) := by decide +kernel
theorem dL_law_495 : decode cL_law 495 = .ok (.iconst 0, 1) := by decide +kernel
theorem dL_law_496 : decode cL_law 496 = .ok (.aload_n 1, 1) := by decide +kernel
theorem dL_law_497 : decode cL_law 497 = .ok (.iload 14, 2) := by decide +kernel
theorem dL_law_499 : decode cL_law 499 = .ok (.invokevirtual 103, 3) := by decide +kernel
theorem dL_law_502 : decode cL_law 502 = .ok (.invokestatic 133, 3) := by decide +kernel
theorem dL_law_505 : decode cL_law 505 = .ok (.ifCond .eq 5, 3) := by decide +kernel
theorem dL_law_508 : decode cL_law 508 = .ok (.iconst 0, 1) := by decide +kernel
theorem dL_law_509 : decode cL_law 509 = .ok (.ireturn, 1) := by decide +kernel
theorem dL_law_510 : decode cL_law 510 = .ok (.iinc 16 1, 3) := by decide +kernel
theorem dL_law_513 : decode cL_law 513 = .ok (.goto (-51), 3) := by decide +kernel
theorem dL_law_516 : decode cL_law 516 = .ok (.aload_n 1, 1) := by decide +kernel
theorem dL_law_517 : decode cL_law 517 = .ok (.iload 8, 2) := by decide +kernel
theorem dL_law_519 : decode cL_law 519 = .ok (.invokevirtual 137, 3) := by decide +kernel
theorem dL_law_522 : decode cL_law 522 = .ok (.istore 15, 2) := by decide +kernel
theorem dL_law_524 : decode cL_law 524 = .ok (.iload 15, 2) := by decide +kernel
theorem dL_law_526 : decode cL_law 526 = .ok (.ifCond .ge 7, 3) := by decide +kernel
theorem dL_law_529 : decode cL_law 529 = .ok (.iconst 1, 1) := by decide +kernel
theorem dL_law_530 : decode cL_law 530 = .ok (.goto 4, 3) := by decide +kernel
theorem dL_law_533 : decode cL_law 533 = .ok (.iconst 0, 1) := by decide +kernel
theorem dL_law_534 : decode cL_law 534 = .ok (.iload 11, 2) := by decide +kernel
theorem dL_law_536 : decode cL_law 536 = .ok (.iload 9, 2) := by decide +kernel
theorem dL_law_538 : decode cL_law 538 = .ok (.if_icmp .ne 7, 3) := by decide +kernel
theorem dL_law_541 : decode cL_law 541 = .ok (.iconst 1, 1) := by decide +kernel
theorem dL_law_542 : decode cL_law 542 = .ok (.goto 4, 3) := by decide +kernel
theorem dL_law_545 : decode cL_law 545 = .ok (.iconst 0, 1) := by decide +kernel
theorem dL_law_546 : decode cL_law 546 = .ok (.if_icmp .ne 28, 3) := by decide +kernel
theorem dL_law_549 : decode cL_law 549 = .ok (.iload 15, 2) := by decide +kernel
theorem dL_law_551 : decode cL_law 551 = .ok (.iload 9, 2) := by decide +kernel
theorem dL_law_553 : decode cL_law 553 = .ok (.if_icmp .ge 21, 3) := by decide +kernel
theorem dL_law_556 : decode cL_law 556 = .ok (.iload 15, 2) := by decide +kernel
theorem dL_law_558 : decode cL_law 558 = .ok (.ifCond .lt 18, 3) := by decide +kernel
theorem dL_law_561 : decode cL_law 561 = .ok (.aload_n 1, 1) := by decide +kernel
theorem dL_law_562 : decode cL_law 562 = .ok (.iload 8, 2) := by decide +kernel
theorem dL_law_564 : decode cL_law 564 = .ok (.iload 15, 2) := by decide +kernel
theorem dL_law_566 : decode cL_law 566 = .ok (.invokevirtual 106, 3) := by decide +kernel
theorem dL_law_569 : decode cL_law 569 = .ok (.bipush 30, 2) := by decide +kernel
theorem dL_law_571 : decode cL_law 571 = .ok (.if_icmp .ne 5, 3) := by decide +kernel
theorem dL_law_574 : decode cL_law 574 = .ok (.iconst 0, 1) := by decide +kernel
theorem dL_law_575 : decode cL_law 575 = .ok (.ireturn, 1) := by decide +kernel
theorem dL_law_576 : decode cL_law 576 = .ok (.iconst 0, 1) := by decide +kernel
theorem dL_law_577 : decode cL_law 577 = .ok (.istore 16, 2) := by decide +kernel
theorem dL_law_579 : decode cL_law 579 = .ok (.iload 15, 2) := by decide +kernel
theorem dL_law_581 : decode cL_law 581 = .ok (.ifCond .lt 64, 3) := by decide +kernel
theorem dL_law_584 : decode cL_law 584 = .ok (.iload 16, 2) := by decide +kernel
theorem dL_law_586 : decode cL_law 586 = .ok (.iload 9, 2) := by decide +kernel
theorem dL_law_588 : decode cL_law 588 = .ok (.if_icmp .ge 57, 3) := by decide +kernel
theorem dL_law_591 : decode cL_law 591 = .ok (.aload_n 1, 1) := by decide +kernel
theorem dL_law_592 : decode cL_law 592 = .ok (.aload_n 2, 1) := by decide +kernel
theorem dL_law_593 : decode cL_law 593 = .ok (.iload 8, 2) := by decide +kernel
theorem dL_law_595 : decode cL_law 595 = .ok (.iload 16, 2) := by decide +kernel
theorem dL_law_597 : decode cL_law 597 = .ok (.invokestatic 140, 3) := by decide +kernel
theorem dL_law_600 : decode cL_law 600 = .ok (.istore 17, 2) := by decide +kernel
theorem dL_law_602 : decode cL_law 602 = .ok (.iload 17, 2) := by decide +kernel
theorem dL_law_604 : decode cL_law 604 = .ok (.aload_n 1, 1) := by decide +kernel
theorem dL_law_605 : decode cL_law 605 = .ok (.aload_n 2, 1) := by decide +kernel
theorem dL_law_606 : decode cL_law 606 = .ok (.iload 8, 2) := by decide +kernel
theorem dL_law_608 : decode cL_law 608 = .ok (.iload 15, 2) := by decide +kernel
theorem dL_law_610 : decode cL_law 610 = .ok (.invokestatic 140, 3) := by decide +kernel
theorem dL_law_613 : decode cL_law 613 = .ok (.if_icmp .gt 24, 3) := by decide +kernel
theorem dL_law_616 : decode cL_law 616 = .ok (.iload 16, 2) := by decide +kernel
theorem dL_law_618 : decode cL_law 618 = .ok (.iload 15, 2) := by decide +kernel
theorem dL_law_620 : decode cL_law 620 = .ok (.if_icmp .ge 19, 3) := by decide +kernel
theorem dL_law_623 : decode cL_law 623 = .ok (.iload 17, 2) := by decide +kernel
theorem dL_law_625 : decode cL_law 625 = .ok (.aload_n 1, 1) := by decide +kernel
theorem dL_law_626 : decode cL_law 626 = .ok (.aload_n 2, 1) := by decide +kernel
theorem dL_law_627 : decode cL_law 627 = .ok (.iload 8, 2) := by decide +kernel
theorem dL_law_629 : decode cL_law 629 = .ok (.iload 15, 2) := by decide +kernel
theorem dL_law_631 : decode cL_law 631 = .ok (.invokestatic 140, 3) := by decide +kernel
theorem dL_law_634 : decode cL_law 634 = .ok (.if_icmp .ne 5, 3) := by decide +kernel
theorem dL_law_637 : decode cL_law 637 = .ok (.iconst 0, 1) := by decide +kernel
theorem dL_law_638 : decode cL_law 638 = .ok (.ireturn, 1) := by decide +kernel
theorem dL_law_639 : decode cL_law 639 = .ok (.iinc 16 1, 3) := by decide +kernel
theorem dL_law_642 : decode cL_law 642 = .ok (.goto (-63), 3) := by decide +kernel
theorem dL_law_645 : decode cL_law 645 = .ok (.iinc 8 1, 3) := by decide +kernel
theorem dL_law_648 : decode cL_law 648 = .ok (.goto (-554), 3) := by decide +kernel
theorem dL_law_651 : decode cL_law 651 = .ok (.iconst 1, 1) := by decide +kernel
theorem dL_law_652 : decode cL_law 652 = .ok (.istore 8, 2) := by decide +kernel
theorem dL_law_654 : decode cL_law 654 = .ok (.aload_n 1, 1) := by decide +kernel
theorem dL_law_655 : decode cL_law 655 = .ok (.invokevirtual 144, 3) := by decide +kernel
theorem dL_law_658 : decode cL_law 658 = .ok (.istore 9, 2) := by decide +kernel
theorem dL_law_660 : decode cL_law 660 = .ok (.iconst 0, 1) := by decide +kernel
theorem dL_law_661 : decode cL_law 661 = .ok (.istore 10, 2) := by decide +kernel
theorem dL_law_663 : decode cL_law 663 = .ok (.iload 10, 2) := by decide +kernel
theorem dL_law_665 : decode cL_law 665 = .ok (.aload_n 1, 1) := by decide +kernel
theorem dL_law_666 : decode cL_law 666 = .ok (.invokevirtual 147, 3) := by decide +kernel
theorem dL_law_669 : decode cL_law 669 = .ok (.if_icmp .ge 346, 3) := by decide +kernel
theorem dL_law_672 : decode cL_law 672 = .ok (.ldc2_w 149, 3) := by decide +kernel
theorem dL_law_675 : decode cL_law 675 = .ok (.iload 8, 2) := by decide +kernel
theorem dL_law_677 : decode cL_law 677 = .ok (.i2l, 1) := by decide +kernel
theorem dL_law_678 : decode cL_law 678 = .ok (.lmul, 1) := by decide +kernel
theorem dL_law_679 : decode cL_law 679 = .ok (.aload_n 1, 1) := by decide +kernel
theorem dL_law_680 : decode cL_law 680 = .ok (.iload 10, 2) := by decide +kernel
theorem dL_law_682 : decode cL_law 682 = .ok (.invokevirtual 151, 3) := by decide +kernel
theorem dL_law_685 : decode cL_law 685 = .ok (.i2l, 1) := by decide +kernel
theorem dL_law_686 : decode cL_law 686 = .ok (.ladd, 1) := by decide +kernel
theorem dL_law_687 : decode cL_law 687 = .ok (.ldc2_w 154, 3) := by decide +kernel
theorem dL_law_690 : decode cL_law 690 = .ok (.lrem, 1) := by decide +kernel
theorem dL_law_691 : decode cL_law 691 = .ok (.l2i, 1) := by decide +kernel
theorem dL_law_692 : decode cL_law 692 = .ok (.istore 8, 2) := by decide +kernel
theorem dL_law_694 : decode cL_law 694 = .ok (.aload_n 1, 1) := by decide +kernel
theorem dL_law_695 : decode cL_law 695 = .ok (.iload 10, 2) := by decide +kernel
theorem dL_law_697 : decode cL_law 697 = .ok (.invokevirtual 156, 3) := by decide +kernel
theorem dL_law_700 : decode cL_law 700 = .ok (.istore 11, 2) := by decide +kernel
theorem dL_law_702 : decode cL_law 702 = .ok (.aload_n 1, 1) := by decide +kernel
theorem dL_law_703 : decode cL_law 703 = .ok (.iload 11, 2) := by decide +kernel
theorem dL_law_705 : decode cL_law 705 = .ok (.invokevirtual 103, 3) := by decide +kernel
theorem dL_law_708 : decode cL_law 708 = .ok (.aload_n 2, 1) := by decide +kernel
theorem dL_law_709 : decode cL_law 709 = .ok (.getfield 68, 3) := by decide +kernel
theorem dL_law_712 : decode cL_law 712 = .ok (.iload 10, 2) := by decide +kernel
theorem dL_law_714 : decode cL_law 714 = .ok (.aaload, 1) := by decide +kernel
theorem dL_law_715 : decode cL_law 715 = .ok (.getfield 159, 3) := by decide +kernel
theorem dL_law_718 : decode cL_law 718 = .ok (.arraylength, 1) := by decide +kernel
theorem dL_law_719 : decode cL_law 719 = .ok (.invokestatic 42, 3) := by decide +kernel
theorem dL_law_722 : decode cL_law 722 = .ok (.iconst 4, 1) := by decide +kernel
theorem dL_law_723 : decode cL_law 723 = .ok (.iadd, 1) := by decide +kernel
theorem dL_law_724 : decode cL_law 724 = .ok (.iconst 5, 1) := by decide +kernel
theorem dL_law_725 : decode cL_law 725 = .ok (.idiv, 1) := by decide +kernel
theorem dL_law_726 : decode cL_law 726 = .ok (.istore 12, 2) := by decide +kernel
theorem dL_law_728 : decode cL_law 728 = .ok (.aload_n 1, 1) := by decide +kernel
theorem dL_law_729 : decode cL_law 729 = .ok (.iload 10, 2) := by decide +kernel
theorem dL_law_731 : decode cL_law 731 = .ok (.invokevirtual 165, 3) := by decide +kernel
theorem dL_law_734 : decode cL_law 734 = .ok (.istore 13, 2) := by decide +kernel
theorem dL_law_736 : decode cL_law 736 = .ok (.aload_n 1, 1) := by decide +kernel
theorem dL_law_737 : decode cL_law 737 = .ok (.iload 10, 2) := by decide +kernel
theorem dL_law_739 : decode cL_law 739 = .ok (.invokevirtual 168, 3) := by decide +kernel
theorem dL_law_742 : decode cL_law 742 = .ok (.istore 14, 2) := by decide +kernel
theorem dL_law_744 : decode cL_law 744 = .ok (.aload_n 1, 1) := by decide +kernel
theorem dL_law_745 : decode cL_law 745 = .ok (.iload 10, 2) := by decide +kernel
theorem dL_law_747 : decode cL_law 747 = .ok (.invokevirtual 171, 3) := by decide +kernel
theorem dL_law_750 : decode cL_law 750 = .ok (.istore 15, 2) := by decide +kernel
theorem dL_law_752 : decode cL_law 752 = .ok (.aload_n 1, 1) := by decide +kernel
theorem dL_law_753 : decode cL_law 753 = .ok (.iload 10, 2) := by decide +kernel
theorem dL_law_755 : decode cL_law 755 = .ok (.invokevirtual 174, 3) := by decide +kernel
theorem dL_law_758 : decode cL_law 758 = .ok (.iload 8, 2) := by decide +kernel
theorem dL_law_760 : decode cL_law 760 = .ok (.if_icmp .ne 95, 3) := by decide +kernel
theorem dL_law_763 : decode cL_law 763 = .ok (.iload 8, 2) := by decide +kernel
theorem dL_law_765 : decode cL_law 765 = .ok (.ifCond .lt 90, 3) := by decide +kernel
theorem dL_law_768 : decode cL_law 768 = .ok (.iload 8, 2) := by decide +kernel
theorem dL_law_770 : decode cL_law 770 = .ok (.ldc 177, 2) := by decide +kernel
theorem dL_law_772 : decode cL_law 772 = .ok (.if_icmp .gt 83, 3) := by decide +kernel
theorem dL_law_775 : decode cL_law 775 = .ok (.aload_n 1, 1) := by decide +kernel
theorem dL_law_776 : decode cL_law 776 = .ok (.iload 10, 2) := by decide +kernel
theorem dL_law_778 : decode cL_law 778 = .ok (.invokevirtual 178, 3) := by decide +kernel
theorem dL_law_781 : decode cL_law 781 = .ok (.aload_n 1, 1) := by decide +kernel
theorem dL_law_782 : decode cL_law 782 = .ok (.iload 11, 2) := by decide +kernel
theorem dL_law_784 : decode cL_law 784 = .ok (.invokevirtual 115, 3) := by decide +kernel
theorem dL_law_787 : decode cL_law 787 = .ok (.aload_n 1, 1) := by decide +kernel
theorem dL_law_788 : decode cL_law 788 = .ok (.iload 10, 2) := by decide +kernel
theorem dL_law_790 : decode cL_law 790 = .ok (.invokevirtual 151, 3) := by decide +kernel
theorem dL_law_793 : decode cL_law 793 = .ok (.if_icmp .ne 7, 3) := by decide +kernel
theorem dL_law_796 : decode cL_law 796 = .ok (.iconst 1, 1) := by decide +kernel
theorem dL_law_797 : decode cL_law 797 = .ok (.goto 4, 3) := by decide +kernel
theorem dL_law_800 : decode cL_law 800 = .ok (.iconst 0, 1) := by decide +kernel
theorem dL_law_801 : decode cL_law 801 = .ok (.if_icmp .ne 54, 3) := by decide +kernel
theorem dL_law_804 : decode cL_law 804 = .ok (.iload 10, 2) := by decide +kernel
theorem dL_law_806 : decode cL_law 806 = .ok (.iload 9, 2) := by decide +kernel
theorem dL_law_808 : decode cL_law 808 = .ok (.if_icmp .ne 12, 3) := by decide +kernel
theorem dL_law_811 : decode cL_law 811 = .ok (.aload_n 1, 1) := by decide +kernel
theorem dL_law_812 : decode cL_law 812 = .ok (.iload 10, 2) := by decide +kernel
theorem dL_law_814 : decode cL_law 814 = .ok (.invokevirtual 178, 3) := by decide +kernel
theorem dL_law_817 : decode cL_law 817 = .ok (.ifCond .ne 38, 3) := by decide +kernel
theorem dL_law_820 : decode cL_law 820 = .ok (.iload 9, 2) := by decide +kernel
theorem dL_law_822 : decode cL_law 822 = .ok (.ifCond .lt 10, 3) := by decide +kernel
theorem dL_law_825 : decode cL_law 825 = .ok (.iload 10, 2) := by decide +kernel
theorem dL_law_827 : decode cL_law 827 = .ok (.iload 9, 2) := by decide +kernel
theorem dL_law_829 : decode cL_law 829 = .ok (.if_icmp .ge 12, 3) := by decide +kernel
theorem dL_law_832 : decode cL_law 832 = .ok (.aload_n 1, 1) := by decide +kernel
theorem dL_law_833 : decode cL_law 833 = .ok (.iload 10, 2) := by decide +kernel
theorem dL_law_835 : decode cL_law 835 = .ok (.invokevirtual 178, 3) := by decide +kernel
theorem dL_law_838 : decode cL_law 838 = .ok (.ifCond .eq 17, 3) := by decide +kernel
theorem dL_law_841 : decode cL_law 841 = .ok (.aload_n 1, 1) := by decide +kernel
theorem dL_law_842 : decode cL_law 842 = .ok (.iload 10, 2) := by decide +kernel
theorem dL_law_844 : decode cL_law 844 = .ok (.invokevirtual 178, 3) := by decide +kernel
theorem dL_law_847 : decode cL_law 847 = .ok (.ifCond .eq 10, 3) := by decide +kernel
theorem dL_law_850 : decode cL_law 850 = .ok (.iload 13, 2) := by decide +kernel
theorem dL_law_852 : decode cL_law 852 = .ok (.ifCond .lt 5, 3) := by decide +kernel
theorem dL_law_855 : decode cL_law 855 = .ok (.iconst 0, 1) := by decide +kernel
theorem dL_law_856 : decode cL_law 856 = .ok (.ireturn, 1) := by decide +kernel
theorem dL_law_857 : decode cL_law 857 = .ok (.iload 14, 2) := by decide +kernel
theorem dL_law_859 : decode cL_law 859 = .ok (.ifCond .lt 55, 3) := by decide +kernel
theorem dL_law_862 : decode cL_law 862 = .ok (.iload 14, 2) := by decide +kernel
theorem dL_law_864 : decode cL_law 864 = .ok (.iload 12, 2) := by decide +kernel
theorem dL_law_866 : decode cL_law 866 = .ok (.if_icmp .gt 48, 3) := by decide +kernel
theorem dL_law_869 : decode cL_law 869 = .ok (.iload 14, 2) := by decide +kernel
theorem dL_law_871 : decode cL_law 871 = .ok (.ifCond .ne 7, 3) := by decide +kernel
theorem dL_law_874 : decode cL_law 874 = .ok (.iconst 1, 1) := by decide +kernel
theorem dL_law_875 : decode cL_law 875 = .ok (.goto 4, 3) := by decide +kernel
theorem dL_law_878 : decode cL_law 878 = .ok (.iconst 0, 1) := by decide +kernel
theorem dL_law_879 : decode cL_law 879 = .ok (.iload 15, 2) := by decide +kernel
theorem dL_law_881 : decode cL_law 881 = .ok (.ifCond .ge 7, 3) := by decide +kernel
theorem dL_law_884 : decode cL_law 884 = .ok (.iconst 1, 1) := by decide +kernel
theorem dL_law_885 : decode cL_law 885 = .ok (.goto 4, 3) := by decide +kernel
theorem dL_law_888 : decode cL_law 888 = .ok (.iconst 0, 1) := by decide +kernel
theorem dL_law_889 : decode cL_law 889 = .ok (.if_icmp .ne 25, 3) := by decide +kernel
theorem dL_law_892 : decode cL_law 892 = .ok (.iload 15, 2) := by decide +kernel
theorem dL_law_894 : decode cL_law 894 = .ok (.iload 12, 2) := by decide +kernel
theorem dL_law_896 : decode cL_law 896 = .ok (.if_icmp .ge 18, 3) := by decide +kernel
theorem dL_law_899 : decode cL_law 899 = .ok (.iload 15, 2) := by decide +kernel
theorem dL_law_901 : decode cL_law 901 = .ok (.ifCond .lt 15, 3) := by decide +kernel
theorem dL_law_904 : decode cL_law 904 = .ok (.iload 14, 2) := by decide +kernel
theorem dL_law_906 : decode cL_law 906 = .ok (.iload 12, 2) := by decide +kernel
theorem dL_law_908 : decode cL_law 908 = .ok (.iload 15, 2) := by decide +kernel
theorem dL_law_910 : decode cL_law 910 = .ok (.isub, 1) := by decide +kernel
theorem dL_law_911 : decode cL_law 911 = .ok (.if_icmp .le 5, 3) := by decide +kernel
theorem dL_law_914 : decode cL_law 914 = .ok (.iconst 0, 1) := by decide +kernel
theorem dL_law_915 : decode cL_law 915 = .ok (.ireturn, 1) := by decide +kernel
theorem dL_law_916 : decode cL_law 916 = .ok (.iload 13, 2) := by decide +kernel
theorem dL_law_918 : decode cL_law 918 = .ok (.ifCond .ge 6, 3) := by decide +kernel
theorem dL_law_921 : decode cL_law 921 = .ok (.goto 88, 3) := by decide +kernel
theorem dL_law_924 : decode cL_law 924 = .ok (.aload_n 2, 1) := by decide +kernel
theorem dL_law_925 : decode cL_law 925 = .ok (.getfield 9, 3) := by decide +kernel
theorem dL_law_928 : decode cL_law 928 = .ok (.iload 11, 2) := by decide +kernel
theorem dL_law_930 : decode cL_law 930 = .ok (.aaload, 1) := by decide +kernel
theorem dL_law_931 : decode cL_law 931 = .ok (.iload 13, 2) := by decide +kernel
theorem dL_law_933 : decode cL_law 933 = .ok (.aload_n 1, 1) := by decide +kernel
theorem dL_law_934 : decode cL_law 934 = .ok (.iload 10, 2) := by decide +kernel
theorem dL_law_936 : decode cL_law 936 = .ok (.invokevirtual 182, 3) := by decide +kernel
theorem dL_law_939 : decode cL_law 939 = .ok (.invokestatic 50, 3) := by decide +kernel
theorem dL_law_942 : decode cL_law 942 = .ok (.astore 16, 2) := by decide +kernel
theorem dL_law_944 : decode cL_law 944 = .ok (.aload 16, 2) := by decide +kernel
theorem dL_law_946 : decode cL_law 946 = .ok (.iconst 0, 1) := by decide +kernel
theorem dL_law_947 : decode cL_law 947 = .ok (.invokestatic 185, 3) := by decide +kernel
theorem dL_law_950 : decode cL_law 950 = .ok (.aload_n 2, 1) := by decide +kernel
theorem dL_law_951 : decode cL_law 951 = .ok (.getfield 68, 3) := by decide +kernel
theorem dL_law_954 : decode cL_law 954 = .ok (.iload 10, 2) := by decide +kernel
theorem dL_law_956 : decode cL_law 956 = .ok (.aaload, 1) := by decide +kernel
theorem dL_law_957 : decode cL_law 957 = .ok (.getfield 159, 3) := by decide +kernel
theorem dL_law_960 : decode cL_law 960 = .ok (.iconst 0, 1) := by decide +kernel
theorem dL_law_961 : decode cL_law 961 = .ok (.invokestatic 185, 3) := by decide +kernel
theorem dL_law_964 : decode cL_law 964 = .ok (.if_icmp .ne 43, 3) := by decide +kernel
theorem dL_law_967 : decode cL_law 967 = .ok (.aload 16, 2) := by decide +kernel
theorem dL_law_969 : decode cL_law 969 = .ok (.iconst 1, 1) := by decide +kernel
theorem dL_law_970 : decode cL_law 970 = .ok (.invokestatic 185, 3) := by decide +kernel
theorem dL_law_973 : decode cL_law 973 = .ok (.aload_n 2, 1) := by decide +kernel
theorem dL_law_974 : decode cL_law 974 = .ok (.getfield 68, 3) := by decide +kernel
theorem dL_law_977 : decode cL_law 977 = .ok (.iload 10, 2) := by decide +kernel
theorem dL_law_979 : decode cL_law 979 = .ok (.aaload, 1) := by decide +kernel
theorem dL_law_980 : decode cL_law 980 = .ok (.getfield 159, 3) := by decide +kernel
theorem dL_law_983 : decode cL_law 983 = .ok (.iconst 1, 1) := by decide +kernel
theorem dL_law_984 : decode cL_law 984 = .ok (.invokestatic 185, 3) := by decide +kernel
theorem dL_law_987 : decode cL_law 987 = .ok (.if_icmp .ne 20, 3) := by decide +kernel
theorem dL_law_990 : decode cL_law 990 = .ok (.aload_n 1, 1) := by decide +kernel
theorem dL_law_991 : decode cL_law 991 = .ok (.iload 10, 2) := by decide +kernel
theorem dL_law_993 : decode cL_law 993 = .ok (.invokevirtual 182, 3) := by decide +kernel
theorem dL_law_996 : decode cL_law 996 = .ok (.aload_n 1, 1) := by decide +kernel
theorem dL_law_997 : decode cL_law 997 = .ok (.iload 11, 2) := by decide +kernel
theorem dL_law_999 : decode cL_law 999 = .ok (.iload 13, 2) := by decide +kernel
theorem dL_law_1001 : decode cL_law 1001 = .ok (.invokevirtual 106, 3) := by decide +kernel
theorem dL_law_1004 : decode cL_law 1004 = .ok (.if_icmp .ne 5, 3) := by decide +kernel
theorem dL_law_1007 : decode cL_law 1007 = .ok (.iconst 0, 1) := by decide +kernel
theorem dL_law_1008 : decode cL_law 1008 = .ok (.ireturn, 1) := by decide +kernel
theorem dL_law_1009 : decode cL_law 1009 = .ok (.iinc 10 1, 3) := by decide +kernel
theorem dL_law_1012 : decode cL_law 1012 = .ok (.goto (-349), 3) := by decide +kernel
theorem dL_law_1015 : decode cL_law 1015 = .ok (.aload_n 1, 1) := by decide +kernel
theorem dL_law_1016 : decode cL_law 1016 = .ok (.invokevirtual 97, 3) := by decide +kernel
theorem dL_law_1019 : decode cL_law 1019 = .ok (.lload 5, 2) := by decide +kernel
theorem dL_law_1021 : decode cL_law 1021 = .ok (.lcmp, 1) := by decide +kernel
theorem dL_law_1022 : decode cL_law 1022 = .ok (.ifCond .eq 5, 3) := by decide +kernel
theorem dL_law_1025 : decode cL_law 1025 = .ok (.iconst 0, 1) := by decide +kernel
theorem dL_law_1026 : decode cL_law 1026 = .ok (.ireturn, 1) := by decide +kernel
theorem dL_law_1027 : decode cL_law 1027 = .ok (.iinc 3 1, 3) := by decide +kernel
theorem dL_law_1030 : decode cL_law 1030 = .ok (.goto (-1008), 3) := by decide +kernel
theorem dL_law_1033 : decode cL_law 1033 = .ok (.aload_n 2, 1) := by decide +kernel
theorem dL_law_1034 : decode cL_law 1034 = .ok (.aload_n 1, 1) := by decide +kernel
theorem dL_law_1035 : decode cL_law 1035 = .ok (.invokevirtual 189, 3) := by decide +kernel
theorem dL_law_1038 : decode cL_law 1038 = .ok (.ireturn, 1) := by decide +kernel
theorem dL_torn_0 : decode cL_torn 0 = .ok (.aload_n 0, 1) := by decide +kernel
theorem dL_torn_1 : decode cL_torn 1 = .ok (.iload_n 2, 1) := by decide +kernel
theorem dL_torn_2 : decode cL_torn 2 = .ok (.iload_n 3, 1) := by decide +kernel
theorem dL_torn_3 : decode cL_torn 3 = .ok (.invokevirtual 106, 3) := by decide +kernel
theorem dL_torn_6 : decode cL_torn 6 = .ok (.bipush 30, 2) := by decide +kernel
theorem dL_torn_8 : decode cL_torn 8 = .ok (.if_icmp .ne 5, 3) := by decide +kernel
theorem dL_torn_11 : decode cL_torn 11 = .ok (.iconst (-1), 1) := by decide +kernel
theorem dL_torn_12 : decode cL_torn 12 = .ok (.ireturn, 1) := by decide +kernel
theorem dL_torn_13 : decode cL_torn 13 = .ok (.aload_n 1, 1) := by decide +kernel
theorem dL_torn_14 : decode cL_torn 14 = .ok (.getfield 9, 3) := by decide +kernel
theorem dL_torn_17 : decode cL_torn 17 = .ok (.iload_n 2, 1) := by decide +kernel
theorem dL_torn_18 : decode cL_torn 18 = .ok (.aaload, 1) := by decide +kernel
theorem dL_torn_19 : decode cL_torn 19 = .ok (.iload_n 3, 1) := by decide +kernel
theorem dL_torn_20 : decode cL_torn 20 = .ok (.bipush 30, 2) := by decide +kernel
theorem dL_torn_22 : decode cL_torn 22 = .ok (.invokestatic 50, 3) := by decide +kernel
theorem dL_torn_25 : decode cL_torn 25 = .ok (.invokestatic 193, 3) := by decide +kernel
theorem dL_torn_28 : decode cL_torn 28 = .ok (.aload_n 0, 1) := by decide +kernel
theorem dL_torn_29 : decode cL_torn 29 = .ok (.iload_n 2, 1) := by decide +kernel
theorem dL_torn_30 : decode cL_torn 30 = .ok (.invokevirtual 115, 3) := by decide +kernel
theorem dL_torn_33 : decode cL_torn 33 = .ok (.isub, 1) := by decide +kernel
theorem dL_torn_34 : decode cL_torn 34 = .ok (.istore 4, 2) := by decide +kernel
theorem dL_torn_36 : decode cL_torn 36 = .ok (.iload 4, 2) := by decide +kernel
theorem dL_torn_38 : decode cL_torn 38 = .ok (.ifCond .ge 9, 3) := by decide +kernel
theorem dL_torn_41 : decode cL_torn 41 = .ok (.iload 4, 2) := by decide +kernel
theorem dL_torn_43 : decode cL_torn 43 = .ok (.ineg, 1) := by decide +kernel
theorem dL_torn_44 : decode cL_torn 44 = .ok (.goto 5, 3) := by decide +kernel
theorem dL_torn_47 : decode cL_torn 47 = .ok (.iload 4, 2) := by decide +kernel
theorem dL_torn_49 : decode cL_torn 49 = .ok (.ireturn, 1) := by decide +kernel
