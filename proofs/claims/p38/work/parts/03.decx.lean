theorem dX0_init_0 : decode cX0_init 0 = .ok (.aload_n 0, 1) := by decide +kernel
theorem dX0_init_1 : decode cX0_init 1 = .ok (.invokespecial 3, 3) := by decide +kernel
theorem dX0_init_4 : decode cX0_init 4 = .ok (.aload_n 0, 1) := by decide +kernel
theorem dX0_init_5 : decode cX0_init 5 = .ok (.bipush 8, 2) := by decide +kernel
theorem dX0_init_7 : decode cX0_init 7 = .ok (.newarray .int, 2) := by decide +kernel
theorem dX0_init_9 : decode cX0_init 9 = .ok (.putfield 9, 3) := by decide +kernel
theorem dX0_init_12 : decode cX0_init 12 = .ok (.return_, 1) := by decide +kernel
theorem dX0_fill_0 : decode cX0_fill 0 = .ok (.aload_n 0, 1) := by decide +kernel
theorem dX0_fill_1 : decode cX0_fill 1 = .ok (.iload_n 1, 1) := by decide +kernel
theorem dX0_fill_2 : decode cX0_fill 2 = .ok (.putfield 15, 3) := by decide +kernel
theorem dX0_fill_5 : decode cX0_fill 5 = .ok (.aload_n 0, 1) := by decide +kernel
theorem dX0_fill_6 : decode cX0_fill 6 = .ok (.aload_n 2, 1) := by decide +kernel
theorem dX0_fill_7 : decode cX0_fill 7 = .ok (.invokevirtual 19, 3) := by decide +kernel
theorem dX0_fill_10 : decode cX0_fill 10 = .ok (.putfield 25, 3) := by decide +kernel
theorem dX0_fill_13 : decode cX0_fill 13 = .ok (.aload_n 0, 1) := by decide +kernel
theorem dX0_fill_14 : decode cX0_fill 14 = .ok (.aload_n 2, 1) := by decide +kernel
theorem dX0_fill_15 : decode cX0_fill 15 = .ok (.getfield 28, 3) := by decide +kernel
theorem dX0_fill_18 : decode cX0_fill 18 = .ok (.putfield 31, 3) := by decide +kernel
theorem dX0_fill_21 : decode cX0_fill 21 = .ok (.aload_n 0, 1) := by decide +kernel
theorem dX0_fill_22 : decode cX0_fill 22 = .ok (.aload_n 2, 1) := by decide +kernel
theorem dX0_fill_23 : decode cX0_fill 23 = .ok (.invokevirtual 34, 3) := by decide +kernel
theorem dX0_fill_26 : decode cX0_fill 26 = .ok (.putfield 37, 3) := by decide +kernel
theorem dX0_fill_29 : decode cX0_fill 29 = .ok (.iconst 0, 1) := by decide +kernel
theorem dX0_fill_30 : decode cX0_fill 30 = .ok (.istore 4, 2) := by decide +kernel
theorem dX0_fill_32 : decode cX0_fill 32 = .ok (.iload 4, 2) := by decide +kernel
theorem dX0_fill_34 : decode cX0_fill 34 = .ok (.aload_n 0, 1) := by decide +kernel
theorem dX0_fill_35 : decode cX0_fill 35 = .ok (.getfield 37, 3) := by decide +kernel
theorem dX0_fill_38 : decode cX0_fill 38 = .ok (.if_icmp .ge 22, 3) := by decide +kernel
theorem dX0_fill_41 : decode cX0_fill 41 = .ok (.aload_n 0, 1) := by decide +kernel
theorem dX0_fill_42 : decode cX0_fill 42 = .ok (.getfield 9, 3) := by decide +kernel
theorem dX0_fill_45 : decode cX0_fill 45 = .ok (.iload 4, 2) := by decide +kernel
theorem dX0_fill_47 : decode cX0_fill 47 = .ok (.aload_n 2, 1) := by decide +kernel
theorem dX0_fill_48 : decode cX0_fill 48 = .ok (.iload 4, 2) := by decide +kernel
theorem dX0_fill_50 : decode cX0_fill 50 = .ok (.invokevirtual 39, 3) := by decide +kernel
theorem dX0_fill_53 : decode cX0_fill 53 = .ok (.iastore, 1) := by decide +kernel
theorem dX0_fill_54 : decode cX0_fill 54 = .ok (.iinc 4 1, 3) := by decide +kernel
theorem dX0_fill_57 : decode cX0_fill 57 = .ok (.goto (-25), 3) := by decide +kernel
theorem dX0_fill_60 : decode cX0_fill 60 = .ok (.aload_n 0, 1) := by decide +kernel
theorem dX0_fill_61 : decode cX0_fill 61 = .ok (.aload_n 2, 1) := by decide +kernel
theorem dX0_fill_62 : decode cX0_fill 62 = .ok (.invokevirtual 43, 3) := by decide +kernel
theorem dX0_fill_65 : decode cX0_fill 65 = .ok (.putfield 46, 3) := by decide +kernel
theorem dX0_fill_68 : decode cX0_fill 68 = .ok (.aload_n 0, 1) := by decide +kernel
theorem dX0_fill_69 : decode cX0_fill 69 = .ok (.aload_n 2, 1) := by decide +kernel
theorem dX0_fill_70 : decode cX0_fill 70 = .ok (.invokevirtual 48, 3) := by decide +kernel
theorem dX0_fill_73 : decode cX0_fill 73 = .ok (.putfield 51, 3) := by decide +kernel
theorem dX0_fill_76 : decode cX0_fill 76 = .ok (.aload_n 0, 1) := by decide +kernel
theorem dX0_fill_77 : decode cX0_fill 77 = .ok (.iload_n 3, 1) := by decide +kernel
theorem dX0_fill_78 : decode cX0_fill 78 = .ok (.aload_n 0, 1) := by decide +kernel
theorem dX0_fill_79 : decode cX0_fill 79 = .ok (.getfield 25, 3) := by decide +kernel
theorem dX0_fill_82 : decode cX0_fill 82 = .ok (.invokestatic 53, 3) := by decide +kernel
theorem dX0_fill_85 : decode cX0_fill 85 = .ok (.putfield 57, 3) := by decide +kernel
theorem dX0_fill_88 : decode cX0_fill 88 = .ok (.return_, 1) := by decide +kernel
theorem dX0_fits_0 : decode cX0_fits 0 = .ok (.aload_n 1, 1) := by decide +kernel
theorem dX0_fits_1 : decode cX0_fits 1 = .ok (.invokevirtual 19, 3) := by decide +kernel
theorem dX0_fits_4 : decode cX0_fits 4 = .ok (.aload_n 0, 1) := by decide +kernel
theorem dX0_fits_5 : decode cX0_fits 5 = .ok (.getfield 25, 3) := by decide +kernel
theorem dX0_fits_8 : decode cX0_fits 8 = .ok (.if_icmp .ne 7, 3) := by decide +kernel
theorem dX0_fits_11 : decode cX0_fits 11 = .ok (.iconst 1, 1) := by decide +kernel
theorem dX0_fits_12 : decode cX0_fits 12 = .ok (.goto 4, 3) := by decide +kernel
theorem dX0_fits_15 : decode cX0_fits 15 = .ok (.iconst 0, 1) := by decide +kernel
theorem dX0_fits_16 : decode cX0_fits 16 = .ok (.ireturn, 1) := by decide +kernel
theorem dX0_tornBlockCount_0 : decode cX0_tornBlockCount 0 = .ok (.iconst 0, 1) := by decide +kernel
theorem dX0_tornBlockCount_1 : decode cX0_tornBlockCount 1 = .ok (.istore_n 2, 1) := by decide +kernel
theorem dX0_tornBlockCount_2 : decode cX0_tornBlockCount 2 = .ok (.iconst 0, 1) := by decide +kernel
theorem dX0_tornBlockCount_3 : decode cX0_tornBlockCount 3 = .ok (.istore_n 3, 1) := by decide +kernel
theorem dX0_tornBlockCount_4 : decode cX0_tornBlockCount 4 = .ok (.iload_n 3, 1) := by decide +kernel
theorem dX0_tornBlockCount_5 : decode cX0_tornBlockCount 5 = .ok (.bipush 8, 2) := by decide +kernel
theorem dX0_tornBlockCount_7 : decode cX0_tornBlockCount 7 = .ok (.if_icmp .ge 21, 3) := by decide +kernel
theorem dX0_tornBlockCount_10 : decode cX0_tornBlockCount 10 = .ok (.aload_n 0, 1) := by decide +kernel
theorem dX0_tornBlockCount_11 : decode cX0_tornBlockCount 11 = .ok (.aload_n 1, 1) := by decide +kernel
theorem dX0_tornBlockCount_12 : decode cX0_tornBlockCount 12 = .ok (.iload_n 3, 1) := by decide +kernel
theorem dX0_tornBlockCount_13 : decode cX0_tornBlockCount 13 = .ok (.invokevirtual 60, 3) := by decide +kernel
theorem dX0_tornBlockCount_16 : decode cX0_tornBlockCount 16 = .ok (.ifCond .eq 6, 3) := by decide +kernel
theorem dX0_tornBlockCount_19 : decode cX0_tornBlockCount 19 = .ok (.iinc 2 1, 3) := by decide +kernel
theorem dX0_tornBlockCount_22 : decode cX0_tornBlockCount 22 = .ok (.iinc 3 1, 3) := by decide +kernel
theorem dX0_tornBlockCount_25 : decode cX0_tornBlockCount 25 = .ok (.goto (-21), 3) := by decide +kernel
theorem dX0_tornBlockCount_28 : decode cX0_tornBlockCount 28 = .ok (.iload_n 2, 1) := by decide +kernel
theorem dX0_tornBlockCount_29 : decode cX0_tornBlockCount 29 = .ok (.ireturn, 1) := by decide +kernel
theorem dX0_firstTornBlock_0 : decode cX0_firstTornBlock 0 = .ok (.iconst 0, 1) := by decide +kernel
theorem dX0_firstTornBlock_1 : decode cX0_firstTornBlock 1 = .ok (.istore_n 2, 1) := by decide +kernel
theorem dX0_firstTornBlock_2 : decode cX0_firstTornBlock 2 = .ok (.iload_n 2, 1) := by decide +kernel
theorem dX0_firstTornBlock_3 : decode cX0_firstTornBlock 3 = .ok (.bipush 8, 2) := by decide +kernel
theorem dX0_firstTornBlock_5 : decode cX0_firstTornBlock 5 = .ok (.if_icmp .ge 20, 3) := by decide +kernel
theorem dX0_firstTornBlock_8 : decode cX0_firstTornBlock 8 = .ok (.aload_n 0, 1) := by decide +kernel
theorem dX0_firstTornBlock_9 : decode cX0_firstTornBlock 9 = .ok (.aload_n 1, 1) := by decide +kernel
theorem dX0_firstTornBlock_10 : decode cX0_firstTornBlock 10 = .ok (.iload_n 2, 1) := by decide +kernel
theorem dX0_firstTornBlock_11 : decode cX0_firstTornBlock 11 = .ok (.invokevirtual 60, 3) := by decide +kernel
theorem dX0_firstTornBlock_14 : decode cX0_firstTornBlock 14 = .ok (.ifCond .eq 5, 3) := by decide +kernel
theorem dX0_firstTornBlock_17 : decode cX0_firstTornBlock 17 = .ok (.iload_n 2, 1) := by decide +kernel
theorem dX0_firstTornBlock_18 : decode cX0_firstTornBlock 18 = .ok (.ireturn, 1) := by decide +kernel
theorem dX0_firstTornBlock_19 : decode cX0_firstTornBlock 19 = .ok (.iinc 2 1, 3) := by decide +kernel
theorem dX0_firstTornBlock_22 : decode cX0_firstTornBlock 22 = .ok (.goto (-20), 3) := by decide +kernel
theorem dX0_firstTornBlock_25 : decode cX0_firstTornBlock 25 = .ok (.iconst (-1), 1) := by decide +kernel
theorem dX0_firstTornBlock_26 : decode cX0_firstTornBlock 26 = .ok (.ireturn, 1) := by decide +kernel
theorem dX0_isTorn_0 : decode cX0_isTorn 0 = .ok (.iload_n 2, 1) := by decide +kernel
theorem dX0_isTorn_1 : decode cX0_isTorn 1 = .ok (.aload_n 0, 1) := by decide +kernel
theorem dX0_isTorn_2 : decode cX0_isTorn 2 = .ok (.getfield 37, 3) := by decide +kernel
theorem dX0_isTorn_5 : decode cX0_isTorn 5 = .ok (.if_icmp .ge 7, 3) := by decide +kernel
theorem dX0_isTorn_8 : decode cX0_isTorn 8 = .ok (.iconst 1, 1) := by decide +kernel
theorem dX0_isTorn_9 : decode cX0_isTorn 9 = .ok (.goto 4, 3) := by decide +kernel
theorem dX0_isTorn_12 : decode cX0_isTorn 12 = .ok (.iconst 0, 1) := by decide +kernel
theorem dX0_isTorn_13 : decode cX0_isTorn 13 = .ok (.istore_n 3, 1) := by decide +kernel
theorem dX0_isTorn_14 : decode cX0_isTorn 14 = .ok (.iload_n 2, 1) := by decide +kernel
theorem dX0_isTorn_15 : decode cX0_isTorn 15 = .ok (.aload_n 1, 1) := by decide +kernel
theorem dX0_isTorn_16 : decode cX0_isTorn 16 = .ok (.invokevirtual 34, 3) := by decide +kernel
theorem dX0_isTorn_19 : decode cX0_isTorn 19 = .ok (.if_icmp .ge 7, 3) := by decide +kernel
theorem dX0_isTorn_22 : decode cX0_isTorn 22 = .ok (.iconst 1, 1) := by decide +kernel
theorem dX0_isTorn_23 : decode cX0_isTorn 23 = .ok (.goto 4, 3) := by decide +kernel
theorem dX0_isTorn_26 : decode cX0_isTorn 26 = .ok (.iconst 0, 1) := by decide +kernel
theorem dX0_isTorn_27 : decode cX0_isTorn 27 = .ok (.istore 4, 2) := by decide +kernel
theorem dX0_isTorn_29 : decode cX0_isTorn 29 = .ok (.iload_n 3, 1) := by decide +kernel
theorem dX0_isTorn_30 : decode cX0_isTorn 30 = .ok (.iload 4, 2) := by decide +kernel
theorem dX0_isTorn_32 : decode cX0_isTorn 32 = .ok (.if_icmp .eq 5, 3) := by decide +kernel
theorem dX0_isTorn_35 : decode cX0_isTorn 35 = .ok (.iconst 1, 1) := by decide +kernel
theorem dX0_isTorn_36 : decode cX0_isTorn 36 = .ok (.ireturn, 1) := by decide +kernel
theorem dX0_isTorn_37 : decode cX0_isTorn 37 = .ok (.iload 4, 2) := by decide +kernel
theorem dX0_isTorn_39 : decode cX0_isTorn 39 = .ok (.ifCond .eq 21, 3) := by decide +kernel
theorem dX0_isTorn_42 : decode cX0_isTorn 42 = .ok (.aload_n 1, 1) := by decide +kernel
theorem dX0_isTorn_43 : decode cX0_isTorn 43 = .ok (.iload_n 2, 1) := by decide +kernel
theorem dX0_isTorn_44 : decode cX0_isTorn 44 = .ok (.invokevirtual 39, 3) := by decide +kernel
theorem dX0_isTorn_47 : decode cX0_isTorn 47 = .ok (.aload_n 0, 1) := by decide +kernel
theorem dX0_isTorn_48 : decode cX0_isTorn 48 = .ok (.getfield 9, 3) := by decide +kernel
theorem dX0_isTorn_51 : decode cX0_isTorn 51 = .ok (.iload_n 2, 1) := by decide +kernel
theorem dX0_isTorn_52 : decode cX0_isTorn 52 = .ok (.iaload, 1) := by decide +kernel
theorem dX0_isTorn_53 : decode cX0_isTorn 53 = .ok (.if_icmp .eq 7, 3) := by decide +kernel
theorem dX0_isTorn_56 : decode cX0_isTorn 56 = .ok (.iconst 1, 1) := by decide +kernel
theorem dX0_isTorn_57 : decode cX0_isTorn 57 = .ok (.goto 4, 3) := by decide +kernel
theorem dX0_isTorn_60 : decode cX0_isTorn 60 = .ok (.iconst 0, 1) := by decide +kernel
theorem dX0_isTorn_61 : decode cX0_isTorn 61 = .ok (.ireturn, 1) := by decide +kernel
theorem dX0_lostInSum_0 : decode cX0_lostInSum 0 = .ok (.aload_n 0, 1) := by decide +kernel
theorem dX0_lostInSum_1 : decode cX0_lostInSum 1 = .ok (.getfield 46, 3) := by decide +kernel
theorem dX0_lostInSum_4 : decode cX0_lostInSum 4 = .ok (.aload_n 1, 1) := by decide +kernel
theorem dX0_lostInSum_5 : decode cX0_lostInSum 5 = .ok (.invokevirtual 43, 3) := by decide +kernel
theorem dX0_lostInSum_8 : decode cX0_lostInSum 8 = .ok (.isub, 1) := by decide +kernel
theorem dX0_lostInSum_9 : decode cX0_lostInSum 9 = .ok (.ireturn, 1) := by decide +kernel
theorem dX0_placeOfChange_0 : decode cX0_placeOfChange 0 = .ok (.aload_n 0, 1) := by decide +kernel
theorem dX0_placeOfChange_1 : decode cX0_placeOfChange 1 = .ok (.aload_n 1, 1) := by decide +kernel
theorem dX0_placeOfChange_2 : decode cX0_placeOfChange 2 = .ok (.invokevirtual 64, 3) := by decide +kernel
theorem dX0_placeOfChange_5 : decode cX0_placeOfChange 5 = .ok (.istore_n 2, 1) := by decide +kernel
theorem dX0_placeOfChange_6 : decode cX0_placeOfChange 6 = .ok (.aload_n 0, 1) := by decide +kernel
theorem dX0_placeOfChange_7 : decode cX0_placeOfChange 7 = .ok (.aload_n 1, 1) := by decide +kernel
theorem dX0_placeOfChange_8 : decode cX0_placeOfChange 8 = .ok (.invokevirtual 68, 3) := by decide +kernel
theorem dX0_placeOfChange_11 : decode cX0_placeOfChange 11 = .ok (.ifCond .ne 18, 3) := by decide +kernel
theorem dX0_placeOfChange_14 : decode cX0_placeOfChange 14 = .ok (.aload_n 1, 1) := by decide +kernel
theorem dX0_placeOfChange_15 : decode cX0_placeOfChange 15 = .ok (.getfield 28, 3) := by decide +kernel
theorem dX0_placeOfChange_18 : decode cX0_placeOfChange 18 = .ok (.aload_n 0, 1) := by decide +kernel
theorem dX0_placeOfChange_19 : decode cX0_placeOfChange 19 = .ok (.getfield 31, 3) := by decide +kernel
theorem dX0_placeOfChange_22 : decode cX0_placeOfChange 22 = .ok (.if_icmp .ne 7, 3) := by decide +kernel
theorem dX0_placeOfChange_25 : decode cX0_placeOfChange 25 = .ok (.iload_n 2, 1) := by decide +kernel
theorem dX0_placeOfChange_26 : decode cX0_placeOfChange 26 = .ok (.ifCond .ne 5, 3) := by decide +kernel
theorem dX0_placeOfChange_29 : decode cX0_placeOfChange 29 = .ok (.iconst (-1), 1) := by decide +kernel
theorem dX0_placeOfChange_30 : decode cX0_placeOfChange 30 = .ok (.ireturn, 1) := by decide +kernel
theorem dX0_placeOfChange_31 : decode cX0_placeOfChange 31 = .ok (.aload_n 0, 1) := by decide +kernel
theorem dX0_placeOfChange_32 : decode cX0_placeOfChange 32 = .ok (.getfield 51, 3) := by decide +kernel
theorem dX0_placeOfChange_35 : decode cX0_placeOfChange 35 = .ok (.aload_n 1, 1) := by decide +kernel
theorem dX0_placeOfChange_36 : decode cX0_placeOfChange 36 = .ok (.invokevirtual 48, 3) := by decide +kernel
theorem dX0_placeOfChange_39 : decode cX0_placeOfChange 39 = .ok (.isub, 1) := by decide +kernel
theorem dX0_placeOfChange_40 : decode cX0_placeOfChange 40 = .ok (.istore_n 3, 1) := by decide +kernel
theorem dX0_placeOfChange_41 : decode cX0_placeOfChange 41 = .ok (.iconst 0, 1) := by decide +kernel
theorem dX0_placeOfChange_42 : decode cX0_placeOfChange 42 = .ok (.istore 4, 2) := by decide +kernel
theorem dX0_placeOfChange_44 : decode cX0_placeOfChange 44 = .ok (.iload 4, 2) := by decide +kernel
theorem dX0_placeOfChange_46 : decode cX0_placeOfChange 46 = .ok (.aload_n 1, 1) := by decide +kernel
theorem dX0_placeOfChange_47 : decode cX0_placeOfChange 47 = .ok (.getfield 28, 3) := by decide +kernel
theorem dX0_placeOfChange_50 : decode cX0_placeOfChange 50 = .ok (.if_icmp .ge 45, 3) := by decide +kernel
theorem dX0_placeOfChange_53 : decode cX0_placeOfChange 53 = .ok (.aload_n 1, 1) := by decide +kernel
theorem dX0_placeOfChange_54 : decode cX0_placeOfChange 54 = .ok (.getfield 72, 3) := by decide +kernel
theorem dX0_placeOfChange_57 : decode cX0_placeOfChange 57 = .ok (.iload 4, 2) := by decide +kernel
theorem dX0_placeOfChange_59 : decode cX0_placeOfChange 59 = .ok (.iaload, 1) := by decide +kernel
theorem dX0_placeOfChange_60 : decode cX0_placeOfChange 60 = .ok (.iload_n 2, 1) := by decide +kernel
theorem dX0_placeOfChange_61 : decode cX0_placeOfChange 61 = .ok (.iadd, 1) := by decide +kernel
theorem dX0_placeOfChange_62 : decode cX0_placeOfChange 62 = .ok (.istore 5, 2) := by decide +kernel
theorem dX0_placeOfChange_64 : decode cX0_placeOfChange 64 = .ok (.iload 5, 2) := by decide +kernel
theorem dX0_placeOfChange_66 : decode cX0_placeOfChange 66 = .ok (.ifCond .lt 23, 3) := by decide +kernel
theorem dX0_placeOfChange_69 : decode cX0_placeOfChange 69 = .ok (.iload 5, 2) := by decide +kernel
theorem dX0_placeOfChange_71 : decode cX0_placeOfChange 71 = .ok (.bipush 30, 2) := by decide +kernel
theorem dX0_placeOfChange_73 : decode cX0_placeOfChange 73 = .ok (.if_icmp .gt 16, 3) := by decide +kernel
theorem dX0_placeOfChange_76 : decode cX0_placeOfChange 76 = .ok (.iload_n 2, 1) := by decide +kernel
theorem dX0_placeOfChange_77 : decode cX0_placeOfChange 77 = .ok (.iload 4, 2) := by decide +kernel
theorem dX0_placeOfChange_79 : decode cX0_placeOfChange 79 = .ok (.iconst 1, 1) := by decide +kernel
theorem dX0_placeOfChange_80 : decode cX0_placeOfChange 80 = .ok (.iadd, 1) := by decide +kernel
theorem dX0_placeOfChange_81 : decode cX0_placeOfChange 81 = .ok (.imul, 1) := by decide +kernel
theorem dX0_placeOfChange_82 : decode cX0_placeOfChange 82 = .ok (.iload_n 3, 1) := by decide +kernel
theorem dX0_placeOfChange_83 : decode cX0_placeOfChange 83 = .ok (.if_icmp .ne 6, 3) := by decide +kernel
theorem dX0_placeOfChange_86 : decode cX0_placeOfChange 86 = .ok (.iload 4, 2) := by decide +kernel
theorem dX0_placeOfChange_88 : decode cX0_placeOfChange 88 = .ok (.ireturn, 1) := by decide +kernel
theorem dX0_placeOfChange_89 : decode cX0_placeOfChange 89 = .ok (.iinc 4 1, 3) := by decide +kernel
theorem dX0_placeOfChange_92 : decode cX0_placeOfChange 92 = .ok (.goto (-48), 3) := by decide +kernel
theorem dX0_placeOfChange_95 : decode cX0_placeOfChange 95 = .ok (.iconst (-1), 1) := by decide +kernel
theorem dX0_placeOfChange_96 : decode cX0_placeOfChange 96 = .ok (.ireturn, 1) := by decide +kernel
theorem dX1_init_0 : decode cX1_init 0 = .ok (.aload_n 0, 1) := by decide +kernel
theorem dX1_init_1 : decode cX1_init 1 = .ok (.invokespecial 3, 3) := by decide +kernel
theorem dX1_init_4 : decode cX1_init 4 = .ok (.aload_n 0, 1) := by decide +kernel
theorem dX1_init_5 : decode cX1_init 5 = .ok (.bipush 40, 2) := by decide +kernel
theorem dX1_init_7 : decode cX1_init 7 = .ok (.newarray .int, 2) := by decide +kernel
theorem dX1_init_9 : decode cX1_init 9 = .ok (.putfield 9, 3) := by decide +kernel
theorem dX1_init_12 : decode cX1_init 12 = .ok (.aload_n 0, 1) := by decide +kernel
theorem dX1_init_13 : decode cX1_init 13 = .ok (.bipush 40, 2) := by decide +kernel
theorem dX1_init_15 : decode cX1_init 15 = .ok (.newarray .int, 2) := by decide +kernel
theorem dX1_init_17 : decode cX1_init 17 = .ok (.putfield 15, 3) := by decide +kernel
theorem dX1_init_20 : decode cX1_init 20 = .ok (.return_, 1) := by decide +kernel
theorem dX1_copySigns_0 : decode cX1_copySigns 0 = .ok (.iconst 0, 1) := by decide +kernel
theorem dX1_copySigns_1 : decode cX1_copySigns 1 = .ok (.istore_n 2, 1) := by decide +kernel
theorem dX1_copySigns_2 : decode cX1_copySigns 2 = .ok (.iload_n 2, 1) := by decide +kernel
theorem dX1_copySigns_3 : decode cX1_copySigns 3 = .ok (.aload_n 1, 1) := by decide +kernel
theorem dX1_copySigns_4 : decode cX1_copySigns 4 = .ok (.getfield 18, 3) := by decide +kernel
theorem dX1_copySigns_7 : decode cX1_copySigns 7 = .ok (.if_icmp .ge 21, 3) := by decide +kernel
theorem dX1_copySigns_10 : decode cX1_copySigns 10 = .ok (.aload_n 0, 1) := by decide +kernel
theorem dX1_copySigns_11 : decode cX1_copySigns 11 = .ok (.getfield 9, 3) := by decide +kernel
theorem dX1_copySigns_14 : decode cX1_copySigns 14 = .ok (.iload_n 2, 1) := by decide +kernel
theorem dX1_copySigns_15 : decode cX1_copySigns 15 = .ok (.aload_n 1, 1) := by decide +kernel
theorem dX1_copySigns_16 : decode cX1_copySigns 16 = .ok (.getfield 9, 3) := by decide +kernel
theorem dX1_copySigns_19 : decode cX1_copySigns 19 = .ok (.iload_n 2, 1) := by decide +kernel
theorem dX1_copySigns_20 : decode cX1_copySigns 20 = .ok (.iaload, 1) := by decide +kernel
theorem dX1_copySigns_21 : decode cX1_copySigns 21 = .ok (.iastore, 1) := by decide +kernel
theorem dX1_copySigns_22 : decode cX1_copySigns 22 = .ok (.iinc 2 1, 3) := by decide +kernel
theorem dX1_copySigns_25 : decode cX1_copySigns 25 = .ok (.goto (-23), 3) := by decide +kernel
theorem dX1_copySigns_28 : decode cX1_copySigns 28 = .ok (.aload_n 0, 1) := by decide +kernel
theorem dX1_copySigns_29 : decode cX1_copySigns 29 = .ok (.aload_n 1, 1) := by decide +kernel
theorem dX1_copySigns_30 : decode cX1_copySigns 30 = .ok (.getfield 18, 3) := by decide +kernel
theorem dX1_copySigns_33 : decode cX1_copySigns 33 = .ok (.putfield 18, 3) := by decide +kernel
theorem dX1_copySigns_36 : decode cX1_copySigns 36 = .ok (.return_, 1) := by decide +kernel
theorem dX1_append_0 : decode cX1_append 0 = .ok (.aload_n 0, 1) := by decide +kernel
theorem dX1_append_1 : decode cX1_append 1 = .ok (.getfield 9, 3) := by decide +kernel
theorem dX1_append_4 : decode cX1_append 4 = .ok (.aload_n 0, 1) := by decide +kernel
theorem dX1_append_5 : decode cX1_append 5 = .ok (.getfield 18, 3) := by decide +kernel
theorem dX1_append_8 : decode cX1_append 8 = .ok (.iload_n 1, 1) := by decide +kernel
theorem dX1_append_9 : decode cX1_append 9 = .ok (.iastore, 1) := by decide +kernel
theorem dX1_append_10 : decode cX1_append 10 = .ok (.aload_n 0, 1) := by decide +kernel
theorem dX1_append_11 : decode cX1_append 11 = .ok (.dup, 1) := by decide +kernel
theorem dX1_append_12 : decode cX1_append 12 = .ok (.getfield 18, 3) := by decide +kernel
theorem dX1_append_15 : decode cX1_append 15 = .ok (.iconst 1, 1) := by decide +kernel
theorem dX1_append_16 : decode cX1_append 16 = .ok (.iadd, 1) := by decide +kernel
theorem dX1_append_17 : decode cX1_append 17 = .ok (.putfield 18, 3) := by decide +kernel
theorem dX1_append_20 : decode cX1_append 20 = .ok (.return_, 1) := by decide +kernel
theorem dX1_removeLast_0 : decode cX1_removeLast 0 = .ok (.aload_n 0, 1) := by decide +kernel
theorem dX1_removeLast_1 : decode cX1_removeLast 1 = .ok (.dup, 1) := by decide +kernel
theorem dX1_removeLast_2 : decode cX1_removeLast 2 = .ok (.getfield 18, 3) := by decide +kernel
theorem dX1_removeLast_5 : decode cX1_removeLast 5 = .ok (.iconst 1, 1) := by decide +kernel
theorem dX1_removeLast_6 : decode cX1_removeLast 6 = .ok (.isub, 1) := by decide +kernel
theorem dX1_removeLast_7 : decode cX1_removeLast 7 = .ok (.putfield 18, 3) := by decide +kernel
theorem dX1_removeLast_10 : decode cX1_removeLast 10 = .ok (.aload_n 0, 1) := by decide +kernel
theorem dX1_removeLast_11 : decode cX1_removeLast 11 = .ok (.getfield 9, 3) := by decide +kernel
theorem dX1_removeLast_14 : decode cX1_removeLast 14 = .ok (.aload_n 0, 1) := by decide +kernel
theorem dX1_removeLast_15 : decode cX1_removeLast 15 = .ok (.getfield 18, 3) := by decide +kernel
theorem dX1_removeLast_18 : decode cX1_removeLast 18 = .ok (.iaload, 1) := by decide +kernel
theorem dX1_removeLast_19 : decode cX1_removeLast 19 = .ok (.ireturn, 1) := by decide +kernel
theorem dX1_replace_0 : decode cX1_replace 0 = .ok (.aload_n 0, 1) := by decide +kernel
theorem dX1_replace_1 : decode cX1_replace 1 = .ok (.getfield 9, 3) := by decide +kernel
theorem dX1_replace_4 : decode cX1_replace 4 = .ok (.iload_n 1, 1) := by decide +kernel
theorem dX1_replace_5 : decode cX1_replace 5 = .ok (.iaload, 1) := by decide +kernel
theorem dX1_replace_6 : decode cX1_replace 6 = .ok (.istore_n 3, 1) := by decide +kernel
theorem dX1_replace_7 : decode cX1_replace 7 = .ok (.aload_n 0, 1) := by decide +kernel
theorem dX1_replace_8 : decode cX1_replace 8 = .ok (.getfield 9, 3) := by decide +kernel
theorem dX1_replace_11 : decode cX1_replace 11 = .ok (.iload_n 1, 1) := by decide +kernel
theorem dX1_replace_12 : decode cX1_replace 12 = .ok (.iload_n 2, 1) := by decide +kernel
theorem dX1_replace_13 : decode cX1_replace 13 = .ok (.iastore, 1) := by decide +kernel
theorem dX1_replace_14 : decode cX1_replace 14 = .ok (.iload_n 3, 1) := by decide +kernel
theorem dX1_replace_15 : decode cX1_replace 15 = .ok (.ireturn, 1) := by decide +kernel
theorem dX1_countOf_0 : decode cX1_countOf 0 = .ok (.iconst 0, 1) := by decide +kernel
theorem dX1_countOf_1 : decode cX1_countOf 1 = .ok (.istore_n 2, 1) := by decide +kernel
theorem dX1_countOf_2 : decode cX1_countOf 2 = .ok (.iconst 0, 1) := by decide +kernel
theorem dX1_countOf_3 : decode cX1_countOf 3 = .ok (.istore_n 3, 1) := by decide +kernel
theorem dX1_countOf_4 : decode cX1_countOf 4 = .ok (.iload_n 3, 1) := by decide +kernel
theorem dX1_countOf_5 : decode cX1_countOf 5 = .ok (.aload_n 0, 1) := by decide +kernel
theorem dX1_countOf_6 : decode cX1_countOf 6 = .ok (.getfield 18, 3) := by decide +kernel
theorem dX1_countOf_9 : decode cX1_countOf 9 = .ok (.if_icmp .ge 22, 3) := by decide +kernel
theorem dX1_countOf_12 : decode cX1_countOf 12 = .ok (.aload_n 0, 1) := by decide +kernel
theorem dX1_countOf_13 : decode cX1_countOf 13 = .ok (.getfield 9, 3) := by decide +kernel
theorem dX1_countOf_16 : decode cX1_countOf 16 = .ok (.iload_n 3, 1) := by decide +kernel
theorem dX1_countOf_17 : decode cX1_countOf 17 = .ok (.iaload, 1) := by decide +kernel
theorem dX1_countOf_18 : decode cX1_countOf 18 = .ok (.iload_n 1, 1) := by decide +kernel
theorem dX1_countOf_19 : decode cX1_countOf 19 = .ok (.if_icmp .ne 6, 3) := by decide +kernel
theorem dX1_countOf_22 : decode cX1_countOf 22 = .ok (.iinc 2 1, 3) := by decide +kernel
theorem dX1_countOf_25 : decode cX1_countOf 25 = .ok (.iinc 3 1, 3) := by decide +kernel
theorem dX1_countOf_28 : decode cX1_countOf 28 = .ok (.goto (-24), 3) := by decide +kernel
theorem dX1_countOf_31 : decode cX1_countOf 31 = .ok (.iload_n 2, 1) := by decide +kernel
theorem dX1_countOf_32 : decode cX1_countOf 32 = .ok (.ireturn, 1) := by decide +kernel
theorem dX1_signDigest_0 : decode cX1_signDigest 0 = .ok (.iconst 5, 1) := by decide +kernel
theorem dX1_signDigest_1 : decode cX1_signDigest 1 = .ok (.istore_n 1, 1) := by decide +kernel
theorem dX1_signDigest_2 : decode cX1_signDigest 2 = .ok (.iconst 0, 1) := by decide +kernel
theorem dX1_signDigest_3 : decode cX1_signDigest 3 = .ok (.istore_n 2, 1) := by decide +kernel
theorem dX1_signDigest_4 : decode cX1_signDigest 4 = .ok (.iload_n 2, 1) := by decide +kernel
theorem dX1_signDigest_5 : decode cX1_signDigest 5 = .ok (.aload_n 0, 1) := by decide +kernel
theorem dX1_signDigest_6 : decode cX1_signDigest 6 = .ok (.getfield 18, 3) := by decide +kernel
theorem dX1_signDigest_9 : decode cX1_signDigest 9 = .ok (.if_icmp .ge 27, 3) := by decide +kernel
theorem dX1_signDigest_12 : decode cX1_signDigest 12 = .ok (.iload_n 1, 1) := by decide +kernel
theorem dX1_signDigest_13 : decode cX1_signDigest 13 = .ok (.bipush 37, 2) := by decide +kernel
theorem dX1_signDigest_15 : decode cX1_signDigest 15 = .ok (.imul, 1) := by decide +kernel
theorem dX1_signDigest_16 : decode cX1_signDigest 16 = .ok (.aload_n 0, 1) := by decide +kernel
theorem dX1_signDigest_17 : decode cX1_signDigest 17 = .ok (.getfield 9, 3) := by decide +kernel
theorem dX1_signDigest_20 : decode cX1_signDigest 20 = .ok (.iload_n 2, 1) := by decide +kernel
theorem dX1_signDigest_21 : decode cX1_signDigest 21 = .ok (.iaload, 1) := by decide +kernel
theorem dX1_signDigest_22 : decode cX1_signDigest 22 = .ok (.iadd, 1) := by decide +kernel
theorem dX1_signDigest_23 : decode cX1_signDigest 23 = .ok (.iconst 1, 1) := by decide +kernel
theorem dX1_signDigest_24 : decode cX1_signDigest 24 = .ok (.iadd, 1) := by decide +kernel
theorem dX1_signDigest_25 : decode cX1_signDigest 25 = .ok (.sipush 8191, 3) := by decide +kernel
theorem dX1_signDigest_28 : decode cX1_signDigest 28 = .ok (.irem, 1) := by decide +kernel
theorem dX1_signDigest_29 : decode cX1_signDigest 29 = .ok (.istore_n 1, 1) := by decide +kernel
theorem dX1_signDigest_30 : decode cX1_signDigest 30 = .ok (.iinc 2 1, 3) := by decide +kernel
theorem dX1_signDigest_33 : decode cX1_signDigest 33 = .ok (.goto (-29), 3) := by decide +kernel
theorem dX1_signDigest_36 : decode cX1_signDigest 36 = .ok (.iload_n 1, 1) := by decide +kernel
theorem dX1_signDigest_37 : decode cX1_signDigest 37 = .ok (.ireturn, 1) := by decide +kernel
theorem dX1_windowSum_0 : decode cX1_windowSum 0 = .ok (.iconst 0, 1) := by decide +kernel
theorem dX1_windowSum_1 : decode cX1_windowSum 1 = .ok (.istore_n 3, 1) := by decide +kernel
theorem dX1_windowSum_2 : decode cX1_windowSum 2 = .ok (.iconst 0, 1) := by decide +kernel
theorem dX1_windowSum_3 : decode cX1_windowSum 3 = .ok (.istore 4, 2) := by decide +kernel
theorem dX1_windowSum_5 : decode cX1_windowSum 5 = .ok (.iload 4, 2) := by decide +kernel
theorem dX1_windowSum_7 : decode cX1_windowSum 7 = .ok (.iload_n 2, 1) := by decide +kernel
theorem dX1_windowSum_8 : decode cX1_windowSum 8 = .ok (.if_icmp .ge 29, 3) := by decide +kernel
theorem dX1_windowSum_11 : decode cX1_windowSum 11 = .ok (.iload_n 3, 1) := by decide +kernel
theorem dX1_windowSum_12 : decode cX1_windowSum 12 = .ok (.bipush 7, 2) := by decide +kernel
theorem dX1_windowSum_14 : decode cX1_windowSum 14 = .ok (.imul, 1) := by decide +kernel
theorem dX1_windowSum_15 : decode cX1_windowSum 15 = .ok (.aload_n 0, 1) := by decide +kernel
theorem dX1_windowSum_16 : decode cX1_windowSum 16 = .ok (.getfield 9, 3) := by decide +kernel
theorem dX1_windowSum_19 : decode cX1_windowSum 19 = .ok (.iload_n 1, 1) := by decide +kernel
theorem dX1_windowSum_20 : decode cX1_windowSum 20 = .ok (.iload 4, 2) := by decide +kernel
theorem dX1_windowSum_22 : decode cX1_windowSum 22 = .ok (.iadd, 1) := by decide +kernel
theorem dX1_windowSum_23 : decode cX1_windowSum 23 = .ok (.iaload, 1) := by decide +kernel
theorem dX1_windowSum_24 : decode cX1_windowSum 24 = .ok (.iadd, 1) := by decide +kernel
theorem dX1_windowSum_25 : decode cX1_windowSum 25 = .ok (.iconst 1, 1) := by decide +kernel
theorem dX1_windowSum_26 : decode cX1_windowSum 26 = .ok (.iadd, 1) := by decide +kernel
theorem dX1_windowSum_27 : decode cX1_windowSum 27 = .ok (.bipush 97, 2) := by decide +kernel
theorem dX1_windowSum_29 : decode cX1_windowSum 29 = .ok (.irem, 1) := by decide +kernel
theorem dX1_windowSum_30 : decode cX1_windowSum 30 = .ok (.istore_n 3, 1) := by decide +kernel
theorem dX1_windowSum_31 : decode cX1_windowSum 31 = .ok (.iinc 4 1, 3) := by decide +kernel
theorem dX1_windowSum_34 : decode cX1_windowSum 34 = .ok (.goto (-29), 3) := by decide +kernel
theorem dX1_windowSum_37 : decode cX1_windowSum 37 = .ok (.iload_n 3, 1) := by decide +kernel
theorem dX1_windowSum_38 : decode cX1_windowSum 38 = .ok (.ireturn, 1) := by decide +kernel
theorem dX1_sameSumPairs_0 : decode cX1_sameSumPairs 0 = .ok (.aload_n 0, 1) := by decide +kernel
theorem dX1_sameSumPairs_1 : decode cX1_sameSumPairs 1 = .ok (.iload_n 1, 1) := by decide +kernel
theorem dX1_sameSumPairs_2 : decode cX1_sameSumPairs 2 = .ok (.invokevirtual 22, 3) := by decide +kernel
theorem dX1_sameSumPairs_5 : decode cX1_sameSumPairs 5 = .ok (.istore_n 2, 1) := by decide +kernel
theorem dX1_sameSumPairs_6 : decode cX1_sameSumPairs 6 = .ok (.iconst 0, 1) := by decide +kernel
theorem dX1_sameSumPairs_7 : decode cX1_sameSumPairs 7 = .ok (.istore_n 3, 1) := by decide +kernel
theorem dX1_sameSumPairs_8 : decode cX1_sameSumPairs 8 = .ok (.iconst 0, 1) := by decide +kernel
theorem dX1_sameSumPairs_9 : decode cX1_sameSumPairs 9 = .ok (.istore 4, 2) := by decide +kernel
theorem dX1_sameSumPairs_11 : decode cX1_sameSumPairs 11 = .ok (.iload 4, 2) := by decide +kernel
theorem dX1_sameSumPairs_13 : decode cX1_sameSumPairs 13 = .ok (.iload_n 2, 1) := by decide +kernel
theorem dX1_sameSumPairs_14 : decode cX1_sameSumPairs 14 = .ok (.if_icmp .ge 47, 3) := by decide +kernel
theorem dX1_sameSumPairs_17 : decode cX1_sameSumPairs 17 = .ok (.iload 4, 2) := by decide +kernel
theorem dX1_sameSumPairs_19 : decode cX1_sameSumPairs 19 = .ok (.iconst 1, 1) := by decide +kernel
theorem dX1_sameSumPairs_20 : decode cX1_sameSumPairs 20 = .ok (.iadd, 1) := by decide +kernel
theorem dX1_sameSumPairs_21 : decode cX1_sameSumPairs 21 = .ok (.istore 5, 2) := by decide +kernel
theorem dX1_sameSumPairs_23 : decode cX1_sameSumPairs 23 = .ok (.iload 5, 2) := by decide +kernel
theorem dX1_sameSumPairs_25 : decode cX1_sameSumPairs 25 = .ok (.iload_n 2, 1) := by decide +kernel
theorem dX1_sameSumPairs_26 : decode cX1_sameSumPairs 26 = .ok (.if_icmp .ge 29, 3) := by decide +kernel
theorem dX1_sameSumPairs_29 : decode cX1_sameSumPairs 29 = .ok (.aload_n 0, 1) := by decide +kernel
theorem dX1_sameSumPairs_30 : decode cX1_sameSumPairs 30 = .ok (.getfield 15, 3) := by decide +kernel
theorem dX1_sameSumPairs_33 : decode cX1_sameSumPairs 33 = .ok (.iload 4, 2) := by decide +kernel
theorem dX1_sameSumPairs_35 : decode cX1_sameSumPairs 35 = .ok (.iaload, 1) := by decide +kernel
theorem dX1_sameSumPairs_36 : decode cX1_sameSumPairs 36 = .ok (.aload_n 0, 1) := by decide +kernel
theorem dX1_sameSumPairs_37 : decode cX1_sameSumPairs 37 = .ok (.getfield 15, 3) := by decide +kernel
theorem dX1_sameSumPairs_40 : decode cX1_sameSumPairs 40 = .ok (.iload 5, 2) := by decide +kernel
theorem dX1_sameSumPairs_42 : decode cX1_sameSumPairs 42 = .ok (.iaload, 1) := by decide +kernel
theorem dX1_sameSumPairs_43 : decode cX1_sameSumPairs 43 = .ok (.if_icmp .ne 6, 3) := by decide +kernel
theorem dX1_sameSumPairs_46 : decode cX1_sameSumPairs 46 = .ok (.iinc 3 1, 3) := by decide +kernel
theorem dX1_sameSumPairs_49 : decode cX1_sameSumPairs 49 = .ok (.iinc 5 1, 3) := by decide +kernel
theorem dX1_sameSumPairs_52 : decode cX1_sameSumPairs 52 = .ok (.goto (-29), 3) := by decide +kernel
theorem dX1_sameSumPairs_55 : decode cX1_sameSumPairs 55 = .ok (.iinc 4 1, 3) := by decide +kernel
theorem dX1_sameSumPairs_58 : decode cX1_sameSumPairs 58 = .ok (.goto (-47), 3) := by decide +kernel
theorem dX1_sameSumPairs_61 : decode cX1_sameSumPairs 61 = .ok (.iload_n 3, 1) := by decide +kernel
theorem dX1_sameSumPairs_62 : decode cX1_sameSumPairs 62 = .ok (.ireturn, 1) := by decide +kernel
theorem dX1_falseAlarmPairs_0 : decode cX1_falseAlarmPairs 0 = .ok (.aload_n 0, 1) := by decide +kernel
theorem dX1_falseAlarmPairs_1 : decode cX1_falseAlarmPairs 1 = .ok (.iload_n 1, 1) := by decide +kernel
theorem dX1_falseAlarmPairs_2 : decode cX1_falseAlarmPairs 2 = .ok (.invokevirtual 22, 3) := by decide +kernel
theorem dX1_falseAlarmPairs_5 : decode cX1_falseAlarmPairs 5 = .ok (.istore_n 2, 1) := by decide +kernel
theorem dX1_falseAlarmPairs_6 : decode cX1_falseAlarmPairs 6 = .ok (.iconst 0, 1) := by decide +kernel
theorem dX1_falseAlarmPairs_7 : decode cX1_falseAlarmPairs 7 = .ok (.istore_n 3, 1) := by decide +kernel
theorem dX1_falseAlarmPairs_8 : decode cX1_falseAlarmPairs 8 = .ok (.iconst 0, 1) := by decide +kernel
theorem dX1_falseAlarmPairs_9 : decode cX1_falseAlarmPairs 9 = .ok (.istore 4, 2) := by decide +kernel
theorem dX1_falseAlarmPairs_11 : decode cX1_falseAlarmPairs 11 = .ok (.iload 4, 2) := by decide +kernel
theorem dX1_falseAlarmPairs_13 : decode cX1_falseAlarmPairs 13 = .ok (.iload_n 2, 1) := by decide +kernel
theorem dX1_falseAlarmPairs_14 : decode cX1_falseAlarmPairs 14 = .ok (.if_icmp .ge 60, 3) := by decide +kernel
theorem dX1_falseAlarmPairs_17 : decode cX1_falseAlarmPairs 17 = .ok (.iload 4, 2) := by decide +kernel
theorem dX1_falseAlarmPairs_19 : decode cX1_falseAlarmPairs 19 = .ok (.iconst 1, 1) := by decide +kernel
theorem dX1_falseAlarmPairs_20 : decode cX1_falseAlarmPairs 20 = .ok (.iadd, 1) := by decide +kernel
theorem dX1_falseAlarmPairs_21 : decode cX1_falseAlarmPairs 21 = .ok (.istore 5, 2) := by decide +kernel
theorem dX1_falseAlarmPairs_23 : decode cX1_falseAlarmPairs 23 = .ok (.iload 5, 2) := by decide +kernel
theorem dX1_falseAlarmPairs_25 : decode cX1_falseAlarmPairs 25 = .ok (.iload_n 2, 1) := by decide +kernel
theorem dX1_falseAlarmPairs_26 : decode cX1_falseAlarmPairs 26 = .ok (.if_icmp .ge 42, 3) := by decide +kernel
theorem dX1_falseAlarmPairs_29 : decode cX1_falseAlarmPairs 29 = .ok (.aload_n 0, 1) := by decide +kernel
theorem dX1_falseAlarmPairs_30 : decode cX1_falseAlarmPairs 30 = .ok (.getfield 15, 3) := by decide +kernel
theorem dX1_falseAlarmPairs_33 : decode cX1_falseAlarmPairs 33 = .ok (.iload 4, 2) := by decide +kernel
theorem dX1_falseAlarmPairs_35 : decode cX1_falseAlarmPairs 35 = .ok (.iaload, 1) := by decide +kernel
theorem dX1_falseAlarmPairs_36 : decode cX1_falseAlarmPairs 36 = .ok (.aload_n 0, 1) := by decide +kernel
theorem dX1_falseAlarmPairs_37 : decode cX1_falseAlarmPairs 37 = .ok (.getfield 15, 3) := by decide +kernel
theorem dX1_falseAlarmPairs_40 : decode cX1_falseAlarmPairs 40 = .ok (.iload 5, 2) := by decide +kernel
theorem dX1_falseAlarmPairs_42 : decode cX1_falseAlarmPairs 42 = .ok (.iaload, 1) := by decide +kernel
theorem dX1_falseAlarmPairs_43 : decode cX1_falseAlarmPairs 43 = .ok (.if_icmp .ne 19, 3) := by decide +kernel
theorem dX1_falseAlarmPairs_46 : decode cX1_falseAlarmPairs 46 = .ok (.aload_n 0, 1) := by decide +kernel
theorem dX1_falseAlarmPairs_47 : decode cX1_falseAlarmPairs 47 = .ok (.iload 4, 2) := by decide +kernel
theorem dX1_falseAlarmPairs_49 : decode cX1_falseAlarmPairs 49 = .ok (.aload_n 0, 1) := by decide +kernel
theorem dX1_falseAlarmPairs_50 : decode cX1_falseAlarmPairs 50 = .ok (.iload 5, 2) := by decide +kernel
theorem dX1_falseAlarmPairs_52 : decode cX1_falseAlarmPairs 52 = .ok (.iload_n 1, 1) := by decide +kernel
theorem dX1_falseAlarmPairs_53 : decode cX1_falseAlarmPairs 53 = .ok (.invokevirtual 26, 3) := by decide +kernel
theorem dX1_falseAlarmPairs_56 : decode cX1_falseAlarmPairs 56 = .ok (.ifCond .ne 6, 3) := by decide +kernel
theorem dX1_falseAlarmPairs_59 : decode cX1_falseAlarmPairs 59 = .ok (.iinc 3 1, 3) := by decide +kernel
theorem dX1_falseAlarmPairs_62 : decode cX1_falseAlarmPairs 62 = .ok (.iinc 5 1, 3) := by decide +kernel
theorem dX1_falseAlarmPairs_65 : decode cX1_falseAlarmPairs 65 = .ok (.goto (-42), 3) := by decide +kernel
theorem dX1_falseAlarmPairs_68 : decode cX1_falseAlarmPairs 68 = .ok (.iinc 4 1, 3) := by decide +kernel
theorem dX1_falseAlarmPairs_71 : decode cX1_falseAlarmPairs 71 = .ok (.goto (-60), 3) := by decide +kernel
theorem dX1_falseAlarmPairs_74 : decode cX1_falseAlarmPairs 74 = .ok (.iload_n 3, 1) := by decide +kernel
theorem dX1_falseAlarmPairs_75 : decode cX1_falseAlarmPairs 75 = .ok (.ireturn, 1) := by decide +kernel
theorem dX1_fillWindowSums_0 : decode cX1_fillWindowSums 0 = .ok (.aload_n 0, 1) := by decide +kernel
theorem dX1_fillWindowSums_1 : decode cX1_fillWindowSums 1 = .ok (.getfield 18, 3) := by decide +kernel
theorem dX1_fillWindowSums_4 : decode cX1_fillWindowSums 4 = .ok (.iload_n 1, 1) := by decide +kernel
theorem dX1_fillWindowSums_5 : decode cX1_fillWindowSums 5 = .ok (.isub, 1) := by decide +kernel
theorem dX1_fillWindowSums_6 : decode cX1_fillWindowSums 6 = .ok (.iconst 1, 1) := by decide +kernel
theorem dX1_fillWindowSums_7 : decode cX1_fillWindowSums 7 = .ok (.iadd, 1) := by decide +kernel
theorem dX1_fillWindowSums_8 : decode cX1_fillWindowSums 8 = .ok (.istore_n 2, 1) := by decide +kernel
theorem dX1_fillWindowSums_9 : decode cX1_fillWindowSums 9 = .ok (.iconst 0, 1) := by decide +kernel
theorem dX1_fillWindowSums_10 : decode cX1_fillWindowSums 10 = .ok (.istore_n 3, 1) := by decide +kernel
theorem dX1_fillWindowSums_11 : decode cX1_fillWindowSums 11 = .ok (.iload_n 3, 1) := by decide +kernel
theorem dX1_fillWindowSums_12 : decode cX1_fillWindowSums 12 = .ok (.iload_n 2, 1) := by decide +kernel
theorem dX1_fillWindowSums_13 : decode cX1_fillWindowSums 13 = .ok (.if_icmp .ge 21, 3) := by decide +kernel
theorem dX1_fillWindowSums_16 : decode cX1_fillWindowSums 16 = .ok (.aload_n 0, 1) := by decide +kernel
theorem dX1_fillWindowSums_17 : decode cX1_fillWindowSums 17 = .ok (.getfield 15, 3) := by decide +kernel
theorem dX1_fillWindowSums_20 : decode cX1_fillWindowSums 20 = .ok (.iload_n 3, 1) := by decide +kernel
theorem dX1_fillWindowSums_21 : decode cX1_fillWindowSums 21 = .ok (.aload_n 0, 1) := by decide +kernel
theorem dX1_fillWindowSums_22 : decode cX1_fillWindowSums 22 = .ok (.iload_n 3, 1) := by decide +kernel
theorem dX1_fillWindowSums_23 : decode cX1_fillWindowSums 23 = .ok (.iload_n 1, 1) := by decide +kernel
theorem dX1_fillWindowSums_24 : decode cX1_fillWindowSums 24 = .ok (.invokevirtual 30, 3) := by decide +kernel
theorem dX1_fillWindowSums_27 : decode cX1_fillWindowSums 27 = .ok (.iastore, 1) := by decide +kernel
theorem dX1_fillWindowSums_28 : decode cX1_fillWindowSums 28 = .ok (.iinc 3 1, 3) := by decide +kernel
theorem dX1_fillWindowSums_31 : decode cX1_fillWindowSums 31 = .ok (.goto (-20), 3) := by decide +kernel
theorem dX1_fillWindowSums_34 : decode cX1_fillWindowSums 34 = .ok (.iload_n 2, 1) := by decide +kernel
theorem dX1_fillWindowSums_35 : decode cX1_fillWindowSums 35 = .ok (.ireturn, 1) := by decide +kernel
theorem dX1_firstPlaceOf_0 : decode cX1_firstPlaceOf 0 = .ok (.iconst 0, 1) := by decide +kernel
theorem dX1_firstPlaceOf_1 : decode cX1_firstPlaceOf 1 = .ok (.istore_n 2, 1) := by decide +kernel
theorem dX1_firstPlaceOf_2 : decode cX1_firstPlaceOf 2 = .ok (.iload_n 2, 1) := by decide +kernel
theorem dX1_firstPlaceOf_3 : decode cX1_firstPlaceOf 3 = .ok (.aload_n 1, 1) := by decide +kernel
theorem dX1_firstPlaceOf_4 : decode cX1_firstPlaceOf 4 = .ok (.getfield 18, 3) := by decide +kernel
theorem dX1_firstPlaceOf_7 : decode cX1_firstPlaceOf 7 = .ok (.iadd, 1) := by decide +kernel
theorem dX1_firstPlaceOf_8 : decode cX1_firstPlaceOf 8 = .ok (.aload_n 0, 1) := by decide +kernel
theorem dX1_firstPlaceOf_9 : decode cX1_firstPlaceOf 9 = .ok (.getfield 18, 3) := by decide +kernel
theorem dX1_firstPlaceOf_12 : decode cX1_firstPlaceOf 12 = .ok (.if_icmp .gt 25, 3) := by decide +kernel
theorem dX1_firstPlaceOf_15 : decode cX1_firstPlaceOf 15 = .ok (.aload_n 0, 1) := by decide +kernel
theorem dX1_firstPlaceOf_16 : decode cX1_firstPlaceOf 16 = .ok (.iload_n 2, 1) := by decide +kernel
theorem dX1_firstPlaceOf_17 : decode cX1_firstPlaceOf 17 = .ok (.aload_n 1, 1) := by decide +kernel
theorem dX1_firstPlaceOf_18 : decode cX1_firstPlaceOf 18 = .ok (.iconst 0, 1) := by decide +kernel
theorem dX1_firstPlaceOf_19 : decode cX1_firstPlaceOf 19 = .ok (.aload_n 1, 1) := by decide +kernel
theorem dX1_firstPlaceOf_20 : decode cX1_firstPlaceOf 20 = .ok (.getfield 18, 3) := by decide +kernel
theorem dX1_firstPlaceOf_23 : decode cX1_firstPlaceOf 23 = .ok (.invokevirtual 26, 3) := by decide +kernel
theorem dX1_firstPlaceOf_26 : decode cX1_firstPlaceOf 26 = .ok (.ifCond .eq 5, 3) := by decide +kernel
theorem dX1_firstPlaceOf_29 : decode cX1_firstPlaceOf 29 = .ok (.iload_n 2, 1) := by decide +kernel
theorem dX1_firstPlaceOf_30 : decode cX1_firstPlaceOf 30 = .ok (.ireturn, 1) := by decide +kernel
theorem dX1_firstPlaceOf_31 : decode cX1_firstPlaceOf 31 = .ok (.iinc 2 1, 3) := by decide +kernel
theorem dX1_firstPlaceOf_34 : decode cX1_firstPlaceOf 34 = .ok (.goto (-32), 3) := by decide +kernel
theorem dX1_firstPlaceOf_37 : decode cX1_firstPlaceOf 37 = .ok (.iconst (-1), 1) := by decide +kernel
theorem dX1_firstPlaceOf_38 : decode cX1_firstPlaceOf 38 = .ok (.ireturn, 1) := by decide +kernel
theorem dX1_hasSameSigns_0 : decode cX1_hasSameSigns 0 = .ok (.aload_n 0, 1) := by decide +kernel
theorem dX1_hasSameSigns_1 : decode cX1_hasSameSigns 1 = .ok (.getfield 18, 3) := by decide +kernel
theorem dX1_hasSameSigns_4 : decode cX1_hasSameSigns 4 = .ok (.aload_n 1, 1) := by decide +kernel
theorem dX1_hasSameSigns_5 : decode cX1_hasSameSigns 5 = .ok (.getfield 18, 3) := by decide +kernel
theorem dX1_hasSameSigns_8 : decode cX1_hasSameSigns 8 = .ok (.if_icmp .ne 21, 3) := by decide +kernel
theorem dX1_hasSameSigns_11 : decode cX1_hasSameSigns 11 = .ok (.aload_n 0, 1) := by decide +kernel
theorem dX1_hasSameSigns_12 : decode cX1_hasSameSigns 12 = .ok (.iconst 0, 1) := by decide +kernel
theorem dX1_hasSameSigns_13 : decode cX1_hasSameSigns 13 = .ok (.aload_n 1, 1) := by decide +kernel
theorem dX1_hasSameSigns_14 : decode cX1_hasSameSigns 14 = .ok (.iconst 0, 1) := by decide +kernel
theorem dX1_hasSameSigns_15 : decode cX1_hasSameSigns 15 = .ok (.aload_n 0, 1) := by decide +kernel
theorem dX1_hasSameSigns_16 : decode cX1_hasSameSigns 16 = .ok (.getfield 18, 3) := by decide +kernel
theorem dX1_hasSameSigns_19 : decode cX1_hasSameSigns 19 = .ok (.invokevirtual 26, 3) := by decide +kernel
theorem dX1_hasSameSigns_22 : decode cX1_hasSameSigns 22 = .ok (.ifCond .eq 7, 3) := by decide +kernel
theorem dX1_hasSameSigns_25 : decode cX1_hasSameSigns 25 = .ok (.iconst 1, 1) := by decide +kernel
theorem dX1_hasSameSigns_26 : decode cX1_hasSameSigns 26 = .ok (.goto 4, 3) := by decide +kernel
theorem dX1_hasSameSigns_29 : decode cX1_hasSameSigns 29 = .ok (.iconst 0, 1) := by decide +kernel
theorem dX1_hasSameSigns_30 : decode cX1_hasSameSigns 30 = .ok (.ireturn, 1) := by decide +kernel
theorem dX1_sameRun_0 : decode cX1_sameRun 0 = .ok (.iconst 0, 1) := by decide +kernel
theorem dX1_sameRun_1 : decode cX1_sameRun 1 = .ok (.istore 5, 2) := by decide +kernel
theorem dX1_sameRun_3 : decode cX1_sameRun 3 = .ok (.iload 5, 2) := by decide +kernel
theorem dX1_sameRun_5 : decode cX1_sameRun 5 = .ok (.iload 4, 2) := by decide +kernel
theorem dX1_sameRun_7 : decode cX1_sameRun 7 = .ok (.if_icmp .ge 32, 3) := by decide +kernel
theorem dX1_sameRun_10 : decode cX1_sameRun 10 = .ok (.aload_n 0, 1) := by decide +kernel
theorem dX1_sameRun_11 : decode cX1_sameRun 11 = .ok (.getfield 9, 3) := by decide +kernel
theorem dX1_sameRun_14 : decode cX1_sameRun 14 = .ok (.iload_n 1, 1) := by decide +kernel
theorem dX1_sameRun_15 : decode cX1_sameRun 15 = .ok (.iload 5, 2) := by decide +kernel
theorem dX1_sameRun_17 : decode cX1_sameRun 17 = .ok (.iadd, 1) := by decide +kernel
theorem dX1_sameRun_18 : decode cX1_sameRun 18 = .ok (.iaload, 1) := by decide +kernel
theorem dX1_sameRun_19 : decode cX1_sameRun 19 = .ok (.aload_n 2, 1) := by decide +kernel
theorem dX1_sameRun_20 : decode cX1_sameRun 20 = .ok (.getfield 9, 3) := by decide +kernel
theorem dX1_sameRun_23 : decode cX1_sameRun 23 = .ok (.iload_n 3, 1) := by decide +kernel
theorem dX1_sameRun_24 : decode cX1_sameRun 24 = .ok (.iload 5, 2) := by decide +kernel
theorem dX1_sameRun_26 : decode cX1_sameRun 26 = .ok (.iadd, 1) := by decide +kernel
theorem dX1_sameRun_27 : decode cX1_sameRun 27 = .ok (.iaload, 1) := by decide +kernel
theorem dX1_sameRun_28 : decode cX1_sameRun 28 = .ok (.if_icmp .eq 5, 3) := by decide +kernel
theorem dX1_sameRun_31 : decode cX1_sameRun 31 = .ok (.iconst 0, 1) := by decide +kernel
theorem dX1_sameRun_32 : decode cX1_sameRun 32 = .ok (.ireturn, 1) := by decide +kernel
theorem dX1_sameRun_33 : decode cX1_sameRun 33 = .ok (.iinc 5 1, 3) := by decide +kernel
theorem dX1_sameRun_36 : decode cX1_sameRun 36 = .ok (.goto (-33), 3) := by decide +kernel
theorem dX1_sameRun_39 : decode cX1_sameRun 39 = .ok (.iconst 1, 1) := by decide +kernel
theorem dX1_sameRun_40 : decode cX1_sameRun 40 = .ok (.ireturn, 1) := by decide +kernel
theorem dX1_blockCount_0 : decode cX1_blockCount 0 = .ok (.aload_n 0, 1) := by decide +kernel
theorem dX1_blockCount_1 : decode cX1_blockCount 1 = .ok (.getfield 18, 3) := by decide +kernel
theorem dX1_blockCount_4 : decode cX1_blockCount 4 = .ok (.iconst 5, 1) := by decide +kernel
theorem dX1_blockCount_5 : decode cX1_blockCount 5 = .ok (.iadd, 1) := by decide +kernel
theorem dX1_blockCount_6 : decode cX1_blockCount 6 = .ok (.iconst 1, 1) := by decide +kernel
theorem dX1_blockCount_7 : decode cX1_blockCount 7 = .ok (.isub, 1) := by decide +kernel
theorem dX1_blockCount_8 : decode cX1_blockCount 8 = .ok (.iconst 5, 1) := by decide +kernel
theorem dX1_blockCount_9 : decode cX1_blockCount 9 = .ok (.idiv, 1) := by decide +kernel
theorem dX1_blockCount_10 : decode cX1_blockCount 10 = .ok (.ireturn, 1) := by decide +kernel
theorem dX1_blockSum_0 : decode cX1_blockSum 0 = .ok (.iload_n 1, 1) := by decide +kernel
theorem dX1_blockSum_1 : decode cX1_blockSum 1 = .ok (.iconst 5, 1) := by decide +kernel
theorem dX1_blockSum_2 : decode cX1_blockSum 2 = .ok (.imul, 1) := by decide +kernel
theorem dX1_blockSum_3 : decode cX1_blockSum 3 = .ok (.istore_n 2, 1) := by decide +kernel
theorem dX1_blockSum_4 : decode cX1_blockSum 4 = .ok (.iconst 0, 1) := by decide +kernel
theorem dX1_blockSum_5 : decode cX1_blockSum 5 = .ok (.istore_n 3, 1) := by decide +kernel
theorem dX1_blockSum_6 : decode cX1_blockSum 6 = .ok (.iconst 0, 1) := by decide +kernel
theorem dX1_blockSum_7 : decode cX1_blockSum 7 = .ok (.istore 4, 2) := by decide +kernel
theorem dX1_blockSum_9 : decode cX1_blockSum 9 = .ok (.iload 4, 2) := by decide +kernel
theorem dX1_blockSum_11 : decode cX1_blockSum 11 = .ok (.iconst 5, 1) := by decide +kernel
theorem dX1_blockSum_12 : decode cX1_blockSum 12 = .ok (.if_icmp .ge 37, 3) := by decide +kernel
theorem dX1_blockSum_15 : decode cX1_blockSum 15 = .ok (.iload_n 2, 1) := by decide +kernel
theorem dX1_blockSum_16 : decode cX1_blockSum 16 = .ok (.iload 4, 2) := by decide +kernel
theorem dX1_blockSum_18 : decode cX1_blockSum 18 = .ok (.iadd, 1) := by decide +kernel
theorem dX1_blockSum_19 : decode cX1_blockSum 19 = .ok (.aload_n 0, 1) := by decide +kernel
theorem dX1_blockSum_20 : decode cX1_blockSum 20 = .ok (.getfield 18, 3) := by decide +kernel
theorem dX1_blockSum_23 : decode cX1_blockSum 23 = .ok (.if_icmp .ge 26, 3) := by decide +kernel
theorem dX1_blockSum_26 : decode cX1_blockSum 26 = .ok (.iload_n 3, 1) := by decide +kernel
theorem dX1_blockSum_27 : decode cX1_blockSum 27 = .ok (.iload 4, 2) := by decide +kernel
theorem dX1_blockSum_29 : decode cX1_blockSum 29 = .ok (.iconst 1, 1) := by decide +kernel
theorem dX1_blockSum_30 : decode cX1_blockSum 30 = .ok (.iadd, 1) := by decide +kernel
theorem dX1_blockSum_31 : decode cX1_blockSum 31 = .ok (.aload_n 0, 1) := by decide +kernel
theorem dX1_blockSum_32 : decode cX1_blockSum 32 = .ok (.getfield 9, 3) := by decide +kernel
theorem dX1_blockSum_35 : decode cX1_blockSum 35 = .ok (.iload_n 2, 1) := by decide +kernel
theorem dX1_blockSum_36 : decode cX1_blockSum 36 = .ok (.iload 4, 2) := by decide +kernel
theorem dX1_blockSum_38 : decode cX1_blockSum 38 = .ok (.iadd, 1) := by decide +kernel
theorem dX1_blockSum_39 : decode cX1_blockSum 39 = .ok (.iaload, 1) := by decide +kernel
theorem dX1_blockSum_40 : decode cX1_blockSum 40 = .ok (.imul, 1) := by decide +kernel
theorem dX1_blockSum_41 : decode cX1_blockSum 41 = .ok (.iadd, 1) := by decide +kernel
theorem dX1_blockSum_42 : decode cX1_blockSum 42 = .ok (.istore_n 3, 1) := by decide +kernel
theorem dX1_blockSum_43 : decode cX1_blockSum 43 = .ok (.iinc 4 1, 3) := by decide +kernel
theorem dX1_blockSum_46 : decode cX1_blockSum 46 = .ok (.goto (-37), 3) := by decide +kernel
theorem dX1_blockSum_49 : decode cX1_blockSum 49 = .ok (.iload_n 3, 1) := by decide +kernel
theorem dX1_blockSum_50 : decode cX1_blockSum 50 = .ok (.bipush 32, 2) := by decide +kernel
theorem dX1_blockSum_52 : decode cX1_blockSum 52 = .ok (.irem, 1) := by decide +kernel
theorem dX1_blockSum_53 : decode cX1_blockSum 53 = .ok (.ireturn, 1) := by decide +kernel
theorem dX1_signSum_0 : decode cX1_signSum 0 = .ok (.iconst 0, 1) := by decide +kernel
theorem dX1_signSum_1 : decode cX1_signSum 1 = .ok (.istore_n 1, 1) := by decide +kernel
theorem dX1_signSum_2 : decode cX1_signSum 2 = .ok (.iconst 0, 1) := by decide +kernel
theorem dX1_signSum_3 : decode cX1_signSum 3 = .ok (.istore_n 2, 1) := by decide +kernel
theorem dX1_signSum_4 : decode cX1_signSum 4 = .ok (.iload_n 2, 1) := by decide +kernel
theorem dX1_signSum_5 : decode cX1_signSum 5 = .ok (.aload_n 0, 1) := by decide +kernel
theorem dX1_signSum_6 : decode cX1_signSum 6 = .ok (.getfield 18, 3) := by decide +kernel
theorem dX1_signSum_9 : decode cX1_signSum 9 = .ok (.if_icmp .ge 18, 3) := by decide +kernel
theorem dX1_signSum_12 : decode cX1_signSum 12 = .ok (.iload_n 1, 1) := by decide +kernel
theorem dX1_signSum_13 : decode cX1_signSum 13 = .ok (.aload_n 0, 1) := by decide +kernel
theorem dX1_signSum_14 : decode cX1_signSum 14 = .ok (.getfield 9, 3) := by decide +kernel
theorem dX1_signSum_17 : decode cX1_signSum 17 = .ok (.iload_n 2, 1) := by decide +kernel
theorem dX1_signSum_18 : decode cX1_signSum 18 = .ok (.iaload, 1) := by decide +kernel
theorem dX1_signSum_19 : decode cX1_signSum 19 = .ok (.iadd, 1) := by decide +kernel
theorem dX1_signSum_20 : decode cX1_signSum 20 = .ok (.istore_n 1, 1) := by decide +kernel
theorem dX1_signSum_21 : decode cX1_signSum 21 = .ok (.iinc 2 1, 3) := by decide +kernel
theorem dX1_signSum_24 : decode cX1_signSum 24 = .ok (.goto (-20), 3) := by decide +kernel
theorem dX1_signSum_27 : decode cX1_signSum 27 = .ok (.iload_n 1, 1) := by decide +kernel
theorem dX1_signSum_28 : decode cX1_signSum 28 = .ok (.ireturn, 1) := by decide +kernel
theorem dX1_weightedSum_0 : decode cX1_weightedSum 0 = .ok (.iconst 0, 1) := by decide +kernel
theorem dX1_weightedSum_1 : decode cX1_weightedSum 1 = .ok (.istore_n 1, 1) := by decide +kernel
theorem dX1_weightedSum_2 : decode cX1_weightedSum 2 = .ok (.iconst 0, 1) := by decide +kernel
theorem dX1_weightedSum_3 : decode cX1_weightedSum 3 = .ok (.istore_n 2, 1) := by decide +kernel
theorem dX1_weightedSum_4 : decode cX1_weightedSum 4 = .ok (.iload_n 2, 1) := by decide +kernel
theorem dX1_weightedSum_5 : decode cX1_weightedSum 5 = .ok (.aload_n 0, 1) := by decide +kernel
theorem dX1_weightedSum_6 : decode cX1_weightedSum 6 = .ok (.getfield 18, 3) := by decide +kernel
theorem dX1_weightedSum_9 : decode cX1_weightedSum 9 = .ok (.if_icmp .ge 22, 3) := by decide +kernel
theorem dX1_weightedSum_12 : decode cX1_weightedSum 12 = .ok (.iload_n 1, 1) := by decide +kernel
theorem dX1_weightedSum_13 : decode cX1_weightedSum 13 = .ok (.aload_n 0, 1) := by decide +kernel
theorem dX1_weightedSum_14 : decode cX1_weightedSum 14 = .ok (.getfield 9, 3) := by decide +kernel
theorem dX1_weightedSum_17 : decode cX1_weightedSum 17 = .ok (.iload_n 2, 1) := by decide +kernel
theorem dX1_weightedSum_18 : decode cX1_weightedSum 18 = .ok (.iaload, 1) := by decide +kernel
theorem dX1_weightedSum_19 : decode cX1_weightedSum 19 = .ok (.iload_n 2, 1) := by decide +kernel
theorem dX1_weightedSum_20 : decode cX1_weightedSum 20 = .ok (.iconst 1, 1) := by decide +kernel
theorem dX1_weightedSum_21 : decode cX1_weightedSum 21 = .ok (.iadd, 1) := by decide +kernel
theorem dX1_weightedSum_22 : decode cX1_weightedSum 22 = .ok (.imul, 1) := by decide +kernel
theorem dX1_weightedSum_23 : decode cX1_weightedSum 23 = .ok (.iadd, 1) := by decide +kernel
theorem dX1_weightedSum_24 : decode cX1_weightedSum 24 = .ok (.istore_n 1, 1) := by decide +kernel
theorem dX1_weightedSum_25 : decode cX1_weightedSum 25 = .ok (.iinc 2 1, 3) := by decide +kernel
theorem dX1_weightedSum_28 : decode cX1_weightedSum 28 = .ok (.goto (-24), 3) := by decide +kernel
theorem dX1_weightedSum_31 : decode cX1_weightedSum 31 = .ok (.iload_n 1, 1) := by decide +kernel
theorem dX1_weightedSum_32 : decode cX1_weightedSum 32 = .ok (.ireturn, 1) := by decide +kernel
theorem dX1_unnoticedPlaces_0 : decode cX1_unnoticedPlaces 0 = .ok (.iconst 0, 1) := by decide +kernel
theorem dX1_unnoticedPlaces_1 : decode cX1_unnoticedPlaces 1 = .ok (.istore_n 1, 1) := by decide +kernel
theorem dX1_unnoticedPlaces_2 : decode cX1_unnoticedPlaces 2 = .ok (.iconst 0, 1) := by decide +kernel
theorem dX1_unnoticedPlaces_3 : decode cX1_unnoticedPlaces 3 = .ok (.istore_n 2, 1) := by decide +kernel
theorem dX1_unnoticedPlaces_4 : decode cX1_unnoticedPlaces 4 = .ok (.iload_n 2, 1) := by decide +kernel
theorem dX1_unnoticedPlaces_5 : decode cX1_unnoticedPlaces 5 = .ok (.aload_n 0, 1) := by decide +kernel
theorem dX1_unnoticedPlaces_6 : decode cX1_unnoticedPlaces 6 = .ok (.getfield 18, 3) := by decide +kernel
theorem dX1_unnoticedPlaces_9 : decode cX1_unnoticedPlaces 9 = .ok (.if_icmp .ge 46, 3) := by decide +kernel
theorem dX1_unnoticedPlaces_12 : decode cX1_unnoticedPlaces 12 = .ok (.iload_n 2, 1) := by decide +kernel
theorem dX1_unnoticedPlaces_13 : decode cX1_unnoticedPlaces 13 = .ok (.iconst 5, 1) := by decide +kernel
theorem dX1_unnoticedPlaces_14 : decode cX1_unnoticedPlaces 14 = .ok (.irem, 1) := by decide +kernel
theorem dX1_unnoticedPlaces_15 : decode cX1_unnoticedPlaces 15 = .ok (.iconst 1, 1) := by decide +kernel
theorem dX1_unnoticedPlaces_16 : decode cX1_unnoticedPlaces 16 = .ok (.iadd, 1) := by decide +kernel
theorem dX1_unnoticedPlaces_17 : decode cX1_unnoticedPlaces 17 = .ok (.bipush 27, 2) := by decide +kernel
theorem dX1_unnoticedPlaces_19 : decode cX1_unnoticedPlaces 19 = .ok (.aload_n 0, 1) := by decide +kernel
theorem dX1_unnoticedPlaces_20 : decode cX1_unnoticedPlaces 20 = .ok (.getfield 9, 3) := by decide +kernel
theorem dX1_unnoticedPlaces_23 : decode cX1_unnoticedPlaces 23 = .ok (.iload_n 2, 1) := by decide +kernel
theorem dX1_unnoticedPlaces_24 : decode cX1_unnoticedPlaces 24 = .ok (.iaload, 1) := by decide +kernel
theorem dX1_unnoticedPlaces_25 : decode cX1_unnoticedPlaces 25 = .ok (.isub, 1) := by decide +kernel
theorem dX1_unnoticedPlaces_26 : decode cX1_unnoticedPlaces 26 = .ok (.imul, 1) := by decide +kernel
theorem dX1_unnoticedPlaces_27 : decode cX1_unnoticedPlaces 27 = .ok (.istore_n 3, 1) := by decide +kernel
theorem dX1_unnoticedPlaces_28 : decode cX1_unnoticedPlaces 28 = .ok (.aload_n 0, 1) := by decide +kernel
theorem dX1_unnoticedPlaces_29 : decode cX1_unnoticedPlaces 29 = .ok (.getfield 9, 3) := by decide +kernel
theorem dX1_unnoticedPlaces_32 : decode cX1_unnoticedPlaces 32 = .ok (.iload_n 2, 1) := by decide +kernel
theorem dX1_unnoticedPlaces_33 : decode cX1_unnoticedPlaces 33 = .ok (.iaload, 1) := by decide +kernel
theorem dX1_unnoticedPlaces_34 : decode cX1_unnoticedPlaces 34 = .ok (.bipush 27, 2) := by decide +kernel
theorem dX1_unnoticedPlaces_36 : decode cX1_unnoticedPlaces 36 = .ok (.if_icmp .eq 13, 3) := by decide +kernel
theorem dX1_unnoticedPlaces_39 : decode cX1_unnoticedPlaces 39 = .ok (.iload_n 3, 1) := by decide +kernel
theorem dX1_unnoticedPlaces_40 : decode cX1_unnoticedPlaces 40 = .ok (.bipush 32, 2) := by decide +kernel
theorem dX1_unnoticedPlaces_42 : decode cX1_unnoticedPlaces 42 = .ok (.irem, 1) := by decide +kernel
theorem dX1_unnoticedPlaces_43 : decode cX1_unnoticedPlaces 43 = .ok (.ifCond .ne 6, 3) := by decide +kernel
theorem dX1_unnoticedPlaces_46 : decode cX1_unnoticedPlaces 46 = .ok (.iinc 1 1, 3) := by decide +kernel
theorem dX1_unnoticedPlaces_49 : decode cX1_unnoticedPlaces 49 = .ok (.iinc 2 1, 3) := by decide +kernel
theorem dX1_unnoticedPlaces_52 : decode cX1_unnoticedPlaces 52 = .ok (.goto (-48), 3) := by decide +kernel
theorem dX1_unnoticedPlaces_55 : decode cX1_unnoticedPlaces 55 = .ok (.iload_n 1, 1) := by decide +kernel
theorem dX1_unnoticedPlaces_56 : decode cX1_unnoticedPlaces 56 = .ok (.ireturn, 1) := by decide +kernel
theorem dX1_worstPlace_0 : decode cX1_worstPlace 0 = .ok (.aload_n 0, 1) := by decide +kernel
theorem dX1_worstPlace_1 : decode cX1_worstPlace 1 = .ok (.invokevirtual 34, 3) := by decide +kernel
theorem dX1_worstPlace_4 : decode cX1_worstPlace 4 = .ok (.istore_n 1, 1) := by decide +kernel
theorem dX1_worstPlace_5 : decode cX1_worstPlace 5 = .ok (.iconst (-1), 1) := by decide +kernel
theorem dX1_worstPlace_6 : decode cX1_worstPlace 6 = .ok (.istore_n 2, 1) := by decide +kernel
theorem dX1_worstPlace_7 : decode cX1_worstPlace 7 = .ok (.iconst 0, 1) := by decide +kernel
theorem dX1_worstPlace_8 : decode cX1_worstPlace 8 = .ok (.istore_n 3, 1) := by decide +kernel
theorem dX1_worstPlace_9 : decode cX1_worstPlace 9 = .ok (.iconst 1, 1) := by decide +kernel
theorem dX1_worstPlace_10 : decode cX1_worstPlace 10 = .ok (.istore 4, 2) := by decide +kernel
theorem dX1_worstPlace_12 : decode cX1_worstPlace 12 = .ok (.aload_n 0, 1) := by decide +kernel
theorem dX1_worstPlace_13 : decode cX1_worstPlace 13 = .ok (.getfield 18, 3) := by decide +kernel
theorem dX1_worstPlace_16 : decode cX1_worstPlace 16 = .ok (.iconst 1, 1) := by decide +kernel
theorem dX1_worstPlace_17 : decode cX1_worstPlace 17 = .ok (.isub, 1) := by decide +kernel
theorem dX1_worstPlace_18 : decode cX1_worstPlace 18 = .ok (.istore 5, 2) := by decide +kernel
theorem dX1_worstPlace_20 : decode cX1_worstPlace 20 = .ok (.iload 5, 2) := by decide +kernel
theorem dX1_worstPlace_22 : decode cX1_worstPlace 22 = .ok (.ifCond .lt 74, 3) := by decide +kernel
theorem dX1_worstPlace_25 : decode cX1_worstPlace 25 = .ok (.iload_n 1, 1) := by decide +kernel
theorem dX1_worstPlace_26 : decode cX1_worstPlace 26 = .ok (.bipush 30, 2) := by decide +kernel
theorem dX1_worstPlace_28 : decode cX1_worstPlace 28 = .ok (.aload_n 0, 1) := by decide +kernel
theorem dX1_worstPlace_29 : decode cX1_worstPlace 29 = .ok (.getfield 9, 3) := by decide +kernel
theorem dX1_worstPlace_32 : decode cX1_worstPlace 32 = .ok (.iload 5, 2) := by decide +kernel
theorem dX1_worstPlace_34 : decode cX1_worstPlace 34 = .ok (.iaload, 1) := by decide +kernel
theorem dX1_worstPlace_35 : decode cX1_worstPlace 35 = .ok (.isub, 1) := by decide +kernel
theorem dX1_worstPlace_36 : decode cX1_worstPlace 36 = .ok (.iload 4, 2) := by decide +kernel
theorem dX1_worstPlace_38 : decode cX1_worstPlace 38 = .ok (.imul, 1) := by decide +kernel
theorem dX1_worstPlace_39 : decode cX1_worstPlace 39 = .ok (.iadd, 1) := by decide +kernel
theorem dX1_worstPlace_40 : decode cX1_worstPlace 40 = .ok (.sipush 8191, 3) := by decide +kernel
theorem dX1_worstPlace_43 : decode cX1_worstPlace 43 = .ok (.irem, 1) := by decide +kernel
theorem dX1_worstPlace_44 : decode cX1_worstPlace 44 = .ok (.istore 6, 2) := by decide +kernel
theorem dX1_worstPlace_46 : decode cX1_worstPlace 46 = .ok (.iload 6, 2) := by decide +kernel
theorem dX1_worstPlace_48 : decode cX1_worstPlace 48 = .ok (.iload_n 1, 1) := by decide +kernel
theorem dX1_worstPlace_49 : decode cX1_worstPlace 49 = .ok (.isub, 1) := by decide +kernel
theorem dX1_worstPlace_50 : decode cX1_worstPlace 50 = .ok (.invokestatic 38, 3) := by decide +kernel
theorem dX1_worstPlace_53 : decode cX1_worstPlace 53 = .ok (.istore 7, 2) := by decide +kernel
theorem dX1_worstPlace_55 : decode cX1_worstPlace 55 = .ok (.aload_n 0, 1) := by decide +kernel
theorem dX1_worstPlace_56 : decode cX1_worstPlace 56 = .ok (.getfield 9, 3) := by decide +kernel
theorem dX1_worstPlace_59 : decode cX1_worstPlace 59 = .ok (.iload 5, 2) := by decide +kernel
theorem dX1_worstPlace_61 : decode cX1_worstPlace 61 = .ok (.iaload, 1) := by decide +kernel
theorem dX1_worstPlace_62 : decode cX1_worstPlace 62 = .ok (.bipush 30, 2) := by decide +kernel
theorem dX1_worstPlace_64 : decode cX1_worstPlace 64 = .ok (.if_icmp .eq 15, 3) := by decide +kernel
theorem dX1_worstPlace_67 : decode cX1_worstPlace 67 = .ok (.iload 7, 2) := by decide +kernel
theorem dX1_worstPlace_69 : decode cX1_worstPlace 69 = .ok (.iload_n 3, 1) := by decide +kernel
theorem dX1_worstPlace_70 : decode cX1_worstPlace 70 = .ok (.if_icmp .lt 9, 3) := by decide +kernel
theorem dX1_worstPlace_73 : decode cX1_worstPlace 73 = .ok (.iload 7, 2) := by decide +kernel
theorem dX1_worstPlace_75 : decode cX1_worstPlace 75 = .ok (.istore_n 3, 1) := by decide +kernel
theorem dX1_worstPlace_76 : decode cX1_worstPlace 76 = .ok (.iload 5, 2) := by decide +kernel
theorem dX1_worstPlace_78 : decode cX1_worstPlace 78 = .ok (.istore_n 2, 1) := by decide +kernel
theorem dX1_worstPlace_79 : decode cX1_worstPlace 79 = .ok (.iload 4, 2) := by decide +kernel
theorem dX1_worstPlace_81 : decode cX1_worstPlace 81 = .ok (.bipush 37, 2) := by decide +kernel
theorem dX1_worstPlace_83 : decode cX1_worstPlace 83 = .ok (.imul, 1) := by decide +kernel
theorem dX1_worstPlace_84 : decode cX1_worstPlace 84 = .ok (.sipush 8191, 3) := by decide +kernel
theorem dX1_worstPlace_87 : decode cX1_worstPlace 87 = .ok (.irem, 1) := by decide +kernel
theorem dX1_worstPlace_88 : decode cX1_worstPlace 88 = .ok (.istore 4, 2) := by decide +kernel
theorem dX1_worstPlace_90 : decode cX1_worstPlace 90 = .ok (.iinc 5 (-1), 3) := by decide +kernel
theorem dX1_worstPlace_93 : decode cX1_worstPlace 93 = .ok (.goto (-73), 3) := by decide +kernel
theorem dX1_worstPlace_96 : decode cX1_worstPlace 96 = .ok (.iload_n 2, 1) := by decide +kernel
theorem dX1_worstPlace_97 : decode cX1_worstPlace 97 = .ok (.ireturn, 1) := by decide +kernel
theorem dX2_init_0 : decode cX2_init 0 = .ok (.aload_n 0, 1) := by decide +kernel
theorem dX2_init_1 : decode cX2_init 1 = .ok (.invokespecial 3, 3) := by decide +kernel
theorem dX2_init_4 : decode cX2_init 4 = .ok (.aload_n 0, 1) := by decide +kernel
theorem dX2_init_5 : decode cX2_init 5 = .ok (.bipush 12, 2) := by decide +kernel
theorem dX2_init_7 : decode cX2_init 7 = .ok (.anewarray 9, 3) := by decide +kernel
theorem dX2_init_10 : decode cX2_init 10 = .ok (.putfield 11, 3) := by decide +kernel
theorem dX2_init_13 : decode cX2_init 13 = .ok (.aload_n 0, 1) := by decide +kernel
theorem dX2_init_14 : decode cX2_init 14 = .ok (.bipush 24, 2) := by decide +kernel
theorem dX2_init_16 : decode cX2_init 16 = .ok (.anewarray 15, 3) := by decide +kernel
theorem dX2_init_19 : decode cX2_init 19 = .ok (.putfield 17, 3) := by decide +kernel
theorem dX2_init_22 : decode cX2_init 22 = .ok (.iconst 0, 1) := by decide +kernel
theorem dX2_init_23 : decode cX2_init 23 = .ok (.istore_n 1, 1) := by decide +kernel
theorem dX2_init_24 : decode cX2_init 24 = .ok (.iload_n 1, 1) := by decide +kernel
theorem dX2_init_25 : decode cX2_init 25 = .ok (.bipush 12, 2) := by decide +kernel
theorem dX2_init_27 : decode cX2_init 27 = .ok (.if_icmp .ge 22, 3) := by decide +kernel
theorem dX2_init_30 : decode cX2_init 30 = .ok (.aload_n 0, 1) := by decide +kernel
theorem dX2_init_31 : decode cX2_init 31 = .ok (.getfield 11, 3) := by decide +kernel
theorem dX2_init_34 : decode cX2_init 34 = .ok (.iload_n 1, 1) := by decide +kernel
theorem dX2_init_35 : decode cX2_init 35 = .ok (.new 9, 3) := by decide +kernel
theorem dX2_init_38 : decode cX2_init 38 = .ok (.dup, 1) := by decide +kernel
theorem dX2_init_39 : decode cX2_init 39 = .ok (.invokespecial 21, 3) := by decide +kernel
theorem dX2_init_42 : decode cX2_init 42 = .ok (.aastore, 1) := by decide +kernel
theorem dX2_init_43 : decode cX2_init 43 = .ok (.iinc 1 1, 3) := by decide +kernel
theorem dX2_init_46 : decode cX2_init 46 = .ok (.goto (-22), 3) := by decide +kernel
theorem dX2_init_49 : decode cX2_init 49 = .ok (.iconst 0, 1) := by decide +kernel
theorem dX2_init_50 : decode cX2_init 50 = .ok (.istore_n 1, 1) := by decide +kernel
theorem dX2_init_51 : decode cX2_init 51 = .ok (.iload_n 1, 1) := by decide +kernel
theorem dX2_init_52 : decode cX2_init 52 = .ok (.bipush 24, 2) := by decide +kernel
theorem dX2_init_54 : decode cX2_init 54 = .ok (.if_icmp .ge 22, 3) := by decide +kernel
theorem dX2_init_57 : decode cX2_init 57 = .ok (.aload_n 0, 1) := by decide +kernel
theorem dX2_init_58 : decode cX2_init 58 = .ok (.getfield 17, 3) := by decide +kernel
theorem dX2_init_61 : decode cX2_init 61 = .ok (.iload_n 1, 1) := by decide +kernel
theorem dX2_init_62 : decode cX2_init 62 = .ok (.new 15, 3) := by decide +kernel
theorem dX2_init_65 : decode cX2_init 65 = .ok (.dup, 1) := by decide +kernel
theorem dX2_init_66 : decode cX2_init 66 = .ok (.invokespecial 22, 3) := by decide +kernel
theorem dX2_init_69 : decode cX2_init 69 = .ok (.aastore, 1) := by decide +kernel
theorem dX2_init_70 : decode cX2_init 70 = .ok (.iinc 1 1, 3) := by decide +kernel
theorem dX2_init_73 : decode cX2_init 73 = .ok (.goto (-22), 3) := by decide +kernel
theorem dX2_init_76 : decode cX2_init 76 = .ok (.return_, 1) := by decide +kernel
theorem dX2_addLetter_0 : decode cX2_addLetter 0 = .ok (.aload_n 0, 1) := by decide +kernel
theorem dX2_addLetter_1 : decode cX2_addLetter 1 = .ok (.invokevirtual 23, 3) := by decide +kernel
theorem dX2_addLetter_4 : decode cX2_addLetter 4 = .ok (.aload_n 0, 1) := by decide +kernel
theorem dX2_addLetter_5 : decode cX2_addLetter 5 = .ok (.dup, 1) := by decide +kernel
theorem dX2_addLetter_6 : decode cX2_addLetter 6 = .ok (.getfield 26, 3) := by decide +kernel
theorem dX2_addLetter_9 : decode cX2_addLetter 9 = .ok (.iconst 1, 1) := by decide +kernel
theorem dX2_addLetter_10 : decode cX2_addLetter 10 = .ok (.iadd, 1) := by decide +kernel
theorem dX2_addLetter_11 : decode cX2_addLetter 11 = .ok (.putfield 26, 3) := by decide +kernel
theorem dX2_addLetter_14 : decode cX2_addLetter 14 = .ok (.aload_n 0, 1) := by decide +kernel
theorem dX2_addLetter_15 : decode cX2_addLetter 15 = .ok (.getfield 26, 3) := by decide +kernel
theorem dX2_addLetter_18 : decode cX2_addLetter 18 = .ok (.iconst 1, 1) := by decide +kernel
theorem dX2_addLetter_19 : decode cX2_addLetter 19 = .ok (.isub, 1) := by decide +kernel
theorem dX2_addLetter_20 : decode cX2_addLetter 20 = .ok (.ireturn, 1) := by decide +kernel
theorem dX2_copyLetter_0 : decode cX2_copyLetter 0 = .ok (.aload_n 0, 1) := by decide +kernel
theorem dX2_copyLetter_1 : decode cX2_copyLetter 1 = .ok (.iload_n 1, 1) := by decide +kernel
theorem dX2_copyLetter_2 : decode cX2_copyLetter 2 = .ok (.invokevirtual 30, 3) := by decide +kernel
theorem dX2_copyLetter_5 : decode cX2_copyLetter 5 = .ok (.astore_n 2, 1) := by decide +kernel
theorem dX2_copyLetter_6 : decode cX2_copyLetter 6 = .ok (.aload_n 0, 1) := by decide +kernel
theorem dX2_copyLetter_7 : decode cX2_copyLetter 7 = .ok (.invokevirtual 23, 3) := by decide +kernel
theorem dX2_copyLetter_10 : decode cX2_copyLetter 10 = .ok (.aload_n 0, 1) := by decide +kernel
theorem dX2_copyLetter_11 : decode cX2_copyLetter 11 = .ok (.getfield 11, 3) := by decide +kernel
theorem dX2_copyLetter_14 : decode cX2_copyLetter 14 = .ok (.aload_n 0, 1) := by decide +kernel
theorem dX2_copyLetter_15 : decode cX2_copyLetter 15 = .ok (.getfield 26, 3) := by decide +kernel
theorem dX2_copyLetter_18 : decode cX2_copyLetter 18 = .ok (.aaload, 1) := by decide +kernel
theorem dX2_copyLetter_19 : decode cX2_copyLetter 19 = .ok (.aload_n 2, 1) := by decide +kernel
theorem dX2_copyLetter_20 : decode cX2_copyLetter 20 = .ok (.invokevirtual 34, 3) := by decide +kernel
theorem dX2_copyLetter_23 : decode cX2_copyLetter 23 = .ok (.aload_n 0, 1) := by decide +kernel
theorem dX2_copyLetter_24 : decode cX2_copyLetter 24 = .ok (.dup, 1) := by decide +kernel
theorem dX2_copyLetter_25 : decode cX2_copyLetter 25 = .ok (.getfield 26, 3) := by decide +kernel
theorem dX2_copyLetter_28 : decode cX2_copyLetter 28 = .ok (.iconst 1, 1) := by decide +kernel
theorem dX2_copyLetter_29 : decode cX2_copyLetter 29 = .ok (.iadd, 1) := by decide +kernel
theorem dX2_copyLetter_30 : decode cX2_copyLetter 30 = .ok (.putfield 26, 3) := by decide +kernel
theorem dX2_copyLetter_33 : decode cX2_copyLetter 33 = .ok (.aload_n 0, 1) := by decide +kernel
theorem dX2_copyLetter_34 : decode cX2_copyLetter 34 = .ok (.getfield 26, 3) := by decide +kernel
theorem dX2_copyLetter_37 : decode cX2_copyLetter 37 = .ok (.iconst 1, 1) := by decide +kernel
theorem dX2_copyLetter_38 : decode cX2_copyLetter 38 = .ok (.isub, 1) := by decide +kernel
theorem dX2_copyLetter_39 : decode cX2_copyLetter 39 = .ok (.ireturn, 1) := by decide +kernel
theorem dX2_write_0 : decode cX2_write 0 = .ok (.aload_n 0, 1) := by decide +kernel
theorem dX2_write_1 : decode cX2_write 1 = .ok (.iload_n 1, 1) := by decide +kernel
theorem dX2_write_2 : decode cX2_write 2 = .ok (.invokevirtual 30, 3) := by decide +kernel
theorem dX2_write_5 : decode cX2_write 5 = .ok (.astore_n 3, 1) := by decide +kernel
theorem dX2_write_6 : decode cX2_write 6 = .ok (.iload_n 2, 1) := by decide +kernel
theorem dX2_write_7 : decode cX2_write 7 = .ok (.invokestatic 38, 3) := by decide +kernel
theorem dX2_write_10 : decode cX2_write 10 = .ok (.aload_n 3, 1) := by decide +kernel
theorem dX2_write_11 : decode cX2_write 11 = .ok (.getfield 42, 3) := by decide +kernel
theorem dX2_write_14 : decode cX2_write 14 = .ok (.bipush 40, 2) := by decide +kernel
theorem dX2_write_16 : decode cX2_write 16 = .ok (.if_icmp .lt 13, 3) := by decide +kernel
theorem dX2_write_19 : decode cX2_write 19 = .ok (.new 45, 3) := by decide +kernel
theorem dX2_write_22 : decode cX2_write 22 = .ok (.dup, 1) := by decide +kernel
theorem dX2_write_23 : decode cX2_write 23 = .ok (.ldc 47, 2) := by decide +kernel
theorem dX2_write_25 : decode cX2_write 25 = .ok (.invokespecial 49, 3) := by decide +kernel
theorem dX2_write_28 : decode cX2_write 28 = .ok (.athrow, 1) := by decide +kernel
theorem dX2_write_29 : decode cX2_write 29 = .ok (.aload_n 3, 1) := by decide +kernel
theorem dX2_write_30 : decode cX2_write 30 = .ok (.iload_n 2, 1) := by decide +kernel
theorem dX2_write_31 : decode cX2_write 31 = .ok (.invokevirtual 52, 3) := by decide +kernel
theorem dX2_write_34 : decode cX2_write 34 = .ok (.aload_n 3, 1) := by decide +kernel
theorem dX2_write_35 : decode cX2_write 35 = .ok (.getfield 42, 3) := by decide +kernel
theorem dX2_write_38 : decode cX2_write 38 = .ok (.ireturn, 1) := by decide +kernel
theorem dX2_erase_0 : decode cX2_erase 0 = .ok (.aload_n 0, 1) := by decide +kernel
theorem dX2_erase_1 : decode cX2_erase 1 = .ok (.iload_n 1, 1) := by decide +kernel
theorem dX2_erase_2 : decode cX2_erase 2 = .ok (.invokevirtual 30, 3) := by decide +kernel
theorem dX2_erase_5 : decode cX2_erase 5 = .ok (.astore_n 2, 1) := by decide +kernel
theorem dX2_erase_6 : decode cX2_erase 6 = .ok (.aload_n 2, 1) := by decide +kernel
theorem dX2_erase_7 : decode cX2_erase 7 = .ok (.invokestatic 55, 3) := by decide +kernel
theorem dX2_erase_10 : decode cX2_erase 10 = .ok (.aload_n 2, 1) := by decide +kernel
theorem dX2_erase_11 : decode cX2_erase 11 = .ok (.invokevirtual 58, 3) := by decide +kernel
theorem dX2_erase_14 : decode cX2_erase 14 = .ok (.ireturn, 1) := by decide +kernel
theorem dX2_forge_0 : decode cX2_forge 0 = .ok (.aload_n 0, 1) := by decide +kernel
theorem dX2_forge_1 : decode cX2_forge 1 = .ok (.iload_n 1, 1) := by decide +kernel
theorem dX2_forge_2 : decode cX2_forge 2 = .ok (.iload_n 2, 1) := by decide +kernel
theorem dX2_forge_3 : decode cX2_forge 3 = .ok (.invokevirtual 62, 3) := by decide +kernel
theorem dX2_forge_6 : decode cX2_forge 6 = .ok (.astore_n 3, 1) := by decide +kernel
theorem dX2_forge_7 : decode cX2_forge 7 = .ok (.aload_n 3, 1) := by decide +kernel
theorem dX2_forge_8 : decode cX2_forge 8 = .ok (.getfield 66, 3) := by decide +kernel
theorem dX2_forge_11 : decode cX2_forge 11 = .ok (.iload_n 2, 1) := by decide +kernel
theorem dX2_forge_12 : decode cX2_forge 12 = .ok (.iaload, 1) := by decide +kernel
theorem dX2_forge_13 : decode cX2_forge 13 = .ok (.bipush 27, 2) := by decide +kernel
theorem dX2_forge_15 : decode cX2_forge 15 = .ok (.if_icmp .ne 13, 3) := by decide +kernel
theorem dX2_forge_18 : decode cX2_forge 18 = .ok (.new 45, 3) := by decide +kernel
theorem dX2_forge_21 : decode cX2_forge 21 = .ok (.dup, 1) := by decide +kernel
theorem dX2_forge_22 : decode cX2_forge 22 = .ok (.ldc 70, 2) := by decide +kernel
theorem dX2_forge_24 : decode cX2_forge 24 = .ok (.invokespecial 49, 3) := by decide +kernel
theorem dX2_forge_27 : decode cX2_forge 27 = .ok (.athrow, 1) := by decide +kernel
theorem dX2_forge_28 : decode cX2_forge 28 = .ok (.aload_n 3, 1) := by decide +kernel
theorem dX2_forge_29 : decode cX2_forge 29 = .ok (.iload_n 2, 1) := by decide +kernel
theorem dX2_forge_30 : decode cX2_forge 30 = .ok (.bipush 27, 2) := by decide +kernel
theorem dX2_forge_32 : decode cX2_forge 32 = .ok (.invokevirtual 72, 3) := by decide +kernel
theorem dX2_forge_35 : decode cX2_forge 35 = .ok (.ireturn, 1) := by decide +kernel
theorem dX2_tear_0 : decode cX2_tear 0 = .ok (.aload_n 0, 1) := by decide +kernel
theorem dX2_tear_1 : decode cX2_tear 1 = .ok (.iload_n 1, 1) := by decide +kernel
theorem dX2_tear_2 : decode cX2_tear 2 = .ok (.iload_n 2, 1) := by decide +kernel
theorem dX2_tear_3 : decode cX2_tear 3 = .ok (.invokevirtual 62, 3) := by decide +kernel
theorem dX2_tear_6 : decode cX2_tear 6 = .ok (.astore_n 3, 1) := by decide +kernel
theorem dX2_tear_7 : decode cX2_tear 7 = .ok (.aload_n 3, 1) := by decide +kernel
theorem dX2_tear_8 : decode cX2_tear 8 = .ok (.getfield 66, 3) := by decide +kernel
theorem dX2_tear_11 : decode cX2_tear 11 = .ok (.iload_n 2, 1) := by decide +kernel
theorem dX2_tear_12 : decode cX2_tear 12 = .ok (.iaload, 1) := by decide +kernel
theorem dX2_tear_13 : decode cX2_tear 13 = .ok (.bipush 30, 2) := by decide +kernel
theorem dX2_tear_15 : decode cX2_tear 15 = .ok (.if_icmp .ne 13, 3) := by decide +kernel
theorem dX2_tear_18 : decode cX2_tear 18 = .ok (.new 45, 3) := by decide +kernel
theorem dX2_tear_21 : decode cX2_tear 21 = .ok (.dup, 1) := by decide +kernel
theorem dX2_tear_22 : decode cX2_tear 22 = .ok (.ldc 76, 2) := by decide +kernel
theorem dX2_tear_24 : decode cX2_tear 24 = .ok (.invokespecial 49, 3) := by decide +kernel
theorem dX2_tear_27 : decode cX2_tear 27 = .ok (.athrow, 1) := by decide +kernel
theorem dX2_tear_28 : decode cX2_tear 28 = .ok (.aload_n 3, 1) := by decide +kernel
theorem dX2_tear_29 : decode cX2_tear 29 = .ok (.iload_n 2, 1) := by decide +kernel
theorem dX2_tear_30 : decode cX2_tear 30 = .ok (.bipush 30, 2) := by decide +kernel
theorem dX2_tear_32 : decode cX2_tear 32 = .ok (.invokevirtual 72, 3) := by decide +kernel
theorem dX2_tear_35 : decode cX2_tear 35 = .ok (.ireturn, 1) := by decide +kernel
theorem dX2_mend_0 : decode cX2_mend 0 = .ok (.aload_n 0, 1) := by decide +kernel
theorem dX2_mend_1 : decode cX2_mend 1 = .ok (.iload_n 1, 1) := by decide +kernel
theorem dX2_mend_2 : decode cX2_mend 2 = .ok (.iload_n 2, 1) := by decide +kernel
theorem dX2_mend_3 : decode cX2_mend 3 = .ok (.invokevirtual 62, 3) := by decide +kernel
theorem dX2_mend_6 : decode cX2_mend 6 = .ok (.astore 4, 2) := by decide +kernel
theorem dX2_mend_8 : decode cX2_mend 8 = .ok (.iload_n 3, 1) := by decide +kernel
theorem dX2_mend_9 : decode cX2_mend 9 = .ok (.invokestatic 38, 3) := by decide +kernel
theorem dX2_mend_12 : decode cX2_mend 12 = .ok (.aload 4, 2) := by decide +kernel
theorem dX2_mend_14 : decode cX2_mend 14 = .ok (.getfield 66, 3) := by decide +kernel
theorem dX2_mend_17 : decode cX2_mend 17 = .ok (.iload_n 2, 1) := by decide +kernel
theorem dX2_mend_18 : decode cX2_mend 18 = .ok (.iaload, 1) := by decide +kernel
theorem dX2_mend_19 : decode cX2_mend 19 = .ok (.bipush 30, 2) := by decide +kernel
theorem dX2_mend_21 : decode cX2_mend 21 = .ok (.if_icmp .eq 13, 3) := by decide +kernel
theorem dX2_mend_24 : decode cX2_mend 24 = .ok (.new 45, 3) := by decide +kernel
theorem dX2_mend_27 : decode cX2_mend 27 = .ok (.dup, 1) := by decide +kernel
theorem dX2_mend_28 : decode cX2_mend 28 = .ok (.ldc 78, 2) := by decide +kernel
theorem dX2_mend_30 : decode cX2_mend 30 = .ok (.invokespecial 49, 3) := by decide +kernel
theorem dX2_mend_33 : decode cX2_mend 33 = .ok (.athrow, 1) := by decide +kernel
theorem dX2_mend_34 : decode cX2_mend 34 = .ok (.aload 4, 2) := by decide +kernel
theorem dX2_mend_36 : decode cX2_mend 36 = .ok (.iload_n 2, 1) := by decide +kernel
theorem dX2_mend_37 : decode cX2_mend 37 = .ok (.iload_n 3, 1) := by decide +kernel
theorem dX2_mend_38 : decode cX2_mend 38 = .ok (.invokevirtual 72, 3) := by decide +kernel
theorem dX2_mend_41 : decode cX2_mend 41 = .ok (.pop, 1) := by decide +kernel
theorem dX2_mend_42 : decode cX2_mend 42 = .ok (.aload 4, 2) := by decide +kernel
theorem dX2_mend_44 : decode cX2_mend 44 = .ok (.bipush 30, 2) := by decide +kernel
theorem dX2_mend_46 : decode cX2_mend 46 = .ok (.invokevirtual 80, 3) := by decide +kernel
theorem dX2_mend_49 : decode cX2_mend 49 = .ok (.ireturn, 1) := by decide +kernel
theorem dX2_seal_0 : decode cX2_seal 0 = .ok (.aload_n 0, 1) := by decide +kernel
theorem dX2_seal_1 : decode cX2_seal 1 = .ok (.iload_n 1, 1) := by decide +kernel
theorem dX2_seal_2 : decode cX2_seal 2 = .ok (.invokevirtual 30, 3) := by decide +kernel
theorem dX2_seal_5 : decode cX2_seal 5 = .ok (.astore_n 2, 1) := by decide +kernel
theorem dX2_seal_6 : decode cX2_seal 6 = .ok (.aload_n 0, 1) := by decide +kernel
theorem dX2_seal_7 : decode cX2_seal 7 = .ok (.getfield 84, 3) := by decide +kernel
theorem dX2_seal_10 : decode cX2_seal 10 = .ok (.bipush 24, 2) := by decide +kernel
theorem dX2_seal_12 : decode cX2_seal 12 = .ok (.if_icmp .lt 13, 3) := by decide +kernel
theorem dX2_seal_15 : decode cX2_seal 15 = .ok (.new 45, 3) := by decide +kernel
theorem dX2_seal_18 : decode cX2_seal 18 = .ok (.dup, 1) := by decide +kernel
theorem dX2_seal_19 : decode cX2_seal 19 = .ok (.ldc 87, 2) := by decide +kernel
theorem dX2_seal_21 : decode cX2_seal 21 = .ok (.invokespecial 49, 3) := by decide +kernel
theorem dX2_seal_24 : decode cX2_seal 24 = .ok (.athrow, 1) := by decide +kernel
theorem dX2_seal_25 : decode cX2_seal 25 = .ok (.aload_n 2, 1) := by decide +kernel
theorem dX2_seal_26 : decode cX2_seal 26 = .ok (.invokestatic 55, 3) := by decide +kernel
theorem dX2_seal_29 : decode cX2_seal 29 = .ok (.aload_n 0, 1) := by decide +kernel
theorem dX2_seal_30 : decode cX2_seal 30 = .ok (.getfield 17, 3) := by decide +kernel
theorem dX2_seal_33 : decode cX2_seal 33 = .ok (.aload_n 0, 1) := by decide +kernel
theorem dX2_seal_34 : decode cX2_seal 34 = .ok (.getfield 84, 3) := by decide +kernel
theorem dX2_seal_37 : decode cX2_seal 37 = .ok (.aaload, 1) := by decide +kernel
theorem dX2_seal_38 : decode cX2_seal 38 = .ok (.iload_n 1, 1) := by decide +kernel
theorem dX2_seal_39 : decode cX2_seal 39 = .ok (.aload_n 2, 1) := by decide +kernel
theorem dX2_seal_40 : decode cX2_seal 40 = .ok (.aload_n 0, 1) := by decide +kernel
theorem dX2_seal_41 : decode cX2_seal 41 = .ok (.invokevirtual 89, 3) := by decide +kernel
theorem dX2_seal_44 : decode cX2_seal 44 = .ok (.invokevirtual 92, 3) := by decide +kernel
theorem dX2_seal_47 : decode cX2_seal 47 = .ok (.aload_n 0, 1) := by decide +kernel
theorem dX2_seal_48 : decode cX2_seal 48 = .ok (.dup, 1) := by decide +kernel
theorem dX2_seal_49 : decode cX2_seal 49 = .ok (.getfield 84, 3) := by decide +kernel
theorem dX2_seal_52 : decode cX2_seal 52 = .ok (.iconst 1, 1) := by decide +kernel
theorem dX2_seal_53 : decode cX2_seal 53 = .ok (.iadd, 1) := by decide +kernel
theorem dX2_seal_54 : decode cX2_seal 54 = .ok (.putfield 84, 3) := by decide +kernel
theorem dX2_seal_57 : decode cX2_seal 57 = .ok (.aload_n 0, 1) := by decide +kernel
theorem dX2_seal_58 : decode cX2_seal 58 = .ok (.getfield 84, 3) := by decide +kernel
theorem dX2_seal_61 : decode cX2_seal 61 = .ok (.iconst 1, 1) := by decide +kernel
theorem dX2_seal_62 : decode cX2_seal 62 = .ok (.isub, 1) := by decide +kernel
theorem dX2_seal_63 : decode cX2_seal 63 = .ok (.ireturn, 1) := by decide +kernel
theorem dX2_unseal_0 : decode cX2_unseal 0 = .ok (.aload_n 0, 1) := by decide +kernel
theorem dX2_unseal_1 : decode cX2_unseal 1 = .ok (.getfield 84, 3) := by decide +kernel
theorem dX2_unseal_4 : decode cX2_unseal 4 = .ok (.ifCond .gt 13, 3) := by decide +kernel
theorem dX2_unseal_7 : decode cX2_unseal 7 = .ok (.new 45, 3) := by decide +kernel
theorem dX2_unseal_10 : decode cX2_unseal 10 = .ok (.dup, 1) := by decide +kernel
theorem dX2_unseal_11 : decode cX2_unseal 11 = .ok (.ldc 96, 2) := by decide +kernel
theorem dX2_unseal_13 : decode cX2_unseal 13 = .ok (.invokespecial 49, 3) := by decide +kernel
theorem dX2_unseal_16 : decode cX2_unseal 16 = .ok (.athrow, 1) := by decide +kernel
theorem dX2_unseal_17 : decode cX2_unseal 17 = .ok (.aload_n 0, 1) := by decide +kernel
theorem dX2_unseal_18 : decode cX2_unseal 18 = .ok (.dup, 1) := by decide +kernel
theorem dX2_unseal_19 : decode cX2_unseal 19 = .ok (.getfield 84, 3) := by decide +kernel
theorem dX2_unseal_22 : decode cX2_unseal 22 = .ok (.iconst 1, 1) := by decide +kernel
theorem dX2_unseal_23 : decode cX2_unseal 23 = .ok (.isub, 1) := by decide +kernel
theorem dX2_unseal_24 : decode cX2_unseal 24 = .ok (.putfield 84, 3) := by decide +kernel
theorem dX2_unseal_27 : decode cX2_unseal 27 = .ok (.aload_n 0, 1) := by decide +kernel
theorem dX2_unseal_28 : decode cX2_unseal 28 = .ok (.getfield 17, 3) := by decide +kernel
theorem dX2_unseal_31 : decode cX2_unseal 31 = .ok (.aload_n 0, 1) := by decide +kernel
theorem dX2_unseal_32 : decode cX2_unseal 32 = .ok (.getfield 84, 3) := by decide +kernel
theorem dX2_unseal_35 : decode cX2_unseal 35 = .ok (.aaload, 1) := by decide +kernel
theorem dX2_unseal_36 : decode cX2_unseal 36 = .ok (.getfield 98, 3) := by decide +kernel
theorem dX2_unseal_39 : decode cX2_unseal 39 = .ok (.ireturn, 1) := by decide +kernel
theorem dX2_letters_0 : decode cX2_letters 0 = .ok (.aload_n 0, 1) := by decide +kernel
theorem dX2_letters_1 : decode cX2_letters 1 = .ok (.getfield 26, 3) := by decide +kernel
theorem dX2_letters_4 : decode cX2_letters 4 = .ok (.ireturn, 1) := by decide +kernel
theorem dX2_signsOf_0 : decode cX2_signsOf 0 = .ok (.aload_n 0, 1) := by decide +kernel
theorem dX2_signsOf_1 : decode cX2_signsOf 1 = .ok (.iload_n 1, 1) := by decide +kernel
theorem dX2_signsOf_2 : decode cX2_signsOf 2 = .ok (.invokevirtual 30, 3) := by decide +kernel
theorem dX2_signsOf_5 : decode cX2_signsOf 5 = .ok (.getfield 42, 3) := by decide +kernel
theorem dX2_signsOf_8 : decode cX2_signsOf 8 = .ok (.ireturn, 1) := by decide +kernel
theorem dX2_commasOf_0 : decode cX2_commasOf 0 = .ok (.aload_n 0, 1) := by decide +kernel
theorem dX2_commasOf_1 : decode cX2_commasOf 1 = .ok (.iload_n 1, 1) := by decide +kernel
theorem dX2_commasOf_2 : decode cX2_commasOf 2 = .ok (.invokevirtual 30, 3) := by decide +kernel
theorem dX2_commasOf_5 : decode cX2_commasOf 5 = .ok (.bipush 27, 2) := by decide +kernel
theorem dX2_commasOf_7 : decode cX2_commasOf 7 = .ok (.invokevirtual 80, 3) := by decide +kernel
theorem dX2_commasOf_10 : decode cX2_commasOf 10 = .ok (.ireturn, 1) := by decide +kernel
theorem dX2_tearsOf_0 : decode cX2_tearsOf 0 = .ok (.aload_n 0, 1) := by decide +kernel
theorem dX2_tearsOf_1 : decode cX2_tearsOf 1 = .ok (.iload_n 1, 1) := by decide +kernel
theorem dX2_tearsOf_2 : decode cX2_tearsOf 2 = .ok (.invokevirtual 30, 3) := by decide +kernel
theorem dX2_tearsOf_5 : decode cX2_tearsOf 5 = .ok (.bipush 30, 2) := by decide +kernel
theorem dX2_tearsOf_7 : decode cX2_tearsOf 7 = .ok (.invokevirtual 80, 3) := by decide +kernel
theorem dX2_tearsOf_10 : decode cX2_tearsOf 10 = .ok (.ireturn, 1) := by decide +kernel
theorem dX2_digestOf_0 : decode cX2_digestOf 0 = .ok (.aload_n 0, 1) := by decide +kernel
theorem dX2_digestOf_1 : decode cX2_digestOf 1 = .ok (.iload_n 1, 1) := by decide +kernel
theorem dX2_digestOf_2 : decode cX2_digestOf 2 = .ok (.invokevirtual 30, 3) := by decide +kernel
theorem dX2_digestOf_5 : decode cX2_digestOf 5 = .ok (.invokevirtual 101, 3) := by decide +kernel
theorem dX2_digestOf_8 : decode cX2_digestOf 8 = .ok (.ireturn, 1) := by decide +kernel
theorem dX2_signAt_0 : decode cX2_signAt 0 = .ok (.aload_n 0, 1) := by decide +kernel
theorem dX2_signAt_1 : decode cX2_signAt 1 = .ok (.iload_n 1, 1) := by decide +kernel
theorem dX2_signAt_2 : decode cX2_signAt 2 = .ok (.iload_n 2, 1) := by decide +kernel
theorem dX2_signAt_3 : decode cX2_signAt 3 = .ok (.invokevirtual 62, 3) := by decide +kernel
theorem dX2_signAt_6 : decode cX2_signAt 6 = .ok (.getfield 66, 3) := by decide +kernel
theorem dX2_signAt_9 : decode cX2_signAt 9 = .ok (.iload_n 2, 1) := by decide +kernel
theorem dX2_signAt_10 : decode cX2_signAt 10 = .ok (.iaload, 1) := by decide +kernel
theorem dX2_signAt_11 : decode cX2_signAt 11 = .ok (.ireturn, 1) := by decide +kernel
theorem dX2_sumOf_0 : decode cX2_sumOf 0 = .ok (.aload_n 0, 1) := by decide +kernel
theorem dX2_sumOf_1 : decode cX2_sumOf 1 = .ok (.iload_n 1, 1) := by decide +kernel
theorem dX2_sumOf_2 : decode cX2_sumOf 2 = .ok (.invokevirtual 30, 3) := by decide +kernel
theorem dX2_sumOf_5 : decode cX2_sumOf 5 = .ok (.astore 4, 2) := by decide +kernel
theorem dX2_sumOf_7 : decode cX2_sumOf 7 = .ok (.iload_n 3, 1) := by decide +kernel
theorem dX2_sumOf_8 : decode cX2_sumOf 8 = .ok (.iconst 1, 1) := by decide +kernel
theorem dX2_sumOf_9 : decode cX2_sumOf 9 = .ok (.if_icmp .lt 18, 3) := by decide +kernel
theorem dX2_sumOf_12 : decode cX2_sumOf 12 = .ok (.iload_n 2, 1) := by decide +kernel
theorem dX2_sumOf_13 : decode cX2_sumOf 13 = .ok (.ifCond .lt 14, 3) := by decide +kernel
theorem dX2_sumOf_16 : decode cX2_sumOf 16 = .ok (.iload_n 3, 1) := by decide +kernel
theorem dX2_sumOf_17 : decode cX2_sumOf 17 = .ok (.aload 4, 2) := by decide +kernel
theorem dX2_sumOf_19 : decode cX2_sumOf 19 = .ok (.getfield 42, 3) := by decide +kernel
theorem dX2_sumOf_22 : decode cX2_sumOf 22 = .ok (.iload_n 2, 1) := by decide +kernel
theorem dX2_sumOf_23 : decode cX2_sumOf 23 = .ok (.isub, 1) := by decide +kernel
theorem dX2_sumOf_24 : decode cX2_sumOf 24 = .ok (.if_icmp .le 13, 3) := by decide +kernel
theorem dX2_sumOf_27 : decode cX2_sumOf 27 = .ok (.new 104, 3) := by decide +kernel
theorem dX2_sumOf_30 : decode cX2_sumOf 30 = .ok (.dup, 1) := by decide +kernel
theorem dX2_sumOf_31 : decode cX2_sumOf 31 = .ok (.ldc 106, 2) := by decide +kernel
theorem dX2_sumOf_33 : decode cX2_sumOf 33 = .ok (.invokespecial 108, 3) := by decide +kernel
theorem dX2_sumOf_36 : decode cX2_sumOf 36 = .ok (.athrow, 1) := by decide +kernel
theorem dX2_sumOf_37 : decode cX2_sumOf 37 = .ok (.aload 4, 2) := by decide +kernel
theorem dX2_sumOf_39 : decode cX2_sumOf 39 = .ok (.iload_n 2, 1) := by decide +kernel
theorem dX2_sumOf_40 : decode cX2_sumOf 40 = .ok (.iload_n 3, 1) := by decide +kernel
theorem dX2_sumOf_41 : decode cX2_sumOf 41 = .ok (.invokevirtual 109, 3) := by decide +kernel
theorem dX2_sumOf_44 : decode cX2_sumOf 44 = .ok (.ireturn, 1) := by decide +kernel
theorem dX2_sameSums_0 : decode cX2_sameSums 0 = .ok (.aload_n 0, 1) := by decide +kernel
theorem dX2_sameSums_1 : decode cX2_sameSums 1 = .ok (.iload_n 1, 1) := by decide +kernel
theorem dX2_sameSums_2 : decode cX2_sameSums 2 = .ok (.invokevirtual 30, 3) := by decide +kernel
theorem dX2_sameSums_5 : decode cX2_sameSums 5 = .ok (.astore_n 3, 1) := by decide +kernel
theorem dX2_sameSums_6 : decode cX2_sameSums 6 = .ok (.iload_n 2, 1) := by decide +kernel
theorem dX2_sameSums_7 : decode cX2_sameSums 7 = .ok (.invokestatic 112, 3) := by decide +kernel
theorem dX2_sameSums_10 : decode cX2_sameSums 10 = .ok (.aload_n 3, 1) := by decide +kernel
theorem dX2_sameSums_11 : decode cX2_sameSums 11 = .ok (.iload_n 2, 1) := by decide +kernel
theorem dX2_sameSums_12 : decode cX2_sameSums 12 = .ok (.invokevirtual 115, 3) := by decide +kernel
theorem dX2_sameSums_15 : decode cX2_sameSums 15 = .ok (.ireturn, 1) := by decide +kernel
theorem dX2_falseAlarms_0 : decode cX2_falseAlarms 0 = .ok (.aload_n 0, 1) := by decide +kernel
theorem dX2_falseAlarms_1 : decode cX2_falseAlarms 1 = .ok (.iload_n 1, 1) := by decide +kernel
theorem dX2_falseAlarms_2 : decode cX2_falseAlarms 2 = .ok (.invokevirtual 30, 3) := by decide +kernel
theorem dX2_falseAlarms_5 : decode cX2_falseAlarms 5 = .ok (.astore_n 3, 1) := by decide +kernel
theorem dX2_falseAlarms_6 : decode cX2_falseAlarms 6 = .ok (.iload_n 2, 1) := by decide +kernel
theorem dX2_falseAlarms_7 : decode cX2_falseAlarms 7 = .ok (.invokestatic 112, 3) := by decide +kernel
theorem dX2_falseAlarms_10 : decode cX2_falseAlarms 10 = .ok (.aload_n 3, 1) := by decide +kernel
theorem dX2_falseAlarms_11 : decode cX2_falseAlarms 11 = .ok (.iload_n 2, 1) := by decide +kernel
theorem dX2_falseAlarms_12 : decode cX2_falseAlarms 12 = .ok (.invokevirtual 118, 3) := by decide +kernel
theorem dX2_falseAlarms_15 : decode cX2_falseAlarms 15 = .ok (.ireturn, 1) := by decide +kernel
theorem dX2_firstOf_0 : decode cX2_firstOf 0 = .ok (.aload_n 0, 1) := by decide +kernel
theorem dX2_firstOf_1 : decode cX2_firstOf 1 = .ok (.iload_n 1, 1) := by decide +kernel
theorem dX2_firstOf_2 : decode cX2_firstOf 2 = .ok (.invokevirtual 30, 3) := by decide +kernel
theorem dX2_firstOf_5 : decode cX2_firstOf 5 = .ok (.astore_n 3, 1) := by decide +kernel
theorem dX2_firstOf_6 : decode cX2_firstOf 6 = .ok (.aload_n 0, 1) := by decide +kernel
theorem dX2_firstOf_7 : decode cX2_firstOf 7 = .ok (.iload_n 2, 1) := by decide +kernel
theorem dX2_firstOf_8 : decode cX2_firstOf 8 = .ok (.invokevirtual 30, 3) := by decide +kernel
theorem dX2_firstOf_11 : decode cX2_firstOf 11 = .ok (.astore 4, 2) := by decide +kernel
theorem dX2_firstOf_13 : decode cX2_firstOf 13 = .ok (.aload 4, 2) := by decide +kernel
theorem dX2_firstOf_15 : decode cX2_firstOf 15 = .ok (.invokestatic 55, 3) := by decide +kernel
theorem dX2_firstOf_18 : decode cX2_firstOf 18 = .ok (.aload_n 3, 1) := by decide +kernel
theorem dX2_firstOf_19 : decode cX2_firstOf 19 = .ok (.aload 4, 2) := by decide +kernel
theorem dX2_firstOf_21 : decode cX2_firstOf 21 = .ok (.invokevirtual 121, 3) := by decide +kernel
theorem dX2_firstOf_24 : decode cX2_firstOf 24 = .ok (.ireturn, 1) := by decide +kernel
theorem dX2_doubles_0 : decode cX2_doubles 0 = .ok (.iconst 0, 1) := by decide +kernel
theorem dX2_doubles_1 : decode cX2_doubles 1 = .ok (.istore_n 1, 1) := by decide +kernel
theorem dX2_doubles_2 : decode cX2_doubles 2 = .ok (.iconst 0, 1) := by decide +kernel
theorem dX2_doubles_3 : decode cX2_doubles 3 = .ok (.istore_n 2, 1) := by decide +kernel
theorem dX2_doubles_4 : decode cX2_doubles 4 = .ok (.iload_n 2, 1) := by decide +kernel
theorem dX2_doubles_5 : decode cX2_doubles 5 = .ok (.aload_n 0, 1) := by decide +kernel
theorem dX2_doubles_6 : decode cX2_doubles 6 = .ok (.getfield 26, 3) := by decide +kernel
theorem dX2_doubles_9 : decode cX2_doubles 9 = .ok (.if_icmp .ge 75, 3) := by decide +kernel
theorem dX2_doubles_12 : decode cX2_doubles 12 = .ok (.aload_n 0, 1) := by decide +kernel
theorem dX2_doubles_13 : decode cX2_doubles 13 = .ok (.getfield 11, 3) := by decide +kernel
theorem dX2_doubles_16 : decode cX2_doubles 16 = .ok (.iload_n 2, 1) := by decide +kernel
theorem dX2_doubles_17 : decode cX2_doubles 17 = .ok (.aaload, 1) := by decide +kernel
theorem dX2_doubles_18 : decode cX2_doubles 18 = .ok (.invokevirtual 101, 3) := by decide +kernel
theorem dX2_doubles_21 : decode cX2_doubles 21 = .ok (.istore_n 3, 1) := by decide +kernel
theorem dX2_doubles_22 : decode cX2_doubles 22 = .ok (.iload_n 2, 1) := by decide +kernel
theorem dX2_doubles_23 : decode cX2_doubles 23 = .ok (.iconst 1, 1) := by decide +kernel
theorem dX2_doubles_24 : decode cX2_doubles 24 = .ok (.iadd, 1) := by decide +kernel
theorem dX2_doubles_25 : decode cX2_doubles 25 = .ok (.istore 4, 2) := by decide +kernel
theorem dX2_doubles_27 : decode cX2_doubles 27 = .ok (.iload 4, 2) := by decide +kernel
theorem dX2_doubles_29 : decode cX2_doubles 29 = .ok (.aload_n 0, 1) := by decide +kernel
theorem dX2_doubles_30 : decode cX2_doubles 30 = .ok (.getfield 26, 3) := by decide +kernel
theorem dX2_doubles_33 : decode cX2_doubles 33 = .ok (.if_icmp .ge 45, 3) := by decide +kernel
theorem dX2_doubles_36 : decode cX2_doubles 36 = .ok (.aload_n 0, 1) := by decide +kernel
theorem dX2_doubles_37 : decode cX2_doubles 37 = .ok (.getfield 11, 3) := by decide +kernel
theorem dX2_doubles_40 : decode cX2_doubles 40 = .ok (.iload 4, 2) := by decide +kernel
theorem dX2_doubles_42 : decode cX2_doubles 42 = .ok (.aaload, 1) := by decide +kernel
theorem dX2_doubles_43 : decode cX2_doubles 43 = .ok (.invokevirtual 101, 3) := by decide +kernel
theorem dX2_doubles_46 : decode cX2_doubles 46 = .ok (.iload_n 3, 1) := by decide +kernel
theorem dX2_doubles_47 : decode cX2_doubles 47 = .ok (.if_icmp .ne 25, 3) := by decide +kernel
theorem dX2_doubles_50 : decode cX2_doubles 50 = .ok (.aload_n 0, 1) := by decide +kernel
theorem dX2_doubles_51 : decode cX2_doubles 51 = .ok (.getfield 11, 3) := by decide +kernel
theorem dX2_doubles_54 : decode cX2_doubles 54 = .ok (.iload_n 2, 1) := by decide +kernel
theorem dX2_doubles_55 : decode cX2_doubles 55 = .ok (.aaload, 1) := by decide +kernel
theorem dX2_doubles_56 : decode cX2_doubles 56 = .ok (.aload_n 0, 1) := by decide +kernel
theorem dX2_doubles_57 : decode cX2_doubles 57 = .ok (.getfield 11, 3) := by decide +kernel
theorem dX2_doubles_60 : decode cX2_doubles 60 = .ok (.iload 4, 2) := by decide +kernel
theorem dX2_doubles_62 : decode cX2_doubles 62 = .ok (.aaload, 1) := by decide +kernel
theorem dX2_doubles_63 : decode cX2_doubles 63 = .ok (.invokevirtual 125, 3) := by decide +kernel
theorem dX2_doubles_66 : decode cX2_doubles 66 = .ok (.ifCond .ne 6, 3) := by decide +kernel
theorem dX2_doubles_69 : decode cX2_doubles 69 = .ok (.iinc 1 1, 3) := by decide +kernel
theorem dX2_doubles_72 : decode cX2_doubles 72 = .ok (.iinc 4 1, 3) := by decide +kernel
theorem dX2_doubles_75 : decode cX2_doubles 75 = .ok (.goto (-48), 3) := by decide +kernel
theorem dX2_doubles_78 : decode cX2_doubles 78 = .ok (.iinc 2 1, 3) := by decide +kernel
theorem dX2_doubles_81 : decode cX2_doubles 81 = .ok (.goto (-77), 3) := by decide +kernel
theorem dX2_doubles_84 : decode cX2_doubles 84 = .ok (.iload_n 1, 1) := by decide +kernel
theorem dX2_doubles_85 : decode cX2_doubles 85 = .ok (.ireturn, 1) := by decide +kernel
theorem dX2_envelopes_0 : decode cX2_envelopes 0 = .ok (.aload_n 0, 1) := by decide +kernel
theorem dX2_envelopes_1 : decode cX2_envelopes 1 = .ok (.getfield 84, 3) := by decide +kernel
theorem dX2_envelopes_4 : decode cX2_envelopes 4 = .ok (.ireturn, 1) := by decide +kernel
theorem dX2_letterIn_0 : decode cX2_letterIn 0 = .ok (.aload_n 0, 1) := by decide +kernel
theorem dX2_letterIn_1 : decode cX2_letterIn 1 = .ok (.iload_n 1, 1) := by decide +kernel
theorem dX2_letterIn_2 : decode cX2_letterIn 2 = .ok (.invokevirtual 129, 3) := by decide +kernel
theorem dX2_letterIn_5 : decode cX2_letterIn 5 = .ok (.getfield 133, 3) := by decide +kernel
theorem dX2_letterIn_8 : decode cX2_letterIn 8 = .ok (.ireturn, 1) := by decide +kernel
theorem dX2_digestIn_0 : decode cX2_digestIn 0 = .ok (.aload_n 0, 1) := by decide +kernel
theorem dX2_digestIn_1 : decode cX2_digestIn 1 = .ok (.iload_n 1, 1) := by decide +kernel
theorem dX2_digestIn_2 : decode cX2_digestIn 2 = .ok (.invokevirtual 129, 3) := by decide +kernel
theorem dX2_digestIn_5 : decode cX2_digestIn 5 = .ok (.getfield 136, 3) := by decide +kernel
theorem dX2_digestIn_8 : decode cX2_digestIn 8 = .ok (.ireturn, 1) := by decide +kernel
theorem dX2_sealOf_0 : decode cX2_sealOf 0 = .ok (.aload_n 0, 1) := by decide +kernel
theorem dX2_sealOf_1 : decode cX2_sealOf 1 = .ok (.iload_n 1, 1) := by decide +kernel
theorem dX2_sealOf_2 : decode cX2_sealOf 2 = .ok (.invokevirtual 129, 3) := by decide +kernel
theorem dX2_sealOf_5 : decode cX2_sealOf 5 = .ok (.getfield 98, 3) := by decide +kernel
theorem dX2_sealOf_8 : decode cX2_sealOf 8 = .ok (.ireturn, 1) := by decide +kernel
theorem dX2_isWhole_0 : decode cX2_isWhole 0 = .ok (.aload_n 0, 1) := by decide +kernel
theorem dX2_isWhole_1 : decode cX2_isWhole 1 = .ok (.iload_n 1, 1) := by decide +kernel
theorem dX2_isWhole_2 : decode cX2_isWhole 2 = .ok (.invokevirtual 129, 3) := by decide +kernel
theorem dX2_isWhole_5 : decode cX2_isWhole 5 = .ok (.astore_n 2, 1) := by decide +kernel
theorem dX2_isWhole_6 : decode cX2_isWhole 6 = .ok (.aload_n 2, 1) := by decide +kernel
theorem dX2_isWhole_7 : decode cX2_isWhole 7 = .ok (.aload_n 0, 1) := by decide +kernel
theorem dX2_isWhole_8 : decode cX2_isWhole 8 = .ok (.getfield 11, 3) := by decide +kernel
theorem dX2_isWhole_11 : decode cX2_isWhole 11 = .ok (.aload_n 2, 1) := by decide +kernel
theorem dX2_isWhole_12 : decode cX2_isWhole 12 = .ok (.getfield 133, 3) := by decide +kernel
theorem dX2_isWhole_15 : decode cX2_isWhole 15 = .ok (.aaload, 1) := by decide +kernel
theorem dX2_isWhole_16 : decode cX2_isWhole 16 = .ok (.invokevirtual 139, 3) := by decide +kernel
theorem dX2_isWhole_19 : decode cX2_isWhole 19 = .ok (.ireturn, 1) := by decide +kernel
theorem dX2_firstBroken_0 : decode cX2_firstBroken 0 = .ok (.iconst 0, 1) := by decide +kernel
theorem dX2_firstBroken_1 : decode cX2_firstBroken 1 = .ok (.istore_n 1, 1) := by decide +kernel
theorem dX2_firstBroken_2 : decode cX2_firstBroken 2 = .ok (.iload_n 1, 1) := by decide +kernel
theorem dX2_firstBroken_3 : decode cX2_firstBroken 3 = .ok (.aload_n 0, 1) := by decide +kernel
theorem dX2_firstBroken_4 : decode cX2_firstBroken 4 = .ok (.getfield 84, 3) := by decide +kernel
theorem dX2_firstBroken_7 : decode cX2_firstBroken 7 = .ok (.if_icmp .ge 34, 3) := by decide +kernel
theorem dX2_firstBroken_10 : decode cX2_firstBroken 10 = .ok (.aload_n 0, 1) := by decide +kernel
theorem dX2_firstBroken_11 : decode cX2_firstBroken 11 = .ok (.getfield 17, 3) := by decide +kernel
theorem dX2_firstBroken_14 : decode cX2_firstBroken 14 = .ok (.iload_n 1, 1) := by decide +kernel
theorem dX2_firstBroken_15 : decode cX2_firstBroken 15 = .ok (.aaload, 1) := by decide +kernel
theorem dX2_firstBroken_16 : decode cX2_firstBroken 16 = .ok (.astore_n 2, 1) := by decide +kernel
theorem dX2_firstBroken_17 : decode cX2_firstBroken 17 = .ok (.aload_n 2, 1) := by decide +kernel
theorem dX2_firstBroken_18 : decode cX2_firstBroken 18 = .ok (.aload_n 0, 1) := by decide +kernel
theorem dX2_firstBroken_19 : decode cX2_firstBroken 19 = .ok (.getfield 11, 3) := by decide +kernel
theorem dX2_firstBroken_22 : decode cX2_firstBroken 22 = .ok (.aload_n 2, 1) := by decide +kernel
theorem dX2_firstBroken_23 : decode cX2_firstBroken 23 = .ok (.getfield 133, 3) := by decide +kernel
theorem dX2_firstBroken_26 : decode cX2_firstBroken 26 = .ok (.aaload, 1) := by decide +kernel
theorem dX2_firstBroken_27 : decode cX2_firstBroken 27 = .ok (.invokevirtual 139, 3) := by decide +kernel
theorem dX2_firstBroken_30 : decode cX2_firstBroken 30 = .ok (.ifCond .ne 5, 3) := by decide +kernel
theorem dX2_firstBroken_33 : decode cX2_firstBroken 33 = .ok (.iload_n 1, 1) := by decide +kernel
theorem dX2_firstBroken_34 : decode cX2_firstBroken 34 = .ok (.ireturn, 1) := by decide +kernel
theorem dX2_firstBroken_35 : decode cX2_firstBroken 35 = .ok (.iinc 1 1, 3) := by decide +kernel
theorem dX2_firstBroken_38 : decode cX2_firstBroken 38 = .ok (.goto (-36), 3) := by decide +kernel
theorem dX2_firstBroken_41 : decode cX2_firstBroken 41 = .ok (.iconst (-1), 1) := by decide +kernel
theorem dX2_firstBroken_42 : decode cX2_firstBroken 42 = .ok (.ireturn, 1) := by decide +kernel
theorem dX2_tornBlocks_0 : decode cX2_tornBlocks 0 = .ok (.aload_n 0, 1) := by decide +kernel
theorem dX2_tornBlocks_1 : decode cX2_tornBlocks 1 = .ok (.iload_n 1, 1) := by decide +kernel
theorem dX2_tornBlocks_2 : decode cX2_tornBlocks 2 = .ok (.invokevirtual 129, 3) := by decide +kernel
theorem dX2_tornBlocks_5 : decode cX2_tornBlocks 5 = .ok (.astore_n 2, 1) := by decide +kernel
theorem dX2_tornBlocks_6 : decode cX2_tornBlocks 6 = .ok (.aload_n 2, 1) := by decide +kernel
theorem dX2_tornBlocks_7 : decode cX2_tornBlocks 7 = .ok (.aload_n 0, 1) := by decide +kernel
theorem dX2_tornBlocks_8 : decode cX2_tornBlocks 8 = .ok (.getfield 11, 3) := by decide +kernel
theorem dX2_tornBlocks_11 : decode cX2_tornBlocks 11 = .ok (.aload_n 2, 1) := by decide +kernel
theorem dX2_tornBlocks_12 : decode cX2_tornBlocks 12 = .ok (.getfield 133, 3) := by decide +kernel
theorem dX2_tornBlocks_15 : decode cX2_tornBlocks 15 = .ok (.aaload, 1) := by decide +kernel
theorem dX2_tornBlocks_16 : decode cX2_tornBlocks 16 = .ok (.invokevirtual 142, 3) := by decide +kernel
theorem dX2_tornBlocks_19 : decode cX2_tornBlocks 19 = .ok (.ireturn, 1) := by decide +kernel
theorem dX2_firstTorn_0 : decode cX2_firstTorn 0 = .ok (.aload_n 0, 1) := by decide +kernel
theorem dX2_firstTorn_1 : decode cX2_firstTorn 1 = .ok (.iload_n 1, 1) := by decide +kernel
theorem dX2_firstTorn_2 : decode cX2_firstTorn 2 = .ok (.invokevirtual 129, 3) := by decide +kernel
theorem dX2_firstTorn_5 : decode cX2_firstTorn 5 = .ok (.astore_n 2, 1) := by decide +kernel
theorem dX2_firstTorn_6 : decode cX2_firstTorn 6 = .ok (.aload_n 2, 1) := by decide +kernel
theorem dX2_firstTorn_7 : decode cX2_firstTorn 7 = .ok (.aload_n 0, 1) := by decide +kernel
theorem dX2_firstTorn_8 : decode cX2_firstTorn 8 = .ok (.getfield 11, 3) := by decide +kernel
theorem dX2_firstTorn_11 : decode cX2_firstTorn 11 = .ok (.aload_n 2, 1) := by decide +kernel
theorem dX2_firstTorn_12 : decode cX2_firstTorn 12 = .ok (.getfield 133, 3) := by decide +kernel
theorem dX2_firstTorn_15 : decode cX2_firstTorn 15 = .ok (.aaload, 1) := by decide +kernel
theorem dX2_firstTorn_16 : decode cX2_firstTorn 16 = .ok (.invokevirtual 145, 3) := by decide +kernel
theorem dX2_firstTorn_19 : decode cX2_firstTorn 19 = .ok (.ireturn, 1) := by decide +kernel
theorem dX2_changedPlace_0 : decode cX2_changedPlace 0 = .ok (.aload_n 0, 1) := by decide +kernel
theorem dX2_changedPlace_1 : decode cX2_changedPlace 1 = .ok (.iload_n 1, 1) := by decide +kernel
theorem dX2_changedPlace_2 : decode cX2_changedPlace 2 = .ok (.invokevirtual 129, 3) := by decide +kernel
theorem dX2_changedPlace_5 : decode cX2_changedPlace 5 = .ok (.astore_n 2, 1) := by decide +kernel
theorem dX2_changedPlace_6 : decode cX2_changedPlace 6 = .ok (.aload_n 2, 1) := by decide +kernel
theorem dX2_changedPlace_7 : decode cX2_changedPlace 7 = .ok (.aload_n 0, 1) := by decide +kernel
theorem dX2_changedPlace_8 : decode cX2_changedPlace 8 = .ok (.getfield 11, 3) := by decide +kernel
theorem dX2_changedPlace_11 : decode cX2_changedPlace 11 = .ok (.aload_n 2, 1) := by decide +kernel
theorem dX2_changedPlace_12 : decode cX2_changedPlace 12 = .ok (.getfield 133, 3) := by decide +kernel
theorem dX2_changedPlace_15 : decode cX2_changedPlace 15 = .ok (.aaload, 1) := by decide +kernel
theorem dX2_changedPlace_16 : decode cX2_changedPlace 16 = .ok (.invokevirtual 148, 3) := by decide +kernel
theorem dX2_changedPlace_19 : decode cX2_changedPlace 19 = .ok (.ireturn, 1) := by decide +kernel
theorem dX2_changedSign_0 : decode cX2_changedSign 0 = .ok (.aload_n 0, 1) := by decide +kernel
theorem dX2_changedSign_1 : decode cX2_changedSign 1 = .ok (.iload_n 1, 1) := by decide +kernel
theorem dX2_changedSign_2 : decode cX2_changedSign 2 = .ok (.invokevirtual 129, 3) := by decide +kernel
theorem dX2_changedSign_5 : decode cX2_changedSign 5 = .ok (.astore_n 2, 1) := by decide +kernel
theorem dX2_changedSign_6 : decode cX2_changedSign 6 = .ok (.aload_n 0, 1) := by decide +kernel
theorem dX2_changedSign_7 : decode cX2_changedSign 7 = .ok (.getfield 11, 3) := by decide +kernel
theorem dX2_changedSign_10 : decode cX2_changedSign 10 = .ok (.aload_n 2, 1) := by decide +kernel
theorem dX2_changedSign_11 : decode cX2_changedSign 11 = .ok (.getfield 133, 3) := by decide +kernel
theorem dX2_changedSign_14 : decode cX2_changedSign 14 = .ok (.aaload, 1) := by decide +kernel
theorem dX2_changedSign_15 : decode cX2_changedSign 15 = .ok (.astore_n 3, 1) := by decide +kernel
theorem dX2_changedSign_16 : decode cX2_changedSign 16 = .ok (.aload_n 2, 1) := by decide +kernel
theorem dX2_changedSign_17 : decode cX2_changedSign 17 = .ok (.aload_n 3, 1) := by decide +kernel
theorem dX2_changedSign_18 : decode cX2_changedSign 18 = .ok (.invokevirtual 148, 3) := by decide +kernel
theorem dX2_changedSign_21 : decode cX2_changedSign 21 = .ok (.istore 4, 2) := by decide +kernel
theorem dX2_changedSign_23 : decode cX2_changedSign 23 = .ok (.iload 4, 2) := by decide +kernel
theorem dX2_changedSign_25 : decode cX2_changedSign 25 = .ok (.ifCond .ge 13, 3) := by decide +kernel
theorem dX2_changedSign_28 : decode cX2_changedSign 28 = .ok (.new 45, 3) := by decide +kernel
theorem dX2_changedSign_31 : decode cX2_changedSign 31 = .ok (.dup, 1) := by decide +kernel
theorem dX2_changedSign_32 : decode cX2_changedSign 32 = .ok (.ldc 151, 2) := by decide +kernel
theorem dX2_changedSign_34 : decode cX2_changedSign 34 = .ok (.invokespecial 49, 3) := by decide +kernel
theorem dX2_changedSign_37 : decode cX2_changedSign 37 = .ok (.athrow, 1) := by decide +kernel
theorem dX2_changedSign_38 : decode cX2_changedSign 38 = .ok (.aload_n 3, 1) := by decide +kernel
theorem dX2_changedSign_39 : decode cX2_changedSign 39 = .ok (.getfield 66, 3) := by decide +kernel
theorem dX2_changedSign_42 : decode cX2_changedSign 42 = .ok (.iload 4, 2) := by decide +kernel
theorem dX2_changedSign_44 : decode cX2_changedSign 44 = .ok (.iaload, 1) := by decide +kernel
theorem dX2_changedSign_45 : decode cX2_changedSign 45 = .ok (.aload_n 2, 1) := by decide +kernel
theorem dX2_changedSign_46 : decode cX2_changedSign 46 = .ok (.aload_n 3, 1) := by decide +kernel
theorem dX2_changedSign_47 : decode cX2_changedSign 47 = .ok (.invokevirtual 153, 3) := by decide +kernel
theorem dX2_changedSign_50 : decode cX2_changedSign 50 = .ok (.iadd, 1) := by decide +kernel
theorem dX2_changedSign_51 : decode cX2_changedSign 51 = .ok (.ireturn, 1) := by decide +kernel
theorem dX2_unnoticed_0 : decode cX2_unnoticed 0 = .ok (.aload_n 0, 1) := by decide +kernel
theorem dX2_unnoticed_1 : decode cX2_unnoticed 1 = .ok (.iload_n 1, 1) := by decide +kernel
theorem dX2_unnoticed_2 : decode cX2_unnoticed 2 = .ok (.invokevirtual 30, 3) := by decide +kernel
theorem dX2_unnoticed_5 : decode cX2_unnoticed 5 = .ok (.invokevirtual 159, 3) := by decide +kernel
theorem dX2_unnoticed_8 : decode cX2_unnoticed 8 = .ok (.ireturn, 1) := by decide +kernel
theorem dX2_worstTear_0 : decode cX2_worstTear 0 = .ok (.aload_n 0, 1) := by decide +kernel
theorem dX2_worstTear_1 : decode cX2_worstTear 1 = .ok (.iload_n 1, 1) := by decide +kernel
theorem dX2_worstTear_2 : decode cX2_worstTear 2 = .ok (.invokevirtual 30, 3) := by decide +kernel
theorem dX2_worstTear_5 : decode cX2_worstTear 5 = .ok (.invokevirtual 162, 3) := by decide +kernel
theorem dX2_worstTear_8 : decode cX2_worstTear 8 = .ok (.ireturn, 1) := by decide +kernel
theorem dX2_meanSigns_0 : decode cX2_meanSigns 0 = .ok (.aload_n 0, 1) := by decide +kernel
theorem dX2_meanSigns_1 : decode cX2_meanSigns 1 = .ok (.getfield 26, 3) := by decide +kernel
theorem dX2_meanSigns_4 : decode cX2_meanSigns 4 = .ok (.ifCond .ne 5, 3) := by decide +kernel
theorem dX2_meanSigns_7 : decode cX2_meanSigns 7 = .ok (.dconst 0, 1) := by decide +kernel
theorem dX2_meanSigns_8 : decode cX2_meanSigns 8 = .ok (.dreturn, 1) := by decide +kernel
theorem dX2_meanSigns_9 : decode cX2_meanSigns 9 = .ok (.iconst 0, 1) := by decide +kernel
theorem dX2_meanSigns_10 : decode cX2_meanSigns 10 = .ok (.istore_n 1, 1) := by decide +kernel
theorem dX2_meanSigns_11 : decode cX2_meanSigns 11 = .ok (.iconst 0, 1) := by decide +kernel
theorem dX2_meanSigns_12 : decode cX2_meanSigns 12 = .ok (.istore_n 2, 1) := by decide +kernel
theorem dX2_meanSigns_13 : decode cX2_meanSigns 13 = .ok (.iload_n 2, 1) := by decide +kernel
theorem dX2_meanSigns_14 : decode cX2_meanSigns 14 = .ok (.aload_n 0, 1) := by decide +kernel
theorem dX2_meanSigns_15 : decode cX2_meanSigns 15 = .ok (.getfield 26, 3) := by decide +kernel
theorem dX2_meanSigns_18 : decode cX2_meanSigns 18 = .ok (.if_icmp .ge 21, 3) := by decide +kernel
theorem dX2_meanSigns_21 : decode cX2_meanSigns 21 = .ok (.iload_n 1, 1) := by decide +kernel
theorem dX2_meanSigns_22 : decode cX2_meanSigns 22 = .ok (.aload_n 0, 1) := by decide +kernel
theorem dX2_meanSigns_23 : decode cX2_meanSigns 23 = .ok (.getfield 11, 3) := by decide +kernel
theorem dX2_meanSigns_26 : decode cX2_meanSigns 26 = .ok (.iload_n 2, 1) := by decide +kernel
theorem dX2_meanSigns_27 : decode cX2_meanSigns 27 = .ok (.aaload, 1) := by decide +kernel
theorem dX2_meanSigns_28 : decode cX2_meanSigns 28 = .ok (.getfield 42, 3) := by decide +kernel
theorem dX2_meanSigns_31 : decode cX2_meanSigns 31 = .ok (.iadd, 1) := by decide +kernel
theorem dX2_meanSigns_32 : decode cX2_meanSigns 32 = .ok (.istore_n 1, 1) := by decide +kernel
theorem dX2_meanSigns_33 : decode cX2_meanSigns 33 = .ok (.iinc 2 1, 3) := by decide +kernel
theorem dX2_meanSigns_36 : decode cX2_meanSigns 36 = .ok (.goto (-23), 3) := by decide +kernel
theorem dX2_meanSigns_39 : decode cX2_meanSigns 39 = .ok (.iload_n 1, 1) := by decide +kernel
theorem dX2_meanSigns_40 : decode cX2_meanSigns 40 = .ok (.i2d, 1) := by decide +kernel
theorem dX2_meanSigns_41 : decode cX2_meanSigns 41 = .ok (.aload_n 0, 1) := by decide +kernel
theorem dX2_meanSigns_42 : decode cX2_meanSigns 42 = .ok (.getfield 26, 3) := by decide +kernel
theorem dX2_meanSigns_45 : decode cX2_meanSigns 45 = .ok (.i2d, 1) := by decide +kernel
theorem dX2_meanSigns_46 : decode cX2_meanSigns 46 = .ok (.ddiv, 1) := by decide +kernel
theorem dX2_meanSigns_47 : decode cX2_meanSigns 47 = .ok (.dreturn, 1) := by decide +kernel
theorem dX2_digest_0 : decode cX2_digest 0 = .ok (.ldc2_w 165, 3) := by decide +kernel
theorem dX2_digest_3 : decode cX2_digest 3 = .ok (.lstore_n 1, 1) := by decide +kernel
theorem dX2_digest_4 : decode cX2_digest 4 = .ok (.lload_n 1, 1) := by decide +kernel
theorem dX2_digest_5 : decode cX2_digest 5 = .ok (.ldc2_w 167, 3) := by decide +kernel
theorem dX2_digest_8 : decode cX2_digest 8 = .ok (.lmul, 1) := by decide +kernel
theorem dX2_digest_9 : decode cX2_digest 9 = .ok (.aload_n 0, 1) := by decide +kernel
theorem dX2_digest_10 : decode cX2_digest 10 = .ok (.getfield 26, 3) := by decide +kernel
theorem dX2_digest_13 : decode cX2_digest 13 = .ok (.i2l, 1) := by decide +kernel
theorem dX2_digest_14 : decode cX2_digest 14 = .ok (.ladd, 1) := by decide +kernel
theorem dX2_digest_15 : decode cX2_digest 15 = .ok (.lstore_n 1, 1) := by decide +kernel
theorem dX2_digest_16 : decode cX2_digest 16 = .ok (.lload_n 1, 1) := by decide +kernel
theorem dX2_digest_17 : decode cX2_digest 17 = .ok (.ldc2_w 167, 3) := by decide +kernel
theorem dX2_digest_20 : decode cX2_digest 20 = .ok (.lmul, 1) := by decide +kernel
theorem dX2_digest_21 : decode cX2_digest 21 = .ok (.aload_n 0, 1) := by decide +kernel
theorem dX2_digest_22 : decode cX2_digest 22 = .ok (.getfield 84, 3) := by decide +kernel
theorem dX2_digest_25 : decode cX2_digest 25 = .ok (.i2l, 1) := by decide +kernel
theorem dX2_digest_26 : decode cX2_digest 26 = .ok (.ladd, 1) := by decide +kernel
theorem dX2_digest_27 : decode cX2_digest 27 = .ok (.lstore_n 1, 1) := by decide +kernel
theorem dX2_digest_28 : decode cX2_digest 28 = .ok (.lload_n 1, 1) := by decide +kernel
theorem dX2_digest_29 : decode cX2_digest 29 = .ok (.ldc2_w 167, 3) := by decide +kernel
theorem dX2_digest_32 : decode cX2_digest 32 = .ok (.lmul, 1) := by decide +kernel
theorem dX2_digest_33 : decode cX2_digest 33 = .ok (.aload_n 0, 1) := by decide +kernel
theorem dX2_digest_34 : decode cX2_digest 34 = .ok (.invokevirtual 169, 3) := by decide +kernel
theorem dX2_digest_37 : decode cX2_digest 37 = .ok (.i2l, 1) := by decide +kernel
theorem dX2_digest_38 : decode cX2_digest 38 = .ok (.ladd, 1) := by decide +kernel
theorem dX2_digest_39 : decode cX2_digest 39 = .ok (.lstore_n 1, 1) := by decide +kernel
theorem dX2_digest_40 : decode cX2_digest 40 = .ok (.lload_n 1, 1) := by decide +kernel
theorem dX2_digest_41 : decode cX2_digest 41 = .ok (.ldc2_w 167, 3) := by decide +kernel
theorem dX2_digest_44 : decode cX2_digest 44 = .ok (.lmul, 1) := by decide +kernel
theorem dX2_digest_45 : decode cX2_digest 45 = .ok (.aload_n 0, 1) := by decide +kernel
theorem dX2_digest_46 : decode cX2_digest 46 = .ok (.invokevirtual 172, 3) := by decide +kernel
theorem dX2_digest_49 : decode cX2_digest 49 = .ok (.i2l, 1) := by decide +kernel
theorem dX2_digest_50 : decode cX2_digest 50 = .ok (.ladd, 1) := by decide +kernel
theorem dX2_digest_51 : decode cX2_digest 51 = .ok (.lstore_n 1, 1) := by decide +kernel
theorem dX2_digest_52 : decode cX2_digest 52 = .ok (.iconst 0, 1) := by decide +kernel
theorem dX2_digest_53 : decode cX2_digest 53 = .ok (.istore_n 3, 1) := by decide +kernel
theorem dX2_digest_54 : decode cX2_digest 54 = .ok (.iload_n 3, 1) := by decide +kernel
theorem dX2_digest_55 : decode cX2_digest 55 = .ok (.aload_n 0, 1) := by decide +kernel
theorem dX2_digest_56 : decode cX2_digest 56 = .ok (.getfield 26, 3) := by decide +kernel
theorem dX2_digest_59 : decode cX2_digest 59 = .ok (.if_icmp .ge 20, 3) := by decide +kernel
theorem dX2_digest_62 : decode cX2_digest 62 = .ok (.lload_n 1, 1) := by decide +kernel
theorem dX2_digest_63 : decode cX2_digest 63 = .ok (.aload_n 0, 1) := by decide +kernel
theorem dX2_digest_64 : decode cX2_digest 64 = .ok (.getfield 11, 3) := by decide +kernel
theorem dX2_digest_67 : decode cX2_digest 67 = .ok (.iload_n 3, 1) := by decide +kernel
theorem dX2_digest_68 : decode cX2_digest 68 = .ok (.aaload, 1) := by decide +kernel
theorem dX2_digest_69 : decode cX2_digest 69 = .ok (.invokestatic 175, 3) := by decide +kernel
theorem dX2_digest_72 : decode cX2_digest 72 = .ok (.lstore_n 1, 1) := by decide +kernel
theorem dX2_digest_73 : decode cX2_digest 73 = .ok (.iinc 3 1, 3) := by decide +kernel
theorem dX2_digest_76 : decode cX2_digest 76 = .ok (.goto (-22), 3) := by decide +kernel
theorem dX2_digest_79 : decode cX2_digest 79 = .ok (.iconst 0, 1) := by decide +kernel
theorem dX2_digest_80 : decode cX2_digest 80 = .ok (.istore_n 3, 1) := by decide +kernel
theorem dX2_digest_81 : decode cX2_digest 81 = .ok (.iload_n 3, 1) := by decide +kernel
theorem dX2_digest_82 : decode cX2_digest 82 = .ok (.aload_n 0, 1) := by decide +kernel
theorem dX2_digest_83 : decode cX2_digest 83 = .ok (.getfield 84, 3) := by decide +kernel
theorem dX2_digest_86 : decode cX2_digest 86 = .ok (.if_icmp .ge 21, 3) := by decide +kernel
theorem dX2_digest_89 : decode cX2_digest 89 = .ok (.aload_n 0, 1) := by decide +kernel
theorem dX2_digest_90 : decode cX2_digest 90 = .ok (.lload_n 1, 1) := by decide +kernel
theorem dX2_digest_91 : decode cX2_digest 91 = .ok (.aload_n 0, 1) := by decide +kernel
theorem dX2_digest_92 : decode cX2_digest 92 = .ok (.getfield 17, 3) := by decide +kernel
theorem dX2_digest_95 : decode cX2_digest 95 = .ok (.iload_n 3, 1) := by decide +kernel
theorem dX2_digest_96 : decode cX2_digest 96 = .ok (.aaload, 1) := by decide +kernel
theorem dX2_digest_97 : decode cX2_digest 97 = .ok (.invokevirtual 179, 3) := by decide +kernel
theorem dX2_digest_100 : decode cX2_digest 100 = .ok (.lstore_n 1, 1) := by decide +kernel
theorem dX2_digest_101 : decode cX2_digest 101 = .ok (.iinc 3 1, 3) := by decide +kernel
theorem dX2_digest_104 : decode cX2_digest 104 = .ok (.goto (-23), 3) := by decide +kernel
theorem dX2_digest_107 : decode cX2_digest 107 = .ok (.lload_n 1, 1) := by decide +kernel
theorem dX2_digest_108 : decode cX2_digest 108 = .ok (.lreturn, 1) := by decide +kernel
theorem dX2_withLetter_0 : decode cX2_withLetter 0 = .ok (.lload_n 0, 1) := by decide +kernel
theorem dX2_withLetter_1 : decode cX2_withLetter 1 = .ok (.lstore_n 3, 1) := by decide +kernel
theorem dX2_withLetter_2 : decode cX2_withLetter 2 = .ok (.lload_n 3, 1) := by decide +kernel
theorem dX2_withLetter_3 : decode cX2_withLetter 3 = .ok (.ldc2_w 167, 3) := by decide +kernel
theorem dX2_withLetter_6 : decode cX2_withLetter 6 = .ok (.lmul, 1) := by decide +kernel
theorem dX2_withLetter_7 : decode cX2_withLetter 7 = .ok (.aload_n 2, 1) := by decide +kernel
theorem dX2_withLetter_8 : decode cX2_withLetter 8 = .ok (.getfield 42, 3) := by decide +kernel
theorem dX2_withLetter_11 : decode cX2_withLetter 11 = .ok (.i2l, 1) := by decide +kernel
theorem dX2_withLetter_12 : decode cX2_withLetter 12 = .ok (.ladd, 1) := by decide +kernel
theorem dX2_withLetter_13 : decode cX2_withLetter 13 = .ok (.lstore_n 3, 1) := by decide +kernel
theorem dX2_withLetter_14 : decode cX2_withLetter 14 = .ok (.lload_n 3, 1) := by decide +kernel
theorem dX2_withLetter_15 : decode cX2_withLetter 15 = .ok (.ldc2_w 167, 3) := by decide +kernel
theorem dX2_withLetter_18 : decode cX2_withLetter 18 = .ok (.lmul, 1) := by decide +kernel
theorem dX2_withLetter_19 : decode cX2_withLetter 19 = .ok (.aload_n 2, 1) := by decide +kernel
theorem dX2_withLetter_20 : decode cX2_withLetter 20 = .ok (.bipush 27, 2) := by decide +kernel
theorem dX2_withLetter_22 : decode cX2_withLetter 22 = .ok (.invokevirtual 80, 3) := by decide +kernel
theorem dX2_withLetter_25 : decode cX2_withLetter 25 = .ok (.i2l, 1) := by decide +kernel
theorem dX2_withLetter_26 : decode cX2_withLetter 26 = .ok (.ladd, 1) := by decide +kernel
theorem dX2_withLetter_27 : decode cX2_withLetter 27 = .ok (.lstore_n 3, 1) := by decide +kernel
theorem dX2_withLetter_28 : decode cX2_withLetter 28 = .ok (.lload_n 3, 1) := by decide +kernel
theorem dX2_withLetter_29 : decode cX2_withLetter 29 = .ok (.ldc2_w 167, 3) := by decide +kernel
theorem dX2_withLetter_32 : decode cX2_withLetter 32 = .ok (.lmul, 1) := by decide +kernel
theorem dX2_withLetter_33 : decode cX2_withLetter 33 = .ok (.aload_n 2, 1) := by decide +kernel
theorem dX2_withLetter_34 : decode cX2_withLetter 34 = .ok (.bipush 30, 2) := by decide +kernel
theorem dX2_withLetter_36 : decode cX2_withLetter 36 = .ok (.invokevirtual 80, 3) := by decide +kernel
theorem dX2_withLetter_39 : decode cX2_withLetter 39 = .ok (.i2l, 1) := by decide +kernel
theorem dX2_withLetter_40 : decode cX2_withLetter 40 = .ok (.ladd, 1) := by decide +kernel
theorem dX2_withLetter_41 : decode cX2_withLetter 41 = .ok (.lstore_n 3, 1) := by decide +kernel
theorem dX2_withLetter_42 : decode cX2_withLetter 42 = .ok (.lload_n 3, 1) := by decide +kernel
theorem dX2_withLetter_43 : decode cX2_withLetter 43 = .ok (.ldc2_w 167, 3) := by decide +kernel
theorem dX2_withLetter_46 : decode cX2_withLetter 46 = .ok (.lmul, 1) := by decide +kernel
theorem dX2_withLetter_47 : decode cX2_withLetter 47 = .ok (.aload_n 2, 1) := by decide +kernel
theorem dX2_withLetter_48 : decode cX2_withLetter 48 = .ok (.invokevirtual 101, 3) := by decide +kernel
theorem dX2_withLetter_51 : decode cX2_withLetter 51 = .ok (.i2l, 1) := by decide +kernel
theorem dX2_withLetter_52 : decode cX2_withLetter 52 = .ok (.ladd, 1) := by decide +kernel
theorem dX2_withLetter_53 : decode cX2_withLetter 53 = .ok (.lstore_n 3, 1) := by decide +kernel
theorem dX2_withLetter_54 : decode cX2_withLetter 54 = .ok (.lload_n 3, 1) := by decide +kernel
theorem dX2_withLetter_55 : decode cX2_withLetter 55 = .ok (.ldc2_w 167, 3) := by decide +kernel
theorem dX2_withLetter_58 : decode cX2_withLetter 58 = .ok (.lmul, 1) := by decide +kernel
theorem dX2_withLetter_59 : decode cX2_withLetter 59 = .ok (.aload_n 2, 1) := by decide +kernel
theorem dX2_withLetter_60 : decode cX2_withLetter 60 = .ok (.iconst 2, 1) := by decide +kernel
theorem dX2_withLetter_61 : decode cX2_withLetter 61 = .ok (.invokevirtual 115, 3) := by decide +kernel
theorem dX2_withLetter_64 : decode cX2_withLetter 64 = .ok (.i2l, 1) := by decide +kernel
theorem dX2_withLetter_65 : decode cX2_withLetter 65 = .ok (.ladd, 1) := by decide +kernel
theorem dX2_withLetter_66 : decode cX2_withLetter 66 = .ok (.lstore_n 3, 1) := by decide +kernel
theorem dX2_withLetter_67 : decode cX2_withLetter 67 = .ok (.lload_n 3, 1) := by decide +kernel
theorem dX2_withLetter_68 : decode cX2_withLetter 68 = .ok (.ldc2_w 167, 3) := by decide +kernel
theorem dX2_withLetter_71 : decode cX2_withLetter 71 = .ok (.lmul, 1) := by decide +kernel
theorem dX2_withLetter_72 : decode cX2_withLetter 72 = .ok (.aload_n 2, 1) := by decide +kernel
theorem dX2_withLetter_73 : decode cX2_withLetter 73 = .ok (.iconst 2, 1) := by decide +kernel
theorem dX2_withLetter_74 : decode cX2_withLetter 74 = .ok (.invokevirtual 118, 3) := by decide +kernel
theorem dX2_withLetter_77 : decode cX2_withLetter 77 = .ok (.i2l, 1) := by decide +kernel
theorem dX2_withLetter_78 : decode cX2_withLetter 78 = .ok (.ladd, 1) := by decide +kernel
theorem dX2_withLetter_79 : decode cX2_withLetter 79 = .ok (.lstore_n 3, 1) := by decide +kernel
theorem dX2_withLetter_80 : decode cX2_withLetter 80 = .ok (.lload_n 3, 1) := by decide +kernel
theorem dX2_withLetter_81 : decode cX2_withLetter 81 = .ok (.ldc2_w 167, 3) := by decide +kernel
theorem dX2_withLetter_84 : decode cX2_withLetter 84 = .ok (.lmul, 1) := by decide +kernel
theorem dX2_withLetter_85 : decode cX2_withLetter 85 = .ok (.aload_n 2, 1) := by decide +kernel
theorem dX2_withLetter_86 : decode cX2_withLetter 86 = .ok (.invokevirtual 159, 3) := by decide +kernel
theorem dX2_withLetter_89 : decode cX2_withLetter 89 = .ok (.i2l, 1) := by decide +kernel
theorem dX2_withLetter_90 : decode cX2_withLetter 90 = .ok (.ladd, 1) := by decide +kernel
theorem dX2_withLetter_91 : decode cX2_withLetter 91 = .ok (.lstore_n 3, 1) := by decide +kernel
theorem dX2_withLetter_92 : decode cX2_withLetter 92 = .ok (.lload_n 3, 1) := by decide +kernel
theorem dX2_withLetter_93 : decode cX2_withLetter 93 = .ok (.ldc2_w 167, 3) := by decide +kernel
theorem dX2_withLetter_96 : decode cX2_withLetter 96 = .ok (.lmul, 1) := by decide +kernel
theorem dX2_withLetter_97 : decode cX2_withLetter 97 = .ok (.aload_n 2, 1) := by decide +kernel
theorem dX2_withLetter_98 : decode cX2_withLetter 98 = .ok (.invokevirtual 162, 3) := by decide +kernel
theorem dX2_withLetter_101 : decode cX2_withLetter 101 = .ok (.i2l, 1) := by decide +kernel
theorem dX2_withLetter_102 : decode cX2_withLetter 102 = .ok (.ladd, 1) := by decide +kernel
theorem dX2_withLetter_103 : decode cX2_withLetter 103 = .ok (.lstore_n 3, 1) := by decide +kernel
theorem dX2_withLetter_104 : decode cX2_withLetter 104 = .ok (.lload_n 3, 1) := by decide +kernel
theorem dX2_withLetter_105 : decode cX2_withLetter 105 = .ok (.lreturn, 1) := by decide +kernel
theorem dX2_withEnvelope_0 : decode cX2_withEnvelope 0 = .ok (.aload_n 0, 1) := by decide +kernel
theorem dX2_withEnvelope_1 : decode cX2_withEnvelope 1 = .ok (.getfield 11, 3) := by decide +kernel
theorem dX2_withEnvelope_4 : decode cX2_withEnvelope 4 = .ok (.aload_n 3, 1) := by decide +kernel
theorem dX2_withEnvelope_5 : decode cX2_withEnvelope 5 = .ok (.getfield 133, 3) := by decide +kernel
theorem dX2_withEnvelope_8 : decode cX2_withEnvelope 8 = .ok (.aaload, 1) := by decide +kernel
theorem dX2_withEnvelope_9 : decode cX2_withEnvelope 9 = .ok (.astore 4, 2) := by decide +kernel
theorem dX2_withEnvelope_11 : decode cX2_withEnvelope 11 = .ok (.lload_n 1, 1) := by decide +kernel
theorem dX2_withEnvelope_12 : decode cX2_withEnvelope 12 = .ok (.lstore 5, 2) := by decide +kernel
theorem dX2_withEnvelope_14 : decode cX2_withEnvelope 14 = .ok (.lload 5, 2) := by decide +kernel
theorem dX2_withEnvelope_16 : decode cX2_withEnvelope 16 = .ok (.ldc2_w 167, 3) := by decide +kernel
theorem dX2_withEnvelope_19 : decode cX2_withEnvelope 19 = .ok (.lmul, 1) := by decide +kernel
theorem dX2_withEnvelope_20 : decode cX2_withEnvelope 20 = .ok (.aload_n 3, 1) := by decide +kernel
theorem dX2_withEnvelope_21 : decode cX2_withEnvelope 21 = .ok (.getfield 133, 3) := by decide +kernel
theorem dX2_withEnvelope_24 : decode cX2_withEnvelope 24 = .ok (.i2l, 1) := by decide +kernel
theorem dX2_withEnvelope_25 : decode cX2_withEnvelope 25 = .ok (.ladd, 1) := by decide +kernel
theorem dX2_withEnvelope_26 : decode cX2_withEnvelope 26 = .ok (.lstore 5, 2) := by decide +kernel
theorem dX2_withEnvelope_28 : decode cX2_withEnvelope 28 = .ok (.lload 5, 2) := by decide +kernel
theorem dX2_withEnvelope_30 : decode cX2_withEnvelope 30 = .ok (.ldc2_w 167, 3) := by decide +kernel
theorem dX2_withEnvelope_33 : decode cX2_withEnvelope 33 = .ok (.lmul, 1) := by decide +kernel
theorem dX2_withEnvelope_34 : decode cX2_withEnvelope 34 = .ok (.aload_n 3, 1) := by decide +kernel
theorem dX2_withEnvelope_35 : decode cX2_withEnvelope 35 = .ok (.getfield 136, 3) := by decide +kernel
theorem dX2_withEnvelope_38 : decode cX2_withEnvelope 38 = .ok (.i2l, 1) := by decide +kernel
theorem dX2_withEnvelope_39 : decode cX2_withEnvelope 39 = .ok (.ladd, 1) := by decide +kernel
theorem dX2_withEnvelope_40 : decode cX2_withEnvelope 40 = .ok (.lstore 5, 2) := by decide +kernel
theorem dX2_withEnvelope_42 : decode cX2_withEnvelope 42 = .ok (.lload 5, 2) := by decide +kernel
theorem dX2_withEnvelope_44 : decode cX2_withEnvelope 44 = .ok (.ldc2_w 167, 3) := by decide +kernel
theorem dX2_withEnvelope_47 : decode cX2_withEnvelope 47 = .ok (.lmul, 1) := by decide +kernel
theorem dX2_withEnvelope_48 : decode cX2_withEnvelope 48 = .ok (.aload_n 3, 1) := by decide +kernel
theorem dX2_withEnvelope_49 : decode cX2_withEnvelope 49 = .ok (.getfield 98, 3) := by decide +kernel
theorem dX2_withEnvelope_52 : decode cX2_withEnvelope 52 = .ok (.i2l, 1) := by decide +kernel
theorem dX2_withEnvelope_53 : decode cX2_withEnvelope 53 = .ok (.ladd, 1) := by decide +kernel
theorem dX2_withEnvelope_54 : decode cX2_withEnvelope 54 = .ok (.lstore 5, 2) := by decide +kernel
theorem dX2_withEnvelope_56 : decode cX2_withEnvelope 56 = .ok (.lload 5, 2) := by decide +kernel
theorem dX2_withEnvelope_58 : decode cX2_withEnvelope 58 = .ok (.ldc2_w 167, 3) := by decide +kernel
theorem dX2_withEnvelope_61 : decode cX2_withEnvelope 61 = .ok (.lmul, 1) := by decide +kernel
theorem dX2_withEnvelope_62 : decode cX2_withEnvelope 62 = .ok (.aload_n 3, 1) := by decide +kernel
theorem dX2_withEnvelope_63 : decode cX2_withEnvelope 63 = .ok (.aload 4, 2) := by decide +kernel
theorem dX2_withEnvelope_65 : decode cX2_withEnvelope 65 = .ok (.invokevirtual 139, 3) := by decide +kernel
theorem dX2_withEnvelope_68 : decode cX2_withEnvelope 68 = .ok (.ifCond .eq 7, 3) := by decide +kernel
theorem dX2_withEnvelope_71 : decode cX2_withEnvelope 71 = .ok (.iconst 1, 1) := by decide +kernel
theorem dX2_withEnvelope_72 : decode cX2_withEnvelope 72 = .ok (.goto 4, 3) := by decide +kernel
theorem dX2_withEnvelope_75 : decode cX2_withEnvelope 75 = .ok (.iconst 0, 1) := by decide +kernel
theorem dX2_withEnvelope_76 : decode cX2_withEnvelope 76 = .ok (.i2l, 1) := by decide +kernel
theorem dX2_withEnvelope_77 : decode cX2_withEnvelope 77 = .ok (.ladd, 1) := by decide +kernel
theorem dX2_withEnvelope_78 : decode cX2_withEnvelope 78 = .ok (.lstore 5, 2) := by decide +kernel
theorem dX2_withEnvelope_80 : decode cX2_withEnvelope 80 = .ok (.lload 5, 2) := by decide +kernel
theorem dX2_withEnvelope_82 : decode cX2_withEnvelope 82 = .ok (.ldc2_w 167, 3) := by decide +kernel
theorem dX2_withEnvelope_85 : decode cX2_withEnvelope 85 = .ok (.lmul, 1) := by decide +kernel
theorem dX2_withEnvelope_86 : decode cX2_withEnvelope 86 = .ok (.aload_n 3, 1) := by decide +kernel
theorem dX2_withEnvelope_87 : decode cX2_withEnvelope 87 = .ok (.aload 4, 2) := by decide +kernel
theorem dX2_withEnvelope_89 : decode cX2_withEnvelope 89 = .ok (.invokevirtual 142, 3) := by decide +kernel
theorem dX2_withEnvelope_92 : decode cX2_withEnvelope 92 = .ok (.i2l, 1) := by decide +kernel
theorem dX2_withEnvelope_93 : decode cX2_withEnvelope 93 = .ok (.ladd, 1) := by decide +kernel
theorem dX2_withEnvelope_94 : decode cX2_withEnvelope 94 = .ok (.lstore 5, 2) := by decide +kernel
theorem dX2_withEnvelope_96 : decode cX2_withEnvelope 96 = .ok (.lload 5, 2) := by decide +kernel
theorem dX2_withEnvelope_98 : decode cX2_withEnvelope 98 = .ok (.ldc2_w 167, 3) := by decide +kernel
theorem dX2_withEnvelope_101 : decode cX2_withEnvelope 101 = .ok (.lmul, 1) := by decide +kernel
theorem dX2_withEnvelope_102 : decode cX2_withEnvelope 102 = .ok (.aload_n 3, 1) := by decide +kernel
theorem dX2_withEnvelope_103 : decode cX2_withEnvelope 103 = .ok (.aload 4, 2) := by decide +kernel
theorem dX2_withEnvelope_105 : decode cX2_withEnvelope 105 = .ok (.invokevirtual 145, 3) := by decide +kernel
theorem dX2_withEnvelope_108 : decode cX2_withEnvelope 108 = .ok (.i2l, 1) := by decide +kernel
theorem dX2_withEnvelope_109 : decode cX2_withEnvelope 109 = .ok (.ladd, 1) := by decide +kernel
theorem dX2_withEnvelope_110 : decode cX2_withEnvelope 110 = .ok (.lstore 5, 2) := by decide +kernel
theorem dX2_withEnvelope_112 : decode cX2_withEnvelope 112 = .ok (.lload 5, 2) := by decide +kernel
theorem dX2_withEnvelope_114 : decode cX2_withEnvelope 114 = .ok (.ldc2_w 167, 3) := by decide +kernel
theorem dX2_withEnvelope_117 : decode cX2_withEnvelope 117 = .ok (.lmul, 1) := by decide +kernel
theorem dX2_withEnvelope_118 : decode cX2_withEnvelope 118 = .ok (.aload_n 3, 1) := by decide +kernel
theorem dX2_withEnvelope_119 : decode cX2_withEnvelope 119 = .ok (.aload 4, 2) := by decide +kernel
theorem dX2_withEnvelope_121 : decode cX2_withEnvelope 121 = .ok (.invokevirtual 148, 3) := by decide +kernel
theorem dX2_withEnvelope_124 : decode cX2_withEnvelope 124 = .ok (.i2l, 1) := by decide +kernel
theorem dX2_withEnvelope_125 : decode cX2_withEnvelope 125 = .ok (.ladd, 1) := by decide +kernel
theorem dX2_withEnvelope_126 : decode cX2_withEnvelope 126 = .ok (.lstore 5, 2) := by decide +kernel
theorem dX2_withEnvelope_128 : decode cX2_withEnvelope 128 = .ok (.lload 5, 2) := by decide +kernel
theorem dX2_withEnvelope_130 : decode cX2_withEnvelope 130 = .ok (.lreturn, 1) := by decide +kernel
theorem dX2_lastSeal_0 : decode cX2_lastSeal 0 = .ok (.aload_n 0, 1) := by decide +kernel
theorem dX2_lastSeal_1 : decode cX2_lastSeal 1 = .ok (.getfield 84, 3) := by decide +kernel
theorem dX2_lastSeal_4 : decode cX2_lastSeal 4 = .ok (.ifCond .le 20, 3) := by decide +kernel
theorem dX2_lastSeal_7 : decode cX2_lastSeal 7 = .ok (.aload_n 0, 1) := by decide +kernel
theorem dX2_lastSeal_8 : decode cX2_lastSeal 8 = .ok (.getfield 17, 3) := by decide +kernel
theorem dX2_lastSeal_11 : decode cX2_lastSeal 11 = .ok (.aload_n 0, 1) := by decide +kernel
theorem dX2_lastSeal_12 : decode cX2_lastSeal 12 = .ok (.getfield 84, 3) := by decide +kernel
theorem dX2_lastSeal_15 : decode cX2_lastSeal 15 = .ok (.iconst 1, 1) := by decide +kernel
theorem dX2_lastSeal_16 : decode cX2_lastSeal 16 = .ok (.isub, 1) := by decide +kernel
theorem dX2_lastSeal_17 : decode cX2_lastSeal 17 = .ok (.aaload, 1) := by decide +kernel
theorem dX2_lastSeal_18 : decode cX2_lastSeal 18 = .ok (.getfield 98, 3) := by decide +kernel
theorem dX2_lastSeal_21 : decode cX2_lastSeal 21 = .ok (.goto 4, 3) := by decide +kernel
theorem dX2_lastSeal_24 : decode cX2_lastSeal 24 = .ok (.iconst 1, 1) := by decide +kernel
theorem dX2_lastSeal_25 : decode cX2_lastSeal 25 = .ok (.ireturn, 1) := by decide +kernel
theorem dX2_chainedSeal_0 : decode cX2_chainedSeal 0 = .ok (.iload_n 0, 1) := by decide +kernel
theorem dX2_chainedSeal_1 : decode cX2_chainedSeal 1 = .ok (.bipush 53, 2) := by decide +kernel
theorem dX2_chainedSeal_3 : decode cX2_chainedSeal 3 = .ok (.imul, 1) := by decide +kernel
theorem dX2_chainedSeal_4 : decode cX2_chainedSeal 4 = .ok (.iload_n 1, 1) := by decide +kernel
theorem dX2_chainedSeal_5 : decode cX2_chainedSeal 5 = .ok (.iadd, 1) := by decide +kernel
theorem dX2_chainedSeal_6 : decode cX2_chainedSeal 6 = .ok (.ldc 183, 2) := by decide +kernel
theorem dX2_chainedSeal_8 : decode cX2_chainedSeal 8 = .ok (.irem, 1) := by decide +kernel
theorem dX2_chainedSeal_9 : decode cX2_chainedSeal 9 = .ok (.ireturn, 1) := by decide +kernel
theorem dX2_requireLetter_0 : decode cX2_requireLetter 0 = .ok (.iload_n 1, 1) := by decide +kernel
theorem dX2_requireLetter_1 : decode cX2_requireLetter 1 = .ok (.ifCond .lt 11, 3) := by decide +kernel
theorem dX2_requireLetter_4 : decode cX2_requireLetter 4 = .ok (.iload_n 1, 1) := by decide +kernel
theorem dX2_requireLetter_5 : decode cX2_requireLetter 5 = .ok (.aload_n 0, 1) := by decide +kernel
theorem dX2_requireLetter_6 : decode cX2_requireLetter 6 = .ok (.getfield 26, 3) := by decide +kernel
theorem dX2_requireLetter_9 : decode cX2_requireLetter 9 = .ok (.if_icmp .lt 13, 3) := by decide +kernel
theorem dX2_requireLetter_12 : decode cX2_requireLetter 12 = .ok (.new 184, 3) := by decide +kernel
theorem dX2_requireLetter_15 : decode cX2_requireLetter 15 = .ok (.dup, 1) := by decide +kernel
theorem dX2_requireLetter_16 : decode cX2_requireLetter 16 = .ok (.ldc 186, 2) := by decide +kernel
theorem dX2_requireLetter_18 : decode cX2_requireLetter 18 = .ok (.invokespecial 188, 3) := by decide +kernel
theorem dX2_requireLetter_21 : decode cX2_requireLetter 21 = .ok (.athrow, 1) := by decide +kernel
theorem dX2_requireLetter_22 : decode cX2_requireLetter 22 = .ok (.aload_n 0, 1) := by decide +kernel
theorem dX2_requireLetter_23 : decode cX2_requireLetter 23 = .ok (.getfield 11, 3) := by decide +kernel
theorem dX2_requireLetter_26 : decode cX2_requireLetter 26 = .ok (.iload_n 1, 1) := by decide +kernel
theorem dX2_requireLetter_27 : decode cX2_requireLetter 27 = .ok (.aaload, 1) := by decide +kernel
theorem dX2_requireLetter_28 : decode cX2_requireLetter 28 = .ok (.areturn, 1) := by decide +kernel
theorem dX2_requireLetterWithPlace_0 : decode cX2_requireLetterWithPlace 0 = .ok (.aload_n 0, 1) := by decide +kernel
theorem dX2_requireLetterWithPlace_1 : decode cX2_requireLetterWithPlace 1 = .ok (.iload_n 1, 1) := by decide +kernel
theorem dX2_requireLetterWithPlace_2 : decode cX2_requireLetterWithPlace 2 = .ok (.invokevirtual 30, 3) := by decide +kernel
theorem dX2_requireLetterWithPlace_5 : decode cX2_requireLetterWithPlace 5 = .ok (.astore_n 3, 1) := by decide +kernel
theorem dX2_requireLetterWithPlace_6 : decode cX2_requireLetterWithPlace 6 = .ok (.iload_n 2, 1) := by decide +kernel
theorem dX2_requireLetterWithPlace_7 : decode cX2_requireLetterWithPlace 7 = .ok (.ifCond .lt 11, 3) := by decide +kernel
theorem dX2_requireLetterWithPlace_10 : decode cX2_requireLetterWithPlace 10 = .ok (.iload_n 2, 1) := by decide +kernel
theorem dX2_requireLetterWithPlace_11 : decode cX2_requireLetterWithPlace 11 = .ok (.aload_n 3, 1) := by decide +kernel
theorem dX2_requireLetterWithPlace_12 : decode cX2_requireLetterWithPlace 12 = .ok (.getfield 42, 3) := by decide +kernel
theorem dX2_requireLetterWithPlace_15 : decode cX2_requireLetterWithPlace 15 = .ok (.if_icmp .lt 13, 3) := by decide +kernel
theorem dX2_requireLetterWithPlace_18 : decode cX2_requireLetterWithPlace 18 = .ok (.new 184, 3) := by decide +kernel
theorem dX2_requireLetterWithPlace_21 : decode cX2_requireLetterWithPlace 21 = .ok (.dup, 1) := by decide +kernel
theorem dX2_requireLetterWithPlace_22 : decode cX2_requireLetterWithPlace 22 = .ok (.ldc 189, 2) := by decide +kernel
theorem dX2_requireLetterWithPlace_24 : decode cX2_requireLetterWithPlace 24 = .ok (.invokespecial 188, 3) := by decide +kernel
theorem dX2_requireLetterWithPlace_27 : decode cX2_requireLetterWithPlace 27 = .ok (.athrow, 1) := by decide +kernel
theorem dX2_requireLetterWithPlace_28 : decode cX2_requireLetterWithPlace 28 = .ok (.aload_n 3, 1) := by decide +kernel
theorem dX2_requireLetterWithPlace_29 : decode cX2_requireLetterWithPlace 29 = .ok (.areturn, 1) := by decide +kernel
theorem dX2_requireEnvelope_0 : decode cX2_requireEnvelope 0 = .ok (.iload_n 1, 1) := by decide +kernel
theorem dX2_requireEnvelope_1 : decode cX2_requireEnvelope 1 = .ok (.ifCond .lt 11, 3) := by decide +kernel
theorem dX2_requireEnvelope_4 : decode cX2_requireEnvelope 4 = .ok (.iload_n 1, 1) := by decide +kernel
theorem dX2_requireEnvelope_5 : decode cX2_requireEnvelope 5 = .ok (.aload_n 0, 1) := by decide +kernel
theorem dX2_requireEnvelope_6 : decode cX2_requireEnvelope 6 = .ok (.getfield 84, 3) := by decide +kernel
theorem dX2_requireEnvelope_9 : decode cX2_requireEnvelope 9 = .ok (.if_icmp .lt 13, 3) := by decide +kernel
theorem dX2_requireEnvelope_12 : decode cX2_requireEnvelope 12 = .ok (.new 184, 3) := by decide +kernel
theorem dX2_requireEnvelope_15 : decode cX2_requireEnvelope 15 = .ok (.dup, 1) := by decide +kernel
theorem dX2_requireEnvelope_16 : decode cX2_requireEnvelope 16 = .ok (.ldc 191, 2) := by decide +kernel
theorem dX2_requireEnvelope_18 : decode cX2_requireEnvelope 18 = .ok (.invokespecial 188, 3) := by decide +kernel
theorem dX2_requireEnvelope_21 : decode cX2_requireEnvelope 21 = .ok (.athrow, 1) := by decide +kernel
theorem dX2_requireEnvelope_22 : decode cX2_requireEnvelope 22 = .ok (.aload_n 0, 1) := by decide +kernel
theorem dX2_requireEnvelope_23 : decode cX2_requireEnvelope 23 = .ok (.getfield 17, 3) := by decide +kernel
theorem dX2_requireEnvelope_26 : decode cX2_requireEnvelope 26 = .ok (.iload_n 1, 1) := by decide +kernel
theorem dX2_requireEnvelope_27 : decode cX2_requireEnvelope 27 = .ok (.aaload, 1) := by decide +kernel
theorem dX2_requireEnvelope_28 : decode cX2_requireEnvelope 28 = .ok (.areturn, 1) := by decide +kernel
theorem dX2_requireRoomForLetter_0 : decode cX2_requireRoomForLetter 0 = .ok (.aload_n 0, 1) := by decide +kernel
theorem dX2_requireRoomForLetter_1 : decode cX2_requireRoomForLetter 1 = .ok (.getfield 26, 3) := by decide +kernel
theorem dX2_requireRoomForLetter_4 : decode cX2_requireRoomForLetter 4 = .ok (.bipush 12, 2) := by decide +kernel
theorem dX2_requireRoomForLetter_6 : decode cX2_requireRoomForLetter 6 = .ok (.if_icmp .lt 13, 3) := by decide +kernel
theorem dX2_requireRoomForLetter_9 : decode cX2_requireRoomForLetter 9 = .ok (.new 45, 3) := by decide +kernel
theorem dX2_requireRoomForLetter_12 : decode cX2_requireRoomForLetter 12 = .ok (.dup, 1) := by decide +kernel
theorem dX2_requireRoomForLetter_13 : decode cX2_requireRoomForLetter 13 = .ok (.ldc 193, 2) := by decide +kernel
theorem dX2_requireRoomForLetter_15 : decode cX2_requireRoomForLetter 15 = .ok (.invokespecial 49, 3) := by decide +kernel
theorem dX2_requireRoomForLetter_18 : decode cX2_requireRoomForLetter 18 = .ok (.athrow, 1) := by decide +kernel
theorem dX2_requireRoomForLetter_19 : decode cX2_requireRoomForLetter 19 = .ok (.return_, 1) := by decide +kernel
theorem dX2_requireWrittenSign_0 : decode cX2_requireWrittenSign 0 = .ok (.iload_n 0, 1) := by decide +kernel
theorem dX2_requireWrittenSign_1 : decode cX2_requireWrittenSign 1 = .ok (.ifCond .lt 9, 3) := by decide +kernel
theorem dX2_requireWrittenSign_4 : decode cX2_requireWrittenSign 4 = .ok (.iload_n 0, 1) := by decide +kernel
theorem dX2_requireWrittenSign_5 : decode cX2_requireWrittenSign 5 = .ok (.bipush 29, 2) := by decide +kernel
theorem dX2_requireWrittenSign_7 : decode cX2_requireWrittenSign 7 = .ok (.if_icmp .le 13, 3) := by decide +kernel
theorem dX2_requireWrittenSign_10 : decode cX2_requireWrittenSign 10 = .ok (.new 104, 3) := by decide +kernel
theorem dX2_requireWrittenSign_13 : decode cX2_requireWrittenSign 13 = .ok (.dup, 1) := by decide +kernel
theorem dX2_requireWrittenSign_14 : decode cX2_requireWrittenSign 14 = .ok (.ldc 195, 2) := by decide +kernel
theorem dX2_requireWrittenSign_16 : decode cX2_requireWrittenSign 16 = .ok (.invokespecial 108, 3) := by decide +kernel
theorem dX2_requireWrittenSign_19 : decode cX2_requireWrittenSign 19 = .ok (.athrow, 1) := by decide +kernel
theorem dX2_requireWrittenSign_20 : decode cX2_requireWrittenSign 20 = .ok (.return_, 1) := by decide +kernel
theorem dX2_requireWindowLength_0 : decode cX2_requireWindowLength 0 = .ok (.iload_n 0, 1) := by decide +kernel
theorem dX2_requireWindowLength_1 : decode cX2_requireWindowLength 1 = .ok (.iconst 1, 1) := by decide +kernel
theorem dX2_requireWindowLength_2 : decode cX2_requireWindowLength 2 = .ok (.if_icmp .lt 9, 3) := by decide +kernel
theorem dX2_requireWindowLength_5 : decode cX2_requireWindowLength 5 = .ok (.iload_n 0, 1) := by decide +kernel
theorem dX2_requireWindowLength_6 : decode cX2_requireWindowLength 6 = .ok (.bipush 40, 2) := by decide +kernel
theorem dX2_requireWindowLength_8 : decode cX2_requireWindowLength 8 = .ok (.if_icmp .le 13, 3) := by decide +kernel
theorem dX2_requireWindowLength_11 : decode cX2_requireWindowLength 11 = .ok (.new 104, 3) := by decide +kernel
theorem dX2_requireWindowLength_14 : decode cX2_requireWindowLength 14 = .ok (.dup, 1) := by decide +kernel
theorem dX2_requireWindowLength_15 : decode cX2_requireWindowLength 15 = .ok (.ldc 197, 2) := by decide +kernel
theorem dX2_requireWindowLength_17 : decode cX2_requireWindowLength 17 = .ok (.invokespecial 108, 3) := by decide +kernel
theorem dX2_requireWindowLength_20 : decode cX2_requireWindowLength 20 = .ok (.athrow, 1) := by decide +kernel
theorem dX2_requireWindowLength_21 : decode cX2_requireWindowLength 21 = .ok (.return_, 1) := by decide +kernel
theorem dX2_requireSigns_0 : decode cX2_requireSigns 0 = .ok (.aload_n 0, 1) := by decide +kernel
theorem dX2_requireSigns_1 : decode cX2_requireSigns 1 = .ok (.getfield 42, 3) := by decide +kernel
theorem dX2_requireSigns_4 : decode cX2_requireSigns 4 = .ok (.ifCond .gt 13, 3) := by decide +kernel
theorem dX2_requireSigns_7 : decode cX2_requireSigns 7 = .ok (.new 45, 3) := by decide +kernel
theorem dX2_requireSigns_10 : decode cX2_requireSigns 10 = .ok (.dup, 1) := by decide +kernel
theorem dX2_requireSigns_11 : decode cX2_requireSigns 11 = .ok (.ldc 199, 2) := by decide +kernel
theorem dX2_requireSigns_13 : decode cX2_requireSigns 13 = .ok (.invokespecial 49, 3) := by decide +kernel
theorem dX2_requireSigns_16 : decode cX2_requireSigns 16 = .ok (.athrow, 1) := by decide +kernel
theorem dX2_requireSigns_17 : decode cX2_requireSigns 17 = .ok (.return_, 1) := by decide +kernel
