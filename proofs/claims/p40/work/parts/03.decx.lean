theorem dX0_init_0 : decode cX0_init 0 = .ok (.aload_n 0, 1) := by decide +kernel
theorem dX0_init_1 : decode cX0_init 1 = .ok (.invokespecial 3, 3) := by decide +kernel
theorem dX0_init_4 : decode cX0_init 4 = .ok (.aload_n 0, 1) := by decide +kernel
theorem dX0_init_5 : decode cX0_init 5 = .ok (.bipush 6, 2) := by decide +kernel
theorem dX0_init_7 : decode cX0_init 7 = .ok (.newarray .boolean, 2) := by decide +kernel
theorem dX0_init_9 : decode cX0_init 9 = .ok (.putfield 9, 3) := by decide +kernel
theorem dX0_init_12 : decode cX0_init 12 = .ok (.aload_n 0, 1) := by decide +kernel
theorem dX0_init_13 : decode cX0_init 13 = .ok (.aload_n 1, 1) := by decide +kernel
theorem dX0_init_14 : decode cX0_init 14 = .ok (.getfield 15, 3) := by decide +kernel
theorem dX0_init_17 : decode cX0_init 17 = .ok (.arraylength, 1) := by decide +kernel
theorem dX0_init_18 : decode cX0_init 18 = .ok (.anewarray 21, 3) := by decide +kernel
theorem dX0_init_21 : decode cX0_init 21 = .ok (.putfield 23, 3) := by decide +kernel
theorem dX0_init_24 : decode cX0_init 24 = .ok (.iconst 0, 1) := by decide +kernel
theorem dX0_init_25 : decode cX0_init 25 = .ok (.istore_n 2, 1) := by decide +kernel
theorem dX0_init_26 : decode cX0_init 26 = .ok (.iload_n 2, 1) := by decide +kernel
theorem dX0_init_27 : decode cX0_init 27 = .ok (.aload_n 0, 1) := by decide +kernel
theorem dX0_init_28 : decode cX0_init 28 = .ok (.getfield 23, 3) := by decide +kernel
theorem dX0_init_31 : decode cX0_init 31 = .ok (.arraylength, 1) := by decide +kernel
theorem dX0_init_32 : decode cX0_init 32 = .ok (.if_icmp .ge 28, 3) := by decide +kernel
theorem dX0_init_35 : decode cX0_init 35 = .ok (.aload_n 0, 1) := by decide +kernel
theorem dX0_init_36 : decode cX0_init 36 = .ok (.getfield 23, 3) := by decide +kernel
theorem dX0_init_39 : decode cX0_init 39 = .ok (.iload_n 2, 1) := by decide +kernel
theorem dX0_init_40 : decode cX0_init 40 = .ok (.new 21, 3) := by decide +kernel
theorem dX0_init_43 : decode cX0_init 43 = .ok (.dup, 1) := by decide +kernel
theorem dX0_init_44 : decode cX0_init 44 = .ok (.aload_n 1, 1) := by decide +kernel
theorem dX0_init_45 : decode cX0_init 45 = .ok (.getfield 15, 3) := by decide +kernel
theorem dX0_init_48 : decode cX0_init 48 = .ok (.iload_n 2, 1) := by decide +kernel
theorem dX0_init_49 : decode cX0_init 49 = .ok (.aaload, 1) := by decide +kernel
theorem dX0_init_50 : decode cX0_init 50 = .ok (.invokespecial 27, 3) := by decide +kernel
theorem dX0_init_53 : decode cX0_init 53 = .ok (.aastore, 1) := by decide +kernel
theorem dX0_init_54 : decode cX0_init 54 = .ok (.iinc 2 1, 3) := by decide +kernel
theorem dX0_init_57 : decode cX0_init 57 = .ok (.goto (-31), 3) := by decide +kernel
theorem dX0_init_60 : decode cX0_init 60 = .ok (.return_, 1) := by decide +kernel
theorem dX0_share_0 : decode cX0_share 0 = .ok (.iconst 0, 1) := by decide +kernel
theorem dX0_share_1 : decode cX0_share 1 = .ok (.istore_n 1, 1) := by decide +kernel
theorem dX0_share_2 : decode cX0_share 2 = .ok (.iload_n 1, 1) := by decide +kernel
theorem dX0_share_3 : decode cX0_share 3 = .ok (.aload_n 0, 1) := by decide +kernel
theorem dX0_share_4 : decode cX0_share 4 = .ok (.getfield 23, 3) := by decide +kernel
theorem dX0_share_7 : decode cX0_share 7 = .ok (.arraylength, 1) := by decide +kernel
theorem dX0_share_8 : decode cX0_share 8 = .ok (.if_icmp .ge 24, 3) := by decide +kernel
theorem dX0_share_11 : decode cX0_share 11 = .ok (.aload_n 0, 1) := by decide +kernel
theorem dX0_share_12 : decode cX0_share 12 = .ok (.getfield 23, 3) := by decide +kernel
theorem dX0_share_15 : decode cX0_share 15 = .ok (.iload_n 1, 1) := by decide +kernel
theorem dX0_share_16 : decode cX0_share 16 = .ok (.aaload, 1) := by decide +kernel
theorem dX0_share_17 : decode cX0_share 17 = .ok (.aload_n 0, 1) := by decide +kernel
theorem dX0_share_18 : decode cX0_share 18 = .ok (.iload_n 1, 1) := by decide +kernel
theorem dX0_share_19 : decode cX0_share 19 = .ok (.iconst (-1), 1) := by decide +kernel
theorem dX0_share_20 : decode cX0_share 20 = .ok (.invokevirtual 30, 3) := by decide +kernel
theorem dX0_share_23 : decode cX0_share 23 = .ok (.invokevirtual 34, 3) := by decide +kernel
theorem dX0_share_26 : decode cX0_share 26 = .ok (.iinc 1 1, 3) := by decide +kernel
theorem dX0_share_29 : decode cX0_share 29 = .ok (.goto (-27), 3) := by decide +kernel
theorem dX0_share_32 : decode cX0_share 32 = .ok (.return_, 1) := by decide +kernel
theorem dX0_sharer_0 : decode cX0_sharer 0 = .ok (.aload_n 0, 1) := by decide +kernel
theorem dX0_sharer_1 : decode cX0_sharer 1 = .ok (.iload_n 2, 1) := by decide +kernel
theorem dX0_sharer_2 : decode cX0_sharer 2 = .ok (.invokevirtual 38, 3) := by decide +kernel
theorem dX0_sharer_5 : decode cX0_sharer 5 = .ok (.istore_n 3, 1) := by decide +kernel
theorem dX0_sharer_6 : decode cX0_sharer 6 = .ok (.iload_n 3, 1) := by decide +kernel
theorem dX0_sharer_7 : decode cX0_sharer 7 = .ok (.ifCond .ne 5, 3) := by decide +kernel
theorem dX0_sharer_10 : decode cX0_sharer 10 = .ok (.iconst (-1), 1) := by decide +kernel
theorem dX0_sharer_11 : decode cX0_sharer 11 = .ok (.ireturn, 1) := by decide +kernel
theorem dX0_sharer_12 : decode cX0_sharer 12 = .ok (.aload_n 0, 1) := by decide +kernel
theorem dX0_sharer_13 : decode cX0_sharer 13 = .ok (.getfield 23, 3) := by decide +kernel
theorem dX0_sharer_16 : decode cX0_sharer 16 = .ok (.arraylength, 1) := by decide +kernel
theorem dX0_sharer_17 : decode cX0_sharer 17 = .ok (.iload_n 3, 1) := by decide +kernel
theorem dX0_sharer_18 : decode cX0_sharer 18 = .ok (.idiv, 1) := by decide +kernel
theorem dX0_sharer_19 : decode cX0_sharer 19 = .ok (.istore 4, 2) := by decide +kernel
theorem dX0_sharer_21 : decode cX0_sharer 21 = .ok (.aload_n 0, 1) := by decide +kernel
theorem dX0_sharer_22 : decode cX0_sharer 22 = .ok (.getfield 23, 3) := by decide +kernel
theorem dX0_sharer_25 : decode cX0_sharer 25 = .ok (.arraylength, 1) := by decide +kernel
theorem dX0_sharer_26 : decode cX0_sharer 26 = .ok (.iload_n 3, 1) := by decide +kernel
theorem dX0_sharer_27 : decode cX0_sharer 27 = .ok (.irem, 1) := by decide +kernel
theorem dX0_sharer_28 : decode cX0_sharer 28 = .ok (.istore 5, 2) := by decide +kernel
theorem dX0_sharer_30 : decode cX0_sharer 30 = .ok (.iconst 0, 1) := by decide +kernel
theorem dX0_sharer_31 : decode cX0_sharer 31 = .ok (.istore 6, 2) := by decide +kernel
theorem dX0_sharer_33 : decode cX0_sharer 33 = .ok (.iconst 0, 1) := by decide +kernel
theorem dX0_sharer_34 : decode cX0_sharer 34 = .ok (.istore 7, 2) := by decide +kernel
theorem dX0_sharer_36 : decode cX0_sharer 36 = .ok (.iconst 0, 1) := by decide +kernel
theorem dX0_sharer_37 : decode cX0_sharer 37 = .ok (.istore 8, 2) := by decide +kernel
theorem dX0_sharer_39 : decode cX0_sharer 39 = .ok (.iload 8, 2) := by decide +kernel
theorem dX0_sharer_41 : decode cX0_sharer 41 = .ok (.bipush 6, 2) := by decide +kernel
theorem dX0_sharer_43 : decode cX0_sharer 43 = .ok (.if_icmp .ge 52, 3) := by decide +kernel
theorem dX0_sharer_46 : decode cX0_sharer 46 = .ok (.aload_n 0, 1) := by decide +kernel
theorem dX0_sharer_47 : decode cX0_sharer 47 = .ok (.iload 8, 2) := by decide +kernel
theorem dX0_sharer_49 : decode cX0_sharer 49 = .ok (.iload_n 2, 1) := by decide +kernel
theorem dX0_sharer_50 : decode cX0_sharer 50 = .ok (.invokevirtual 42, 3) := by decide +kernel
theorem dX0_sharer_53 : decode cX0_sharer 53 = .ok (.ifCond .eq 36, 3) := by decide +kernel
theorem dX0_sharer_56 : decode cX0_sharer 56 = .ok (.iload 6, 2) := by decide +kernel
theorem dX0_sharer_58 : decode cX0_sharer 58 = .ok (.iload 7, 2) := by decide +kernel
theorem dX0_sharer_60 : decode cX0_sharer 60 = .ok (.iload 5, 2) := by decide +kernel
theorem dX0_sharer_62 : decode cX0_sharer 62 = .ok (.if_icmp .ge 10, 3) := by decide +kernel
theorem dX0_sharer_65 : decode cX0_sharer 65 = .ok (.iload 4, 2) := by decide +kernel
theorem dX0_sharer_67 : decode cX0_sharer 67 = .ok (.iconst 1, 1) := by decide +kernel
theorem dX0_sharer_68 : decode cX0_sharer 68 = .ok (.iadd, 1) := by decide +kernel
theorem dX0_sharer_69 : decode cX0_sharer 69 = .ok (.goto 5, 3) := by decide +kernel
theorem dX0_sharer_72 : decode cX0_sharer 72 = .ok (.iload 4, 2) := by decide +kernel
theorem dX0_sharer_74 : decode cX0_sharer 74 = .ok (.iadd, 1) := by decide +kernel
theorem dX0_sharer_75 : decode cX0_sharer 75 = .ok (.istore 6, 2) := by decide +kernel
theorem dX0_sharer_77 : decode cX0_sharer 77 = .ok (.iinc 7 1, 3) := by decide +kernel
theorem dX0_sharer_80 : decode cX0_sharer 80 = .ok (.iload_n 1, 1) := by decide +kernel
theorem dX0_sharer_81 : decode cX0_sharer 81 = .ok (.iload 6, 2) := by decide +kernel
theorem dX0_sharer_83 : decode cX0_sharer 83 = .ok (.if_icmp .ge 6, 3) := by decide +kernel
theorem dX0_sharer_86 : decode cX0_sharer 86 = .ok (.iload 8, 2) := by decide +kernel
theorem dX0_sharer_88 : decode cX0_sharer 88 = .ok (.ireturn, 1) := by decide +kernel
theorem dX0_sharer_89 : decode cX0_sharer 89 = .ok (.iinc 8 1, 3) := by decide +kernel
theorem dX0_sharer_92 : decode cX0_sharer 92 = .ok (.goto (-53), 3) := by decide +kernel
theorem dX0_sharer_95 : decode cX0_sharer 95 = .ok (.iconst (-1), 1) := by decide +kernel
theorem dX0_sharer_96 : decode cX0_sharer 96 = .ok (.ireturn, 1) := by decide +kernel
theorem dX0_countReaders_0 : decode cX0_countReaders 0 = .ok (.iconst 0, 1) := by decide +kernel
theorem dX0_countReaders_1 : decode cX0_countReaders 1 = .ok (.istore_n 2, 1) := by decide +kernel
theorem dX0_countReaders_2 : decode cX0_countReaders 2 = .ok (.iconst 0, 1) := by decide +kernel
theorem dX0_countReaders_3 : decode cX0_countReaders 3 = .ok (.istore_n 3, 1) := by decide +kernel
theorem dX0_countReaders_4 : decode cX0_countReaders 4 = .ok (.iload_n 3, 1) := by decide +kernel
theorem dX0_countReaders_5 : decode cX0_countReaders 5 = .ok (.bipush 6, 2) := by decide +kernel
theorem dX0_countReaders_7 : decode cX0_countReaders 7 = .ok (.if_icmp .ge 21, 3) := by decide +kernel
theorem dX0_countReaders_10 : decode cX0_countReaders 10 = .ok (.aload_n 0, 1) := by decide +kernel
theorem dX0_countReaders_11 : decode cX0_countReaders 11 = .ok (.iload_n 3, 1) := by decide +kernel
theorem dX0_countReaders_12 : decode cX0_countReaders 12 = .ok (.iload_n 1, 1) := by decide +kernel
theorem dX0_countReaders_13 : decode cX0_countReaders 13 = .ok (.invokevirtual 42, 3) := by decide +kernel
theorem dX0_countReaders_16 : decode cX0_countReaders 16 = .ok (.ifCond .eq 6, 3) := by decide +kernel
theorem dX0_countReaders_19 : decode cX0_countReaders 19 = .ok (.iinc 2 1, 3) := by decide +kernel
theorem dX0_countReaders_22 : decode cX0_countReaders 22 = .ok (.iinc 3 1, 3) := by decide +kernel
theorem dX0_countReaders_25 : decode cX0_countReaders 25 = .ok (.goto (-21), 3) := by decide +kernel
theorem dX0_countReaders_28 : decode cX0_countReaders 28 = .ok (.iload_n 2, 1) := by decide +kernel
theorem dX0_countReaders_29 : decode cX0_countReaders 29 = .ok (.ireturn, 1) := by decide +kernel
theorem dX0_isInWith_0 : decode cX0_isInWith 0 = .ok (.aload_n 0, 1) := by decide +kernel
theorem dX0_isInWith_1 : decode cX0_isInWith 1 = .ok (.getfield 9, 3) := by decide +kernel
theorem dX0_isInWith_4 : decode cX0_isInWith 4 = .ok (.iload_n 1, 1) := by decide +kernel
theorem dX0_isInWith_5 : decode cX0_isInWith 5 = .ok (.baload, 1) := by decide +kernel
theorem dX0_isInWith_6 : decode cX0_isInWith 6 = .ok (.iload_n 1, 1) := by decide +kernel
theorem dX0_isInWith_7 : decode cX0_isInWith 7 = .ok (.iload_n 2, 1) := by decide +kernel
theorem dX0_isInWith_8 : decode cX0_isInWith 8 = .ok (.if_icmp .ne 7, 3) := by decide +kernel
theorem dX0_isInWith_11 : decode cX0_isInWith 11 = .ok (.iconst 1, 1) := by decide +kernel
theorem dX0_isInWith_12 : decode cX0_isInWith 12 = .ok (.goto 4, 3) := by decide +kernel
theorem dX0_isInWith_15 : decode cX0_isInWith 15 = .ok (.iconst 0, 1) := by decide +kernel
theorem dX0_isInWith_16 : decode cX0_isInWith 16 = .ok (.if_icmp .eq 7, 3) := by decide +kernel
theorem dX0_isInWith_19 : decode cX0_isInWith 19 = .ok (.iconst 1, 1) := by decide +kernel
theorem dX0_isInWith_20 : decode cX0_isInWith 20 = .ok (.goto 4, 3) := by decide +kernel
theorem dX0_isInWith_23 : decode cX0_isInWith 23 = .ok (.iconst 0, 1) := by decide +kernel
theorem dX0_isInWith_24 : decode cX0_isInWith 24 = .ok (.ireturn, 1) := by decide +kernel
theorem dX0_nextPlace_0 : decode cX0_nextPlace 0 = .ok (.iconst 0, 1) := by decide +kernel
theorem dX0_nextPlace_1 : decode cX0_nextPlace 1 = .ok (.istore_n 3, 1) := by decide +kernel
theorem dX0_nextPlace_2 : decode cX0_nextPlace 2 = .ok (.iload_n 3, 1) := by decide +kernel
theorem dX0_nextPlace_3 : decode cX0_nextPlace 3 = .ok (.aload_n 0, 1) := by decide +kernel
theorem dX0_nextPlace_4 : decode cX0_nextPlace 4 = .ok (.getfield 23, 3) := by decide +kernel
theorem dX0_nextPlace_7 : decode cX0_nextPlace 7 = .ok (.arraylength, 1) := by decide +kernel
theorem dX0_nextPlace_8 : decode cX0_nextPlace 8 = .ok (.if_icmp .ge 48, 3) := by decide +kernel
theorem dX0_nextPlace_11 : decode cX0_nextPlace 11 = .ok (.aload_n 0, 1) := by decide +kernel
theorem dX0_nextPlace_12 : decode cX0_nextPlace 12 = .ok (.getfield 23, 3) := by decide +kernel
theorem dX0_nextPlace_15 : decode cX0_nextPlace 15 = .ok (.iload_n 3, 1) := by decide +kernel
theorem dX0_nextPlace_16 : decode cX0_nextPlace 16 = .ok (.aaload, 1) := by decide +kernel
theorem dX0_nextPlace_17 : decode cX0_nextPlace 17 = .ok (.getfield 46, 3) := by decide +kernel
theorem dX0_nextPlace_20 : decode cX0_nextPlace 20 = .ok (.iload_n 1, 1) := by decide +kernel
theorem dX0_nextPlace_21 : decode cX0_nextPlace 21 = .ok (.if_icmp .ne 29, 3) := by decide +kernel
theorem dX0_nextPlace_24 : decode cX0_nextPlace 24 = .ok (.aload_n 0, 1) := by decide +kernel
theorem dX0_nextPlace_25 : decode cX0_nextPlace 25 = .ok (.getfield 23, 3) := by decide +kernel
theorem dX0_nextPlace_28 : decode cX0_nextPlace 28 = .ok (.iload_n 3, 1) := by decide +kernel
theorem dX0_nextPlace_29 : decode cX0_nextPlace 29 = .ok (.aaload, 1) := by decide +kernel
theorem dX0_nextPlace_30 : decode cX0_nextPlace 30 = .ok (.iload_n 2, 1) := by decide +kernel
theorem dX0_nextPlace_31 : decode cX0_nextPlace 31 = .ok (.invokevirtual 50, 3) := by decide +kernel
theorem dX0_nextPlace_34 : decode cX0_nextPlace 34 = .ok (.istore 4, 2) := by decide +kernel
theorem dX0_nextPlace_36 : decode cX0_nextPlace 36 = .ok (.iload 4, 2) := by decide +kernel
theorem dX0_nextPlace_38 : decode cX0_nextPlace 38 = .ok (.iconst (-1), 1) := by decide +kernel
theorem dX0_nextPlace_39 : decode cX0_nextPlace 39 = .ok (.if_icmp .eq 11, 3) := by decide +kernel
theorem dX0_nextPlace_42 : decode cX0_nextPlace 42 = .ok (.bipush 100, 2) := by decide +kernel
theorem dX0_nextPlace_44 : decode cX0_nextPlace 44 = .ok (.iload_n 3, 1) := by decide +kernel
theorem dX0_nextPlace_45 : decode cX0_nextPlace 45 = .ok (.imul, 1) := by decide +kernel
theorem dX0_nextPlace_46 : decode cX0_nextPlace 46 = .ok (.iload 4, 2) := by decide +kernel
theorem dX0_nextPlace_48 : decode cX0_nextPlace 48 = .ok (.iadd, 1) := by decide +kernel
theorem dX0_nextPlace_49 : decode cX0_nextPlace 49 = .ok (.ireturn, 1) := by decide +kernel
theorem dX0_nextPlace_50 : decode cX0_nextPlace 50 = .ok (.iinc 3 1, 3) := by decide +kernel
theorem dX0_nextPlace_53 : decode cX0_nextPlace 53 = .ok (.goto (-51), 3) := by decide +kernel
theorem dX0_nextPlace_56 : decode cX0_nextPlace 56 = .ok (.iconst (-1), 1) := by decide +kernel
theorem dX0_nextPlace_57 : decode cX0_nextPlace 57 = .ok (.ireturn, 1) := by decide +kernel
theorem dX0_keepUp_0 : decode cX0_keepUp 0 = .ok (.iconst 0, 1) := by decide +kernel
theorem dX0_keepUp_1 : decode cX0_keepUp 1 = .ok (.istore_n 1, 1) := by decide +kernel
theorem dX0_keepUp_2 : decode cX0_keepUp 2 = .ok (.iload_n 1, 1) := by decide +kernel
theorem dX0_keepUp_3 : decode cX0_keepUp 3 = .ok (.aload_n 0, 1) := by decide +kernel
theorem dX0_keepUp_4 : decode cX0_keepUp 4 = .ok (.getfield 23, 3) := by decide +kernel
theorem dX0_keepUp_7 : decode cX0_keepUp 7 = .ok (.arraylength, 1) := by decide +kernel
theorem dX0_keepUp_8 : decode cX0_keepUp 8 = .ok (.if_icmp .ge 18, 3) := by decide +kernel
theorem dX0_keepUp_11 : decode cX0_keepUp 11 = .ok (.aload_n 0, 1) := by decide +kernel
theorem dX0_keepUp_12 : decode cX0_keepUp 12 = .ok (.getfield 23, 3) := by decide +kernel
theorem dX0_keepUp_15 : decode cX0_keepUp 15 = .ok (.iload_n 1, 1) := by decide +kernel
theorem dX0_keepUp_16 : decode cX0_keepUp 16 = .ok (.aaload, 1) := by decide +kernel
theorem dX0_keepUp_17 : decode cX0_keepUp 17 = .ok (.invokevirtual 53, 3) := by decide +kernel
theorem dX0_keepUp_20 : decode cX0_keepUp 20 = .ok (.iinc 1 1, 3) := by decide +kernel
theorem dX0_keepUp_23 : decode cX0_keepUp 23 = .ok (.goto (-21), 3) := by decide +kernel
theorem dX0_keepUp_26 : decode cX0_keepUp 26 = .ok (.return_, 1) := by decide +kernel
theorem dX0_countOf_0 : decode cX0_countOf 0 = .ok (.iconst 0, 1) := by decide +kernel
theorem dX0_countOf_1 : decode cX0_countOf 1 = .ok (.istore_n 2, 1) := by decide +kernel
theorem dX0_countOf_2 : decode cX0_countOf 2 = .ok (.iconst 0, 1) := by decide +kernel
theorem dX0_countOf_3 : decode cX0_countOf 3 = .ok (.istore_n 3, 1) := by decide +kernel
theorem dX0_countOf_4 : decode cX0_countOf 4 = .ok (.iload_n 3, 1) := by decide +kernel
theorem dX0_countOf_5 : decode cX0_countOf 5 = .ok (.aload_n 0, 1) := by decide +kernel
theorem dX0_countOf_6 : decode cX0_countOf 6 = .ok (.getfield 23, 3) := by decide +kernel
theorem dX0_countOf_9 : decode cX0_countOf 9 = .ok (.arraylength, 1) := by decide +kernel
theorem dX0_countOf_10 : decode cX0_countOf 10 = .ok (.if_icmp .ge 22, 3) := by decide +kernel
theorem dX0_countOf_13 : decode cX0_countOf 13 = .ok (.iload_n 2, 1) := by decide +kernel
theorem dX0_countOf_14 : decode cX0_countOf 14 = .ok (.aload_n 0, 1) := by decide +kernel
theorem dX0_countOf_15 : decode cX0_countOf 15 = .ok (.getfield 23, 3) := by decide +kernel
theorem dX0_countOf_18 : decode cX0_countOf 18 = .ok (.iload_n 3, 1) := by decide +kernel
theorem dX0_countOf_19 : decode cX0_countOf 19 = .ok (.aaload, 1) := by decide +kernel
theorem dX0_countOf_20 : decode cX0_countOf 20 = .ok (.iload_n 1, 1) := by decide +kernel
theorem dX0_countOf_21 : decode cX0_countOf 21 = .ok (.invokevirtual 56, 3) := by decide +kernel
theorem dX0_countOf_24 : decode cX0_countOf 24 = .ok (.iadd, 1) := by decide +kernel
theorem dX0_countOf_25 : decode cX0_countOf 25 = .ok (.istore_n 2, 1) := by decide +kernel
theorem dX0_countOf_26 : decode cX0_countOf 26 = .ok (.iinc 3 1, 3) := by decide +kernel
theorem dX0_countOf_29 : decode cX0_countOf 29 = .ok (.goto (-25), 3) := by decide +kernel
theorem dX0_countOf_32 : decode cX0_countOf 32 = .ok (.iload_n 2, 1) := by decide +kernel
theorem dX0_countOf_33 : decode cX0_countOf 33 = .ok (.ireturn, 1) := by decide +kernel
theorem dX0_sumOfTriesOfRead_0 : decode cX0_sumOfTriesOfRead 0 = .ok (.iconst 0, 1) := by decide +kernel
theorem dX0_sumOfTriesOfRead_1 : decode cX0_sumOfTriesOfRead 1 = .ok (.istore_n 1, 1) := by decide +kernel
theorem dX0_sumOfTriesOfRead_2 : decode cX0_sumOfTriesOfRead 2 = .ok (.iconst 0, 1) := by decide +kernel
theorem dX0_sumOfTriesOfRead_3 : decode cX0_sumOfTriesOfRead 3 = .ok (.istore_n 2, 1) := by decide +kernel
theorem dX0_sumOfTriesOfRead_4 : decode cX0_sumOfTriesOfRead 4 = .ok (.iload_n 2, 1) := by decide +kernel
theorem dX0_sumOfTriesOfRead_5 : decode cX0_sumOfTriesOfRead 5 = .ok (.aload_n 0, 1) := by decide +kernel
theorem dX0_sumOfTriesOfRead_6 : decode cX0_sumOfTriesOfRead 6 = .ok (.getfield 23, 3) := by decide +kernel
theorem dX0_sumOfTriesOfRead_9 : decode cX0_sumOfTriesOfRead 9 = .ok (.arraylength, 1) := by decide +kernel
theorem dX0_sumOfTriesOfRead_10 : decode cX0_sumOfTriesOfRead 10 = .ok (.if_icmp .ge 21, 3) := by decide +kernel
theorem dX0_sumOfTriesOfRead_13 : decode cX0_sumOfTriesOfRead 13 = .ok (.iload_n 1, 1) := by decide +kernel
theorem dX0_sumOfTriesOfRead_14 : decode cX0_sumOfTriesOfRead 14 = .ok (.aload_n 0, 1) := by decide +kernel
theorem dX0_sumOfTriesOfRead_15 : decode cX0_sumOfTriesOfRead 15 = .ok (.getfield 23, 3) := by decide +kernel
theorem dX0_sumOfTriesOfRead_18 : decode cX0_sumOfTriesOfRead 18 = .ok (.iload_n 2, 1) := by decide +kernel
theorem dX0_sumOfTriesOfRead_19 : decode cX0_sumOfTriesOfRead 19 = .ok (.aaload, 1) := by decide +kernel
theorem dX0_sumOfTriesOfRead_20 : decode cX0_sumOfTriesOfRead 20 = .ok (.invokevirtual 59, 3) := by decide +kernel
theorem dX0_sumOfTriesOfRead_23 : decode cX0_sumOfTriesOfRead 23 = .ok (.iadd, 1) := by decide +kernel
theorem dX0_sumOfTriesOfRead_24 : decode cX0_sumOfTriesOfRead 24 = .ok (.istore_n 1, 1) := by decide +kernel
theorem dX0_sumOfTriesOfRead_25 : decode cX0_sumOfTriesOfRead 25 = .ok (.iinc 2 1, 3) := by decide +kernel
theorem dX0_sumOfTriesOfRead_28 : decode cX0_sumOfTriesOfRead 28 = .ok (.goto (-24), 3) := by decide +kernel
theorem dX0_sumOfTriesOfRead_31 : decode cX0_sumOfTriesOfRead 31 = .ok (.iload_n 1, 1) := by decide +kernel
theorem dX0_sumOfTriesOfRead_32 : decode cX0_sumOfTriesOfRead 32 = .ok (.ireturn, 1) := by decide +kernel
theorem dX0_nextTimeFrom_0 : decode cX0_nextTimeFrom 0 = .ok (.iconst (-1), 1) := by decide +kernel
theorem dX0_nextTimeFrom_1 : decode cX0_nextTimeFrom 1 = .ok (.istore_n 3, 1) := by decide +kernel
theorem dX0_nextTimeFrom_2 : decode cX0_nextTimeFrom 2 = .ok (.iconst 0, 1) := by decide +kernel
theorem dX0_nextTimeFrom_3 : decode cX0_nextTimeFrom 3 = .ok (.istore 4, 2) := by decide +kernel
theorem dX0_nextTimeFrom_5 : decode cX0_nextTimeFrom 5 = .ok (.iload 4, 2) := by decide +kernel
theorem dX0_nextTimeFrom_7 : decode cX0_nextTimeFrom 7 = .ok (.aload_n 0, 1) := by decide +kernel
theorem dX0_nextTimeFrom_8 : decode cX0_nextTimeFrom 8 = .ok (.getfield 23, 3) := by decide +kernel
theorem dX0_nextTimeFrom_11 : decode cX0_nextTimeFrom 11 = .ok (.arraylength, 1) := by decide +kernel
theorem dX0_nextTimeFrom_12 : decode cX0_nextTimeFrom 12 = .ok (.if_icmp .ge 26, 3) := by decide +kernel
theorem dX0_nextTimeFrom_15 : decode cX0_nextTimeFrom 15 = .ok (.iload_n 3, 1) := by decide +kernel
theorem dX0_nextTimeFrom_16 : decode cX0_nextTimeFrom 16 = .ok (.aload_n 0, 1) := by decide +kernel
theorem dX0_nextTimeFrom_17 : decode cX0_nextTimeFrom 17 = .ok (.getfield 23, 3) := by decide +kernel
theorem dX0_nextTimeFrom_20 : decode cX0_nextTimeFrom 20 = .ok (.iload 4, 2) := by decide +kernel
theorem dX0_nextTimeFrom_22 : decode cX0_nextTimeFrom 22 = .ok (.aaload, 1) := by decide +kernel
theorem dX0_nextTimeFrom_23 : decode cX0_nextTimeFrom 23 = .ok (.iload_n 1, 1) := by decide +kernel
theorem dX0_nextTimeFrom_24 : decode cX0_nextTimeFrom 24 = .ok (.iload_n 2, 1) := by decide +kernel
theorem dX0_nextTimeFrom_25 : decode cX0_nextTimeFrom 25 = .ok (.invokevirtual 63, 3) := by decide +kernel
theorem dX0_nextTimeFrom_28 : decode cX0_nextTimeFrom 28 = .ok (.invokestatic 66, 3) := by decide +kernel
theorem dX0_nextTimeFrom_31 : decode cX0_nextTimeFrom 31 = .ok (.istore_n 3, 1) := by decide +kernel
theorem dX0_nextTimeFrom_32 : decode cX0_nextTimeFrom 32 = .ok (.iinc 4 1, 3) := by decide +kernel
theorem dX0_nextTimeFrom_35 : decode cX0_nextTimeFrom 35 = .ok (.goto (-30), 3) := by decide +kernel
theorem dX0_nextTimeFrom_38 : decode cX0_nextTimeFrom 38 = .ok (.iload_n 3, 1) := by decide +kernel
theorem dX0_nextTimeFrom_39 : decode cX0_nextTimeFrom 39 = .ok (.ireturn, 1) := by decide +kernel
theorem dX1_init_0 : decode cX1_init 0 = .ok (.aload_n 0, 1) := by decide +kernel
theorem dX1_init_1 : decode cX1_init 1 = .ok (.invokespecial 3, 3) := by decide +kernel
theorem dX1_init_4 : decode cX1_init 4 = .ok (.aload_n 0, 1) := by decide +kernel
theorem dX1_init_5 : decode cX1_init 5 = .ok (.sipush 1000, 3) := by decide +kernel
theorem dX1_init_8 : decode cX1_init 8 = .ok (.newarray .int, 2) := by decide +kernel
theorem dX1_init_10 : decode cX1_init 10 = .ok (.putfield 11, 3) := by decide +kernel
theorem dX1_init_13 : decode cX1_init 13 = .ok (.aload_n 0, 1) := by decide +kernel
theorem dX1_init_14 : decode cX1_init 14 = .ok (.iconst 0, 1) := by decide +kernel
theorem dX1_init_15 : decode cX1_init 15 = .ok (.putfield 15, 3) := by decide +kernel
theorem dX1_init_18 : decode cX1_init 18 = .ok (.return_, 1) := by decide +kernel
theorem dX1_write_0 : decode cX1_write 0 = .ok (.aload_n 0, 1) := by decide +kernel
theorem dX1_write_1 : decode cX1_write 1 = .ok (.getfield 15, 3) := by decide +kernel
theorem dX1_write_4 : decode cX1_write 4 = .ok (.sipush 200, 3) := by decide +kernel
theorem dX1_write_7 : decode cX1_write 7 = .ok (.if_icmp .lt 4, 3) := by decide +kernel
theorem dX1_write_10 : decode cX1_write 10 = .ok (.return_, 1) := by decide +kernel
theorem dX1_write_11 : decode cX1_write 11 = .ok (.iconst 5, 1) := by decide +kernel
theorem dX1_write_12 : decode cX1_write 12 = .ok (.aload_n 0, 1) := by decide +kernel
theorem dX1_write_13 : decode cX1_write 13 = .ok (.getfield 15, 3) := by decide +kernel
theorem dX1_write_16 : decode cX1_write 16 = .ok (.imul, 1) := by decide +kernel
theorem dX1_write_17 : decode cX1_write 17 = .ok (.istore 6, 2) := by decide +kernel
theorem dX1_write_19 : decode cX1_write 19 = .ok (.aload_n 0, 1) := by decide +kernel
theorem dX1_write_20 : decode cX1_write 20 = .ok (.getfield 11, 3) := by decide +kernel
theorem dX1_write_23 : decode cX1_write 23 = .ok (.iload 6, 2) := by decide +kernel
theorem dX1_write_25 : decode cX1_write 25 = .ok (.iload_n 1, 1) := by decide +kernel
theorem dX1_write_26 : decode cX1_write 26 = .ok (.iastore, 1) := by decide +kernel
theorem dX1_write_27 : decode cX1_write 27 = .ok (.aload_n 0, 1) := by decide +kernel
theorem dX1_write_28 : decode cX1_write 28 = .ok (.getfield 11, 3) := by decide +kernel
theorem dX1_write_31 : decode cX1_write 31 = .ok (.iload 6, 2) := by decide +kernel
theorem dX1_write_33 : decode cX1_write 33 = .ok (.iconst 1, 1) := by decide +kernel
theorem dX1_write_34 : decode cX1_write 34 = .ok (.iadd, 1) := by decide +kernel
theorem dX1_write_35 : decode cX1_write 35 = .ok (.iload_n 2, 1) := by decide +kernel
theorem dX1_write_36 : decode cX1_write 36 = .ok (.iastore, 1) := by decide +kernel
theorem dX1_write_37 : decode cX1_write 37 = .ok (.aload_n 0, 1) := by decide +kernel
theorem dX1_write_38 : decode cX1_write 38 = .ok (.getfield 11, 3) := by decide +kernel
theorem dX1_write_41 : decode cX1_write 41 = .ok (.iload 6, 2) := by decide +kernel
theorem dX1_write_43 : decode cX1_write 43 = .ok (.iconst 2, 1) := by decide +kernel
theorem dX1_write_44 : decode cX1_write 44 = .ok (.iadd, 1) := by decide +kernel
theorem dX1_write_45 : decode cX1_write 45 = .ok (.iload_n 3, 1) := by decide +kernel
theorem dX1_write_46 : decode cX1_write 46 = .ok (.iastore, 1) := by decide +kernel
theorem dX1_write_47 : decode cX1_write 47 = .ok (.aload_n 0, 1) := by decide +kernel
theorem dX1_write_48 : decode cX1_write 48 = .ok (.getfield 11, 3) := by decide +kernel
theorem dX1_write_51 : decode cX1_write 51 = .ok (.iload 6, 2) := by decide +kernel
theorem dX1_write_53 : decode cX1_write 53 = .ok (.iconst 3, 1) := by decide +kernel
theorem dX1_write_54 : decode cX1_write 54 = .ok (.iadd, 1) := by decide +kernel
theorem dX1_write_55 : decode cX1_write 55 = .ok (.iload 4, 2) := by decide +kernel
theorem dX1_write_57 : decode cX1_write 57 = .ok (.iastore, 1) := by decide +kernel
theorem dX1_write_58 : decode cX1_write 58 = .ok (.aload_n 0, 1) := by decide +kernel
theorem dX1_write_59 : decode cX1_write 59 = .ok (.getfield 11, 3) := by decide +kernel
theorem dX1_write_62 : decode cX1_write 62 = .ok (.iload 6, 2) := by decide +kernel
theorem dX1_write_64 : decode cX1_write 64 = .ok (.iconst 4, 1) := by decide +kernel
theorem dX1_write_65 : decode cX1_write 65 = .ok (.iadd, 1) := by decide +kernel
theorem dX1_write_66 : decode cX1_write 66 = .ok (.iload 5, 2) := by decide +kernel
theorem dX1_write_68 : decode cX1_write 68 = .ok (.iastore, 1) := by decide +kernel
theorem dX1_write_69 : decode cX1_write 69 = .ok (.aload_n 0, 1) := by decide +kernel
theorem dX1_write_70 : decode cX1_write 70 = .ok (.dup, 1) := by decide +kernel
theorem dX1_write_71 : decode cX1_write 71 = .ok (.getfield 15, 3) := by decide +kernel
theorem dX1_write_74 : decode cX1_write 74 = .ok (.iconst 1, 1) := by decide +kernel
theorem dX1_write_75 : decode cX1_write 75 = .ok (.iadd, 1) := by decide +kernel
theorem dX1_write_76 : decode cX1_write 76 = .ok (.putfield 15, 3) := by decide +kernel
theorem dX1_write_79 : decode cX1_write 79 = .ok (.return_, 1) := by decide +kernel
theorem dX1_at_0 : decode cX1_at 0 = .ok (.aload_n 0, 1) := by decide +kernel
theorem dX1_at_1 : decode cX1_at 1 = .ok (.getfield 11, 3) := by decide +kernel
theorem dX1_at_4 : decode cX1_at 4 = .ok (.iconst 5, 1) := by decide +kernel
theorem dX1_at_5 : decode cX1_at 5 = .ok (.iload_n 1, 1) := by decide +kernel
theorem dX1_at_6 : decode cX1_at 6 = .ok (.imul, 1) := by decide +kernel
theorem dX1_at_7 : decode cX1_at 7 = .ok (.iload_n 2, 1) := by decide +kernel
theorem dX1_at_8 : decode cX1_at 8 = .ok (.iadd, 1) := by decide +kernel
theorem dX1_at_9 : decode cX1_at 9 = .ok (.iaload, 1) := by decide +kernel
theorem dX1_at_10 : decode cX1_at 10 = .ok (.ireturn, 1) := by decide +kernel
theorem dX2_init_0 : decode cX2_init 0 = .ok (.aload_n 0, 1) := by decide +kernel
theorem dX2_init_1 : decode cX2_init 1 = .ok (.invokespecial 3, 3) := by decide +kernel
theorem dX2_init_4 : decode cX2_init 4 = .ok (.aload_n 0, 1) := by decide +kernel
theorem dX2_init_5 : decode cX2_init 5 = .ok (.iconst 0, 1) := by decide +kernel
theorem dX2_init_6 : decode cX2_init 6 = .ok (.putfield 9, 3) := by decide +kernel
theorem dX2_init_9 : decode cX2_init 9 = .ok (.aload_n 0, 1) := by decide +kernel
theorem dX2_init_10 : decode cX2_init 10 = .ok (.iload_n 1, 1) := by decide +kernel
theorem dX2_init_11 : decode cX2_init 11 = .ok (.putfield 15, 3) := by decide +kernel
theorem dX2_init_14 : decode cX2_init 14 = .ok (.aload_n 0, 1) := by decide +kernel
theorem dX2_init_15 : decode cX2_init 15 = .ok (.iload_n 2, 1) := by decide +kernel
theorem dX2_init_16 : decode cX2_init 16 = .ok (.putfield 19, 3) := by decide +kernel
theorem dX2_init_19 : decode cX2_init 19 = .ok (.aload_n 0, 1) := by decide +kernel
theorem dX2_init_20 : decode cX2_init 20 = .ok (.iload_n 3, 1) := by decide +kernel
theorem dX2_init_21 : decode cX2_init 21 = .ok (.putfield 22, 3) := by decide +kernel
theorem dX2_init_24 : decode cX2_init 24 = .ok (.aload_n 0, 1) := by decide +kernel
theorem dX2_init_25 : decode cX2_init 25 = .ok (.iload 4, 2) := by decide +kernel
theorem dX2_init_27 : decode cX2_init 27 = .ok (.putfield 25, 3) := by decide +kernel
theorem dX2_init_30 : decode cX2_init 30 = .ok (.aload_n 0, 1) := by decide +kernel
theorem dX2_init_31 : decode cX2_init 31 = .ok (.iload 5, 2) := by decide +kernel
theorem dX2_init_33 : decode cX2_init 33 = .ok (.putfield 28, 3) := by decide +kernel
theorem dX2_init_36 : decode cX2_init 36 = .ok (.return_, 1) := by decide +kernel
theorem dX2_isKept_0 : decode cX2_isKept 0 = .ok (.aload_n 0, 1) := by decide +kernel
theorem dX2_isKept_1 : decode cX2_isKept 1 = .ok (.getfield 28, 3) := by decide +kernel
theorem dX2_isKept_4 : decode cX2_isKept 4 = .ok (.ifCond .ne 14, 3) := by decide +kernel
theorem dX2_isKept_7 : decode cX2_isKept 7 = .ok (.aload_n 0, 1) := by decide +kernel
theorem dX2_isKept_8 : decode cX2_isKept 8 = .ok (.getfield 9, 3) := by decide +kernel
theorem dX2_isKept_11 : decode cX2_isKept 11 = .ok (.ifCond .ne 7, 3) := by decide +kernel
theorem dX2_isKept_14 : decode cX2_isKept 14 = .ok (.iconst 1, 1) := by decide +kernel
theorem dX2_isKept_15 : decode cX2_isKept 15 = .ok (.goto 4, 3) := by decide +kernel
theorem dX2_isKept_18 : decode cX2_isKept 18 = .ok (.iconst 0, 1) := by decide +kernel
theorem dX2_isKept_19 : decode cX2_isKept 19 = .ok (.ireturn, 1) := by decide +kernel
theorem dX2_tell_0 : decode cX2_tell 0 = .ok (.iload_n 1, 1) := by decide +kernel
theorem dX2_tell_1 : decode cX2_tell 1 = .ok (.tableswitch 51 0 3 #[31, 36, 41, 46], 31) := by decide +kernel
theorem dX2_tell_32 : decode cX2_tell 32 = .ok (.aload_n 0, 1) := by decide +kernel
theorem dX2_tell_33 : decode cX2_tell 33 = .ok (.getfield 15, 3) := by decide +kernel
theorem dX2_tell_36 : decode cX2_tell 36 = .ok (.ireturn, 1) := by decide +kernel
theorem dX2_tell_37 : decode cX2_tell 37 = .ok (.aload_n 0, 1) := by decide +kernel
theorem dX2_tell_38 : decode cX2_tell 38 = .ok (.getfield 19, 3) := by decide +kernel
theorem dX2_tell_41 : decode cX2_tell 41 = .ok (.ireturn, 1) := by decide +kernel
theorem dX2_tell_42 : decode cX2_tell 42 = .ok (.aload_n 0, 1) := by decide +kernel
theorem dX2_tell_43 : decode cX2_tell 43 = .ok (.getfield 22, 3) := by decide +kernel
theorem dX2_tell_46 : decode cX2_tell 46 = .ok (.ireturn, 1) := by decide +kernel
theorem dX2_tell_47 : decode cX2_tell 47 = .ok (.aload_n 0, 1) := by decide +kernel
theorem dX2_tell_48 : decode cX2_tell 48 = .ok (.getfield 28, 3) := by decide +kernel
theorem dX2_tell_51 : decode cX2_tell 51 = .ok (.ireturn, 1) := by decide +kernel
theorem dX2_tell_52 : decode cX2_tell 52 = .ok (.aload_n 0, 1) := by decide +kernel
theorem dX2_tell_53 : decode cX2_tell 53 = .ok (.getfield 9, 3) := by decide +kernel
theorem dX2_tell_56 : decode cX2_tell 56 = .ok (.ifCond .eq 7, 3) := by decide +kernel
theorem dX2_tell_59 : decode cX2_tell 59 = .ok (.iconst 1, 1) := by decide +kernel
theorem dX2_tell_60 : decode cX2_tell 60 = .ok (.goto 4, 3) := by decide +kernel
theorem dX2_tell_63 : decode cX2_tell 63 = .ok (.iconst 0, 1) := by decide +kernel
theorem dX2_tell_64 : decode cX2_tell 64 = .ok (.ireturn, 1) := by decide +kernel
theorem dX3_init_0 : decode cX3_init 0 = .ok (.aload_n 0, 1) := by decide +kernel
theorem dX3_init_1 : decode cX3_init 1 = .ok (.invokespecial 3, 3) := by decide +kernel
theorem dX3_init_4 : decode cX3_init 4 = .ok (.aload_n 0, 1) := by decide +kernel
theorem dX3_init_5 : decode cX3_init 5 = .ok (.new 9, 3) := by decide +kernel
theorem dX3_init_8 : decode cX3_init 8 = .ok (.dup, 1) := by decide +kernel
theorem dX3_init_9 : decode cX3_init 9 = .ok (.invokespecial 11, 3) := by decide +kernel
theorem dX3_init_12 : decode cX3_init 12 = .ok (.putfield 12, 3) := by decide +kernel
theorem dX3_init_15 : decode cX3_init 15 = .ok (.aload_n 0, 1) := by decide +kernel
theorem dX3_init_16 : decode cX3_init 16 = .ok (.iconst 0, 1) := by decide +kernel
theorem dX3_init_17 : decode cX3_init 17 = .ok (.putfield 18, 3) := by decide +kernel
theorem dX3_init_20 : decode cX3_init 20 = .ok (.return_, 1) := by decide +kernel
theorem dX3_size_0 : decode cX3_size 0 = .ok (.aload_n 0, 1) := by decide +kernel
theorem dX3_size_1 : decode cX3_size 1 = .ok (.getfield 12, 3) := by decide +kernel
theorem dX3_size_4 : decode cX3_size 4 = .ok (.invokevirtual 22, 3) := by decide +kernel
theorem dX3_size_7 : decode cX3_size 7 = .ok (.ireturn, 1) := by decide +kernel
theorem dX3_has_0 : decode cX3_has 0 = .ok (.iload_n 1, 1) := by decide +kernel
theorem dX3_has_1 : decode cX3_has 1 = .ok (.iconst 0, 1) := by decide +kernel
theorem dX3_has_2 : decode cX3_has 2 = .ok (.aload_n 0, 1) := by decide +kernel
theorem dX3_has_3 : decode cX3_has 3 = .ok (.getfield 12, 3) := by decide +kernel
theorem dX3_has_6 : decode cX3_has 6 = .ok (.invokevirtual 22, 3) := by decide +kernel
theorem dX3_has_9 : decode cX3_has 9 = .ok (.iconst 1, 1) := by decide +kernel
theorem dX3_has_10 : decode cX3_has 10 = .ok (.isub, 1) := by decide +kernel
theorem dX3_has_11 : decode cX3_has 11 = .ok (.invokestatic 26, 3) := by decide +kernel
theorem dX3_has_14 : decode cX3_has 14 = .ok (.ireturn, 1) := by decide +kernel
theorem dX3_at_0 : decode cX3_at 0 = .ok (.aload_n 0, 1) := by decide +kernel
theorem dX3_at_1 : decode cX3_at 1 = .ok (.getfield 12, 3) := by decide +kernel
theorem dX3_at_4 : decode cX3_at 4 = .ok (.iload_n 1, 1) := by decide +kernel
theorem dX3_at_5 : decode cX3_at 5 = .ok (.invokevirtual 30, 3) := by decide +kernel
theorem dX3_at_8 : decode cX3_at 8 = .ok (.checkcast 34, 3) := by decide +kernel
theorem dX3_at_11 : decode cX3_at 11 = .ok (.areturn, 1) := by decide +kernel
theorem dX3_add_0 : decode cX3_add 0 = .ok (.aload_n 0, 1) := by decide +kernel
theorem dX3_add_1 : decode cX3_add 1 = .ok (.getfield 12, 3) := by decide +kernel
theorem dX3_add_4 : decode cX3_add 4 = .ok (.aload_n 1, 1) := by decide +kernel
theorem dX3_add_5 : decode cX3_add 5 = .ok (.invokevirtual 36, 3) := by decide +kernel
theorem dX3_add_8 : decode cX3_add 8 = .ok (.pop, 1) := by decide +kernel
theorem dX3_add_9 : decode cX3_add 9 = .ok (.aload_n 0, 1) := by decide +kernel
theorem dX3_add_10 : decode cX3_add 10 = .ok (.getfield 12, 3) := by decide +kernel
theorem dX3_add_13 : decode cX3_add 13 = .ok (.invokevirtual 22, 3) := by decide +kernel
theorem dX3_add_16 : decode cX3_add 16 = .ok (.iconst 1, 1) := by decide +kernel
theorem dX3_add_17 : decode cX3_add 17 = .ok (.isub, 1) := by decide +kernel
theorem dX3_add_18 : decode cX3_add 18 = .ok (.ireturn, 1) := by decide +kernel
theorem dX3_stableEnd_0 : decode cX3_stableEnd 0 = .ok (.iconst 0, 1) := by decide +kernel
theorem dX3_stableEnd_1 : decode cX3_stableEnd 1 = .ok (.istore_n 1, 1) := by decide +kernel
theorem dX3_stableEnd_2 : decode cX3_stableEnd 2 = .ok (.iload_n 1, 1) := by decide +kernel
theorem dX3_stableEnd_3 : decode cX3_stableEnd 3 = .ok (.aload_n 0, 1) := by decide +kernel
theorem dX3_stableEnd_4 : decode cX3_stableEnd 4 = .ok (.invokevirtual 40, 3) := by decide +kernel
theorem dX3_stableEnd_7 : decode cX3_stableEnd 7 = .ok (.if_icmp .ge 23, 3) := by decide +kernel
theorem dX3_stableEnd_10 : decode cX3_stableEnd 10 = .ok (.aload_n 0, 1) := by decide +kernel
theorem dX3_stableEnd_11 : decode cX3_stableEnd 11 = .ok (.iload_n 1, 1) := by decide +kernel
theorem dX3_stableEnd_12 : decode cX3_stableEnd 12 = .ok (.invokevirtual 41, 3) := by decide +kernel
theorem dX3_stableEnd_15 : decode cX3_stableEnd 15 = .ok (.getfield 45, 3) := by decide +kernel
theorem dX3_stableEnd_18 : decode cX3_stableEnd 18 = .ok (.iconst 2, 1) := by decide +kernel
theorem dX3_stableEnd_19 : decode cX3_stableEnd 19 = .ok (.if_icmp .ne 5, 3) := by decide +kernel
theorem dX3_stableEnd_22 : decode cX3_stableEnd 22 = .ok (.iload_n 1, 1) := by decide +kernel
theorem dX3_stableEnd_23 : decode cX3_stableEnd 23 = .ok (.ireturn, 1) := by decide +kernel
theorem dX3_stableEnd_24 : decode cX3_stableEnd 24 = .ok (.iinc 1 1, 3) := by decide +kernel
theorem dX3_stableEnd_27 : decode cX3_stableEnd 27 = .ok (.goto (-25), 3) := by decide +kernel
theorem dX3_stableEnd_30 : decode cX3_stableEnd 30 = .ok (.aload_n 0, 1) := by decide +kernel
theorem dX3_stableEnd_31 : decode cX3_stableEnd 31 = .ok (.invokevirtual 40, 3) := by decide +kernel
theorem dX3_stableEnd_34 : decode cX3_stableEnd 34 = .ok (.ireturn, 1) := by decide +kernel
theorem dX3_settlePending_0 : decode cX3_settlePending 0 = .ok (.iconst 0, 1) := by decide +kernel
theorem dX3_settlePending_1 : decode cX3_settlePending 1 = .ok (.istore_n 3, 1) := by decide +kernel
theorem dX3_settlePending_2 : decode cX3_settlePending 2 = .ok (.iconst 0, 1) := by decide +kernel
theorem dX3_settlePending_3 : decode cX3_settlePending 3 = .ok (.istore 4, 2) := by decide +kernel
theorem dX3_settlePending_5 : decode cX3_settlePending 5 = .ok (.iload 4, 2) := by decide +kernel
theorem dX3_settlePending_7 : decode cX3_settlePending 7 = .ok (.aload_n 0, 1) := by decide +kernel
theorem dX3_settlePending_8 : decode cX3_settlePending 8 = .ok (.invokevirtual 40, 3) := by decide +kernel
theorem dX3_settlePending_11 : decode cX3_settlePending 11 = .ok (.if_icmp .ge 44, 3) := by decide +kernel
theorem dX3_settlePending_14 : decode cX3_settlePending 14 = .ok (.aload_n 0, 1) := by decide +kernel
theorem dX3_settlePending_15 : decode cX3_settlePending 15 = .ok (.iload 4, 2) := by decide +kernel
theorem dX3_settlePending_17 : decode cX3_settlePending 17 = .ok (.invokevirtual 41, 3) := by decide +kernel
theorem dX3_settlePending_20 : decode cX3_settlePending 20 = .ok (.astore 5, 2) := by decide +kernel
theorem dX3_settlePending_22 : decode cX3_settlePending 22 = .ok (.aload 5, 2) := by decide +kernel
theorem dX3_settlePending_24 : decode cX3_settlePending 24 = .ok (.getfield 45, 3) := by decide +kernel
theorem dX3_settlePending_27 : decode cX3_settlePending 27 = .ok (.iconst 2, 1) := by decide +kernel
theorem dX3_settlePending_28 : decode cX3_settlePending 28 = .ok (.if_icmp .ne 21, 3) := by decide +kernel
theorem dX3_settlePending_31 : decode cX3_settlePending 31 = .ok (.aload 5, 2) := by decide +kernel
theorem dX3_settlePending_33 : decode cX3_settlePending 33 = .ok (.getfield 48, 3) := by decide +kernel
theorem dX3_settlePending_36 : decode cX3_settlePending 36 = .ok (.iload_n 1, 1) := by decide +kernel
theorem dX3_settlePending_37 : decode cX3_settlePending 37 = .ok (.if_icmp .ne 12, 3) := by decide +kernel
theorem dX3_settlePending_40 : decode cX3_settlePending 40 = .ok (.aload 5, 2) := by decide +kernel
theorem dX3_settlePending_42 : decode cX3_settlePending 42 = .ok (.iload_n 2, 1) := by decide +kernel
theorem dX3_settlePending_43 : decode cX3_settlePending 43 = .ok (.putfield 45, 3) := by decide +kernel
theorem dX3_settlePending_46 : decode cX3_settlePending 46 = .ok (.iinc 3 1, 3) := by decide +kernel
theorem dX3_settlePending_49 : decode cX3_settlePending 49 = .ok (.iinc 4 1, 3) := by decide +kernel
theorem dX3_settlePending_52 : decode cX3_settlePending 52 = .ok (.goto (-47), 3) := by decide +kernel
theorem dX3_settlePending_55 : decode cX3_settlePending 55 = .ok (.iload_n 3, 1) := by decide +kernel
theorem dX3_settlePending_56 : decode cX3_settlePending 56 = .ok (.ireturn, 1) := by decide +kernel
theorem dX3_dropOld_0 : decode cX3_dropOld 0 = .ok (.aload_n 0, 1) := by decide +kernel
theorem dX3_dropOld_1 : decode cX3_dropOld 1 = .ok (.getfield 18, 3) := by decide +kernel
theorem dX3_dropOld_4 : decode cX3_dropOld 4 = .ok (.aload_n 0, 1) := by decide +kernel
theorem dX3_dropOld_5 : decode cX3_dropOld 5 = .ok (.invokevirtual 40, 3) := by decide +kernel
theorem dX3_dropOld_8 : decode cX3_dropOld 8 = .ok (.if_icmp .ge 44, 3) := by decide +kernel
theorem dX3_dropOld_11 : decode cX3_dropOld 11 = .ok (.aload_n 0, 1) := by decide +kernel
theorem dX3_dropOld_12 : decode cX3_dropOld 12 = .ok (.aload_n 0, 1) := by decide +kernel
theorem dX3_dropOld_13 : decode cX3_dropOld 13 = .ok (.getfield 18, 3) := by decide +kernel
theorem dX3_dropOld_16 : decode cX3_dropOld 16 = .ok (.invokevirtual 41, 3) := by decide +kernel
theorem dX3_dropOld_19 : decode cX3_dropOld 19 = .ok (.iload_n 1, 1) := by decide +kernel
theorem dX3_dropOld_20 : decode cX3_dropOld 20 = .ok (.iload_n 2, 1) := by decide +kernel
theorem dX3_dropOld_21 : decode cX3_dropOld 21 = .ok (.invokestatic 51, 3) := by decide +kernel
theorem dX3_dropOld_24 : decode cX3_dropOld 24 = .ok (.ifCond .eq 28, 3) := by decide +kernel
theorem dX3_dropOld_27 : decode cX3_dropOld 27 = .ok (.aload_n 0, 1) := by decide +kernel
theorem dX3_dropOld_28 : decode cX3_dropOld 28 = .ok (.aload_n 0, 1) := by decide +kernel
theorem dX3_dropOld_29 : decode cX3_dropOld 29 = .ok (.getfield 18, 3) := by decide +kernel
theorem dX3_dropOld_32 : decode cX3_dropOld 32 = .ok (.invokevirtual 41, 3) := by decide +kernel
theorem dX3_dropOld_35 : decode cX3_dropOld 35 = .ok (.iconst 1, 1) := by decide +kernel
theorem dX3_dropOld_36 : decode cX3_dropOld 36 = .ok (.putfield 55, 3) := by decide +kernel
theorem dX3_dropOld_39 : decode cX3_dropOld 39 = .ok (.aload_n 0, 1) := by decide +kernel
theorem dX3_dropOld_40 : decode cX3_dropOld 40 = .ok (.dup, 1) := by decide +kernel
theorem dX3_dropOld_41 : decode cX3_dropOld 41 = .ok (.getfield 18, 3) := by decide +kernel
theorem dX3_dropOld_44 : decode cX3_dropOld 44 = .ok (.iconst 1, 1) := by decide +kernel
theorem dX3_dropOld_45 : decode cX3_dropOld 45 = .ok (.iadd, 1) := by decide +kernel
theorem dX3_dropOld_46 : decode cX3_dropOld 46 = .ok (.putfield 18, 3) := by decide +kernel
theorem dX3_dropOld_49 : decode cX3_dropOld 49 = .ok (.goto (-49), 3) := by decide +kernel
theorem dX3_dropOld_52 : decode cX3_dropOld 52 = .ok (.return_, 1) := by decide +kernel
theorem dX3_isOld_0 : decode cX3_isOld 0 = .ok (.aload_n 0, 1) := by decide +kernel
theorem dX3_isOld_1 : decode cX3_isOld 1 = .ok (.getfield 45, 3) := by decide +kernel
theorem dX3_isOld_4 : decode cX3_isOld 4 = .ok (.iconst 2, 1) := by decide +kernel
theorem dX3_isOld_5 : decode cX3_isOld 5 = .ok (.if_icmp .eq 17, 3) := by decide +kernel
theorem dX3_isOld_8 : decode cX3_isOld 8 = .ok (.iload_n 1, 1) := by decide +kernel
theorem dX3_isOld_9 : decode cX3_isOld 9 = .ok (.aload_n 0, 1) := by decide +kernel
theorem dX3_isOld_10 : decode cX3_isOld 10 = .ok (.getfield 59, 3) := by decide +kernel
theorem dX3_isOld_13 : decode cX3_isOld 13 = .ok (.isub, 1) := by decide +kernel
theorem dX3_isOld_14 : decode cX3_isOld 14 = .ok (.iload_n 2, 1) := by decide +kernel
theorem dX3_isOld_15 : decode cX3_isOld 15 = .ok (.if_icmp .lt 7, 3) := by decide +kernel
theorem dX3_isOld_18 : decode cX3_isOld 18 = .ok (.iconst 1, 1) := by decide +kernel
theorem dX3_isOld_19 : decode cX3_isOld 19 = .ok (.goto 4, 3) := by decide +kernel
theorem dX3_isOld_22 : decode cX3_isOld 22 = .ok (.iconst 0, 1) := by decide +kernel
theorem dX3_isOld_23 : decode cX3_isOld 23 = .ok (.ireturn, 1) := by decide +kernel
theorem dX3_countKept_0 : decode cX3_countKept 0 = .ok (.iconst 0, 1) := by decide +kernel
theorem dX3_countKept_1 : decode cX3_countKept 1 = .ok (.istore_n 1, 1) := by decide +kernel
theorem dX3_countKept_2 : decode cX3_countKept 2 = .ok (.iconst 0, 1) := by decide +kernel
theorem dX3_countKept_3 : decode cX3_countKept 3 = .ok (.istore_n 2, 1) := by decide +kernel
theorem dX3_countKept_4 : decode cX3_countKept 4 = .ok (.iload_n 2, 1) := by decide +kernel
theorem dX3_countKept_5 : decode cX3_countKept 5 = .ok (.aload_n 0, 1) := by decide +kernel
theorem dX3_countKept_6 : decode cX3_countKept 6 = .ok (.invokevirtual 40, 3) := by decide +kernel
theorem dX3_countKept_9 : decode cX3_countKept 9 = .ok (.if_icmp .ge 23, 3) := by decide +kernel
theorem dX3_countKept_12 : decode cX3_countKept 12 = .ok (.aload_n 0, 1) := by decide +kernel
theorem dX3_countKept_13 : decode cX3_countKept 13 = .ok (.iload_n 2, 1) := by decide +kernel
theorem dX3_countKept_14 : decode cX3_countKept 14 = .ok (.invokevirtual 41, 3) := by decide +kernel
theorem dX3_countKept_17 : decode cX3_countKept 17 = .ok (.invokevirtual 62, 3) := by decide +kernel
theorem dX3_countKept_20 : decode cX3_countKept 20 = .ok (.ifCond .eq 6, 3) := by decide +kernel
theorem dX3_countKept_23 : decode cX3_countKept 23 = .ok (.iinc 1 1, 3) := by decide +kernel
theorem dX3_countKept_26 : decode cX3_countKept 26 = .ok (.iinc 2 1, 3) := by decide +kernel
theorem dX3_countKept_29 : decode cX3_countKept 29 = .ok (.goto (-25), 3) := by decide +kernel
theorem dX3_countKept_32 : decode cX3_countKept 32 = .ok (.iload_n 1, 1) := by decide +kernel
theorem dX3_countKept_33 : decode cX3_countKept 33 = .ok (.ireturn, 1) := by decide +kernel
theorem dX3_countOutdated_0 : decode cX3_countOutdated 0 = .ok (.aload_n 0, 1) := by decide +kernel
theorem dX3_countOutdated_1 : decode cX3_countOutdated 1 = .ok (.invokevirtual 66, 3) := by decide +kernel
theorem dX3_countOutdated_4 : decode cX3_countOutdated 4 = .ok (.istore_n 1, 1) := by decide +kernel
theorem dX3_countOutdated_5 : decode cX3_countOutdated 5 = .ok (.iconst 0, 1) := by decide +kernel
theorem dX3_countOutdated_6 : decode cX3_countOutdated 6 = .ok (.istore_n 2, 1) := by decide +kernel
theorem dX3_countOutdated_7 : decode cX3_countOutdated 7 = .ok (.iconst 0, 1) := by decide +kernel
theorem dX3_countOutdated_8 : decode cX3_countOutdated 8 = .ok (.istore_n 3, 1) := by decide +kernel
theorem dX3_countOutdated_9 : decode cX3_countOutdated 9 = .ok (.iload_n 3, 1) := by decide +kernel
theorem dX3_countOutdated_10 : decode cX3_countOutdated 10 = .ok (.iload_n 1, 1) := by decide +kernel
theorem dX3_countOutdated_11 : decode cX3_countOutdated 11 = .ok (.if_icmp .ge 21, 3) := by decide +kernel
theorem dX3_countOutdated_14 : decode cX3_countOutdated 14 = .ok (.aload_n 0, 1) := by decide +kernel
theorem dX3_countOutdated_15 : decode cX3_countOutdated 15 = .ok (.iload_n 3, 1) := by decide +kernel
theorem dX3_countOutdated_16 : decode cX3_countOutdated 16 = .ok (.iload_n 1, 1) := by decide +kernel
theorem dX3_countOutdated_17 : decode cX3_countOutdated 17 = .ok (.invokevirtual 69, 3) := by decide +kernel
theorem dX3_countOutdated_20 : decode cX3_countOutdated 20 = .ok (.ifCond .eq 6, 3) := by decide +kernel
theorem dX3_countOutdated_23 : decode cX3_countOutdated 23 = .ok (.iinc 2 1, 3) := by decide +kernel
theorem dX3_countOutdated_26 : decode cX3_countOutdated 26 = .ok (.iinc 3 1, 3) := by decide +kernel
theorem dX3_countOutdated_29 : decode cX3_countOutdated 29 = .ok (.goto (-20), 3) := by decide +kernel
theorem dX3_countOutdated_32 : decode cX3_countOutdated 32 = .ok (.iload_n 2, 1) := by decide +kernel
theorem dX3_countOutdated_33 : decode cX3_countOutdated 33 = .ok (.ireturn, 1) := by decide +kernel
theorem dX3_dropOutdated_0 : decode cX3_dropOutdated 0 = .ok (.aload_n 0, 1) := by decide +kernel
theorem dX3_dropOutdated_1 : decode cX3_dropOutdated 1 = .ok (.invokevirtual 66, 3) := by decide +kernel
theorem dX3_dropOutdated_4 : decode cX3_dropOutdated 4 = .ok (.istore_n 1, 1) := by decide +kernel
theorem dX3_dropOutdated_5 : decode cX3_dropOutdated 5 = .ok (.iconst 0, 1) := by decide +kernel
theorem dX3_dropOutdated_6 : decode cX3_dropOutdated 6 = .ok (.istore_n 2, 1) := by decide +kernel
theorem dX3_dropOutdated_7 : decode cX3_dropOutdated 7 = .ok (.iconst 0, 1) := by decide +kernel
theorem dX3_dropOutdated_8 : decode cX3_dropOutdated 8 = .ok (.istore_n 3, 1) := by decide +kernel
theorem dX3_dropOutdated_9 : decode cX3_dropOutdated 9 = .ok (.iload_n 3, 1) := by decide +kernel
theorem dX3_dropOutdated_10 : decode cX3_dropOutdated 10 = .ok (.iload_n 1, 1) := by decide +kernel
theorem dX3_dropOutdated_11 : decode cX3_dropOutdated 11 = .ok (.if_icmp .ge 30, 3) := by decide +kernel
theorem dX3_dropOutdated_14 : decode cX3_dropOutdated 14 = .ok (.aload_n 0, 1) := by decide +kernel
theorem dX3_dropOutdated_15 : decode cX3_dropOutdated 15 = .ok (.iload_n 3, 1) := by decide +kernel
theorem dX3_dropOutdated_16 : decode cX3_dropOutdated 16 = .ok (.iload_n 1, 1) := by decide +kernel
theorem dX3_dropOutdated_17 : decode cX3_dropOutdated 17 = .ok (.invokevirtual 69, 3) := by decide +kernel
theorem dX3_dropOutdated_20 : decode cX3_dropOutdated 20 = .ok (.ifCond .eq 15, 3) := by decide +kernel
theorem dX3_dropOutdated_23 : decode cX3_dropOutdated 23 = .ok (.aload_n 0, 1) := by decide +kernel
theorem dX3_dropOutdated_24 : decode cX3_dropOutdated 24 = .ok (.iload_n 3, 1) := by decide +kernel
theorem dX3_dropOutdated_25 : decode cX3_dropOutdated 25 = .ok (.invokevirtual 41, 3) := by decide +kernel
theorem dX3_dropOutdated_28 : decode cX3_dropOutdated 28 = .ok (.iconst 1, 1) := by decide +kernel
theorem dX3_dropOutdated_29 : decode cX3_dropOutdated 29 = .ok (.putfield 55, 3) := by decide +kernel
theorem dX3_dropOutdated_32 : decode cX3_dropOutdated 32 = .ok (.iinc 2 1, 3) := by decide +kernel
theorem dX3_dropOutdated_35 : decode cX3_dropOutdated 35 = .ok (.iinc 3 1, 3) := by decide +kernel
theorem dX3_dropOutdated_38 : decode cX3_dropOutdated 38 = .ok (.goto (-29), 3) := by decide +kernel
theorem dX3_dropOutdated_41 : decode cX3_dropOutdated 41 = .ok (.iload_n 2, 1) := by decide +kernel
theorem dX3_dropOutdated_42 : decode cX3_dropOutdated 42 = .ok (.ireturn, 1) := by decide +kernel
theorem dX3_isOutdated_0 : decode cX3_isOutdated 0 = .ok (.aload_n 0, 1) := by decide +kernel
theorem dX3_isOutdated_1 : decode cX3_isOutdated 1 = .ok (.iload_n 1, 1) := by decide +kernel
theorem dX3_isOutdated_2 : decode cX3_isOutdated 2 = .ok (.invokevirtual 41, 3) := by decide +kernel
theorem dX3_isOutdated_5 : decode cX3_isOutdated 5 = .ok (.astore_n 3, 1) := by decide +kernel
theorem dX3_isOutdated_6 : decode cX3_isOutdated 6 = .ok (.aload_n 3, 1) := by decide +kernel
theorem dX3_isOutdated_7 : decode cX3_isOutdated 7 = .ok (.invokevirtual 62, 3) := by decide +kernel
theorem dX3_isOutdated_10 : decode cX3_isOutdated 10 = .ok (.ifCond .eq 11, 3) := by decide +kernel
theorem dX3_isOutdated_13 : decode cX3_isOutdated 13 = .ok (.aload_n 3, 1) := by decide +kernel
theorem dX3_isOutdated_14 : decode cX3_isOutdated 14 = .ok (.getfield 73, 3) := by decide +kernel
theorem dX3_isOutdated_17 : decode cX3_isOutdated 17 = .ok (.iconst (-1), 1) := by decide +kernel
theorem dX3_isOutdated_18 : decode cX3_isOutdated 18 = .ok (.if_icmp .ne 5, 3) := by decide +kernel
theorem dX3_isOutdated_21 : decode cX3_isOutdated 21 = .ok (.iconst 0, 1) := by decide +kernel
theorem dX3_isOutdated_22 : decode cX3_isOutdated 22 = .ok (.ireturn, 1) := by decide +kernel
theorem dX3_isOutdated_23 : decode cX3_isOutdated 23 = .ok (.iload_n 1, 1) := by decide +kernel
theorem dX3_isOutdated_24 : decode cX3_isOutdated 24 = .ok (.iconst 1, 1) := by decide +kernel
theorem dX3_isOutdated_25 : decode cX3_isOutdated 25 = .ok (.iadd, 1) := by decide +kernel
theorem dX3_isOutdated_26 : decode cX3_isOutdated 26 = .ok (.istore 4, 2) := by decide +kernel
theorem dX3_isOutdated_28 : decode cX3_isOutdated 28 = .ok (.iload 4, 2) := by decide +kernel
theorem dX3_isOutdated_30 : decode cX3_isOutdated 30 = .ok (.iload_n 2, 1) := by decide +kernel
theorem dX3_isOutdated_31 : decode cX3_isOutdated 31 = .ok (.if_icmp .ge 39, 3) := by decide +kernel
theorem dX3_isOutdated_34 : decode cX3_isOutdated 34 = .ok (.aload_n 0, 1) := by decide +kernel
theorem dX3_isOutdated_35 : decode cX3_isOutdated 35 = .ok (.iload 4, 2) := by decide +kernel
theorem dX3_isOutdated_37 : decode cX3_isOutdated 37 = .ok (.invokevirtual 41, 3) := by decide +kernel
theorem dX3_isOutdated_40 : decode cX3_isOutdated 40 = .ok (.getfield 45, 3) := by decide +kernel
theorem dX3_isOutdated_43 : decode cX3_isOutdated 43 = .ok (.ifCond .ne 21, 3) := by decide +kernel
theorem dX3_isOutdated_46 : decode cX3_isOutdated 46 = .ok (.aload_n 0, 1) := by decide +kernel
theorem dX3_isOutdated_47 : decode cX3_isOutdated 47 = .ok (.iload 4, 2) := by decide +kernel
theorem dX3_isOutdated_49 : decode cX3_isOutdated 49 = .ok (.invokevirtual 41, 3) := by decide +kernel
theorem dX3_isOutdated_52 : decode cX3_isOutdated 52 = .ok (.getfield 73, 3) := by decide +kernel
theorem dX3_isOutdated_55 : decode cX3_isOutdated 55 = .ok (.aload_n 3, 1) := by decide +kernel
theorem dX3_isOutdated_56 : decode cX3_isOutdated 56 = .ok (.getfield 73, 3) := by decide +kernel
theorem dX3_isOutdated_59 : decode cX3_isOutdated 59 = .ok (.if_icmp .ne 5, 3) := by decide +kernel
theorem dX3_isOutdated_62 : decode cX3_isOutdated 62 = .ok (.iconst 1, 1) := by decide +kernel
theorem dX3_isOutdated_63 : decode cX3_isOutdated 63 = .ok (.ireturn, 1) := by decide +kernel
theorem dX3_isOutdated_64 : decode cX3_isOutdated 64 = .ok (.iinc 4 1, 3) := by decide +kernel
theorem dX3_isOutdated_67 : decode cX3_isOutdated 67 = .ok (.goto (-39), 3) := by decide +kernel
theorem dX3_isOutdated_70 : decode cX3_isOutdated 70 = .ok (.iconst 0, 1) := by decide +kernel
theorem dX3_isOutdated_71 : decode cX3_isOutdated 71 = .ok (.ireturn, 1) := by decide +kernel
theorem dX4_init_0 : decode cX4_init 0 = .ok (.aload_n 0, 1) := by decide +kernel
theorem dX4_init_1 : decode cX4_init 1 = .ok (.invokespecial 3, 3) := by decide +kernel
theorem dX4_init_4 : decode cX4_init 4 = .ok (.aload_n 0, 1) := by decide +kernel
theorem dX4_init_5 : decode cX4_init 5 = .ok (.bipush 80, 2) := by decide +kernel
theorem dX4_init_7 : decode cX4_init 7 = .ok (.newarray .int, 2) := by decide +kernel
theorem dX4_init_9 : decode cX4_init 9 = .ok (.putfield 9, 3) := by decide +kernel
theorem dX4_init_12 : decode cX4_init 12 = .ok (.aload_n 0, 1) := by decide +kernel
theorem dX4_init_13 : decode cX4_init 13 = .ok (.bipush 80, 2) := by decide +kernel
theorem dX4_init_15 : decode cX4_init 15 = .ok (.newarray .int, 2) := by decide +kernel
theorem dX4_init_17 : decode cX4_init 17 = .ok (.putfield 15, 3) := by decide +kernel
theorem dX4_init_20 : decode cX4_init 20 = .ok (.aload_n 0, 1) := by decide +kernel
theorem dX4_init_21 : decode cX4_init 21 = .ok (.bipush 80, 2) := by decide +kernel
theorem dX4_init_23 : decode cX4_init 23 = .ok (.newarray .int, 2) := by decide +kernel
theorem dX4_init_25 : decode cX4_init 25 = .ok (.putfield 18, 3) := by decide +kernel
theorem dX4_init_28 : decode cX4_init 28 = .ok (.aload_n 0, 1) := by decide +kernel
theorem dX4_init_29 : decode cX4_init 29 = .ok (.iconst (-1), 1) := by decide +kernel
theorem dX4_init_30 : decode cX4_init 30 = .ok (.putfield 21, 3) := by decide +kernel
theorem dX4_init_33 : decode cX4_init 33 = .ok (.aload_n 0, 1) := by decide +kernel
theorem dX4_init_34 : decode cX4_init 34 = .ok (.aload_n 1, 1) := by decide +kernel
theorem dX4_init_35 : decode cX4_init 35 = .ok (.putfield 25, 3) := by decide +kernel
theorem dX4_init_38 : decode cX4_init 38 = .ok (.aload_n 0, 1) := by decide +kernel
theorem dX4_init_39 : decode cX4_init 39 = .ok (.aload_n 1, 1) := by decide +kernel
theorem dX4_init_40 : decode cX4_init 40 = .ok (.getfield 29, 3) := by decide +kernel
theorem dX4_init_43 : decode cX4_init 43 = .ok (.putfield 34, 3) := by decide +kernel
theorem dX4_init_46 : decode cX4_init 46 = .ok (.aload_n 0, 1) := by decide +kernel
theorem dX4_init_47 : decode cX4_init 47 = .ok (.aload_n 1, 1) := by decide +kernel
theorem dX4_init_48 : decode cX4_init 48 = .ok (.getfield 29, 3) := by decide +kernel
theorem dX4_init_51 : decode cX4_init 51 = .ok (.putfield 37, 3) := by decide +kernel
theorem dX4_init_54 : decode cX4_init 54 = .ok (.return_, 1) := by decide +kernel
theorem dX4_isOut_0 : decode cX4_isOut 0 = .ok (.aload_n 0, 1) := by decide +kernel
theorem dX4_isOut_1 : decode cX4_isOut 1 = .ok (.getfield 25, 3) := by decide +kernel
theorem dX4_isOut_4 : decode cX4_isOut 4 = .ok (.iload_n 1, 1) := by decide +kernel
theorem dX4_isOut_5 : decode cX4_isOut 5 = .ok (.invokevirtual 40, 3) := by decide +kernel
theorem dX4_isOut_8 : decode cX4_isOut 8 = .ok (.ifCond .eq 17, 3) := by decide +kernel
theorem dX4_isOut_11 : decode cX4_isOut 11 = .ok (.aload_n 0, 1) := by decide +kernel
theorem dX4_isOut_12 : decode cX4_isOut 12 = .ok (.getfield 9, 3) := by decide +kernel
theorem dX4_isOut_15 : decode cX4_isOut 15 = .ok (.iload_n 1, 1) := by decide +kernel
theorem dX4_isOut_16 : decode cX4_isOut 16 = .ok (.iaload, 1) := by decide +kernel
theorem dX4_isOut_17 : decode cX4_isOut 17 = .ok (.iconst 1, 1) := by decide +kernel
theorem dX4_isOut_18 : decode cX4_isOut 18 = .ok (.if_icmp .ne 7, 3) := by decide +kernel
theorem dX4_isOut_21 : decode cX4_isOut 21 = .ok (.iconst 1, 1) := by decide +kernel
theorem dX4_isOut_22 : decode cX4_isOut 22 = .ok (.goto 4, 3) := by decide +kernel
theorem dX4_isOut_25 : decode cX4_isOut 25 = .ok (.iconst 0, 1) := by decide +kernel
theorem dX4_isOut_26 : decode cX4_isOut 26 = .ok (.ireturn, 1) := by decide +kernel
theorem dX4_nextOffset_0 : decode cX4_nextOffset 0 = .ok (.aload_n 0, 1) := by decide +kernel
theorem dX4_nextOffset_1 : decode cX4_nextOffset 1 = .ok (.getfield 34, 3) := by decide +kernel
theorem dX4_nextOffset_4 : decode cX4_nextOffset 4 = .ok (.istore_n 2, 1) := by decide +kernel
theorem dX4_nextOffset_5 : decode cX4_nextOffset 5 = .ok (.iload_n 2, 1) := by decide +kernel
theorem dX4_nextOffset_6 : decode cX4_nextOffset 6 = .ok (.aload_n 0, 1) := by decide +kernel
theorem dX4_nextOffset_7 : decode cX4_nextOffset 7 = .ok (.getfield 25, 3) := by decide +kernel
theorem dX4_nextOffset_10 : decode cX4_nextOffset 10 = .ok (.invokevirtual 44, 3) := by decide +kernel
theorem dX4_nextOffset_13 : decode cX4_nextOffset 13 = .ok (.if_icmp .ge 31, 3) := by decide +kernel
theorem dX4_nextOffset_16 : decode cX4_nextOffset 16 = .ok (.aload_n 0, 1) := by decide +kernel
theorem dX4_nextOffset_17 : decode cX4_nextOffset 17 = .ok (.getfield 9, 3) := by decide +kernel
theorem dX4_nextOffset_20 : decode cX4_nextOffset 20 = .ok (.iload_n 2, 1) := by decide +kernel
theorem dX4_nextOffset_21 : decode cX4_nextOffset 21 = .ok (.iaload, 1) := by decide +kernel
theorem dX4_nextOffset_22 : decode cX4_nextOffset 22 = .ok (.iconst 2, 1) := by decide +kernel
theorem dX4_nextOffset_23 : decode cX4_nextOffset 23 = .ok (.if_icmp .ne 15, 3) := by decide +kernel
theorem dX4_nextOffset_26 : decode cX4_nextOffset 26 = .ok (.aload_n 0, 1) := by decide +kernel
theorem dX4_nextOffset_27 : decode cX4_nextOffset 27 = .ok (.getfield 18, 3) := by decide +kernel
theorem dX4_nextOffset_30 : decode cX4_nextOffset 30 = .ok (.iload_n 2, 1) := by decide +kernel
theorem dX4_nextOffset_31 : decode cX4_nextOffset 31 = .ok (.iaload, 1) := by decide +kernel
theorem dX4_nextOffset_32 : decode cX4_nextOffset 32 = .ok (.iload_n 1, 1) := by decide +kernel
theorem dX4_nextOffset_33 : decode cX4_nextOffset 33 = .ok (.if_icmp .gt 5, 3) := by decide +kernel
theorem dX4_nextOffset_36 : decode cX4_nextOffset 36 = .ok (.iload_n 2, 1) := by decide +kernel
theorem dX4_nextOffset_37 : decode cX4_nextOffset 37 = .ok (.ireturn, 1) := by decide +kernel
theorem dX4_nextOffset_38 : decode cX4_nextOffset 38 = .ok (.iinc 2 1, 3) := by decide +kernel
theorem dX4_nextOffset_41 : decode cX4_nextOffset 41 = .ok (.goto (-36), 3) := by decide +kernel
theorem dX4_nextOffset_44 : decode cX4_nextOffset 44 = .ok (.aload_n 0, 1) := by decide +kernel
theorem dX4_nextOffset_45 : decode cX4_nextOffset 45 = .ok (.getfield 25, 3) := by decide +kernel
theorem dX4_nextOffset_48 : decode cX4_nextOffset 48 = .ok (.invokevirtual 48, 3) := by decide +kernel
theorem dX4_nextOffset_51 : decode cX4_nextOffset 51 = .ok (.istore_n 2, 1) := by decide +kernel
theorem dX4_nextOffset_52 : decode cX4_nextOffset 52 = .ok (.aload_n 0, 1) := by decide +kernel
theorem dX4_nextOffset_53 : decode cX4_nextOffset 53 = .ok (.getfield 37, 3) := by decide +kernel
theorem dX4_nextOffset_56 : decode cX4_nextOffset 56 = .ok (.istore_n 3, 1) := by decide +kernel
theorem dX4_nextOffset_57 : decode cX4_nextOffset 57 = .ok (.iload_n 3, 1) := by decide +kernel
theorem dX4_nextOffset_58 : decode cX4_nextOffset 58 = .ok (.iload_n 2, 1) := by decide +kernel
theorem dX4_nextOffset_59 : decode cX4_nextOffset 59 = .ok (.if_icmp .ge 34, 3) := by decide +kernel
theorem dX4_nextOffset_62 : decode cX4_nextOffset 62 = .ok (.aload_n 0, 1) := by decide +kernel
theorem dX4_nextOffset_63 : decode cX4_nextOffset 63 = .ok (.getfield 9, 3) := by decide +kernel
theorem dX4_nextOffset_66 : decode cX4_nextOffset 66 = .ok (.iload_n 3, 1) := by decide +kernel
theorem dX4_nextOffset_67 : decode cX4_nextOffset 67 = .ok (.iaload, 1) := by decide +kernel
theorem dX4_nextOffset_68 : decode cX4_nextOffset 68 = .ok (.ifCond .ne 19, 3) := by decide +kernel
theorem dX4_nextOffset_71 : decode cX4_nextOffset 71 = .ok (.aload_n 0, 1) := by decide +kernel
theorem dX4_nextOffset_72 : decode cX4_nextOffset 72 = .ok (.getfield 25, 3) := by decide +kernel
theorem dX4_nextOffset_75 : decode cX4_nextOffset 75 = .ok (.iload_n 3, 1) := by decide +kernel
theorem dX4_nextOffset_76 : decode cX4_nextOffset 76 = .ok (.invokevirtual 51, 3) := by decide +kernel
theorem dX4_nextOffset_79 : decode cX4_nextOffset 79 = .ok (.invokevirtual 55, 3) := by decide +kernel
theorem dX4_nextOffset_82 : decode cX4_nextOffset 82 = .ok (.ifCond .eq 5, 3) := by decide +kernel
theorem dX4_nextOffset_85 : decode cX4_nextOffset 85 = .ok (.iload_n 3, 1) := by decide +kernel
theorem dX4_nextOffset_86 : decode cX4_nextOffset 86 = .ok (.ireturn, 1) := by decide +kernel
theorem dX4_nextOffset_87 : decode cX4_nextOffset 87 = .ok (.iinc 3 1, 3) := by decide +kernel
theorem dX4_nextOffset_90 : decode cX4_nextOffset 90 = .ok (.goto (-33), 3) := by decide +kernel
theorem dX4_nextOffset_93 : decode cX4_nextOffset 93 = .ok (.iconst (-1), 1) := by decide +kernel
theorem dX4_nextOffset_94 : decode cX4_nextOffset 94 = .ok (.ireturn, 1) := by decide +kernel
theorem dX4_give_0 : decode cX4_give 0 = .ok (.aload_n 0, 1) := by decide +kernel
theorem dX4_give_1 : decode cX4_give 1 = .ok (.getfield 9, 3) := by decide +kernel
theorem dX4_give_4 : decode cX4_give 4 = .ok (.iload_n 1, 1) := by decide +kernel
theorem dX4_give_5 : decode cX4_give 5 = .ok (.iaload, 1) := by decide +kernel
theorem dX4_give_6 : decode cX4_give 6 = .ok (.ifCond .ne 10, 3) := by decide +kernel
theorem dX4_give_9 : decode cX4_give 9 = .ok (.aload_n 0, 1) := by decide +kernel
theorem dX4_give_10 : decode cX4_give 10 = .ok (.iload_n 1, 1) := by decide +kernel
theorem dX4_give_11 : decode cX4_give 11 = .ok (.iconst 1, 1) := by decide +kernel
theorem dX4_give_12 : decode cX4_give 12 = .ok (.iadd, 1) := by decide +kernel
theorem dX4_give_13 : decode cX4_give 13 = .ok (.putfield 37, 3) := by decide +kernel
theorem dX4_give_16 : decode cX4_give 16 = .ok (.aload_n 0, 1) := by decide +kernel
theorem dX4_give_17 : decode cX4_give 17 = .ok (.getfield 9, 3) := by decide +kernel
theorem dX4_give_20 : decode cX4_give 20 = .ok (.iload_n 1, 1) := by decide +kernel
theorem dX4_give_21 : decode cX4_give 21 = .ok (.iconst 1, 1) := by decide +kernel
theorem dX4_give_22 : decode cX4_give 22 = .ok (.iastore, 1) := by decide +kernel
theorem dX4_give_23 : decode cX4_give 23 = .ok (.aload_n 0, 1) := by decide +kernel
theorem dX4_give_24 : decode cX4_give 24 = .ok (.getfield 15, 3) := by decide +kernel
theorem dX4_give_27 : decode cX4_give 27 = .ok (.iload_n 1, 1) := by decide +kernel
theorem dX4_give_28 : decode cX4_give 28 = .ok (.dup2, 1) := by decide +kernel
theorem dX4_give_29 : decode cX4_give 29 = .ok (.iaload, 1) := by decide +kernel
theorem dX4_give_30 : decode cX4_give 30 = .ok (.iconst 1, 1) := by decide +kernel
theorem dX4_give_31 : decode cX4_give 31 = .ok (.iadd, 1) := by decide +kernel
theorem dX4_give_32 : decode cX4_give 32 = .ok (.iastore, 1) := by decide +kernel
theorem dX4_give_33 : decode cX4_give 33 = .ok (.aload_n 0, 1) := by decide +kernel
theorem dX4_give_34 : decode cX4_give 34 = .ok (.getfield 18, 3) := by decide +kernel
theorem dX4_give_37 : decode cX4_give 37 = .ok (.iload_n 1, 1) := by decide +kernel
theorem dX4_give_38 : decode cX4_give 38 = .ok (.iload_n 2, 1) := by decide +kernel
theorem dX4_give_39 : decode cX4_give 39 = .ok (.iastore, 1) := by decide +kernel
theorem dX4_give_40 : decode cX4_give 40 = .ok (.return_, 1) := by decide +kernel
theorem dX4_finish_0 : decode cX4_finish 0 = .ok (.aload_n 0, 1) := by decide +kernel
theorem dX4_finish_1 : decode cX4_finish 1 = .ok (.getfield 9, 3) := by decide +kernel
theorem dX4_finish_4 : decode cX4_finish 4 = .ok (.iload_n 1, 1) := by decide +kernel
theorem dX4_finish_5 : decode cX4_finish 5 = .ok (.iconst 3, 1) := by decide +kernel
theorem dX4_finish_6 : decode cX4_finish 6 = .ok (.iastore, 1) := by decide +kernel
theorem dX4_finish_7 : decode cX4_finish 7 = .ok (.return_, 1) := by decide +kernel
theorem dX4_giveBack_0 : decode cX4_giveBack 0 = .ok (.aload_n 0, 1) := by decide +kernel
theorem dX4_giveBack_1 : decode cX4_giveBack 1 = .ok (.getfield 15, 3) := by decide +kernel
theorem dX4_giveBack_4 : decode cX4_giveBack 4 = .ok (.iload_n 1, 1) := by decide +kernel
theorem dX4_giveBack_5 : decode cX4_giveBack 5 = .ok (.iaload, 1) := by decide +kernel
theorem dX4_giveBack_6 : decode cX4_giveBack 6 = .ok (.iconst 3, 1) := by decide +kernel
theorem dX4_giveBack_7 : decode cX4_giveBack 7 = .ok (.if_icmp .lt 12, 3) := by decide +kernel
theorem dX4_giveBack_10 : decode cX4_giveBack 10 = .ok (.aload_n 0, 1) := by decide +kernel
theorem dX4_giveBack_11 : decode cX4_giveBack 11 = .ok (.getfield 9, 3) := by decide +kernel
theorem dX4_giveBack_14 : decode cX4_giveBack 14 = .ok (.iload_n 1, 1) := by decide +kernel
theorem dX4_giveBack_15 : decode cX4_giveBack 15 = .ok (.iconst 4, 1) := by decide +kernel
theorem dX4_giveBack_16 : decode cX4_giveBack 16 = .ok (.iastore, 1) := by decide +kernel
theorem dX4_giveBack_17 : decode cX4_giveBack 17 = .ok (.iconst (-1), 1) := by decide +kernel
theorem dX4_giveBack_18 : decode cX4_giveBack 18 = .ok (.ireturn, 1) := by decide +kernel
theorem dX4_giveBack_19 : decode cX4_giveBack 19 = .ok (.aload_n 0, 1) := by decide +kernel
theorem dX4_giveBack_20 : decode cX4_giveBack 20 = .ok (.getfield 9, 3) := by decide +kernel
theorem dX4_giveBack_23 : decode cX4_giveBack 23 = .ok (.iload_n 1, 1) := by decide +kernel
theorem dX4_giveBack_24 : decode cX4_giveBack 24 = .ok (.iconst 2, 1) := by decide +kernel
theorem dX4_giveBack_25 : decode cX4_giveBack 25 = .ok (.iastore, 1) := by decide +kernel
theorem dX4_giveBack_26 : decode cX4_giveBack 26 = .ok (.aload_n 0, 1) := by decide +kernel
theorem dX4_giveBack_27 : decode cX4_giveBack 27 = .ok (.getfield 18, 3) := by decide +kernel
theorem dX4_giveBack_30 : decode cX4_giveBack 30 = .ok (.iload_n 1, 1) := by decide +kernel
theorem dX4_giveBack_31 : decode cX4_giveBack 31 = .ok (.iload_n 2, 1) := by decide +kernel
theorem dX4_giveBack_32 : decode cX4_giveBack 32 = .ok (.iload_n 3, 1) := by decide +kernel
theorem dX4_giveBack_33 : decode cX4_giveBack 33 = .ok (.aload_n 0, 1) := by decide +kernel
theorem dX4_giveBack_34 : decode cX4_giveBack 34 = .ok (.getfield 15, 3) := by decide +kernel
theorem dX4_giveBack_37 : decode cX4_giveBack 37 = .ok (.iload_n 1, 1) := by decide +kernel
theorem dX4_giveBack_38 : decode cX4_giveBack 38 = .ok (.iaload, 1) := by decide +kernel
theorem dX4_giveBack_39 : decode cX4_giveBack 39 = .ok (.iconst 1, 1) := by decide +kernel
theorem dX4_giveBack_40 : decode cX4_giveBack 40 = .ok (.isub, 1) := by decide +kernel
theorem dX4_giveBack_41 : decode cX4_giveBack 41 = .ok (.ishl, 1) := by decide +kernel
theorem dX4_giveBack_42 : decode cX4_giveBack 42 = .ok (.iadd, 1) := by decide +kernel
theorem dX4_giveBack_43 : decode cX4_giveBack 43 = .ok (.iastore, 1) := by decide +kernel
theorem dX4_giveBack_44 : decode cX4_giveBack 44 = .ok (.aload_n 0, 1) := by decide +kernel
theorem dX4_giveBack_45 : decode cX4_giveBack 45 = .ok (.getfield 18, 3) := by decide +kernel
theorem dX4_giveBack_48 : decode cX4_giveBack 48 = .ok (.iload_n 1, 1) := by decide +kernel
theorem dX4_giveBack_49 : decode cX4_giveBack 49 = .ok (.iaload, 1) := by decide +kernel
theorem dX4_giveBack_50 : decode cX4_giveBack 50 = .ok (.ireturn, 1) := by decide +kernel
theorem dX4_moveTo_0 : decode cX4_moveTo 0 = .ok (.iconst 0, 1) := by decide +kernel
theorem dX4_moveTo_1 : decode cX4_moveTo 1 = .ok (.istore_n 2, 1) := by decide +kernel
theorem dX4_moveTo_2 : decode cX4_moveTo 2 = .ok (.iload_n 2, 1) := by decide +kernel
theorem dX4_moveTo_3 : decode cX4_moveTo 3 = .ok (.iload_n 1, 1) := by decide +kernel
theorem dX4_moveTo_4 : decode cX4_moveTo 4 = .ok (.if_icmp .ge 22, 3) := by decide +kernel
theorem dX4_moveTo_7 : decode cX4_moveTo 7 = .ok (.aload_n 0, 1) := by decide +kernel
theorem dX4_moveTo_8 : decode cX4_moveTo 8 = .ok (.iload_n 2, 1) := by decide +kernel
theorem dX4_moveTo_9 : decode cX4_moveTo 9 = .ok (.invokevirtual 61, 3) := by decide +kernel
theorem dX4_moveTo_12 : decode cX4_moveTo 12 = .ok (.ifCond .eq 8, 3) := by decide +kernel
theorem dX4_moveTo_15 : decode cX4_moveTo 15 = .ok (.aload_n 0, 1) := by decide +kernel
theorem dX4_moveTo_16 : decode cX4_moveTo 16 = .ok (.iload_n 2, 1) := by decide +kernel
theorem dX4_moveTo_17 : decode cX4_moveTo 17 = .ok (.invokevirtual 64, 3) := by decide +kernel
theorem dX4_moveTo_20 : decode cX4_moveTo 20 = .ok (.iinc 2 1, 3) := by decide +kernel
theorem dX4_moveTo_23 : decode cX4_moveTo 23 = .ok (.goto (-21), 3) := by decide +kernel
theorem dX4_moveTo_26 : decode cX4_moveTo 26 = .ok (.iload_n 1, 1) := by decide +kernel
theorem dX4_moveTo_27 : decode cX4_moveTo 27 = .ok (.istore_n 2, 1) := by decide +kernel
theorem dX4_moveTo_28 : decode cX4_moveTo 28 = .ok (.iload_n 2, 1) := by decide +kernel
theorem dX4_moveTo_29 : decode cX4_moveTo 29 = .ok (.aload_n 0, 1) := by decide +kernel
theorem dX4_moveTo_30 : decode cX4_moveTo 30 = .ok (.getfield 25, 3) := by decide +kernel
theorem dX4_moveTo_33 : decode cX4_moveTo 33 = .ok (.invokevirtual 44, 3) := by decide +kernel
theorem dX4_moveTo_36 : decode cX4_moveTo 36 = .ok (.if_icmp .ge 14, 3) := by decide +kernel
theorem dX4_moveTo_39 : decode cX4_moveTo 39 = .ok (.aload_n 0, 1) := by decide +kernel
theorem dX4_moveTo_40 : decode cX4_moveTo 40 = .ok (.iload_n 2, 1) := by decide +kernel
theorem dX4_moveTo_41 : decode cX4_moveTo 41 = .ok (.invokevirtual 64, 3) := by decide +kernel
theorem dX4_moveTo_44 : decode cX4_moveTo 44 = .ok (.iinc 2 1, 3) := by decide +kernel
theorem dX4_moveTo_47 : decode cX4_moveTo 47 = .ok (.goto (-19), 3) := by decide +kernel
theorem dX4_moveTo_50 : decode cX4_moveTo 50 = .ok (.aload_n 0, 1) := by decide +kernel
theorem dX4_moveTo_51 : decode cX4_moveTo 51 = .ok (.iload_n 1, 1) := by decide +kernel
theorem dX4_moveTo_52 : decode cX4_moveTo 52 = .ok (.putfield 34, 3) := by decide +kernel
theorem dX4_moveTo_55 : decode cX4_moveTo 55 = .ok (.aload_n 0, 1) := by decide +kernel
theorem dX4_moveTo_56 : decode cX4_moveTo 56 = .ok (.iload_n 1, 1) := by decide +kernel
theorem dX4_moveTo_57 : decode cX4_moveTo 57 = .ok (.putfield 37, 3) := by decide +kernel
theorem dX4_moveTo_60 : decode cX4_moveTo 60 = .ok (.return_, 1) := by decide +kernel
theorem dX4_handTo_0 : decode cX4_handTo 0 = .ok (.iload_n 1, 1) := by decide +kernel
theorem dX4_handTo_1 : decode cX4_handTo 1 = .ok (.aload_n 0, 1) := by decide +kernel
theorem dX4_handTo_2 : decode cX4_handTo 2 = .ok (.getfield 21, 3) := by decide +kernel
theorem dX4_handTo_5 : decode cX4_handTo 5 = .ok (.if_icmp .ne 4, 3) := by decide +kernel
theorem dX4_handTo_8 : decode cX4_handTo 8 = .ok (.return_, 1) := by decide +kernel
theorem dX4_handTo_9 : decode cX4_handTo 9 = .ok (.aload_n 0, 1) := by decide +kernel
theorem dX4_handTo_10 : decode cX4_handTo 10 = .ok (.iload_n 1, 1) := by decide +kernel
theorem dX4_handTo_11 : decode cX4_handTo 11 = .ok (.putfield 21, 3) := by decide +kernel
theorem dX4_handTo_14 : decode cX4_handTo 14 = .ok (.iconst 0, 1) := by decide +kernel
theorem dX4_handTo_15 : decode cX4_handTo 15 = .ok (.istore_n 2, 1) := by decide +kernel
theorem dX4_handTo_16 : decode cX4_handTo 16 = .ok (.iload_n 2, 1) := by decide +kernel
theorem dX4_handTo_17 : decode cX4_handTo 17 = .ok (.aload_n 0, 1) := by decide +kernel
theorem dX4_handTo_18 : decode cX4_handTo 18 = .ok (.getfield 25, 3) := by decide +kernel
theorem dX4_handTo_21 : decode cX4_handTo 21 = .ok (.invokevirtual 44, 3) := by decide +kernel
theorem dX4_handTo_24 : decode cX4_handTo 24 = .ok (.if_icmp .ge 24, 3) := by decide +kernel
theorem dX4_handTo_27 : decode cX4_handTo 27 = .ok (.aload_n 0, 1) := by decide +kernel
theorem dX4_handTo_28 : decode cX4_handTo 28 = .ok (.getfield 9, 3) := by decide +kernel
theorem dX4_handTo_31 : decode cX4_handTo 31 = .ok (.iload_n 2, 1) := by decide +kernel
theorem dX4_handTo_32 : decode cX4_handTo 32 = .ok (.iaload, 1) := by decide +kernel
theorem dX4_handTo_33 : decode cX4_handTo 33 = .ok (.iconst 1, 1) := by decide +kernel
theorem dX4_handTo_34 : decode cX4_handTo 34 = .ok (.if_icmp .ne 8, 3) := by decide +kernel
theorem dX4_handTo_37 : decode cX4_handTo 37 = .ok (.aload_n 0, 1) := by decide +kernel
theorem dX4_handTo_38 : decode cX4_handTo 38 = .ok (.iload_n 2, 1) := by decide +kernel
theorem dX4_handTo_39 : decode cX4_handTo 39 = .ok (.invokevirtual 64, 3) := by decide +kernel
theorem dX4_handTo_42 : decode cX4_handTo 42 = .ok (.iinc 2 1, 3) := by decide +kernel
theorem dX4_handTo_45 : decode cX4_handTo 45 = .ok (.goto (-29), 3) := by decide +kernel
theorem dX4_handTo_48 : decode cX4_handTo 48 = .ok (.aload_n 0, 1) := by decide +kernel
theorem dX4_handTo_49 : decode cX4_handTo 49 = .ok (.aload_n 0, 1) := by decide +kernel
theorem dX4_handTo_50 : decode cX4_handTo 50 = .ok (.getfield 34, 3) := by decide +kernel
theorem dX4_handTo_53 : decode cX4_handTo 53 = .ok (.putfield 37, 3) := by decide +kernel
theorem dX4_handTo_56 : decode cX4_handTo 56 = .ok (.return_, 1) := by decide +kernel
theorem dX4_keepUp_0 : decode cX4_keepUp 0 = .ok (.iconst 0, 1) := by decide +kernel
theorem dX4_keepUp_1 : decode cX4_keepUp 1 = .ok (.istore_n 1, 1) := by decide +kernel
theorem dX4_keepUp_2 : decode cX4_keepUp 2 = .ok (.iload_n 1, 1) := by decide +kernel
theorem dX4_keepUp_3 : decode cX4_keepUp 3 = .ok (.aload_n 0, 1) := by decide +kernel
theorem dX4_keepUp_4 : decode cX4_keepUp 4 = .ok (.getfield 25, 3) := by decide +kernel
theorem dX4_keepUp_7 : decode cX4_keepUp 7 = .ok (.invokevirtual 44, 3) := by decide +kernel
theorem dX4_keepUp_10 : decode cX4_keepUp 10 = .ok (.if_icmp .ge 36, 3) := by decide +kernel
theorem dX4_keepUp_13 : decode cX4_keepUp 13 = .ok (.aload_n 0, 1) := by decide +kernel
theorem dX4_keepUp_14 : decode cX4_keepUp 14 = .ok (.getfield 25, 3) := by decide +kernel
theorem dX4_keepUp_17 : decode cX4_keepUp 17 = .ok (.iload_n 1, 1) := by decide +kernel
theorem dX4_keepUp_18 : decode cX4_keepUp 18 = .ok (.invokevirtual 51, 3) := by decide +kernel
theorem dX4_keepUp_21 : decode cX4_keepUp 21 = .ok (.getfield 68, 3) := by decide +kernel
theorem dX4_keepUp_24 : decode cX4_keepUp 24 = .ok (.ifCond .eq 16, 3) := by decide +kernel
theorem dX4_keepUp_27 : decode cX4_keepUp 27 = .ok (.aload_n 0, 1) := by decide +kernel
theorem dX4_keepUp_28 : decode cX4_keepUp 28 = .ok (.iload_n 1, 1) := by decide +kernel
theorem dX4_keepUp_29 : decode cX4_keepUp 29 = .ok (.invokevirtual 61, 3) := by decide +kernel
theorem dX4_keepUp_32 : decode cX4_keepUp 32 = .ok (.ifCond .eq 8, 3) := by decide +kernel
theorem dX4_keepUp_35 : decode cX4_keepUp 35 = .ok (.aload_n 0, 1) := by decide +kernel
theorem dX4_keepUp_36 : decode cX4_keepUp 36 = .ok (.iload_n 1, 1) := by decide +kernel
theorem dX4_keepUp_37 : decode cX4_keepUp 37 = .ok (.invokevirtual 64, 3) := by decide +kernel
theorem dX4_keepUp_40 : decode cX4_keepUp 40 = .ok (.iinc 1 1, 3) := by decide +kernel
theorem dX4_keepUp_43 : decode cX4_keepUp 43 = .ok (.goto (-41), 3) := by decide +kernel
theorem dX4_keepUp_46 : decode cX4_keepUp 46 = .ok (.aload_n 0, 1) := by decide +kernel
theorem dX4_keepUp_47 : decode cX4_keepUp 47 = .ok (.getfield 34, 3) := by decide +kernel
theorem dX4_keepUp_50 : decode cX4_keepUp 50 = .ok (.aload_n 0, 1) := by decide +kernel
theorem dX4_keepUp_51 : decode cX4_keepUp 51 = .ok (.getfield 25, 3) := by decide +kernel
theorem dX4_keepUp_54 : decode cX4_keepUp 54 = .ok (.invokevirtual 44, 3) := by decide +kernel
theorem dX4_keepUp_57 : decode cX4_keepUp 57 = .ok (.if_icmp .ge 27, 3) := by decide +kernel
theorem dX4_keepUp_60 : decode cX4_keepUp 60 = .ok (.aload_n 0, 1) := by decide +kernel
theorem dX4_keepUp_61 : decode cX4_keepUp 61 = .ok (.aload_n 0, 1) := by decide +kernel
theorem dX4_keepUp_62 : decode cX4_keepUp 62 = .ok (.getfield 34, 3) := by decide +kernel
theorem dX4_keepUp_65 : decode cX4_keepUp 65 = .ok (.invokevirtual 72, 3) := by decide +kernel
theorem dX4_keepUp_68 : decode cX4_keepUp 68 = .ok (.ifCond .eq 16, 3) := by decide +kernel
theorem dX4_keepUp_71 : decode cX4_keepUp 71 = .ok (.aload_n 0, 1) := by decide +kernel
theorem dX4_keepUp_72 : decode cX4_keepUp 72 = .ok (.dup, 1) := by decide +kernel
theorem dX4_keepUp_73 : decode cX4_keepUp 73 = .ok (.getfield 34, 3) := by decide +kernel
theorem dX4_keepUp_76 : decode cX4_keepUp 76 = .ok (.iconst 1, 1) := by decide +kernel
theorem dX4_keepUp_77 : decode cX4_keepUp 77 = .ok (.iadd, 1) := by decide +kernel
theorem dX4_keepUp_78 : decode cX4_keepUp 78 = .ok (.putfield 34, 3) := by decide +kernel
theorem dX4_keepUp_81 : decode cX4_keepUp 81 = .ok (.goto (-35), 3) := by decide +kernel
theorem dX4_keepUp_84 : decode cX4_keepUp 84 = .ok (.aload_n 0, 1) := by decide +kernel
theorem dX4_keepUp_85 : decode cX4_keepUp 85 = .ok (.aload_n 0, 1) := by decide +kernel
theorem dX4_keepUp_86 : decode cX4_keepUp 86 = .ok (.getfield 37, 3) := by decide +kernel
theorem dX4_keepUp_89 : decode cX4_keepUp 89 = .ok (.aload_n 0, 1) := by decide +kernel
theorem dX4_keepUp_90 : decode cX4_keepUp 90 = .ok (.getfield 34, 3) := by decide +kernel
theorem dX4_keepUp_93 : decode cX4_keepUp 93 = .ok (.invokestatic 75, 3) := by decide +kernel
theorem dX4_keepUp_96 : decode cX4_keepUp 96 = .ok (.putfield 37, 3) := by decide +kernel
theorem dX4_keepUp_99 : decode cX4_keepUp 99 = .ok (.return_, 1) := by decide +kernel
theorem dX4_isBehind_0 : decode cX4_isBehind 0 = .ok (.aload_n 0, 1) := by decide +kernel
theorem dX4_isBehind_1 : decode cX4_isBehind 1 = .ok (.getfield 25, 3) := by decide +kernel
theorem dX4_isBehind_4 : decode cX4_isBehind 4 = .ok (.iload_n 1, 1) := by decide +kernel
theorem dX4_isBehind_5 : decode cX4_isBehind 5 = .ok (.invokevirtual 51, 3) := by decide +kernel
theorem dX4_isBehind_8 : decode cX4_isBehind 8 = .ok (.astore_n 2, 1) := by decide +kernel
theorem dX4_isBehind_9 : decode cX4_isBehind 9 = .ok (.aload_n 2, 1) := by decide +kernel
theorem dX4_isBehind_10 : decode cX4_isBehind 10 = .ok (.getfield 68, 3) := by decide +kernel
theorem dX4_isBehind_13 : decode cX4_isBehind 13 = .ok (.ifCond .ne 19, 3) := by decide +kernel
theorem dX4_isBehind_16 : decode cX4_isBehind 16 = .ok (.aload_n 2, 1) := by decide +kernel
theorem dX4_isBehind_17 : decode cX4_isBehind 17 = .ok (.getfield 81, 3) := by decide +kernel
theorem dX4_isBehind_20 : decode cX4_isBehind 20 = .ok (.iconst 1, 1) := by decide +kernel
theorem dX4_isBehind_21 : decode cX4_isBehind 21 = .ok (.if_icmp .eq 11, 3) := by decide +kernel
theorem dX4_isBehind_24 : decode cX4_isBehind 24 = .ok (.aload_n 0, 1) := by decide +kernel
theorem dX4_isBehind_25 : decode cX4_isBehind 25 = .ok (.iload_n 1, 1) := by decide +kernel
theorem dX4_isBehind_26 : decode cX4_isBehind 26 = .ok (.invokevirtual 84, 3) := by decide +kernel
theorem dX4_isBehind_29 : decode cX4_isBehind 29 = .ok (.ifCond .eq 7, 3) := by decide +kernel
theorem dX4_isBehind_32 : decode cX4_isBehind 32 = .ok (.iconst 1, 1) := by decide +kernel
theorem dX4_isBehind_33 : decode cX4_isBehind 33 = .ok (.goto 4, 3) := by decide +kernel
theorem dX4_isBehind_36 : decode cX4_isBehind 36 = .ok (.iconst 0, 1) := by decide +kernel
theorem dX4_isBehind_37 : decode cX4_isBehind 37 = .ok (.ireturn, 1) := by decide +kernel
theorem dX4_isThrough_0 : decode cX4_isThrough 0 = .ok (.aload_n 0, 1) := by decide +kernel
theorem dX4_isThrough_1 : decode cX4_isThrough 1 = .ok (.getfield 9, 3) := by decide +kernel
theorem dX4_isThrough_4 : decode cX4_isThrough 4 = .ok (.iload_n 1, 1) := by decide +kernel
theorem dX4_isThrough_5 : decode cX4_isThrough 5 = .ok (.iaload, 1) := by decide +kernel
theorem dX4_isThrough_6 : decode cX4_isThrough 6 = .ok (.iconst 3, 1) := by decide +kernel
theorem dX4_isThrough_7 : decode cX4_isThrough 7 = .ok (.if_icmp .eq 13, 3) := by decide +kernel
theorem dX4_isThrough_10 : decode cX4_isThrough 10 = .ok (.aload_n 0, 1) := by decide +kernel
theorem dX4_isThrough_11 : decode cX4_isThrough 11 = .ok (.getfield 9, 3) := by decide +kernel
theorem dX4_isThrough_14 : decode cX4_isThrough 14 = .ok (.iload_n 1, 1) := by decide +kernel
theorem dX4_isThrough_15 : decode cX4_isThrough 15 = .ok (.iaload, 1) := by decide +kernel
theorem dX4_isThrough_16 : decode cX4_isThrough 16 = .ok (.iconst 4, 1) := by decide +kernel
theorem dX4_isThrough_17 : decode cX4_isThrough 17 = .ok (.if_icmp .ne 7, 3) := by decide +kernel
theorem dX4_isThrough_20 : decode cX4_isThrough 20 = .ok (.iconst 1, 1) := by decide +kernel
theorem dX4_isThrough_21 : decode cX4_isThrough 21 = .ok (.goto 4, 3) := by decide +kernel
theorem dX4_isThrough_24 : decode cX4_isThrough 24 = .ok (.iconst 0, 1) := by decide +kernel
theorem dX4_isThrough_25 : decode cX4_isThrough 25 = .ok (.ireturn, 1) := by decide +kernel
theorem dX4_isUnderway_0 : decode cX4_isUnderway 0 = .ok (.aload_n 0, 1) := by decide +kernel
theorem dX4_isUnderway_1 : decode cX4_isUnderway 1 = .ok (.getfield 9, 3) := by decide +kernel
theorem dX4_isUnderway_4 : decode cX4_isUnderway 4 = .ok (.iload_n 1, 1) := by decide +kernel
theorem dX4_isUnderway_5 : decode cX4_isUnderway 5 = .ok (.iaload, 1) := by decide +kernel
theorem dX4_isUnderway_6 : decode cX4_isUnderway 6 = .ok (.iconst 1, 1) := by decide +kernel
theorem dX4_isUnderway_7 : decode cX4_isUnderway 7 = .ok (.if_icmp .eq 13, 3) := by decide +kernel
theorem dX4_isUnderway_10 : decode cX4_isUnderway 10 = .ok (.aload_n 0, 1) := by decide +kernel
theorem dX4_isUnderway_11 : decode cX4_isUnderway 11 = .ok (.getfield 9, 3) := by decide +kernel
theorem dX4_isUnderway_14 : decode cX4_isUnderway 14 = .ok (.iload_n 1, 1) := by decide +kernel
theorem dX4_isUnderway_15 : decode cX4_isUnderway 15 = .ok (.iaload, 1) := by decide +kernel
theorem dX4_isUnderway_16 : decode cX4_isUnderway 16 = .ok (.iconst 2, 1) := by decide +kernel
theorem dX4_isUnderway_17 : decode cX4_isUnderway 17 = .ok (.if_icmp .ne 7, 3) := by decide +kernel
theorem dX4_isUnderway_20 : decode cX4_isUnderway 20 = .ok (.iconst 1, 1) := by decide +kernel
theorem dX4_isUnderway_21 : decode cX4_isUnderway 21 = .ok (.goto 4, 3) := by decide +kernel
theorem dX4_isUnderway_24 : decode cX4_isUnderway 24 = .ok (.iconst 0, 1) := by decide +kernel
theorem dX4_isUnderway_25 : decode cX4_isUnderway 25 = .ok (.ireturn, 1) := by decide +kernel
theorem dX4_forget_0 : decode cX4_forget 0 = .ok (.aload_n 0, 1) := by decide +kernel
theorem dX4_forget_1 : decode cX4_forget 1 = .ok (.getfield 9, 3) := by decide +kernel
theorem dX4_forget_4 : decode cX4_forget 4 = .ok (.iload_n 1, 1) := by decide +kernel
theorem dX4_forget_5 : decode cX4_forget 5 = .ok (.iconst 0, 1) := by decide +kernel
theorem dX4_forget_6 : decode cX4_forget 6 = .ok (.iastore, 1) := by decide +kernel
theorem dX4_forget_7 : decode cX4_forget 7 = .ok (.aload_n 0, 1) := by decide +kernel
theorem dX4_forget_8 : decode cX4_forget 8 = .ok (.getfield 15, 3) := by decide +kernel
theorem dX4_forget_11 : decode cX4_forget 11 = .ok (.iload_n 1, 1) := by decide +kernel
theorem dX4_forget_12 : decode cX4_forget 12 = .ok (.iconst 0, 1) := by decide +kernel
theorem dX4_forget_13 : decode cX4_forget 13 = .ok (.iastore, 1) := by decide +kernel
theorem dX4_forget_14 : decode cX4_forget 14 = .ok (.return_, 1) := by decide +kernel
theorem dX4_countUnread_0 : decode cX4_countUnread 0 = .ok (.aload_n 0, 1) := by decide +kernel
theorem dX4_countUnread_1 : decode cX4_countUnread 1 = .ok (.getfield 25, 3) := by decide +kernel
theorem dX4_countUnread_4 : decode cX4_countUnread 4 = .ok (.invokevirtual 48, 3) := by decide +kernel
theorem dX4_countUnread_7 : decode cX4_countUnread 7 = .ok (.istore_n 1, 1) := by decide +kernel
theorem dX4_countUnread_8 : decode cX4_countUnread 8 = .ok (.iconst 0, 1) := by decide +kernel
theorem dX4_countUnread_9 : decode cX4_countUnread 9 = .ok (.istore_n 2, 1) := by decide +kernel
theorem dX4_countUnread_10 : decode cX4_countUnread 10 = .ok (.aload_n 0, 1) := by decide +kernel
theorem dX4_countUnread_11 : decode cX4_countUnread 11 = .ok (.getfield 34, 3) := by decide +kernel
theorem dX4_countUnread_14 : decode cX4_countUnread 14 = .ok (.istore_n 3, 1) := by decide +kernel
theorem dX4_countUnread_15 : decode cX4_countUnread 15 = .ok (.iload_n 3, 1) := by decide +kernel
theorem dX4_countUnread_16 : decode cX4_countUnread 16 = .ok (.iload_n 1, 1) := by decide +kernel
theorem dX4_countUnread_17 : decode cX4_countUnread 17 = .ok (.if_icmp .ge 34, 3) := by decide +kernel
theorem dX4_countUnread_20 : decode cX4_countUnread 20 = .ok (.aload_n 0, 1) := by decide +kernel
theorem dX4_countUnread_21 : decode cX4_countUnread 21 = .ok (.getfield 25, 3) := by decide +kernel
theorem dX4_countUnread_24 : decode cX4_countUnread 24 = .ok (.iload_n 3, 1) := by decide +kernel
theorem dX4_countUnread_25 : decode cX4_countUnread 25 = .ok (.invokevirtual 51, 3) := by decide +kernel
theorem dX4_countUnread_28 : decode cX4_countUnread 28 = .ok (.invokevirtual 55, 3) := by decide +kernel
theorem dX4_countUnread_31 : decode cX4_countUnread 31 = .ok (.ifCond .eq 14, 3) := by decide +kernel
theorem dX4_countUnread_34 : decode cX4_countUnread 34 = .ok (.aload_n 0, 1) := by decide +kernel
theorem dX4_countUnread_35 : decode cX4_countUnread 35 = .ok (.iload_n 3, 1) := by decide +kernel
theorem dX4_countUnread_36 : decode cX4_countUnread 36 = .ok (.invokevirtual 84, 3) := by decide +kernel
theorem dX4_countUnread_39 : decode cX4_countUnread 39 = .ok (.ifCond .ne 6, 3) := by decide +kernel
theorem dX4_countUnread_42 : decode cX4_countUnread 42 = .ok (.iinc 2 1, 3) := by decide +kernel
theorem dX4_countUnread_45 : decode cX4_countUnread 45 = .ok (.iinc 3 1, 3) := by decide +kernel
theorem dX4_countUnread_48 : decode cX4_countUnread 48 = .ok (.goto (-33), 3) := by decide +kernel
theorem dX4_countUnread_51 : decode cX4_countUnread 51 = .ok (.iload_n 2, 1) := by decide +kernel
theorem dX4_countUnread_52 : decode cX4_countUnread 52 = .ok (.ireturn, 1) := by decide +kernel
theorem dX4_countOf_0 : decode cX4_countOf 0 = .ok (.iconst 0, 1) := by decide +kernel
theorem dX4_countOf_1 : decode cX4_countOf 1 = .ok (.istore_n 2, 1) := by decide +kernel
theorem dX4_countOf_2 : decode cX4_countOf 2 = .ok (.iconst 0, 1) := by decide +kernel
theorem dX4_countOf_3 : decode cX4_countOf 3 = .ok (.istore_n 3, 1) := by decide +kernel
theorem dX4_countOf_4 : decode cX4_countOf 4 = .ok (.iload_n 3, 1) := by decide +kernel
theorem dX4_countOf_5 : decode cX4_countOf 5 = .ok (.aload_n 0, 1) := by decide +kernel
theorem dX4_countOf_6 : decode cX4_countOf 6 = .ok (.getfield 25, 3) := by decide +kernel
theorem dX4_countOf_9 : decode cX4_countOf 9 = .ok (.invokevirtual 44, 3) := by decide +kernel
theorem dX4_countOf_12 : decode cX4_countOf 12 = .ok (.if_icmp .ge 22, 3) := by decide +kernel
theorem dX4_countOf_15 : decode cX4_countOf 15 = .ok (.aload_n 0, 1) := by decide +kernel
theorem dX4_countOf_16 : decode cX4_countOf 16 = .ok (.getfield 9, 3) := by decide +kernel
theorem dX4_countOf_19 : decode cX4_countOf 19 = .ok (.iload_n 3, 1) := by decide +kernel
theorem dX4_countOf_20 : decode cX4_countOf 20 = .ok (.iaload, 1) := by decide +kernel
theorem dX4_countOf_21 : decode cX4_countOf 21 = .ok (.iload_n 1, 1) := by decide +kernel
theorem dX4_countOf_22 : decode cX4_countOf 22 = .ok (.if_icmp .ne 6, 3) := by decide +kernel
theorem dX4_countOf_25 : decode cX4_countOf 25 = .ok (.iinc 2 1, 3) := by decide +kernel
theorem dX4_countOf_28 : decode cX4_countOf 28 = .ok (.iinc 3 1, 3) := by decide +kernel
theorem dX4_countOf_31 : decode cX4_countOf 31 = .ok (.goto (-27), 3) := by decide +kernel
theorem dX4_countOf_34 : decode cX4_countOf 34 = .ok (.iload_n 2, 1) := by decide +kernel
theorem dX4_countOf_35 : decode cX4_countOf 35 = .ok (.ireturn, 1) := by decide +kernel
theorem dX4_sumOfTriesOfRead_0 : decode cX4_sumOfTriesOfRead 0 = .ok (.iconst 0, 1) := by decide +kernel
theorem dX4_sumOfTriesOfRead_1 : decode cX4_sumOfTriesOfRead 1 = .ok (.istore_n 1, 1) := by decide +kernel
theorem dX4_sumOfTriesOfRead_2 : decode cX4_sumOfTriesOfRead 2 = .ok (.iconst 0, 1) := by decide +kernel
theorem dX4_sumOfTriesOfRead_3 : decode cX4_sumOfTriesOfRead 3 = .ok (.istore_n 2, 1) := by decide +kernel
theorem dX4_sumOfTriesOfRead_4 : decode cX4_sumOfTriesOfRead 4 = .ok (.iload_n 2, 1) := by decide +kernel
theorem dX4_sumOfTriesOfRead_5 : decode cX4_sumOfTriesOfRead 5 = .ok (.aload_n 0, 1) := by decide +kernel
theorem dX4_sumOfTriesOfRead_6 : decode cX4_sumOfTriesOfRead 6 = .ok (.getfield 25, 3) := by decide +kernel
theorem dX4_sumOfTriesOfRead_9 : decode cX4_sumOfTriesOfRead 9 = .ok (.invokevirtual 44, 3) := by decide +kernel
theorem dX4_sumOfTriesOfRead_12 : decode cX4_sumOfTriesOfRead 12 = .ok (.if_icmp .ge 28, 3) := by decide +kernel
theorem dX4_sumOfTriesOfRead_15 : decode cX4_sumOfTriesOfRead 15 = .ok (.aload_n 0, 1) := by decide +kernel
theorem dX4_sumOfTriesOfRead_16 : decode cX4_sumOfTriesOfRead 16 = .ok (.getfield 9, 3) := by decide +kernel
theorem dX4_sumOfTriesOfRead_19 : decode cX4_sumOfTriesOfRead 19 = .ok (.iload_n 2, 1) := by decide +kernel
theorem dX4_sumOfTriesOfRead_20 : decode cX4_sumOfTriesOfRead 20 = .ok (.iaload, 1) := by decide +kernel
theorem dX4_sumOfTriesOfRead_21 : decode cX4_sumOfTriesOfRead 21 = .ok (.iconst 3, 1) := by decide +kernel
theorem dX4_sumOfTriesOfRead_22 : decode cX4_sumOfTriesOfRead 22 = .ok (.if_icmp .ne 12, 3) := by decide +kernel
theorem dX4_sumOfTriesOfRead_25 : decode cX4_sumOfTriesOfRead 25 = .ok (.iload_n 1, 1) := by decide +kernel
theorem dX4_sumOfTriesOfRead_26 : decode cX4_sumOfTriesOfRead 26 = .ok (.aload_n 0, 1) := by decide +kernel
theorem dX4_sumOfTriesOfRead_27 : decode cX4_sumOfTriesOfRead 27 = .ok (.getfield 15, 3) := by decide +kernel
theorem dX4_sumOfTriesOfRead_30 : decode cX4_sumOfTriesOfRead 30 = .ok (.iload_n 2, 1) := by decide +kernel
theorem dX4_sumOfTriesOfRead_31 : decode cX4_sumOfTriesOfRead 31 = .ok (.iaload, 1) := by decide +kernel
theorem dX4_sumOfTriesOfRead_32 : decode cX4_sumOfTriesOfRead 32 = .ok (.iadd, 1) := by decide +kernel
theorem dX4_sumOfTriesOfRead_33 : decode cX4_sumOfTriesOfRead 33 = .ok (.istore_n 1, 1) := by decide +kernel
theorem dX4_sumOfTriesOfRead_34 : decode cX4_sumOfTriesOfRead 34 = .ok (.iinc 2 1, 3) := by decide +kernel
theorem dX4_sumOfTriesOfRead_37 : decode cX4_sumOfTriesOfRead 37 = .ok (.goto (-33), 3) := by decide +kernel
theorem dX4_sumOfTriesOfRead_40 : decode cX4_sumOfTriesOfRead 40 = .ok (.iload_n 1, 1) := by decide +kernel
theorem dX4_sumOfTriesOfRead_41 : decode cX4_sumOfTriesOfRead 41 = .ok (.ireturn, 1) := by decide +kernel
theorem dX4_nextTimeFrom_0 : decode cX4_nextTimeFrom 0 = .ok (.iconst (-1), 1) := by decide +kernel
theorem dX4_nextTimeFrom_1 : decode cX4_nextTimeFrom 1 = .ok (.istore_n 3, 1) := by decide +kernel
theorem dX4_nextTimeFrom_2 : decode cX4_nextTimeFrom 2 = .ok (.aload_n 0, 1) := by decide +kernel
theorem dX4_nextTimeFrom_3 : decode cX4_nextTimeFrom 3 = .ok (.getfield 34, 3) := by decide +kernel
theorem dX4_nextTimeFrom_6 : decode cX4_nextTimeFrom 6 = .ok (.istore 4, 2) := by decide +kernel
theorem dX4_nextTimeFrom_8 : decode cX4_nextTimeFrom 8 = .ok (.iload 4, 2) := by decide +kernel
theorem dX4_nextTimeFrom_10 : decode cX4_nextTimeFrom 10 = .ok (.aload_n 0, 1) := by decide +kernel
theorem dX4_nextTimeFrom_11 : decode cX4_nextTimeFrom 11 = .ok (.getfield 25, 3) := by decide +kernel
theorem dX4_nextTimeFrom_14 : decode cX4_nextTimeFrom 14 = .ok (.invokevirtual 44, 3) := by decide +kernel
theorem dX4_nextTimeFrom_17 : decode cX4_nextTimeFrom 17 = .ok (.if_icmp .ge 70, 3) := by decide +kernel
theorem dX4_nextTimeFrom_20 : decode cX4_nextTimeFrom 20 = .ok (.aload_n 0, 1) := by decide +kernel
theorem dX4_nextTimeFrom_21 : decode cX4_nextTimeFrom 21 = .ok (.getfield 9, 3) := by decide +kernel
theorem dX4_nextTimeFrom_24 : decode cX4_nextTimeFrom 24 = .ok (.iload 4, 2) := by decide +kernel
theorem dX4_nextTimeFrom_26 : decode cX4_nextTimeFrom 26 = .ok (.iaload, 1) := by decide +kernel
theorem dX4_nextTimeFrom_27 : decode cX4_nextTimeFrom 27 = .ok (.iconst 2, 1) := by decide +kernel
theorem dX4_nextTimeFrom_28 : decode cX4_nextTimeFrom 28 = .ok (.if_icmp .ne 22, 3) := by decide +kernel
theorem dX4_nextTimeFrom_31 : decode cX4_nextTimeFrom 31 = .ok (.iload_n 3, 1) := by decide +kernel
theorem dX4_nextTimeFrom_32 : decode cX4_nextTimeFrom 32 = .ok (.aload_n 0, 1) := by decide +kernel
theorem dX4_nextTimeFrom_33 : decode cX4_nextTimeFrom 33 = .ok (.getfield 18, 3) := by decide +kernel
theorem dX4_nextTimeFrom_36 : decode cX4_nextTimeFrom 36 = .ok (.iload 4, 2) := by decide +kernel
theorem dX4_nextTimeFrom_38 : decode cX4_nextTimeFrom 38 = .ok (.iaload, 1) := by decide +kernel
theorem dX4_nextTimeFrom_39 : decode cX4_nextTimeFrom 39 = .ok (.iload_n 1, 1) := by decide +kernel
theorem dX4_nextTimeFrom_40 : decode cX4_nextTimeFrom 40 = .ok (.invokestatic 75, 3) := by decide +kernel
theorem dX4_nextTimeFrom_43 : decode cX4_nextTimeFrom 43 = .ok (.invokestatic 87, 3) := by decide +kernel
theorem dX4_nextTimeFrom_46 : decode cX4_nextTimeFrom 46 = .ok (.istore_n 3, 1) := by decide +kernel
theorem dX4_nextTimeFrom_47 : decode cX4_nextTimeFrom 47 = .ok (.goto 34, 3) := by decide +kernel
theorem dX4_nextTimeFrom_50 : decode cX4_nextTimeFrom 50 = .ok (.aload_n 0, 1) := by decide +kernel
theorem dX4_nextTimeFrom_51 : decode cX4_nextTimeFrom 51 = .ok (.getfield 9, 3) := by decide +kernel
theorem dX4_nextTimeFrom_54 : decode cX4_nextTimeFrom 54 = .ok (.iload 4, 2) := by decide +kernel
theorem dX4_nextTimeFrom_56 : decode cX4_nextTimeFrom 56 = .ok (.iaload, 1) := by decide +kernel
theorem dX4_nextTimeFrom_57 : decode cX4_nextTimeFrom 57 = .ok (.iconst 1, 1) := by decide +kernel
theorem dX4_nextTimeFrom_58 : decode cX4_nextTimeFrom 58 = .ok (.if_icmp .ne 23, 3) := by decide +kernel
theorem dX4_nextTimeFrom_61 : decode cX4_nextTimeFrom 61 = .ok (.iload_n 3, 1) := by decide +kernel
theorem dX4_nextTimeFrom_62 : decode cX4_nextTimeFrom 62 = .ok (.aload_n 0, 1) := by decide +kernel
theorem dX4_nextTimeFrom_63 : decode cX4_nextTimeFrom 63 = .ok (.getfield 18, 3) := by decide +kernel
theorem dX4_nextTimeFrom_66 : decode cX4_nextTimeFrom 66 = .ok (.iload 4, 2) := by decide +kernel
theorem dX4_nextTimeFrom_68 : decode cX4_nextTimeFrom 68 = .ok (.iaload, 1) := by decide +kernel
theorem dX4_nextTimeFrom_69 : decode cX4_nextTimeFrom 69 = .ok (.iload_n 2, 1) := by decide +kernel
theorem dX4_nextTimeFrom_70 : decode cX4_nextTimeFrom 70 = .ok (.iadd, 1) := by decide +kernel
theorem dX4_nextTimeFrom_71 : decode cX4_nextTimeFrom 71 = .ok (.iload_n 1, 1) := by decide +kernel
theorem dX4_nextTimeFrom_72 : decode cX4_nextTimeFrom 72 = .ok (.iconst 1, 1) := by decide +kernel
theorem dX4_nextTimeFrom_73 : decode cX4_nextTimeFrom 73 = .ok (.iadd, 1) := by decide +kernel
theorem dX4_nextTimeFrom_74 : decode cX4_nextTimeFrom 74 = .ok (.invokestatic 75, 3) := by decide +kernel
theorem dX4_nextTimeFrom_77 : decode cX4_nextTimeFrom 77 = .ok (.invokestatic 87, 3) := by decide +kernel
theorem dX4_nextTimeFrom_80 : decode cX4_nextTimeFrom 80 = .ok (.istore_n 3, 1) := by decide +kernel
theorem dX4_nextTimeFrom_81 : decode cX4_nextTimeFrom 81 = .ok (.iinc 4 1, 3) := by decide +kernel
theorem dX4_nextTimeFrom_84 : decode cX4_nextTimeFrom 84 = .ok (.goto (-76), 3) := by decide +kernel
theorem dX4_nextTimeFrom_87 : decode cX4_nextTimeFrom 87 = .ok (.iload_n 3, 1) := by decide +kernel
theorem dX4_nextTimeFrom_88 : decode cX4_nextTimeFrom 88 = .ok (.ireturn, 1) := by decide +kernel
theorem dX4_earlier_0 : decode cX4_earlier 0 = .ok (.iload_n 0, 1) := by decide +kernel
theorem dX4_earlier_1 : decode cX4_earlier 1 = .ok (.iconst (-1), 1) := by decide +kernel
theorem dX4_earlier_2 : decode cX4_earlier 2 = .ok (.if_icmp .ne 5, 3) := by decide +kernel
theorem dX4_earlier_5 : decode cX4_earlier 5 = .ok (.iload_n 1, 1) := by decide +kernel
theorem dX4_earlier_6 : decode cX4_earlier 6 = .ok (.ireturn, 1) := by decide +kernel
theorem dX4_earlier_7 : decode cX4_earlier 7 = .ok (.iload_n 1, 1) := by decide +kernel
theorem dX4_earlier_8 : decode cX4_earlier 8 = .ok (.iconst (-1), 1) := by decide +kernel
theorem dX4_earlier_9 : decode cX4_earlier 9 = .ok (.if_icmp .ne 7, 3) := by decide +kernel
theorem dX4_earlier_12 : decode cX4_earlier 12 = .ok (.iload_n 0, 1) := by decide +kernel
theorem dX4_earlier_13 : decode cX4_earlier 13 = .ok (.goto 8, 3) := by decide +kernel
theorem dX4_earlier_16 : decode cX4_earlier 16 = .ok (.iload_n 0, 1) := by decide +kernel
theorem dX4_earlier_17 : decode cX4_earlier 17 = .ok (.iload_n 1, 1) := by decide +kernel
theorem dX4_earlier_18 : decode cX4_earlier 18 = .ok (.invokestatic 90, 3) := by decide +kernel
theorem dX4_earlier_21 : decode cX4_earlier 21 = .ok (.ireturn, 1) := by decide +kernel
theorem dX5_init_0 : decode cX5_init 0 = .ok (.aload_n 0, 1) := by decide +kernel
theorem dX5_init_1 : decode cX5_init 1 = .ok (.invokespecial 3, 3) := by decide +kernel
theorem dX5_init_4 : decode cX5_init 4 = .ok (.aload_n 0, 1) := by decide +kernel
theorem dX5_init_5 : decode cX5_init 5 = .ok (.iconst 4, 1) := by decide +kernel
theorem dX5_init_6 : decode cX5_init 6 = .ok (.newarray .int, 2) := by decide +kernel
theorem dX5_init_8 : decode cX5_init 8 = .ok (.putfield 9, 3) := by decide +kernel
theorem dX5_init_11 : decode cX5_init 11 = .ok (.aload_n 0, 1) := by decide +kernel
theorem dX5_init_12 : decode cX5_init 12 = .ok (.iconst 0, 1) := by decide +kernel
theorem dX5_init_13 : decode cX5_init 13 = .ok (.putfield 15, 3) := by decide +kernel
theorem dX5_init_16 : decode cX5_init 16 = .ok (.aload_n 0, 1) := by decide +kernel
theorem dX5_init_17 : decode cX5_init 17 = .ok (.iload_n 2, 1) := by decide +kernel
theorem dX5_init_18 : decode cX5_init 18 = .ok (.putfield 19, 3) := by decide +kernel
theorem dX5_init_21 : decode cX5_init 21 = .ok (.aload_n 0, 1) := by decide +kernel
theorem dX5_init_22 : decode cX5_init 22 = .ok (.iload_n 1, 1) := by decide +kernel
theorem dX5_init_23 : decode cX5_init 23 = .ok (.anewarray 23, 3) := by decide +kernel
theorem dX5_init_26 : decode cX5_init 26 = .ok (.putfield 25, 3) := by decide +kernel
theorem dX5_init_29 : decode cX5_init 29 = .ok (.iconst 0, 1) := by decide +kernel
theorem dX5_init_30 : decode cX5_init 30 = .ok (.istore_n 3, 1) := by decide +kernel
theorem dX5_init_31 : decode cX5_init 31 = .ok (.iload_n 3, 1) := by decide +kernel
theorem dX5_init_32 : decode cX5_init 32 = .ok (.iload_n 1, 1) := by decide +kernel
theorem dX5_init_33 : decode cX5_init 33 = .ok (.if_icmp .ge 22, 3) := by decide +kernel
theorem dX5_init_36 : decode cX5_init 36 = .ok (.aload_n 0, 1) := by decide +kernel
theorem dX5_init_37 : decode cX5_init 37 = .ok (.getfield 25, 3) := by decide +kernel
theorem dX5_init_40 : decode cX5_init 40 = .ok (.iload_n 3, 1) := by decide +kernel
theorem dX5_init_41 : decode cX5_init 41 = .ok (.new 23, 3) := by decide +kernel
theorem dX5_init_44 : decode cX5_init 44 = .ok (.dup, 1) := by decide +kernel
theorem dX5_init_45 : decode cX5_init 45 = .ok (.invokespecial 29, 3) := by decide +kernel
theorem dX5_init_48 : decode cX5_init 48 = .ok (.aastore, 1) := by decide +kernel
theorem dX5_init_49 : decode cX5_init 49 = .ok (.iinc 3 1, 3) := by decide +kernel
theorem dX5_init_52 : decode cX5_init 52 = .ok (.goto (-21), 3) := by decide +kernel
theorem dX5_init_55 : decode cX5_init 55 = .ok (.return_, 1) := by decide +kernel
theorem dX5_partitionFor_0 : decode cX5_partitionFor 0 = .ok (.iload_n 1, 1) := by decide +kernel
theorem dX5_partitionFor_1 : decode cX5_partitionFor 1 = .ok (.iconst (-1), 1) := by decide +kernel
theorem dX5_partitionFor_2 : decode cX5_partitionFor 2 = .ok (.if_icmp .eq 16, 3) := by decide +kernel
theorem dX5_partitionFor_5 : decode cX5_partitionFor 5 = .ok (.aload_n 0, 1) := by decide +kernel
theorem dX5_partitionFor_6 : decode cX5_partitionFor 6 = .ok (.getfield 25, 3) := by decide +kernel
theorem dX5_partitionFor_9 : decode cX5_partitionFor 9 = .ok (.iload_n 1, 1) := by decide +kernel
theorem dX5_partitionFor_10 : decode cX5_partitionFor 10 = .ok (.aload_n 0, 1) := by decide +kernel
theorem dX5_partitionFor_11 : decode cX5_partitionFor 11 = .ok (.getfield 25, 3) := by decide +kernel
theorem dX5_partitionFor_14 : decode cX5_partitionFor 14 = .ok (.arraylength, 1) := by decide +kernel
theorem dX5_partitionFor_15 : decode cX5_partitionFor 15 = .ok (.irem, 1) := by decide +kernel
theorem dX5_partitionFor_16 : decode cX5_partitionFor 16 = .ok (.aaload, 1) := by decide +kernel
theorem dX5_partitionFor_17 : decode cX5_partitionFor 17 = .ok (.areturn, 1) := by decide +kernel
theorem dX5_partitionFor_18 : decode cX5_partitionFor 18 = .ok (.aload_n 0, 1) := by decide +kernel
theorem dX5_partitionFor_19 : decode cX5_partitionFor 19 = .ok (.getfield 25, 3) := by decide +kernel
theorem dX5_partitionFor_22 : decode cX5_partitionFor 22 = .ok (.iconst 0, 1) := by decide +kernel
theorem dX5_partitionFor_23 : decode cX5_partitionFor 23 = .ok (.aaload, 1) := by decide +kernel
theorem dX5_partitionFor_24 : decode cX5_partitionFor 24 = .ok (.astore_n 2, 1) := by decide +kernel
theorem dX5_partitionFor_25 : decode cX5_partitionFor 25 = .ok (.iconst 1, 1) := by decide +kernel
theorem dX5_partitionFor_26 : decode cX5_partitionFor 26 = .ok (.istore_n 3, 1) := by decide +kernel
theorem dX5_partitionFor_27 : decode cX5_partitionFor 27 = .ok (.iload_n 3, 1) := by decide +kernel
theorem dX5_partitionFor_28 : decode cX5_partitionFor 28 = .ok (.aload_n 0, 1) := by decide +kernel
theorem dX5_partitionFor_29 : decode cX5_partitionFor 29 = .ok (.getfield 25, 3) := by decide +kernel
theorem dX5_partitionFor_32 : decode cX5_partitionFor 32 = .ok (.arraylength, 1) := by decide +kernel
theorem dX5_partitionFor_33 : decode cX5_partitionFor 33 = .ok (.if_icmp .ge 32, 3) := by decide +kernel
theorem dX5_partitionFor_36 : decode cX5_partitionFor 36 = .ok (.aload_n 0, 1) := by decide +kernel
theorem dX5_partitionFor_37 : decode cX5_partitionFor 37 = .ok (.getfield 25, 3) := by decide +kernel
theorem dX5_partitionFor_40 : decode cX5_partitionFor 40 = .ok (.iload_n 3, 1) := by decide +kernel
theorem dX5_partitionFor_41 : decode cX5_partitionFor 41 = .ok (.aaload, 1) := by decide +kernel
theorem dX5_partitionFor_42 : decode cX5_partitionFor 42 = .ok (.invokevirtual 30, 3) := by decide +kernel
theorem dX5_partitionFor_45 : decode cX5_partitionFor 45 = .ok (.aload_n 2, 1) := by decide +kernel
theorem dX5_partitionFor_46 : decode cX5_partitionFor 46 = .ok (.invokevirtual 30, 3) := by decide +kernel
theorem dX5_partitionFor_49 : decode cX5_partitionFor 49 = .ok (.if_icmp .ge 10, 3) := by decide +kernel
theorem dX5_partitionFor_52 : decode cX5_partitionFor 52 = .ok (.aload_n 0, 1) := by decide +kernel
theorem dX5_partitionFor_53 : decode cX5_partitionFor 53 = .ok (.getfield 25, 3) := by decide +kernel
theorem dX5_partitionFor_56 : decode cX5_partitionFor 56 = .ok (.iload_n 3, 1) := by decide +kernel
theorem dX5_partitionFor_57 : decode cX5_partitionFor 57 = .ok (.aaload, 1) := by decide +kernel
theorem dX5_partitionFor_58 : decode cX5_partitionFor 58 = .ok (.astore_n 2, 1) := by decide +kernel
theorem dX5_partitionFor_59 : decode cX5_partitionFor 59 = .ok (.iinc 3 1, 3) := by decide +kernel
theorem dX5_partitionFor_62 : decode cX5_partitionFor 62 = .ok (.goto (-35), 3) := by decide +kernel
theorem dX5_partitionFor_65 : decode cX5_partitionFor 65 = .ok (.aload_n 2, 1) := by decide +kernel
theorem dX5_partitionFor_66 : decode cX5_partitionFor 66 = .ok (.areturn, 1) := by decide +kernel
theorem dX5_settlePending_0 : decode cX5_settlePending 0 = .ok (.iconst 0, 1) := by decide +kernel
theorem dX5_settlePending_1 : decode cX5_settlePending 1 = .ok (.istore_n 3, 1) := by decide +kernel
theorem dX5_settlePending_2 : decode cX5_settlePending 2 = .ok (.iconst 0, 1) := by decide +kernel
theorem dX5_settlePending_3 : decode cX5_settlePending 3 = .ok (.istore 4, 2) := by decide +kernel
theorem dX5_settlePending_5 : decode cX5_settlePending 5 = .ok (.iload 4, 2) := by decide +kernel
theorem dX5_settlePending_7 : decode cX5_settlePending 7 = .ok (.aload_n 0, 1) := by decide +kernel
theorem dX5_settlePending_8 : decode cX5_settlePending 8 = .ok (.getfield 25, 3) := by decide +kernel
theorem dX5_settlePending_11 : decode cX5_settlePending 11 = .ok (.arraylength, 1) := by decide +kernel
theorem dX5_settlePending_12 : decode cX5_settlePending 12 = .ok (.if_icmp .ge 24, 3) := by decide +kernel
theorem dX5_settlePending_15 : decode cX5_settlePending 15 = .ok (.iload_n 3, 1) := by decide +kernel
theorem dX5_settlePending_16 : decode cX5_settlePending 16 = .ok (.aload_n 0, 1) := by decide +kernel
theorem dX5_settlePending_17 : decode cX5_settlePending 17 = .ok (.getfield 25, 3) := by decide +kernel
theorem dX5_settlePending_20 : decode cX5_settlePending 20 = .ok (.iload 4, 2) := by decide +kernel
theorem dX5_settlePending_22 : decode cX5_settlePending 22 = .ok (.aaload, 1) := by decide +kernel
theorem dX5_settlePending_23 : decode cX5_settlePending 23 = .ok (.iload_n 1, 1) := by decide +kernel
theorem dX5_settlePending_24 : decode cX5_settlePending 24 = .ok (.iload_n 2, 1) := by decide +kernel
theorem dX5_settlePending_25 : decode cX5_settlePending 25 = .ok (.invokevirtual 34, 3) := by decide +kernel
theorem dX5_settlePending_28 : decode cX5_settlePending 28 = .ok (.iadd, 1) := by decide +kernel
theorem dX5_settlePending_29 : decode cX5_settlePending 29 = .ok (.istore_n 3, 1) := by decide +kernel
theorem dX5_settlePending_30 : decode cX5_settlePending 30 = .ok (.iinc 4 1, 3) := by decide +kernel
theorem dX5_settlePending_33 : decode cX5_settlePending 33 = .ok (.goto (-28), 3) := by decide +kernel
theorem dX5_settlePending_36 : decode cX5_settlePending 36 = .ok (.iload_n 3, 1) := by decide +kernel
theorem dX5_settlePending_37 : decode cX5_settlePending 37 = .ok (.ireturn, 1) := by decide +kernel
theorem dX5_dropOld_0 : decode cX5_dropOld 0 = .ok (.aload_n 0, 1) := by decide +kernel
theorem dX5_dropOld_1 : decode cX5_dropOld 1 = .ok (.getfield 15, 3) := by decide +kernel
theorem dX5_dropOld_4 : decode cX5_dropOld 4 = .ok (.ifCond .ne 4, 3) := by decide +kernel
theorem dX5_dropOld_7 : decode cX5_dropOld 7 = .ok (.return_, 1) := by decide +kernel
theorem dX5_dropOld_8 : decode cX5_dropOld 8 = .ok (.iconst 0, 1) := by decide +kernel
theorem dX5_dropOld_9 : decode cX5_dropOld 9 = .ok (.istore_n 2, 1) := by decide +kernel
theorem dX5_dropOld_10 : decode cX5_dropOld 10 = .ok (.iload_n 2, 1) := by decide +kernel
theorem dX5_dropOld_11 : decode cX5_dropOld 11 = .ok (.aload_n 0, 1) := by decide +kernel
theorem dX5_dropOld_12 : decode cX5_dropOld 12 = .ok (.getfield 25, 3) := by decide +kernel
theorem dX5_dropOld_15 : decode cX5_dropOld 15 = .ok (.arraylength, 1) := by decide +kernel
theorem dX5_dropOld_16 : decode cX5_dropOld 16 = .ok (.if_icmp .ge 23, 3) := by decide +kernel
theorem dX5_dropOld_19 : decode cX5_dropOld 19 = .ok (.aload_n 0, 1) := by decide +kernel
theorem dX5_dropOld_20 : decode cX5_dropOld 20 = .ok (.getfield 25, 3) := by decide +kernel
theorem dX5_dropOld_23 : decode cX5_dropOld 23 = .ok (.iload_n 2, 1) := by decide +kernel
theorem dX5_dropOld_24 : decode cX5_dropOld 24 = .ok (.aaload, 1) := by decide +kernel
theorem dX5_dropOld_25 : decode cX5_dropOld 25 = .ok (.iload_n 1, 1) := by decide +kernel
theorem dX5_dropOld_26 : decode cX5_dropOld 26 = .ok (.aload_n 0, 1) := by decide +kernel
theorem dX5_dropOld_27 : decode cX5_dropOld 27 = .ok (.getfield 15, 3) := by decide +kernel
theorem dX5_dropOld_30 : decode cX5_dropOld 30 = .ok (.invokevirtual 38, 3) := by decide +kernel
theorem dX5_dropOld_33 : decode cX5_dropOld 33 = .ok (.iinc 2 1, 3) := by decide +kernel
theorem dX5_dropOld_36 : decode cX5_dropOld 36 = .ok (.goto (-26), 3) := by decide +kernel
theorem dX5_dropOld_39 : decode cX5_dropOld 39 = .ok (.return_, 1) := by decide +kernel
theorem dX5_dropOutdated_0 : decode cX5_dropOutdated 0 = .ok (.iconst 0, 1) := by decide +kernel
theorem dX5_dropOutdated_1 : decode cX5_dropOutdated 1 = .ok (.istore_n 1, 1) := by decide +kernel
theorem dX5_dropOutdated_2 : decode cX5_dropOutdated 2 = .ok (.iconst 0, 1) := by decide +kernel
theorem dX5_dropOutdated_3 : decode cX5_dropOutdated 3 = .ok (.istore_n 2, 1) := by decide +kernel
theorem dX5_dropOutdated_4 : decode cX5_dropOutdated 4 = .ok (.iload_n 2, 1) := by decide +kernel
theorem dX5_dropOutdated_5 : decode cX5_dropOutdated 5 = .ok (.aload_n 0, 1) := by decide +kernel
theorem dX5_dropOutdated_6 : decode cX5_dropOutdated 6 = .ok (.getfield 25, 3) := by decide +kernel
theorem dX5_dropOutdated_9 : decode cX5_dropOutdated 9 = .ok (.arraylength, 1) := by decide +kernel
theorem dX5_dropOutdated_10 : decode cX5_dropOutdated 10 = .ok (.if_icmp .ge 21, 3) := by decide +kernel
theorem dX5_dropOutdated_13 : decode cX5_dropOutdated 13 = .ok (.iload_n 1, 1) := by decide +kernel
theorem dX5_dropOutdated_14 : decode cX5_dropOutdated 14 = .ok (.aload_n 0, 1) := by decide +kernel
theorem dX5_dropOutdated_15 : decode cX5_dropOutdated 15 = .ok (.getfield 25, 3) := by decide +kernel
theorem dX5_dropOutdated_18 : decode cX5_dropOutdated 18 = .ok (.iload_n 2, 1) := by decide +kernel
theorem dX5_dropOutdated_19 : decode cX5_dropOutdated 19 = .ok (.aaload, 1) := by decide +kernel
theorem dX5_dropOutdated_20 : decode cX5_dropOutdated 20 = .ok (.invokevirtual 42, 3) := by decide +kernel
theorem dX5_dropOutdated_23 : decode cX5_dropOutdated 23 = .ok (.iadd, 1) := by decide +kernel
theorem dX5_dropOutdated_24 : decode cX5_dropOutdated 24 = .ok (.istore_n 1, 1) := by decide +kernel
theorem dX5_dropOutdated_25 : decode cX5_dropOutdated 25 = .ok (.iinc 2 1, 3) := by decide +kernel
theorem dX5_dropOutdated_28 : decode cX5_dropOutdated 28 = .ok (.goto (-24), 3) := by decide +kernel
theorem dX5_dropOutdated_31 : decode cX5_dropOutdated 31 = .ok (.iload_n 1, 1) := by decide +kernel
theorem dX5_dropOutdated_32 : decode cX5_dropOutdated 32 = .ok (.ireturn, 1) := by decide +kernel
theorem dX5_countOutdated_0 : decode cX5_countOutdated 0 = .ok (.iconst 0, 1) := by decide +kernel
theorem dX5_countOutdated_1 : decode cX5_countOutdated 1 = .ok (.istore_n 1, 1) := by decide +kernel
theorem dX5_countOutdated_2 : decode cX5_countOutdated 2 = .ok (.iconst 0, 1) := by decide +kernel
theorem dX5_countOutdated_3 : decode cX5_countOutdated 3 = .ok (.istore_n 2, 1) := by decide +kernel
theorem dX5_countOutdated_4 : decode cX5_countOutdated 4 = .ok (.iload_n 2, 1) := by decide +kernel
theorem dX5_countOutdated_5 : decode cX5_countOutdated 5 = .ok (.aload_n 0, 1) := by decide +kernel
theorem dX5_countOutdated_6 : decode cX5_countOutdated 6 = .ok (.getfield 25, 3) := by decide +kernel
theorem dX5_countOutdated_9 : decode cX5_countOutdated 9 = .ok (.arraylength, 1) := by decide +kernel
theorem dX5_countOutdated_10 : decode cX5_countOutdated 10 = .ok (.if_icmp .ge 21, 3) := by decide +kernel
theorem dX5_countOutdated_13 : decode cX5_countOutdated 13 = .ok (.iload_n 1, 1) := by decide +kernel
theorem dX5_countOutdated_14 : decode cX5_countOutdated 14 = .ok (.aload_n 0, 1) := by decide +kernel
theorem dX5_countOutdated_15 : decode cX5_countOutdated 15 = .ok (.getfield 25, 3) := by decide +kernel
theorem dX5_countOutdated_18 : decode cX5_countOutdated 18 = .ok (.iload_n 2, 1) := by decide +kernel
theorem dX5_countOutdated_19 : decode cX5_countOutdated 19 = .ok (.aaload, 1) := by decide +kernel
theorem dX5_countOutdated_20 : decode cX5_countOutdated 20 = .ok (.invokevirtual 45, 3) := by decide +kernel
theorem dX5_countOutdated_23 : decode cX5_countOutdated 23 = .ok (.iadd, 1) := by decide +kernel
theorem dX5_countOutdated_24 : decode cX5_countOutdated 24 = .ok (.istore_n 1, 1) := by decide +kernel
theorem dX5_countOutdated_25 : decode cX5_countOutdated 25 = .ok (.iinc 2 1, 3) := by decide +kernel
theorem dX5_countOutdated_28 : decode cX5_countOutdated 28 = .ok (.goto (-24), 3) := by decide +kernel
theorem dX5_countOutdated_31 : decode cX5_countOutdated 31 = .ok (.iload_n 1, 1) := by decide +kernel
theorem dX5_countOutdated_32 : decode cX5_countOutdated 32 = .ok (.ireturn, 1) := by decide +kernel
theorem dX5_countKept_0 : decode cX5_countKept 0 = .ok (.iconst 0, 1) := by decide +kernel
theorem dX5_countKept_1 : decode cX5_countKept 1 = .ok (.istore_n 1, 1) := by decide +kernel
theorem dX5_countKept_2 : decode cX5_countKept 2 = .ok (.iconst 0, 1) := by decide +kernel
theorem dX5_countKept_3 : decode cX5_countKept 3 = .ok (.istore_n 2, 1) := by decide +kernel
theorem dX5_countKept_4 : decode cX5_countKept 4 = .ok (.iload_n 2, 1) := by decide +kernel
theorem dX5_countKept_5 : decode cX5_countKept 5 = .ok (.aload_n 0, 1) := by decide +kernel
theorem dX5_countKept_6 : decode cX5_countKept 6 = .ok (.getfield 25, 3) := by decide +kernel
theorem dX5_countKept_9 : decode cX5_countKept 9 = .ok (.arraylength, 1) := by decide +kernel
theorem dX5_countKept_10 : decode cX5_countKept 10 = .ok (.if_icmp .ge 21, 3) := by decide +kernel
theorem dX5_countKept_13 : decode cX5_countKept 13 = .ok (.iload_n 1, 1) := by decide +kernel
theorem dX5_countKept_14 : decode cX5_countKept 14 = .ok (.aload_n 0, 1) := by decide +kernel
theorem dX5_countKept_15 : decode cX5_countKept 15 = .ok (.getfield 25, 3) := by decide +kernel
theorem dX5_countKept_18 : decode cX5_countKept 18 = .ok (.iload_n 2, 1) := by decide +kernel
theorem dX5_countKept_19 : decode cX5_countKept 19 = .ok (.aaload, 1) := by decide +kernel
theorem dX5_countKept_20 : decode cX5_countKept 20 = .ok (.invokevirtual 48, 3) := by decide +kernel
theorem dX5_countKept_23 : decode cX5_countKept 23 = .ok (.iadd, 1) := by decide +kernel
theorem dX5_countKept_24 : decode cX5_countKept 24 = .ok (.istore_n 1, 1) := by decide +kernel
theorem dX5_countKept_25 : decode cX5_countKept 25 = .ok (.iinc 2 1, 3) := by decide +kernel
theorem dX5_countKept_28 : decode cX5_countKept 28 = .ok (.goto (-24), 3) := by decide +kernel
theorem dX5_countKept_31 : decode cX5_countKept 31 = .ok (.iload_n 1, 1) := by decide +kernel
theorem dX5_countKept_32 : decode cX5_countKept 32 = .ok (.ireturn, 1) := by decide +kernel
theorem dX6_init_0 : decode cX6_init 0 = .ok (.aload_n 0, 1) := by decide +kernel
theorem dX6_init_1 : decode cX6_init 1 = .ok (.invokespecial 1, 3) := by decide +kernel
theorem dX6_init_4 : decode cX6_init 4 = .ok (.aload_n 0, 1) := by decide +kernel
theorem dX6_init_5 : decode cX6_init 5 = .ok (.new 7, 3) := by decide +kernel
theorem dX6_init_8 : decode cX6_init 8 = .ok (.dup, 1) := by decide +kernel
theorem dX6_init_9 : decode cX6_init 9 = .ok (.invokespecial 9, 3) := by decide +kernel
theorem dX6_init_12 : decode cX6_init 12 = .ok (.putfield 10, 3) := by decide +kernel
theorem dX6_init_15 : decode cX6_init 15 = .ok (.aload_n 0, 1) := by decide +kernel
theorem dX6_init_16 : decode cX6_init 16 = .ok (.new 7, 3) := by decide +kernel
theorem dX6_init_19 : decode cX6_init 19 = .ok (.dup, 1) := by decide +kernel
theorem dX6_init_20 : decode cX6_init 20 = .ok (.invokespecial 9, 3) := by decide +kernel
theorem dX6_init_23 : decode cX6_init 23 = .ok (.putfield 16, 3) := by decide +kernel
theorem dX6_init_26 : decode cX6_init 26 = .ok (.aload_n 0, 1) := by decide +kernel
theorem dX6_init_27 : decode cX6_init 27 = .ok (.new 19, 3) := by decide +kernel
theorem dX6_init_30 : decode cX6_init 30 = .ok (.dup, 1) := by decide +kernel
theorem dX6_init_31 : decode cX6_init 31 = .ok (.invokespecial 21, 3) := by decide +kernel
theorem dX6_init_34 : decode cX6_init 34 = .ok (.putfield 22, 3) := by decide +kernel
theorem dX6_init_37 : decode cX6_init 37 = .ok (.aload_n 0, 1) := by decide +kernel
theorem dX6_init_38 : decode cX6_init 38 = .ok (.iconst 4, 1) := by decide +kernel
theorem dX6_init_39 : decode cX6_init 39 = .ok (.newarray .boolean, 2) := by decide +kernel
theorem dX6_init_41 : decode cX6_init 41 = .ok (.putfield 26, 3) := by decide +kernel
theorem dX6_init_44 : decode cX6_init 44 = .ok (.aload_n 0, 1) := by decide +kernel
theorem dX6_init_45 : decode cX6_init 45 = .ok (.iconst 0, 1) := by decide +kernel
theorem dX6_init_46 : decode cX6_init 46 = .ok (.putfield 30, 3) := by decide +kernel
theorem dX6_init_49 : decode cX6_init 49 = .ok (.aload_n 0, 1) := by decide +kernel
theorem dX6_init_50 : decode cX6_init 50 = .ok (.iconst 0, 1) := by decide +kernel
theorem dX6_init_51 : decode cX6_init 51 = .ok (.putfield 34, 3) := by decide +kernel
theorem dX6_init_54 : decode cX6_init 54 = .ok (.aload_n 0, 1) := by decide +kernel
theorem dX6_init_55 : decode cX6_init 55 = .ok (.iconst 0, 1) := by decide +kernel
theorem dX6_init_56 : decode cX6_init 56 = .ok (.putfield 37, 3) := by decide +kernel
theorem dX6_init_59 : decode cX6_init 59 = .ok (.aload_n 0, 1) := by decide +kernel
theorem dX6_init_60 : decode cX6_init 60 = .ok (.iconst 2, 1) := by decide +kernel
theorem dX6_init_61 : decode cX6_init 61 = .ok (.putfield 40, 3) := by decide +kernel
theorem dX6_init_64 : decode cX6_init 64 = .ok (.aload_n 0, 1) := by decide +kernel
theorem dX6_init_65 : decode cX6_init 65 = .ok (.bipush 10, 2) := by decide +kernel
theorem dX6_init_67 : decode cX6_init 67 = .ok (.putfield 43, 3) := by decide +kernel
theorem dX6_init_70 : decode cX6_init 70 = .ok (.return_, 1) := by decide +kernel
theorem dX6_topic_0 : decode cX6_topic 0 = .ok (.iload_n 1, 1) := by decide +kernel
theorem dX6_topic_1 : decode cX6_topic 1 = .ok (.iconst 1, 1) := by decide +kernel
theorem dX6_topic_2 : decode cX6_topic 2 = .ok (.iconst 4, 1) := by decide +kernel
theorem dX6_topic_3 : decode cX6_topic 3 = .ok (.invokestatic 46, 3) := by decide +kernel
theorem dX6_topic_6 : decode cX6_topic 6 = .ok (.ifCond .ne 13, 3) := by decide +kernel
theorem dX6_topic_9 : decode cX6_topic 9 = .ok (.new 50, 3) := by decide +kernel
theorem dX6_topic_12 : decode cX6_topic 12 = .ok (.dup, 1) := by decide +kernel
theorem dX6_topic_13 : decode cX6_topic 13 = .ok (.ldc 52, 2) := by decide +kernel
theorem dX6_topic_15 : decode cX6_topic 15 = .ok (.invokespecial 54, 3) := by decide +kernel
theorem dX6_topic_18 : decode cX6_topic 18 = .ok (.athrow, 1) := by decide +kernel
theorem dX6_topic_19 : decode cX6_topic 19 = .ok (.aload_n 0, 1) := by decide +kernel
theorem dX6_topic_20 : decode cX6_topic 20 = .ok (.getfield 10, 3) := by decide +kernel
theorem dX6_topic_23 : decode cX6_topic 23 = .ok (.invokevirtual 57, 3) := by decide +kernel
theorem dX6_topic_26 : decode cX6_topic 26 = .ok (.iconst 4, 1) := by decide +kernel
theorem dX6_topic_27 : decode cX6_topic 27 = .ok (.if_icmp .lt 13, 3) := by decide +kernel
theorem dX6_topic_30 : decode cX6_topic 30 = .ok (.new 61, 3) := by decide +kernel
theorem dX6_topic_33 : decode cX6_topic 33 = .ok (.dup, 1) := by decide +kernel
theorem dX6_topic_34 : decode cX6_topic 34 = .ok (.ldc 63, 2) := by decide +kernel
theorem dX6_topic_36 : decode cX6_topic 36 = .ok (.invokespecial 65, 3) := by decide +kernel
theorem dX6_topic_39 : decode cX6_topic 39 = .ok (.athrow, 1) := by decide +kernel
theorem dX6_topic_40 : decode cX6_topic 40 = .ok (.aload_n 0, 1) := by decide +kernel
theorem dX6_topic_41 : decode cX6_topic 41 = .ok (.getfield 10, 3) := by decide +kernel
theorem dX6_topic_44 : decode cX6_topic 44 = .ok (.new 66, 3) := by decide +kernel
theorem dX6_topic_47 : decode cX6_topic 47 = .ok (.dup, 1) := by decide +kernel
theorem dX6_topic_48 : decode cX6_topic 48 = .ok (.iload_n 1, 1) := by decide +kernel
theorem dX6_topic_49 : decode cX6_topic 49 = .ok (.iload_n 2, 1) := by decide +kernel
theorem dX6_topic_50 : decode cX6_topic 50 = .ok (.invokespecial 68, 3) := by decide +kernel
theorem dX6_topic_53 : decode cX6_topic 53 = .ok (.invokevirtual 71, 3) := by decide +kernel
theorem dX6_topic_56 : decode cX6_topic 56 = .ok (.pop, 1) := by decide +kernel
theorem dX6_topic_57 : decode cX6_topic 57 = .ok (.aload_n 0, 1) := by decide +kernel
theorem dX6_topic_58 : decode cX6_topic 58 = .ok (.getfield 10, 3) := by decide +kernel
theorem dX6_topic_61 : decode cX6_topic 61 = .ok (.invokevirtual 57, 3) := by decide +kernel
theorem dX6_topic_64 : decode cX6_topic 64 = .ok (.iconst 1, 1) := by decide +kernel
theorem dX6_topic_65 : decode cX6_topic 65 = .ok (.isub, 1) := by decide +kernel
theorem dX6_topic_66 : decode cX6_topic 66 = .ok (.ireturn, 1) := by decide +kernel
theorem dX6_send_0 : decode cX6_send 0 = .ok (.aload_n 0, 1) := by decide +kernel
theorem dX6_send_1 : decode cX6_send 1 = .ok (.iload_n 1, 1) := by decide +kernel
theorem dX6_send_2 : decode cX6_send 2 = .ok (.invokevirtual 75, 3) := by decide +kernel
theorem dX6_send_5 : decode cX6_send 5 = .ok (.astore 6, 2) := by decide +kernel
theorem dX6_send_7 : decode cX6_send 7 = .ok (.iload_n 2, 1) := by decide +kernel
theorem dX6_send_8 : decode cX6_send 8 = .ok (.invokestatic 79, 3) := by decide +kernel
theorem dX6_send_11 : decode cX6_send 11 = .ok (.iload_n 3, 1) := by decide +kernel
theorem dX6_send_12 : decode cX6_send 12 = .ok (.ifCond .lt 26, 3) := by decide +kernel
theorem dX6_send_15 : decode cX6_send 15 = .ok (.iload 4, 2) := by decide +kernel
theorem dX6_send_17 : decode cX6_send 17 = .ok (.iconst (-1), 1) := by decide +kernel
theorem dX6_send_18 : decode cX6_send 18 = .ok (.bipush 9, 2) := by decide +kernel
theorem dX6_send_20 : decode cX6_send 20 = .ok (.invokestatic 46, 3) := by decide +kernel
theorem dX6_send_23 : decode cX6_send 23 = .ok (.ifCond .eq 15, 3) := by decide +kernel
theorem dX6_send_26 : decode cX6_send 26 = .ok (.iload 5, 2) := by decide +kernel
theorem dX6_send_28 : decode cX6_send 28 = .ok (.iconst 0, 1) := by decide +kernel
theorem dX6_send_29 : decode cX6_send 29 = .ok (.sipush 999, 3) := by decide +kernel
theorem dX6_send_32 : decode cX6_send 32 = .ok (.invokestatic 46, 3) := by decide +kernel
theorem dX6_send_35 : decode cX6_send 35 = .ok (.ifCond .ne 13, 3) := by decide +kernel
theorem dX6_send_38 : decode cX6_send 38 = .ok (.new 50, 3) := by decide +kernel
theorem dX6_send_41 : decode cX6_send 41 = .ok (.dup, 1) := by decide +kernel
theorem dX6_send_42 : decode cX6_send 42 = .ok (.ldc 83, 2) := by decide +kernel
theorem dX6_send_44 : decode cX6_send 44 = .ok (.invokespecial 54, 3) := by decide +kernel
theorem dX6_send_47 : decode cX6_send 47 = .ok (.athrow, 1) := by decide +kernel
theorem dX6_send_48 : decode cX6_send 48 = .ok (.aload 6, 2) := by decide +kernel
theorem dX6_send_50 : decode cX6_send 50 = .ok (.getfield 85, 3) := by decide +kernel
theorem dX6_send_53 : decode cX6_send 53 = .ok (.iload_n 2, 1) := by decide +kernel
theorem dX6_send_54 : decode cX6_send 54 = .ok (.iaload, 1) := by decide +kernel
theorem dX6_send_55 : decode cX6_send 55 = .ok (.istore 7, 2) := by decide +kernel
theorem dX6_send_57 : decode cX6_send 57 = .ok (.iload_n 3, 1) := by decide +kernel
theorem dX6_send_58 : decode cX6_send 58 = .ok (.iload 7, 2) := by decide +kernel
theorem dX6_send_60 : decode cX6_send 60 = .ok (.if_icmp .le 13, 3) := by decide +kernel
theorem dX6_send_63 : decode cX6_send 63 = .ok (.new 61, 3) := by decide +kernel
theorem dX6_send_66 : decode cX6_send 66 = .ok (.dup, 1) := by decide +kernel
theorem dX6_send_67 : decode cX6_send 67 = .ok (.ldc 89, 2) := by decide +kernel
theorem dX6_send_69 : decode cX6_send 69 = .ok (.invokespecial 65, 3) := by decide +kernel
theorem dX6_send_72 : decode cX6_send 72 = .ok (.athrow, 1) := by decide +kernel
theorem dX6_send_73 : decode cX6_send 73 = .ok (.iload_n 3, 1) := by decide +kernel
theorem dX6_send_74 : decode cX6_send 74 = .ok (.iload 7, 2) := by decide +kernel
theorem dX6_send_76 : decode cX6_send 76 = .ok (.if_icmp .ge 6, 3) := by decide +kernel
theorem dX6_send_79 : decode cX6_send 79 = .ok (.bipush (-2), 2) := by decide +kernel
theorem dX6_send_81 : decode cX6_send 81 = .ok (.ireturn, 1) := by decide +kernel
theorem dX6_send_82 : decode cX6_send 82 = .ok (.aload_n 0, 1) := by decide +kernel
theorem dX6_send_83 : decode cX6_send 83 = .ok (.getfield 34, 3) := by decide +kernel
theorem dX6_send_86 : decode cX6_send 86 = .ok (.bipush 80, 2) := by decide +kernel
theorem dX6_send_88 : decode cX6_send 88 = .ok (.if_icmp .lt 13, 3) := by decide +kernel
theorem dX6_send_91 : decode cX6_send 91 = .ok (.new 61, 3) := by decide +kernel
theorem dX6_send_94 : decode cX6_send 94 = .ok (.dup, 1) := by decide +kernel
theorem dX6_send_95 : decode cX6_send 95 = .ok (.ldc 91, 2) := by decide +kernel
theorem dX6_send_97 : decode cX6_send 97 = .ok (.invokespecial 65, 3) := by decide +kernel
theorem dX6_send_100 : decode cX6_send 100 = .ok (.athrow, 1) := by decide +kernel
theorem dX6_send_101 : decode cX6_send 101 = .ok (.aload_n 0, 1) := by decide +kernel
theorem dX6_send_102 : decode cX6_send 102 = .ok (.dup, 1) := by decide +kernel
theorem dX6_send_103 : decode cX6_send 103 = .ok (.getfield 34, 3) := by decide +kernel
theorem dX6_send_106 : decode cX6_send 106 = .ok (.iconst 1, 1) := by decide +kernel
theorem dX6_send_107 : decode cX6_send 107 = .ok (.iadd, 1) := by decide +kernel
theorem dX6_send_108 : decode cX6_send 108 = .ok (.putfield 34, 3) := by decide +kernel
theorem dX6_send_111 : decode cX6_send 111 = .ok (.aload 6, 2) := by decide +kernel
theorem dX6_send_113 : decode cX6_send 113 = .ok (.getfield 85, 3) := by decide +kernel
theorem dX6_send_116 : decode cX6_send 116 = .ok (.iload_n 2, 1) := by decide +kernel
theorem dX6_send_117 : decode cX6_send 117 = .ok (.dup2, 1) := by decide +kernel
theorem dX6_send_118 : decode cX6_send 118 = .ok (.iaload, 1) := by decide +kernel
theorem dX6_send_119 : decode cX6_send 119 = .ok (.iconst 1, 1) := by decide +kernel
theorem dX6_send_120 : decode cX6_send 120 = .ok (.iadd, 1) := by decide +kernel
theorem dX6_send_121 : decode cX6_send 121 = .ok (.iastore, 1) := by decide +kernel
theorem dX6_send_122 : decode cX6_send 122 = .ok (.aload_n 0, 1) := by decide +kernel
theorem dX6_send_123 : decode cX6_send 123 = .ok (.getfield 26, 3) := by decide +kernel
theorem dX6_send_126 : decode cX6_send 126 = .ok (.iload_n 2, 1) := by decide +kernel
theorem dX6_send_127 : decode cX6_send 127 = .ok (.baload, 1) := by decide +kernel
theorem dX6_send_128 : decode cX6_send 128 = .ok (.ifCond .eq 7, 3) := by decide +kernel
theorem dX6_send_131 : decode cX6_send 131 = .ok (.iconst 2, 1) := by decide +kernel
theorem dX6_send_132 : decode cX6_send 132 = .ok (.goto 4, 3) := by decide +kernel
theorem dX6_send_135 : decode cX6_send 135 = .ok (.iconst 0, 1) := by decide +kernel
theorem dX6_send_136 : decode cX6_send 136 = .ok (.istore 8, 2) := by decide +kernel
theorem dX6_send_138 : decode cX6_send 138 = .ok (.aload 6, 2) := by decide +kernel
theorem dX6_send_140 : decode cX6_send 140 = .ok (.iload 4, 2) := by decide +kernel
theorem dX6_send_142 : decode cX6_send 142 = .ok (.invokevirtual 93, 3) := by decide +kernel
theorem dX6_send_145 : decode cX6_send 145 = .ok (.new 97, 3) := by decide +kernel
theorem dX6_send_148 : decode cX6_send 148 = .ok (.dup, 1) := by decide +kernel
theorem dX6_send_149 : decode cX6_send 149 = .ok (.iload 4, 2) := by decide +kernel
theorem dX6_send_151 : decode cX6_send 151 = .ok (.iload 5, 2) := by decide +kernel
theorem dX6_send_153 : decode cX6_send 153 = .ok (.aload_n 0, 1) := by decide +kernel
theorem dX6_send_154 : decode cX6_send 154 = .ok (.getfield 37, 3) := by decide +kernel
theorem dX6_send_157 : decode cX6_send 157 = .ok (.iload_n 2, 1) := by decide +kernel
theorem dX6_send_158 : decode cX6_send 158 = .ok (.iload 8, 2) := by decide +kernel
theorem dX6_send_160 : decode cX6_send 160 = .ok (.invokespecial 99, 3) := by decide +kernel
theorem dX6_send_163 : decode cX6_send 163 = .ok (.invokevirtual 102, 3) := by decide +kernel
theorem dX6_send_166 : decode cX6_send 166 = .ok (.ireturn, 1) := by decide +kernel
theorem dX6_begin_0 : decode cX6_begin 0 = .ok (.iload_n 1, 1) := by decide +kernel
theorem dX6_begin_1 : decode cX6_begin 1 = .ok (.invokestatic 79, 3) := by decide +kernel
theorem dX6_begin_4 : decode cX6_begin 4 = .ok (.aload_n 0, 1) := by decide +kernel
theorem dX6_begin_5 : decode cX6_begin 5 = .ok (.getfield 26, 3) := by decide +kernel
theorem dX6_begin_8 : decode cX6_begin 8 = .ok (.iload_n 1, 1) := by decide +kernel
theorem dX6_begin_9 : decode cX6_begin 9 = .ok (.baload, 1) := by decide +kernel
theorem dX6_begin_10 : decode cX6_begin 10 = .ok (.ifCond .eq 13, 3) := by decide +kernel
theorem dX6_begin_13 : decode cX6_begin 13 = .ok (.new 61, 3) := by decide +kernel
theorem dX6_begin_16 : decode cX6_begin 16 = .ok (.dup, 1) := by decide +kernel
theorem dX6_begin_17 : decode cX6_begin 17 = .ok (.ldc 107, 2) := by decide +kernel
theorem dX6_begin_19 : decode cX6_begin 19 = .ok (.invokespecial 65, 3) := by decide +kernel
theorem dX6_begin_22 : decode cX6_begin 22 = .ok (.athrow, 1) := by decide +kernel
theorem dX6_begin_23 : decode cX6_begin 23 = .ok (.aload_n 0, 1) := by decide +kernel
theorem dX6_begin_24 : decode cX6_begin 24 = .ok (.getfield 26, 3) := by decide +kernel
theorem dX6_begin_27 : decode cX6_begin 27 = .ok (.iload_n 1, 1) := by decide +kernel
theorem dX6_begin_28 : decode cX6_begin 28 = .ok (.iconst 1, 1) := by decide +kernel
theorem dX6_begin_29 : decode cX6_begin 29 = .ok (.bastore, 1) := by decide +kernel
theorem dX6_begin_30 : decode cX6_begin 30 = .ok (.aload_n 0, 1) := by decide +kernel
theorem dX6_begin_31 : decode cX6_begin 31 = .ok (.dup, 1) := by decide +kernel
theorem dX6_begin_32 : decode cX6_begin 32 = .ok (.getfield 30, 3) := by decide +kernel
theorem dX6_begin_35 : decode cX6_begin 35 = .ok (.iconst 1, 1) := by decide +kernel
theorem dX6_begin_36 : decode cX6_begin 36 = .ok (.iadd, 1) := by decide +kernel
theorem dX6_begin_37 : decode cX6_begin 37 = .ok (.putfield 30, 3) := by decide +kernel
theorem dX6_begin_40 : decode cX6_begin 40 = .ok (.aload_n 0, 1) := by decide +kernel
theorem dX6_begin_41 : decode cX6_begin 41 = .ok (.getfield 30, 3) := by decide +kernel
theorem dX6_begin_44 : decode cX6_begin 44 = .ok (.ireturn, 1) := by decide +kernel
theorem dX6_end_0 : decode cX6_end 0 = .ok (.iload_n 1, 1) := by decide +kernel
theorem dX6_end_1 : decode cX6_end 1 = .ok (.invokestatic 79, 3) := by decide +kernel
theorem dX6_end_4 : decode cX6_end 4 = .ok (.aload_n 0, 1) := by decide +kernel
theorem dX6_end_5 : decode cX6_end 5 = .ok (.getfield 26, 3) := by decide +kernel
theorem dX6_end_8 : decode cX6_end 8 = .ok (.iload_n 1, 1) := by decide +kernel
theorem dX6_end_9 : decode cX6_end 9 = .ok (.baload, 1) := by decide +kernel
theorem dX6_end_10 : decode cX6_end 10 = .ok (.ifCond .ne 13, 3) := by decide +kernel
theorem dX6_end_13 : decode cX6_end 13 = .ok (.new 61, 3) := by decide +kernel
theorem dX6_end_16 : decode cX6_end 16 = .ok (.dup, 1) := by decide +kernel
theorem dX6_end_17 : decode cX6_end 17 = .ok (.ldc 109, 2) := by decide +kernel
theorem dX6_end_19 : decode cX6_end 19 = .ok (.invokespecial 65, 3) := by decide +kernel
theorem dX6_end_22 : decode cX6_end 22 = .ok (.athrow, 1) := by decide +kernel
theorem dX6_end_23 : decode cX6_end 23 = .ok (.aload_n 0, 1) := by decide +kernel
theorem dX6_end_24 : decode cX6_end 24 = .ok (.getfield 26, 3) := by decide +kernel
theorem dX6_end_27 : decode cX6_end 27 = .ok (.iload_n 1, 1) := by decide +kernel
theorem dX6_end_28 : decode cX6_end 28 = .ok (.iconst 0, 1) := by decide +kernel
theorem dX6_end_29 : decode cX6_end 29 = .ok (.bastore, 1) := by decide +kernel
theorem dX6_end_30 : decode cX6_end 30 = .ok (.iconst 0, 1) := by decide +kernel
theorem dX6_end_31 : decode cX6_end 31 = .ok (.istore_n 3, 1) := by decide +kernel
theorem dX6_end_32 : decode cX6_end 32 = .ok (.iconst 0, 1) := by decide +kernel
theorem dX6_end_33 : decode cX6_end 33 = .ok (.istore 4, 2) := by decide +kernel
theorem dX6_end_35 : decode cX6_end 35 = .ok (.iload 4, 2) := by decide +kernel
theorem dX6_end_37 : decode cX6_end 37 = .ok (.aload_n 0, 1) := by decide +kernel
theorem dX6_end_38 : decode cX6_end 38 = .ok (.getfield 10, 3) := by decide +kernel
theorem dX6_end_41 : decode cX6_end 41 = .ok (.invokevirtual 57, 3) := by decide +kernel
theorem dX6_end_44 : decode cX6_end 44 = .ok (.if_icmp .ge 37, 3) := by decide +kernel
theorem dX6_end_47 : decode cX6_end 47 = .ok (.iload_n 3, 1) := by decide +kernel
theorem dX6_end_48 : decode cX6_end 48 = .ok (.aload_n 0, 1) := by decide +kernel
theorem dX6_end_49 : decode cX6_end 49 = .ok (.getfield 10, 3) := by decide +kernel
theorem dX6_end_52 : decode cX6_end 52 = .ok (.iload 4, 2) := by decide +kernel
theorem dX6_end_54 : decode cX6_end 54 = .ok (.invokevirtual 111, 3) := by decide +kernel
theorem dX6_end_57 : decode cX6_end 57 = .ok (.checkcast 66, 3) := by decide +kernel
theorem dX6_end_60 : decode cX6_end 60 = .ok (.iload_n 1, 1) := by decide +kernel
theorem dX6_end_61 : decode cX6_end 61 = .ok (.iload_n 2, 1) := by decide +kernel
theorem dX6_end_62 : decode cX6_end 62 = .ok (.ifCond .eq 7, 3) := by decide +kernel
theorem dX6_end_65 : decode cX6_end 65 = .ok (.iconst 0, 1) := by decide +kernel
theorem dX6_end_66 : decode cX6_end 66 = .ok (.goto 4, 3) := by decide +kernel
theorem dX6_end_69 : decode cX6_end 69 = .ok (.iconst 1, 1) := by decide +kernel
theorem dX6_end_70 : decode cX6_end 70 = .ok (.invokevirtual 115, 3) := by decide +kernel
theorem dX6_end_73 : decode cX6_end 73 = .ok (.iadd, 1) := by decide +kernel
theorem dX6_end_74 : decode cX6_end 74 = .ok (.istore_n 3, 1) := by decide +kernel
theorem dX6_end_75 : decode cX6_end 75 = .ok (.iinc 4 1, 3) := by decide +kernel
theorem dX6_end_78 : decode cX6_end 78 = .ok (.goto (-43), 3) := by decide +kernel
theorem dX6_end_81 : decode cX6_end 81 = .ok (.aload_n 0, 1) := by decide +kernel
theorem dX6_end_82 : decode cX6_end 82 = .ok (.invokevirtual 119, 3) := by decide +kernel
theorem dX6_end_85 : decode cX6_end 85 = .ok (.iload_n 3, 1) := by decide +kernel
theorem dX6_end_86 : decode cX6_end 86 = .ok (.ireturn, 1) := by decide +kernel
theorem dX6_setKeep_0 : decode cX6_setKeep 0 = .ok (.aload_n 0, 1) := by decide +kernel
theorem dX6_setKeep_1 : decode cX6_setKeep 1 = .ok (.iload_n 1, 1) := by decide +kernel
theorem dX6_setKeep_2 : decode cX6_setKeep 2 = .ok (.invokevirtual 75, 3) := by decide +kernel
theorem dX6_setKeep_5 : decode cX6_setKeep 5 = .ok (.astore_n 3, 1) := by decide +kernel
theorem dX6_setKeep_6 : decode cX6_setKeep 6 = .ok (.iload_n 2, 1) := by decide +kernel
theorem dX6_setKeep_7 : decode cX6_setKeep 7 = .ok (.iconst 0, 1) := by decide +kernel
theorem dX6_setKeep_8 : decode cX6_setKeep 8 = .ok (.sipush 200, 3) := by decide +kernel
theorem dX6_setKeep_11 : decode cX6_setKeep 11 = .ok (.invokestatic 46, 3) := by decide +kernel
theorem dX6_setKeep_14 : decode cX6_setKeep 14 = .ok (.ifCond .ne 13, 3) := by decide +kernel
theorem dX6_setKeep_17 : decode cX6_setKeep 17 = .ok (.new 50, 3) := by decide +kernel
theorem dX6_setKeep_20 : decode cX6_setKeep 20 = .ok (.dup, 1) := by decide +kernel
theorem dX6_setKeep_21 : decode cX6_setKeep 21 = .ok (.ldc 122, 2) := by decide +kernel
theorem dX6_setKeep_23 : decode cX6_setKeep 23 = .ok (.invokespecial 54, 3) := by decide +kernel
theorem dX6_setKeep_26 : decode cX6_setKeep 26 = .ok (.athrow, 1) := by decide +kernel
theorem dX6_setKeep_27 : decode cX6_setKeep 27 = .ok (.aload_n 3, 1) := by decide +kernel
theorem dX6_setKeep_28 : decode cX6_setKeep 28 = .ok (.getfield 124, 3) := by decide +kernel
theorem dX6_setKeep_31 : decode cX6_setKeep 31 = .ok (.istore 4, 2) := by decide +kernel
theorem dX6_setKeep_33 : decode cX6_setKeep 33 = .ok (.aload_n 3, 1) := by decide +kernel
theorem dX6_setKeep_34 : decode cX6_setKeep 34 = .ok (.iload_n 2, 1) := by decide +kernel
theorem dX6_setKeep_35 : decode cX6_setKeep 35 = .ok (.putfield 124, 3) := by decide +kernel
theorem dX6_setKeep_38 : decode cX6_setKeep 38 = .ok (.iload 4, 2) := by decide +kernel
theorem dX6_setKeep_40 : decode cX6_setKeep 40 = .ok (.ireturn, 1) := by decide +kernel
theorem dX6_clean_0 : decode cX6_clean 0 = .ok (.aload_n 0, 1) := by decide +kernel
theorem dX6_clean_1 : decode cX6_clean 1 = .ok (.iload_n 1, 1) := by decide +kernel
theorem dX6_clean_2 : decode cX6_clean 2 = .ok (.invokevirtual 75, 3) := by decide +kernel
theorem dX6_clean_5 : decode cX6_clean 5 = .ok (.astore_n 2, 1) := by decide +kernel
theorem dX6_clean_6 : decode cX6_clean 6 = .ok (.aload_n 2, 1) := by decide +kernel
theorem dX6_clean_7 : decode cX6_clean 7 = .ok (.getfield 127, 3) := by decide +kernel
theorem dX6_clean_10 : decode cX6_clean 10 = .ok (.ifCond .ne 13, 3) := by decide +kernel
theorem dX6_clean_13 : decode cX6_clean 13 = .ok (.new 61, 3) := by decide +kernel
theorem dX6_clean_16 : decode cX6_clean 16 = .ok (.dup, 1) := by decide +kernel
theorem dX6_clean_17 : decode cX6_clean 17 = .ok (.ldc 131, 2) := by decide +kernel
theorem dX6_clean_19 : decode cX6_clean 19 = .ok (.invokespecial 65, 3) := by decide +kernel
theorem dX6_clean_22 : decode cX6_clean 22 = .ok (.athrow, 1) := by decide +kernel
theorem dX6_clean_23 : decode cX6_clean 23 = .ok (.aload_n 2, 1) := by decide +kernel
theorem dX6_clean_24 : decode cX6_clean 24 = .ok (.invokevirtual 133, 3) := by decide +kernel
theorem dX6_clean_27 : decode cX6_clean 27 = .ok (.istore_n 3, 1) := by decide +kernel
theorem dX6_clean_28 : decode cX6_clean 28 = .ok (.aload_n 0, 1) := by decide +kernel
theorem dX6_clean_29 : decode cX6_clean 29 = .ok (.invokevirtual 119, 3) := by decide +kernel
theorem dX6_clean_32 : decode cX6_clean 32 = .ok (.iload_n 3, 1) := by decide +kernel
theorem dX6_clean_33 : decode cX6_clean 33 = .ok (.ireturn, 1) := by decide +kernel
theorem dX6_setClock_0 : decode cX6_setClock 0 = .ok (.iload_n 1, 1) := by decide +kernel
theorem dX6_setClock_1 : decode cX6_setClock 1 = .ok (.aload_n 0, 1) := by decide +kernel
theorem dX6_setClock_2 : decode cX6_setClock 2 = .ok (.getfield 37, 3) := by decide +kernel
theorem dX6_setClock_5 : decode cX6_setClock 5 = .ok (.iconst 1, 1) := by decide +kernel
theorem dX6_setClock_6 : decode cX6_setClock 6 = .ok (.iadd, 1) := by decide +kernel
theorem dX6_setClock_7 : decode cX6_setClock 7 = .ok (.sipush 9999, 3) := by decide +kernel
theorem dX6_setClock_10 : decode cX6_setClock 10 = .ok (.invokestatic 46, 3) := by decide +kernel
theorem dX6_setClock_13 : decode cX6_setClock 13 = .ok (.ifCond .ne 13, 3) := by decide +kernel
theorem dX6_setClock_16 : decode cX6_setClock 16 = .ok (.new 50, 3) := by decide +kernel
theorem dX6_setClock_19 : decode cX6_setClock 19 = .ok (.dup, 1) := by decide +kernel
theorem dX6_setClock_20 : decode cX6_setClock 20 = .ok (.ldc 136, 2) := by decide +kernel
theorem dX6_setClock_22 : decode cX6_setClock 22 = .ok (.invokespecial 54, 3) := by decide +kernel
theorem dX6_setClock_25 : decode cX6_setClock 25 = .ok (.athrow, 1) := by decide +kernel
theorem dX6_setClock_26 : decode cX6_setClock 26 = .ok (.aload_n 0, 1) := by decide +kernel
theorem dX6_setClock_27 : decode cX6_setClock 27 = .ok (.iload_n 1, 1) := by decide +kernel
theorem dX6_setClock_28 : decode cX6_setClock 28 = .ok (.putfield 37, 3) := by decide +kernel
theorem dX6_setClock_31 : decode cX6_setClock 31 = .ok (.iconst 0, 1) := by decide +kernel
theorem dX6_setClock_32 : decode cX6_setClock 32 = .ok (.istore_n 2, 1) := by decide +kernel
theorem dX6_setClock_33 : decode cX6_setClock 33 = .ok (.iconst 0, 1) := by decide +kernel
theorem dX6_setClock_34 : decode cX6_setClock 34 = .ok (.istore_n 3, 1) := by decide +kernel
theorem dX6_setClock_35 : decode cX6_setClock 35 = .ok (.iload_n 3, 1) := by decide +kernel
theorem dX6_setClock_36 : decode cX6_setClock 36 = .ok (.aload_n 0, 1) := by decide +kernel
theorem dX6_setClock_37 : decode cX6_setClock 37 = .ok (.getfield 16, 3) := by decide +kernel
theorem dX6_setClock_40 : decode cX6_setClock 40 = .ok (.invokevirtual 57, 3) := by decide +kernel
theorem dX6_setClock_43 : decode cX6_setClock 43 = .ok (.if_icmp .ge 28, 3) := by decide +kernel
theorem dX6_setClock_46 : decode cX6_setClock 46 = .ok (.iload_n 2, 1) := by decide +kernel
theorem dX6_setClock_47 : decode cX6_setClock 47 = .ok (.aload_n 0, 1) := by decide +kernel
theorem dX6_setClock_48 : decode cX6_setClock 48 = .ok (.iload_n 3, 1) := by decide +kernel
theorem dX6_setClock_49 : decode cX6_setClock 49 = .ok (.aload_n 0, 1) := by decide +kernel
theorem dX6_setClock_50 : decode cX6_setClock 50 = .ok (.getfield 16, 3) := by decide +kernel
theorem dX6_setClock_53 : decode cX6_setClock 53 = .ok (.iload_n 3, 1) := by decide +kernel
theorem dX6_setClock_54 : decode cX6_setClock 54 = .ok (.invokevirtual 111, 3) := by decide +kernel
theorem dX6_setClock_57 : decode cX6_setClock 57 = .ok (.checkcast 138, 3) := by decide +kernel
theorem dX6_setClock_60 : decode cX6_setClock 60 = .ok (.invokevirtual 140, 3) := by decide +kernel
theorem dX6_setClock_63 : decode cX6_setClock 63 = .ok (.iadd, 1) := by decide +kernel
theorem dX6_setClock_64 : decode cX6_setClock 64 = .ok (.istore_n 2, 1) := by decide +kernel
theorem dX6_setClock_65 : decode cX6_setClock 65 = .ok (.iinc 3 1, 3) := by decide +kernel
theorem dX6_setClock_68 : decode cX6_setClock 68 = .ok (.goto (-33), 3) := by decide +kernel
theorem dX6_setClock_71 : decode cX6_setClock 71 = .ok (.iconst 0, 1) := by decide +kernel
theorem dX6_setClock_72 : decode cX6_setClock 72 = .ok (.istore_n 3, 1) := by decide +kernel
theorem dX6_setClock_73 : decode cX6_setClock 73 = .ok (.iload_n 3, 1) := by decide +kernel
theorem dX6_setClock_74 : decode cX6_setClock 74 = .ok (.aload_n 0, 1) := by decide +kernel
theorem dX6_setClock_75 : decode cX6_setClock 75 = .ok (.getfield 10, 3) := by decide +kernel
theorem dX6_setClock_78 : decode cX6_setClock 78 = .ok (.invokevirtual 57, 3) := by decide +kernel
theorem dX6_setClock_81 : decode cX6_setClock 81 = .ok (.if_icmp .ge 27, 3) := by decide +kernel
theorem dX6_setClock_84 : decode cX6_setClock 84 = .ok (.aload_n 0, 1) := by decide +kernel
theorem dX6_setClock_85 : decode cX6_setClock 85 = .ok (.getfield 10, 3) := by decide +kernel
theorem dX6_setClock_88 : decode cX6_setClock 88 = .ok (.iload_n 3, 1) := by decide +kernel
theorem dX6_setClock_89 : decode cX6_setClock 89 = .ok (.invokevirtual 111, 3) := by decide +kernel
theorem dX6_setClock_92 : decode cX6_setClock 92 = .ok (.checkcast 66, 3) := by decide +kernel
theorem dX6_setClock_95 : decode cX6_setClock 95 = .ok (.aload_n 0, 1) := by decide +kernel
theorem dX6_setClock_96 : decode cX6_setClock 96 = .ok (.getfield 37, 3) := by decide +kernel
theorem dX6_setClock_99 : decode cX6_setClock 99 = .ok (.invokevirtual 144, 3) := by decide +kernel
theorem dX6_setClock_102 : decode cX6_setClock 102 = .ok (.iinc 3 1, 3) := by decide +kernel
theorem dX6_setClock_105 : decode cX6_setClock 105 = .ok (.goto (-32), 3) := by decide +kernel
theorem dX6_setClock_108 : decode cX6_setClock 108 = .ok (.aload_n 0, 1) := by decide +kernel
theorem dX6_setClock_109 : decode cX6_setClock 109 = .ok (.invokevirtual 119, 3) := by decide +kernel
theorem dX6_setClock_112 : decode cX6_setClock 112 = .ok (.iload_n 2, 1) := by decide +kernel
theorem dX6_setClock_113 : decode cX6_setClock 113 = .ok (.ireturn, 1) := by decide +kernel
theorem dX6_setPatience_0 : decode cX6_setPatience 0 = .ok (.iload_n 1, 1) := by decide +kernel
theorem dX6_setPatience_1 : decode cX6_setPatience 1 = .ok (.iconst 1, 1) := by decide +kernel
theorem dX6_setPatience_2 : decode cX6_setPatience 2 = .ok (.bipush 20, 2) := by decide +kernel
theorem dX6_setPatience_4 : decode cX6_setPatience 4 = .ok (.invokestatic 46, 3) := by decide +kernel
theorem dX6_setPatience_7 : decode cX6_setPatience 7 = .ok (.ifCond .eq 13, 3) := by decide +kernel
theorem dX6_setPatience_10 : decode cX6_setPatience 10 = .ok (.iload_n 2, 1) := by decide +kernel
theorem dX6_setPatience_11 : decode cX6_setPatience 11 = .ok (.iconst 1, 1) := by decide +kernel
theorem dX6_setPatience_12 : decode cX6_setPatience 12 = .ok (.bipush 50, 2) := by decide +kernel
theorem dX6_setPatience_14 : decode cX6_setPatience 14 = .ok (.invokestatic 46, 3) := by decide +kernel
theorem dX6_setPatience_17 : decode cX6_setPatience 17 = .ok (.ifCond .ne 13, 3) := by decide +kernel
theorem dX6_setPatience_20 : decode cX6_setPatience 20 = .ok (.new 50, 3) := by decide +kernel
theorem dX6_setPatience_23 : decode cX6_setPatience 23 = .ok (.dup, 1) := by decide +kernel
theorem dX6_setPatience_24 : decode cX6_setPatience 24 = .ok (.ldc 147, 2) := by decide +kernel
theorem dX6_setPatience_26 : decode cX6_setPatience 26 = .ok (.invokespecial 54, 3) := by decide +kernel
theorem dX6_setPatience_29 : decode cX6_setPatience 29 = .ok (.athrow, 1) := by decide +kernel
theorem dX6_setPatience_30 : decode cX6_setPatience 30 = .ok (.aload_n 0, 1) := by decide +kernel
theorem dX6_setPatience_31 : decode cX6_setPatience 31 = .ok (.getfield 40, 3) := by decide +kernel
theorem dX6_setPatience_34 : decode cX6_setPatience 34 = .ok (.istore_n 3, 1) := by decide +kernel
theorem dX6_setPatience_35 : decode cX6_setPatience 35 = .ok (.aload_n 0, 1) := by decide +kernel
theorem dX6_setPatience_36 : decode cX6_setPatience 36 = .ok (.iload_n 1, 1) := by decide +kernel
theorem dX6_setPatience_37 : decode cX6_setPatience 37 = .ok (.putfield 40, 3) := by decide +kernel
theorem dX6_setPatience_40 : decode cX6_setPatience 40 = .ok (.aload_n 0, 1) := by decide +kernel
theorem dX6_setPatience_41 : decode cX6_setPatience 41 = .ok (.iload_n 2, 1) := by decide +kernel
theorem dX6_setPatience_42 : decode cX6_setPatience 42 = .ok (.putfield 43, 3) := by decide +kernel
theorem dX6_setPatience_45 : decode cX6_setPatience 45 = .ok (.iload_n 3, 1) := by decide +kernel
theorem dX6_setPatience_46 : decode cX6_setPatience 46 = .ok (.ireturn, 1) := by decide +kernel
theorem dX6_clock_0 : decode cX6_clock 0 = .ok (.aload_n 0, 1) := by decide +kernel
theorem dX6_clock_1 : decode cX6_clock 1 = .ok (.getfield 37, 3) := by decide +kernel
theorem dX6_clock_4 : decode cX6_clock 4 = .ok (.ireturn, 1) := by decide +kernel
theorem dX6_start_0 : decode cX6_start 0 = .ok (.aload_n 0, 1) := by decide +kernel
theorem dX6_start_1 : decode cX6_start 1 = .ok (.iload_n 1, 1) := by decide +kernel
theorem dX6_start_2 : decode cX6_start 2 = .ok (.iload_n 2, 1) := by decide +kernel
theorem dX6_start_3 : decode cX6_start 3 = .ok (.invokevirtual 149, 3) := by decide +kernel
theorem dX6_start_6 : decode cX6_start 6 = .ok (.getfield 153, 3) := by decide +kernel
theorem dX6_start_9 : decode cX6_start 9 = .ok (.ireturn, 1) := by decide +kernel
theorem dX6_endOf_0 : decode cX6_endOf 0 = .ok (.aload_n 0, 1) := by decide +kernel
theorem dX6_endOf_1 : decode cX6_endOf 1 = .ok (.iload_n 1, 1) := by decide +kernel
theorem dX6_endOf_2 : decode cX6_endOf 2 = .ok (.iload_n 2, 1) := by decide +kernel
theorem dX6_endOf_3 : decode cX6_endOf 3 = .ok (.invokevirtual 149, 3) := by decide +kernel
theorem dX6_endOf_6 : decode cX6_endOf 6 = .ok (.invokevirtual 156, 3) := by decide +kernel
theorem dX6_endOf_9 : decode cX6_endOf 9 = .ok (.ireturn, 1) := by decide +kernel
theorem dX6_stable_0 : decode cX6_stable 0 = .ok (.aload_n 0, 1) := by decide +kernel
theorem dX6_stable_1 : decode cX6_stable 1 = .ok (.iload_n 1, 1) := by decide +kernel
theorem dX6_stable_2 : decode cX6_stable 2 = .ok (.iload_n 2, 1) := by decide +kernel
theorem dX6_stable_3 : decode cX6_stable 3 = .ok (.invokevirtual 149, 3) := by decide +kernel
theorem dX6_stable_6 : decode cX6_stable 6 = .ok (.invokevirtual 157, 3) := by decide +kernel
theorem dX6_stable_9 : decode cX6_stable 9 = .ok (.ireturn, 1) := by decide +kernel
theorem dX6_message_0 : decode cX6_message 0 = .ok (.aload_n 0, 1) := by decide +kernel
theorem dX6_message_1 : decode cX6_message 1 = .ok (.iload_n 1, 1) := by decide +kernel
theorem dX6_message_2 : decode cX6_message 2 = .ok (.iload_n 2, 1) := by decide +kernel
theorem dX6_message_3 : decode cX6_message 3 = .ok (.invokevirtual 149, 3) := by decide +kernel
theorem dX6_message_6 : decode cX6_message 6 = .ok (.astore 5, 2) := by decide +kernel
theorem dX6_message_8 : decode cX6_message 8 = .ok (.aload 5, 2) := by decide +kernel
theorem dX6_message_10 : decode cX6_message 10 = .ok (.iload_n 3, 1) := by decide +kernel
theorem dX6_message_11 : decode cX6_message 11 = .ok (.invokestatic 160, 3) := by decide +kernel
theorem dX6_message_14 : decode cX6_message 14 = .ok (.iload 4, 2) := by decide +kernel
theorem dX6_message_16 : decode cX6_message 16 = .ok (.invokestatic 164, 3) := by decide +kernel
theorem dX6_message_19 : decode cX6_message 19 = .ok (.aload 5, 2) := by decide +kernel
theorem dX6_message_21 : decode cX6_message 21 = .ok (.iload_n 3, 1) := by decide +kernel
theorem dX6_message_22 : decode cX6_message 22 = .ok (.invokevirtual 167, 3) := by decide +kernel
theorem dX6_message_25 : decode cX6_message 25 = .ok (.iload 4, 2) := by decide +kernel
theorem dX6_message_27 : decode cX6_message 27 = .ok (.invokevirtual 171, 3) := by decide +kernel
theorem dX6_message_30 : decode cX6_message 30 = .ok (.ireturn, 1) := by decide +kernel
theorem dX6_kept_0 : decode cX6_kept 0 = .ok (.aload_n 0, 1) := by decide +kernel
theorem dX6_kept_1 : decode cX6_kept 1 = .ok (.iload_n 1, 1) := by decide +kernel
theorem dX6_kept_2 : decode cX6_kept 2 = .ok (.invokevirtual 75, 3) := by decide +kernel
theorem dX6_kept_5 : decode cX6_kept 5 = .ok (.invokevirtual 175, 3) := by decide +kernel
theorem dX6_kept_8 : decode cX6_kept 8 = .ok (.ireturn, 1) := by decide +kernel
theorem dX6_group_0 : decode cX6_group 0 = .ok (.aload_n 0, 1) := by decide +kernel
theorem dX6_group_1 : decode cX6_group 1 = .ok (.iload_n 1, 1) := by decide +kernel
theorem dX6_group_2 : decode cX6_group 2 = .ok (.invokevirtual 75, 3) := by decide +kernel
theorem dX6_group_5 : decode cX6_group 5 = .ok (.astore_n 2, 1) := by decide +kernel
theorem dX6_group_6 : decode cX6_group 6 = .ok (.aload_n 0, 1) := by decide +kernel
theorem dX6_group_7 : decode cX6_group 7 = .ok (.getfield 16, 3) := by decide +kernel
theorem dX6_group_10 : decode cX6_group 10 = .ok (.invokevirtual 57, 3) := by decide +kernel
theorem dX6_group_13 : decode cX6_group 13 = .ok (.iconst 4, 1) := by decide +kernel
theorem dX6_group_14 : decode cX6_group 14 = .ok (.if_icmp .lt 13, 3) := by decide +kernel
theorem dX6_group_17 : decode cX6_group 17 = .ok (.new 61, 3) := by decide +kernel
theorem dX6_group_20 : decode cX6_group 20 = .ok (.dup, 1) := by decide +kernel
theorem dX6_group_21 : decode cX6_group 21 = .ok (.ldc 178, 2) := by decide +kernel
theorem dX6_group_23 : decode cX6_group 23 = .ok (.invokespecial 65, 3) := by decide +kernel
theorem dX6_group_26 : decode cX6_group 26 = .ok (.athrow, 1) := by decide +kernel
theorem dX6_group_27 : decode cX6_group 27 = .ok (.new 138, 3) := by decide +kernel
theorem dX6_group_30 : decode cX6_group 30 = .ok (.dup, 1) := by decide +kernel
theorem dX6_group_31 : decode cX6_group 31 = .ok (.aload_n 2, 1) := by decide +kernel
theorem dX6_group_32 : decode cX6_group 32 = .ok (.invokespecial 180, 3) := by decide +kernel
theorem dX6_group_35 : decode cX6_group 35 = .ok (.astore_n 3, 1) := by decide +kernel
theorem dX6_group_36 : decode cX6_group 36 = .ok (.aload_n 3, 1) := by decide +kernel
theorem dX6_group_37 : decode cX6_group 37 = .ok (.invokevirtual 183, 3) := by decide +kernel
theorem dX6_group_40 : decode cX6_group 40 = .ok (.aload_n 0, 1) := by decide +kernel
theorem dX6_group_41 : decode cX6_group 41 = .ok (.getfield 16, 3) := by decide +kernel
theorem dX6_group_44 : decode cX6_group 44 = .ok (.aload_n 3, 1) := by decide +kernel
theorem dX6_group_45 : decode cX6_group 45 = .ok (.invokevirtual 71, 3) := by decide +kernel
theorem dX6_group_48 : decode cX6_group 48 = .ok (.pop, 1) := by decide +kernel
theorem dX6_group_49 : decode cX6_group 49 = .ok (.aload_n 0, 1) := by decide +kernel
theorem dX6_group_50 : decode cX6_group 50 = .ok (.getfield 16, 3) := by decide +kernel
theorem dX6_group_53 : decode cX6_group 53 = .ok (.invokevirtual 57, 3) := by decide +kernel
theorem dX6_group_56 : decode cX6_group 56 = .ok (.iconst 1, 1) := by decide +kernel
theorem dX6_group_57 : decode cX6_group 57 = .ok (.isub, 1) := by decide +kernel
theorem dX6_group_58 : decode cX6_group 58 = .ok (.ireturn, 1) := by decide +kernel
theorem dX6_join_0 : decode cX6_join 0 = .ok (.aload_n 0, 1) := by decide +kernel
theorem dX6_join_1 : decode cX6_join 1 = .ok (.iload_n 1, 1) := by decide +kernel
theorem dX6_join_2 : decode cX6_join 2 = .ok (.invokevirtual 186, 3) := by decide +kernel
theorem dX6_join_5 : decode cX6_join 5 = .ok (.astore 4, 2) := by decide +kernel
theorem dX6_join_7 : decode cX6_join 7 = .ok (.iload_n 2, 1) := by decide +kernel
theorem dX6_join_8 : decode cX6_join 8 = .ok (.invokestatic 190, 3) := by decide +kernel
theorem dX6_join_11 : decode cX6_join 11 = .ok (.aload 4, 2) := by decide +kernel
theorem dX6_join_13 : decode cX6_join 13 = .ok (.getfield 193, 3) := by decide +kernel
theorem dX6_join_16 : decode cX6_join 16 = .ok (.iload_n 2, 1) := by decide +kernel
theorem dX6_join_17 : decode cX6_join 17 = .ok (.baload, 1) := by decide +kernel
theorem dX6_join_18 : decode cX6_join 18 = .ok (.istore 5, 2) := by decide +kernel
theorem dX6_join_20 : decode cX6_join 20 = .ok (.aload 4, 2) := by decide +kernel
theorem dX6_join_22 : decode cX6_join 22 = .ok (.getfield 193, 3) := by decide +kernel
theorem dX6_join_25 : decode cX6_join 25 = .ok (.iload_n 2, 1) := by decide +kernel
theorem dX6_join_26 : decode cX6_join 26 = .ok (.iload_n 3, 1) := by decide +kernel
theorem dX6_join_27 : decode cX6_join 27 = .ok (.bastore, 1) := by decide +kernel
theorem dX6_join_28 : decode cX6_join 28 = .ok (.aload 4, 2) := by decide +kernel
theorem dX6_join_30 : decode cX6_join 30 = .ok (.invokevirtual 196, 3) := by decide +kernel
theorem dX6_join_33 : decode cX6_join 33 = .ok (.iload 5, 2) := by decide +kernel
theorem dX6_join_35 : decode cX6_join 35 = .ok (.ireturn, 1) := by decide +kernel
theorem dX6_take_0 : decode cX6_take 0 = .ok (.aload_n 0, 1) := by decide +kernel
theorem dX6_take_1 : decode cX6_take 1 = .ok (.iload_n 1, 1) := by decide +kernel
theorem dX6_take_2 : decode cX6_take 2 = .ok (.invokevirtual 186, 3) := by decide +kernel
theorem dX6_take_5 : decode cX6_take 5 = .ok (.astore_n 3, 1) := by decide +kernel
theorem dX6_take_6 : decode cX6_take 6 = .ok (.iload_n 2, 1) := by decide +kernel
theorem dX6_take_7 : decode cX6_take 7 = .ok (.invokestatic 190, 3) := by decide +kernel
theorem dX6_take_10 : decode cX6_take 10 = .ok (.aload_n 3, 1) := by decide +kernel
theorem dX6_take_11 : decode cX6_take 11 = .ok (.getfield 193, 3) := by decide +kernel
theorem dX6_take_14 : decode cX6_take 14 = .ok (.iload_n 2, 1) := by decide +kernel
theorem dX6_take_15 : decode cX6_take 15 = .ok (.baload, 1) := by decide +kernel
theorem dX6_take_16 : decode cX6_take 16 = .ok (.ifCond .ne 13, 3) := by decide +kernel
theorem dX6_take_19 : decode cX6_take 19 = .ok (.new 61, 3) := by decide +kernel
theorem dX6_take_22 : decode cX6_take 22 = .ok (.dup, 1) := by decide +kernel
theorem dX6_take_23 : decode cX6_take 23 = .ok (.ldc 199, 2) := by decide +kernel
theorem dX6_take_25 : decode cX6_take 25 = .ok (.invokespecial 65, 3) := by decide +kernel
theorem dX6_take_28 : decode cX6_take 28 = .ok (.athrow, 1) := by decide +kernel
theorem dX6_take_29 : decode cX6_take 29 = .ok (.aload_n 3, 1) := by decide +kernel
theorem dX6_take_30 : decode cX6_take 30 = .ok (.iload_n 2, 1) := by decide +kernel
theorem dX6_take_31 : decode cX6_take 31 = .ok (.aload_n 0, 1) := by decide +kernel
theorem dX6_take_32 : decode cX6_take 32 = .ok (.getfield 37, 3) := by decide +kernel
theorem dX6_take_35 : decode cX6_take 35 = .ok (.invokevirtual 201, 3) := by decide +kernel
theorem dX6_take_38 : decode cX6_take 38 = .ok (.istore 4, 2) := by decide +kernel
theorem dX6_take_40 : decode cX6_take 40 = .ok (.iload 4, 2) := by decide +kernel
theorem dX6_take_42 : decode cX6_take 42 = .ok (.iconst (-1), 1) := by decide +kernel
theorem dX6_take_43 : decode cX6_take 43 = .ok (.if_icmp .eq 50, 3) := by decide +kernel
theorem dX6_take_46 : decode cX6_take 46 = .ok (.iload 4, 2) := by decide +kernel
theorem dX6_take_48 : decode cX6_take 48 = .ok (.bipush 100, 2) := by decide +kernel
theorem dX6_take_50 : decode cX6_take 50 = .ok (.idiv, 1) := by decide +kernel
theorem dX6_take_51 : decode cX6_take 51 = .ok (.istore 5, 2) := by decide +kernel
theorem dX6_take_53 : decode cX6_take 53 = .ok (.iload 4, 2) := by decide +kernel
theorem dX6_take_55 : decode cX6_take 55 = .ok (.bipush 100, 2) := by decide +kernel
theorem dX6_take_57 : decode cX6_take 57 = .ok (.irem, 1) := by decide +kernel
theorem dX6_take_58 : decode cX6_take 58 = .ok (.istore 6, 2) := by decide +kernel
theorem dX6_take_60 : decode cX6_take 60 = .ok (.aload_n 3, 1) := by decide +kernel
theorem dX6_take_61 : decode cX6_take 61 = .ok (.getfield 204, 3) := by decide +kernel
theorem dX6_take_64 : decode cX6_take 64 = .ok (.iload 5, 2) := by decide +kernel
theorem dX6_take_66 : decode cX6_take 66 = .ok (.aaload, 1) := by decide +kernel
theorem dX6_take_67 : decode cX6_take 67 = .ok (.iload 6, 2) := by decide +kernel
theorem dX6_take_69 : decode cX6_take 69 = .ok (.aload_n 0, 1) := by decide +kernel
theorem dX6_take_70 : decode cX6_take 70 = .ok (.getfield 37, 3) := by decide +kernel
theorem dX6_take_73 : decode cX6_take 73 = .ok (.invokevirtual 208, 3) := by decide +kernel
theorem dX6_take_76 : decode cX6_take 76 = .ok (.aload_n 0, 1) := by decide +kernel
theorem dX6_take_77 : decode cX6_take 77 = .ok (.getfield 22, 3) := by decide +kernel
theorem dX6_take_80 : decode cX6_take 80 = .ok (.iconst 0, 1) := by decide +kernel
theorem dX6_take_81 : decode cX6_take 81 = .ok (.iload_n 1, 1) := by decide +kernel
theorem dX6_take_82 : decode cX6_take 82 = .ok (.iload 5, 2) := by decide +kernel
theorem dX6_take_84 : decode cX6_take 84 = .ok (.iload 6, 2) := by decide +kernel
theorem dX6_take_86 : decode cX6_take 86 = .ok (.aload_n 0, 1) := by decide +kernel
theorem dX6_take_87 : decode cX6_take 87 = .ok (.getfield 37, 3) := by decide +kernel
theorem dX6_take_90 : decode cX6_take 90 = .ok (.invokevirtual 214, 3) := by decide +kernel
theorem dX6_take_93 : decode cX6_take 93 = .ok (.iload 4, 2) := by decide +kernel
theorem dX6_take_95 : decode cX6_take 95 = .ok (.ireturn, 1) := by decide +kernel
theorem dX6_ack_0 : decode cX6_ack 0 = .ok (.aload_n 0, 1) := by decide +kernel
theorem dX6_ack_1 : decode cX6_ack 1 = .ok (.iload_n 1, 1) := by decide +kernel
theorem dX6_ack_2 : decode cX6_ack 2 = .ok (.iload_n 2, 1) := by decide +kernel
theorem dX6_ack_3 : decode cX6_ack 3 = .ok (.invokevirtual 217, 3) := by decide +kernel
theorem dX6_ack_6 : decode cX6_ack 6 = .ok (.astore 4, 2) := by decide +kernel
theorem dX6_ack_8 : decode cX6_ack 8 = .ok (.aload 4, 2) := by decide +kernel
theorem dX6_ack_10 : decode cX6_ack 10 = .ok (.iload_n 3, 1) := by decide +kernel
theorem dX6_ack_11 : decode cX6_ack 11 = .ok (.invokestatic 221, 3) := by decide +kernel
theorem dX6_ack_14 : decode cX6_ack 14 = .ok (.aload 4, 2) := by decide +kernel
theorem dX6_ack_16 : decode cX6_ack 16 = .ok (.iload_n 3, 1) := by decide +kernel
theorem dX6_ack_17 : decode cX6_ack 17 = .ok (.invokevirtual 225, 3) := by decide +kernel
theorem dX6_ack_20 : decode cX6_ack 20 = .ok (.aload 4, 2) := by decide +kernel
theorem dX6_ack_22 : decode cX6_ack 22 = .ok (.invokevirtual 228, 3) := by decide +kernel
theorem dX6_ack_25 : decode cX6_ack 25 = .ok (.aload_n 0, 1) := by decide +kernel
theorem dX6_ack_26 : decode cX6_ack 26 = .ok (.getfield 22, 3) := by decide +kernel
theorem dX6_ack_29 : decode cX6_ack 29 = .ok (.iconst 1, 1) := by decide +kernel
theorem dX6_ack_30 : decode cX6_ack 30 = .ok (.iload_n 1, 1) := by decide +kernel
theorem dX6_ack_31 : decode cX6_ack 31 = .ok (.iload_n 2, 1) := by decide +kernel
theorem dX6_ack_32 : decode cX6_ack 32 = .ok (.iload_n 3, 1) := by decide +kernel
theorem dX6_ack_33 : decode cX6_ack 33 = .ok (.aload_n 0, 1) := by decide +kernel
theorem dX6_ack_34 : decode cX6_ack 34 = .ok (.getfield 37, 3) := by decide +kernel
theorem dX6_ack_37 : decode cX6_ack 37 = .ok (.invokevirtual 214, 3) := by decide +kernel
theorem dX6_ack_40 : decode cX6_ack 40 = .ok (.aload 4, 2) := by decide +kernel
theorem dX6_ack_42 : decode cX6_ack 42 = .ok (.getfield 229, 3) := by decide +kernel
theorem dX6_ack_45 : decode cX6_ack 45 = .ok (.ireturn, 1) := by decide +kernel
theorem dX6_nack_0 : decode cX6_nack 0 = .ok (.aload_n 0, 1) := by decide +kernel
theorem dX6_nack_1 : decode cX6_nack 1 = .ok (.iload_n 1, 1) := by decide +kernel
theorem dX6_nack_2 : decode cX6_nack 2 = .ok (.iload_n 2, 1) := by decide +kernel
theorem dX6_nack_3 : decode cX6_nack 3 = .ok (.invokevirtual 217, 3) := by decide +kernel
theorem dX6_nack_6 : decode cX6_nack 6 = .ok (.astore 4, 2) := by decide +kernel
theorem dX6_nack_8 : decode cX6_nack 8 = .ok (.aload 4, 2) := by decide +kernel
theorem dX6_nack_10 : decode cX6_nack 10 = .ok (.iload_n 3, 1) := by decide +kernel
theorem dX6_nack_11 : decode cX6_nack 11 = .ok (.invokestatic 221, 3) := by decide +kernel
theorem dX6_nack_14 : decode cX6_nack 14 = .ok (.aload_n 0, 1) := by decide +kernel
theorem dX6_nack_15 : decode cX6_nack 15 = .ok (.iload_n 1, 1) := by decide +kernel
theorem dX6_nack_16 : decode cX6_nack 16 = .ok (.iload_n 2, 1) := by decide +kernel
theorem dX6_nack_17 : decode cX6_nack 17 = .ok (.aload 4, 2) := by decide +kernel
theorem dX6_nack_19 : decode cX6_nack 19 = .ok (.iload_n 3, 1) := by decide +kernel
theorem dX6_nack_20 : decode cX6_nack 20 = .ok (.invokevirtual 232, 3) := by decide +kernel
theorem dX6_nack_23 : decode cX6_nack 23 = .ok (.istore 5, 2) := by decide +kernel
theorem dX6_nack_25 : decode cX6_nack 25 = .ok (.aload 4, 2) := by decide +kernel
theorem dX6_nack_27 : decode cX6_nack 27 = .ok (.invokevirtual 228, 3) := by decide +kernel
theorem dX6_nack_30 : decode cX6_nack 30 = .ok (.iload 5, 2) := by decide +kernel
theorem dX6_nack_32 : decode cX6_nack 32 = .ok (.ireturn, 1) := by decide +kernel
theorem dX6_seek_0 : decode cX6_seek 0 = .ok (.aload_n 0, 1) := by decide +kernel
theorem dX6_seek_1 : decode cX6_seek 1 = .ok (.iload_n 1, 1) := by decide +kernel
theorem dX6_seek_2 : decode cX6_seek 2 = .ok (.iload_n 2, 1) := by decide +kernel
theorem dX6_seek_3 : decode cX6_seek 3 = .ok (.invokevirtual 217, 3) := by decide +kernel
theorem dX6_seek_6 : decode cX6_seek 6 = .ok (.astore 4, 2) := by decide +kernel
theorem dX6_seek_8 : decode cX6_seek 8 = .ok (.iload_n 3, 1) := by decide +kernel
theorem dX6_seek_9 : decode cX6_seek 9 = .ok (.aload 4, 2) := by decide +kernel
theorem dX6_seek_11 : decode cX6_seek 11 = .ok (.getfield 236, 3) := by decide +kernel
theorem dX6_seek_14 : decode cX6_seek 14 = .ok (.getfield 153, 3) := by decide +kernel
theorem dX6_seek_17 : decode cX6_seek 17 = .ok (.aload 4, 2) := by decide +kernel
theorem dX6_seek_19 : decode cX6_seek 19 = .ok (.getfield 236, 3) := by decide +kernel
theorem dX6_seek_22 : decode cX6_seek 22 = .ok (.invokevirtual 156, 3) := by decide +kernel
theorem dX6_seek_25 : decode cX6_seek 25 = .ok (.invokestatic 46, 3) := by decide +kernel
theorem dX6_seek_28 : decode cX6_seek 28 = .ok (.ifCond .ne 13, 3) := by decide +kernel
theorem dX6_seek_31 : decode cX6_seek 31 = .ok (.new 50, 3) := by decide +kernel
theorem dX6_seek_34 : decode cX6_seek 34 = .ok (.dup, 1) := by decide +kernel
theorem dX6_seek_35 : decode cX6_seek 35 = .ok (.ldc 240, 2) := by decide +kernel
theorem dX6_seek_37 : decode cX6_seek 37 = .ok (.invokespecial 54, 3) := by decide +kernel
theorem dX6_seek_40 : decode cX6_seek 40 = .ok (.athrow, 1) := by decide +kernel
theorem dX6_seek_41 : decode cX6_seek 41 = .ok (.aload 4, 2) := by decide +kernel
theorem dX6_seek_43 : decode cX6_seek 43 = .ok (.getfield 229, 3) := by decide +kernel
theorem dX6_seek_46 : decode cX6_seek 46 = .ok (.istore 5, 2) := by decide +kernel
theorem dX6_seek_48 : decode cX6_seek 48 = .ok (.aload 4, 2) := by decide +kernel
theorem dX6_seek_50 : decode cX6_seek 50 = .ok (.iload_n 3, 1) := by decide +kernel
theorem dX6_seek_51 : decode cX6_seek 51 = .ok (.invokevirtual 242, 3) := by decide +kernel
theorem dX6_seek_54 : decode cX6_seek 54 = .ok (.aload 4, 2) := by decide +kernel
theorem dX6_seek_56 : decode cX6_seek 56 = .ok (.invokevirtual 228, 3) := by decide +kernel
theorem dX6_seek_59 : decode cX6_seek 59 = .ok (.iload 5, 2) := by decide +kernel
theorem dX6_seek_61 : decode cX6_seek 61 = .ok (.ireturn, 1) := by decide +kernel
theorem dX6_reader_0 : decode cX6_reader 0 = .ok (.aload_n 0, 1) := by decide +kernel
theorem dX6_reader_1 : decode cX6_reader 1 = .ok (.iload_n 1, 1) := by decide +kernel
theorem dX6_reader_2 : decode cX6_reader 2 = .ok (.iload_n 2, 1) := by decide +kernel
theorem dX6_reader_3 : decode cX6_reader 3 = .ok (.invokevirtual 217, 3) := by decide +kernel
theorem dX6_reader_6 : decode cX6_reader 6 = .ok (.getfield 245, 3) := by decide +kernel
theorem dX6_reader_9 : decode cX6_reader 9 = .ok (.ireturn, 1) := by decide +kernel
theorem dX6_mark_0 : decode cX6_mark 0 = .ok (.aload_n 0, 1) := by decide +kernel
theorem dX6_mark_1 : decode cX6_mark 1 = .ok (.iload_n 1, 1) := by decide +kernel
theorem dX6_mark_2 : decode cX6_mark 2 = .ok (.iload_n 2, 1) := by decide +kernel
theorem dX6_mark_3 : decode cX6_mark 3 = .ok (.invokevirtual 217, 3) := by decide +kernel
theorem dX6_mark_6 : decode cX6_mark 6 = .ok (.getfield 229, 3) := by decide +kernel
theorem dX6_mark_9 : decode cX6_mark 9 = .ok (.ireturn, 1) := by decide +kernel
theorem dX6_cursor_0 : decode cX6_cursor 0 = .ok (.aload_n 0, 1) := by decide +kernel
theorem dX6_cursor_1 : decode cX6_cursor 1 = .ok (.iload_n 1, 1) := by decide +kernel
theorem dX6_cursor_2 : decode cX6_cursor 2 = .ok (.iload_n 2, 1) := by decide +kernel
theorem dX6_cursor_3 : decode cX6_cursor 3 = .ok (.invokevirtual 217, 3) := by decide +kernel
theorem dX6_cursor_6 : decode cX6_cursor 6 = .ok (.getfield 248, 3) := by decide +kernel
theorem dX6_cursor_9 : decode cX6_cursor 9 = .ok (.ireturn, 1) := by decide +kernel
theorem dX6_state_0 : decode cX6_state 0 = .ok (.aload_n 0, 1) := by decide +kernel
theorem dX6_state_1 : decode cX6_state 1 = .ok (.iload_n 1, 1) := by decide +kernel
theorem dX6_state_2 : decode cX6_state 2 = .ok (.iload_n 2, 1) := by decide +kernel
theorem dX6_state_3 : decode cX6_state 3 = .ok (.invokevirtual 217, 3) := by decide +kernel
theorem dX6_state_6 : decode cX6_state 6 = .ok (.astore 4, 2) := by decide +kernel
theorem dX6_state_8 : decode cX6_state 8 = .ok (.aload 4, 2) := by decide +kernel
theorem dX6_state_10 : decode cX6_state 10 = .ok (.getfield 236, 3) := by decide +kernel
theorem dX6_state_13 : decode cX6_state 13 = .ok (.iload_n 3, 1) := by decide +kernel
theorem dX6_state_14 : decode cX6_state 14 = .ok (.invokestatic 160, 3) := by decide +kernel
theorem dX6_state_17 : decode cX6_state 17 = .ok (.aload 4, 2) := by decide +kernel
theorem dX6_state_19 : decode cX6_state 19 = .ok (.getfield 251, 3) := by decide +kernel
theorem dX6_state_22 : decode cX6_state 22 = .ok (.iload_n 3, 1) := by decide +kernel
theorem dX6_state_23 : decode cX6_state 23 = .ok (.iaload, 1) := by decide +kernel
theorem dX6_state_24 : decode cX6_state 24 = .ok (.ireturn, 1) := by decide +kernel
theorem dX6_tries_0 : decode cX6_tries 0 = .ok (.aload_n 0, 1) := by decide +kernel
theorem dX6_tries_1 : decode cX6_tries 1 = .ok (.iload_n 1, 1) := by decide +kernel
theorem dX6_tries_2 : decode cX6_tries 2 = .ok (.iload_n 2, 1) := by decide +kernel
theorem dX6_tries_3 : decode cX6_tries 3 = .ok (.invokevirtual 217, 3) := by decide +kernel
theorem dX6_tries_6 : decode cX6_tries 6 = .ok (.astore 4, 2) := by decide +kernel
theorem dX6_tries_8 : decode cX6_tries 8 = .ok (.aload 4, 2) := by decide +kernel
theorem dX6_tries_10 : decode cX6_tries 10 = .ok (.getfield 236, 3) := by decide +kernel
theorem dX6_tries_13 : decode cX6_tries 13 = .ok (.iload_n 3, 1) := by decide +kernel
theorem dX6_tries_14 : decode cX6_tries 14 = .ok (.invokestatic 160, 3) := by decide +kernel
theorem dX6_tries_17 : decode cX6_tries 17 = .ok (.aload 4, 2) := by decide +kernel
theorem dX6_tries_19 : decode cX6_tries 19 = .ok (.getfield 254, 3) := by decide +kernel
theorem dX6_tries_22 : decode cX6_tries 22 = .ok (.iload_n 3, 1) := by decide +kernel
theorem dX6_tries_23 : decode cX6_tries 23 = .ok (.iaload, 1) := by decide +kernel
theorem dX6_tries_24 : decode cX6_tries 24 = .ok (.ireturn, 1) := by decide +kernel
theorem dX6_lag_0 : decode cX6_lag 0 = .ok (.aload_n 0, 1) := by decide +kernel
theorem dX6_lag_1 : decode cX6_lag 1 = .ok (.iload_n 1, 1) := by decide +kernel
theorem dX6_lag_2 : decode cX6_lag 2 = .ok (.iload_n 2, 1) := by decide +kernel
theorem dX6_lag_3 : decode cX6_lag 3 = .ok (.invokevirtual 217, 3) := by decide +kernel
theorem dX6_lag_6 : decode cX6_lag 6 = .ok (.invokevirtual 257, 3) := by decide +kernel
theorem dX6_lag_9 : decode cX6_lag 9 = .ok (.ireturn, 1) := by decide +kernel
theorem dX6_aside_0 : decode cX6_aside 0 = .ok (.aload_n 0, 1) := by decide +kernel
theorem dX6_aside_1 : decode cX6_aside 1 = .ok (.iload_n 1, 1) := by decide +kernel
theorem dX6_aside_2 : decode cX6_aside 2 = .ok (.invokevirtual 186, 3) := by decide +kernel
theorem dX6_aside_5 : decode cX6_aside 5 = .ok (.iconst 4, 1) := by decide +kernel
theorem dX6_aside_6 : decode cX6_aside 6 = .ok (.invokevirtual 260, 3) := by decide +kernel
theorem dX6_aside_9 : decode cX6_aside 9 = .ok (.ireturn, 1) := by decide +kernel
theorem dX6_meanTries_0 : decode cX6_meanTries 0 = .ok (.aload_n 0, 1) := by decide +kernel
theorem dX6_meanTries_1 : decode cX6_meanTries 1 = .ok (.iload_n 1, 1) := by decide +kernel
theorem dX6_meanTries_2 : decode cX6_meanTries 2 = .ok (.invokevirtual 186, 3) := by decide +kernel
theorem dX6_meanTries_5 : decode cX6_meanTries 5 = .ok (.astore_n 2, 1) := by decide +kernel
theorem dX6_meanTries_6 : decode cX6_meanTries 6 = .ok (.aload_n 2, 1) := by decide +kernel
theorem dX6_meanTries_7 : decode cX6_meanTries 7 = .ok (.iconst 3, 1) := by decide +kernel
theorem dX6_meanTries_8 : decode cX6_meanTries 8 = .ok (.invokevirtual 260, 3) := by decide +kernel
theorem dX6_meanTries_11 : decode cX6_meanTries 11 = .ok (.istore_n 3, 1) := by decide +kernel
theorem dX6_meanTries_12 : decode cX6_meanTries 12 = .ok (.iload_n 3, 1) := by decide +kernel
theorem dX6_meanTries_13 : decode cX6_meanTries 13 = .ok (.ifCond .ne 7, 3) := by decide +kernel
theorem dX6_meanTries_16 : decode cX6_meanTries 16 = .ok (.dconst 0, 1) := by decide +kernel
theorem dX6_meanTries_17 : decode cX6_meanTries 17 = .ok (.goto 11, 3) := by decide +kernel
theorem dX6_meanTries_20 : decode cX6_meanTries 20 = .ok (.aload_n 2, 1) := by decide +kernel
theorem dX6_meanTries_21 : decode cX6_meanTries 21 = .ok (.invokevirtual 263, 3) := by decide +kernel
theorem dX6_meanTries_24 : decode cX6_meanTries 24 = .ok (.i2d, 1) := by decide +kernel
theorem dX6_meanTries_25 : decode cX6_meanTries 25 = .ok (.iload_n 3, 1) := by decide +kernel
theorem dX6_meanTries_26 : decode cX6_meanTries 26 = .ok (.i2d, 1) := by decide +kernel
theorem dX6_meanTries_27 : decode cX6_meanTries 27 = .ok (.ddiv, 1) := by decide +kernel
theorem dX6_meanTries_28 : decode cX6_meanTries 28 = .ok (.dreturn, 1) := by decide +kernel
theorem dX6_ledger_0 : decode cX6_ledger 0 = .ok (.aload_n 0, 1) := by decide +kernel
theorem dX6_ledger_1 : decode cX6_ledger 1 = .ok (.getfield 22, 3) := by decide +kernel
theorem dX6_ledger_4 : decode cX6_ledger 4 = .ok (.getfield 266, 3) := by decide +kernel
theorem dX6_ledger_7 : decode cX6_ledger 7 = .ok (.ireturn, 1) := by decide +kernel
theorem dX6_row_0 : decode cX6_row 0 = .ok (.iload_n 1, 1) := by decide +kernel
theorem dX6_row_1 : decode cX6_row 1 = .ok (.iconst 0, 1) := by decide +kernel
theorem dX6_row_2 : decode cX6_row 2 = .ok (.aload_n 0, 1) := by decide +kernel
theorem dX6_row_3 : decode cX6_row 3 = .ok (.getfield 22, 3) := by decide +kernel
theorem dX6_row_6 : decode cX6_row 6 = .ok (.getfield 266, 3) := by decide +kernel
theorem dX6_row_9 : decode cX6_row 9 = .ok (.iconst 1, 1) := by decide +kernel
theorem dX6_row_10 : decode cX6_row 10 = .ok (.isub, 1) := by decide +kernel
theorem dX6_row_11 : decode cX6_row 11 = .ok (.invokestatic 46, 3) := by decide +kernel
theorem dX6_row_14 : decode cX6_row 14 = .ok (.ifCond .ne 14, 3) := by decide +kernel
theorem dX6_row_17 : decode cX6_row 17 = .ok (.new 268, 3) := by decide +kernel
theorem dX6_row_20 : decode cX6_row 20 = .ok (.dup, 1) := by decide +kernel
theorem dX6_row_21 : decode cX6_row 21 = .ok (.ldc_w 270, 3) := by decide +kernel
theorem dX6_row_24 : decode cX6_row 24 = .ok (.invokespecial 272, 3) := by decide +kernel
theorem dX6_row_27 : decode cX6_row 27 = .ok (.athrow, 1) := by decide +kernel
theorem dX6_row_28 : decode cX6_row 28 = .ok (.iload_n 2, 1) := by decide +kernel
theorem dX6_row_29 : decode cX6_row 29 = .ok (.invokestatic 164, 3) := by decide +kernel
theorem dX6_row_32 : decode cX6_row 32 = .ok (.aload_n 0, 1) := by decide +kernel
theorem dX6_row_33 : decode cX6_row 33 = .ok (.getfield 22, 3) := by decide +kernel
theorem dX6_row_36 : decode cX6_row 36 = .ok (.iload_n 1, 1) := by decide +kernel
theorem dX6_row_37 : decode cX6_row 37 = .ok (.iload_n 2, 1) := by decide +kernel
theorem dX6_row_38 : decode cX6_row 38 = .ok (.invokevirtual 273, 3) := by decide +kernel
theorem dX6_row_41 : decode cX6_row 41 = .ok (.ireturn, 1) := by decide +kernel
theorem dX6_wouldTake_0 : decode cX6_wouldTake 0 = .ok (.aload_n 0, 1) := by decide +kernel
theorem dX6_wouldTake_1 : decode cX6_wouldTake 1 = .ok (.iload_n 1, 1) := by decide +kernel
theorem dX6_wouldTake_2 : decode cX6_wouldTake 2 = .ok (.invokevirtual 186, 3) := by decide +kernel
theorem dX6_wouldTake_5 : decode cX6_wouldTake 5 = .ok (.astore_n 3, 1) := by decide +kernel
theorem dX6_wouldTake_6 : decode cX6_wouldTake 6 = .ok (.iload_n 2, 1) := by decide +kernel
theorem dX6_wouldTake_7 : decode cX6_wouldTake 7 = .ok (.invokestatic 190, 3) := by decide +kernel
theorem dX6_wouldTake_10 : decode cX6_wouldTake 10 = .ok (.aload_n 3, 1) := by decide +kernel
theorem dX6_wouldTake_11 : decode cX6_wouldTake 11 = .ok (.iload_n 2, 1) := by decide +kernel
theorem dX6_wouldTake_12 : decode cX6_wouldTake 12 = .ok (.aload_n 0, 1) := by decide +kernel
theorem dX6_wouldTake_13 : decode cX6_wouldTake 13 = .ok (.getfield 37, 3) := by decide +kernel
theorem dX6_wouldTake_16 : decode cX6_wouldTake 16 = .ok (.invokevirtual 201, 3) := by decide +kernel
theorem dX6_wouldTake_19 : decode cX6_wouldTake 19 = .ok (.ireturn, 1) := by decide +kernel
theorem dX6_nextTime_0 : decode cX6_nextTime 0 = .ok (.aload_n 0, 1) := by decide +kernel
theorem dX6_nextTime_1 : decode cX6_nextTime 1 = .ok (.iload_n 1, 1) := by decide +kernel
theorem dX6_nextTime_2 : decode cX6_nextTime 2 = .ok (.invokevirtual 186, 3) := by decide +kernel
theorem dX6_nextTime_5 : decode cX6_nextTime 5 = .ok (.aload_n 0, 1) := by decide +kernel
theorem dX6_nextTime_6 : decode cX6_nextTime 6 = .ok (.getfield 37, 3) := by decide +kernel
theorem dX6_nextTime_9 : decode cX6_nextTime 9 = .ok (.aload_n 0, 1) := by decide +kernel
theorem dX6_nextTime_10 : decode cX6_nextTime 10 = .ok (.getfield 43, 3) := by decide +kernel
theorem dX6_nextTime_13 : decode cX6_nextTime 13 = .ok (.invokevirtual 282, 3) := by decide +kernel
theorem dX6_nextTime_16 : decode cX6_nextTime 16 = .ok (.ireturn, 1) := by decide +kernel
theorem dX6_wouldDrop_0 : decode cX6_wouldDrop 0 = .ok (.aload_n 0, 1) := by decide +kernel
theorem dX6_wouldDrop_1 : decode cX6_wouldDrop 1 = .ok (.iload_n 1, 1) := by decide +kernel
theorem dX6_wouldDrop_2 : decode cX6_wouldDrop 2 = .ok (.invokevirtual 75, 3) := by decide +kernel
theorem dX6_wouldDrop_5 : decode cX6_wouldDrop 5 = .ok (.invokevirtual 285, 3) := by decide +kernel
theorem dX6_wouldDrop_8 : decode cX6_wouldDrop 8 = .ok (.ireturn, 1) := by decide +kernel
theorem dX6_digest_0 : decode cX6_digest 0 = .ok (.ldc2_w 288, 3) := by decide +kernel
theorem dX6_digest_3 : decode cX6_digest 3 = .ok (.lstore_n 1, 1) := by decide +kernel
theorem dX6_digest_4 : decode cX6_digest 4 = .ok (.lload_n 1, 1) := by decide +kernel
theorem dX6_digest_5 : decode cX6_digest 5 = .ok (.aload_n 0, 1) := by decide +kernel
theorem dX6_digest_6 : decode cX6_digest 6 = .ok (.getfield 37, 3) := by decide +kernel
theorem dX6_digest_9 : decode cX6_digest 9 = .ok (.i2l, 1) := by decide +kernel
theorem dX6_digest_10 : decode cX6_digest 10 = .ok (.invokestatic 290, 3) := by decide +kernel
theorem dX6_digest_13 : decode cX6_digest 13 = .ok (.lstore_n 1, 1) := by decide +kernel
theorem dX6_digest_14 : decode cX6_digest 14 = .ok (.lload_n 1, 1) := by decide +kernel
theorem dX6_digest_15 : decode cX6_digest 15 = .ok (.aload_n 0, 1) := by decide +kernel
theorem dX6_digest_16 : decode cX6_digest 16 = .ok (.getfield 10, 3) := by decide +kernel
theorem dX6_digest_19 : decode cX6_digest 19 = .ok (.invokevirtual 57, 3) := by decide +kernel
theorem dX6_digest_22 : decode cX6_digest 22 = .ok (.i2l, 1) := by decide +kernel
theorem dX6_digest_23 : decode cX6_digest 23 = .ok (.invokestatic 290, 3) := by decide +kernel
theorem dX6_digest_26 : decode cX6_digest 26 = .ok (.lstore_n 1, 1) := by decide +kernel
theorem dX6_digest_27 : decode cX6_digest 27 = .ok (.lload_n 1, 1) := by decide +kernel
theorem dX6_digest_28 : decode cX6_digest 28 = .ok (.aload_n 0, 1) := by decide +kernel
theorem dX6_digest_29 : decode cX6_digest 29 = .ok (.getfield 16, 3) := by decide +kernel
theorem dX6_digest_32 : decode cX6_digest 32 = .ok (.invokevirtual 57, 3) := by decide +kernel
theorem dX6_digest_35 : decode cX6_digest 35 = .ok (.i2l, 1) := by decide +kernel
theorem dX6_digest_36 : decode cX6_digest 36 = .ok (.invokestatic 290, 3) := by decide +kernel
theorem dX6_digest_39 : decode cX6_digest 39 = .ok (.lstore_n 1, 1) := by decide +kernel
theorem dX6_digest_40 : decode cX6_digest 40 = .ok (.lload_n 1, 1) := by decide +kernel
theorem dX6_digest_41 : decode cX6_digest 41 = .ok (.aload_n 0, 1) := by decide +kernel
theorem dX6_digest_42 : decode cX6_digest 42 = .ok (.getfield 22, 3) := by decide +kernel
theorem dX6_digest_45 : decode cX6_digest 45 = .ok (.getfield 266, 3) := by decide +kernel
theorem dX6_digest_48 : decode cX6_digest 48 = .ok (.i2l, 1) := by decide +kernel
theorem dX6_digest_49 : decode cX6_digest 49 = .ok (.invokestatic 290, 3) := by decide +kernel
theorem dX6_digest_52 : decode cX6_digest 52 = .ok (.lstore_n 1, 1) := by decide +kernel
theorem dX6_digest_53 : decode cX6_digest 53 = .ok (.iconst 0, 1) := by decide +kernel
theorem dX6_digest_54 : decode cX6_digest 54 = .ok (.istore_n 3, 1) := by decide +kernel
theorem dX6_digest_55 : decode cX6_digest 55 = .ok (.iload_n 3, 1) := by decide +kernel
theorem dX6_digest_56 : decode cX6_digest 56 = .ok (.aload_n 0, 1) := by decide +kernel
theorem dX6_digest_57 : decode cX6_digest 57 = .ok (.getfield 10, 3) := by decide +kernel
theorem dX6_digest_60 : decode cX6_digest 60 = .ok (.invokevirtual 57, 3) := by decide +kernel
theorem dX6_digest_63 : decode cX6_digest 63 = .ok (.if_icmp .ge 25, 3) := by decide +kernel
theorem dX6_digest_66 : decode cX6_digest 66 = .ok (.lload_n 1, 1) := by decide +kernel
theorem dX6_digest_67 : decode cX6_digest 67 = .ok (.aload_n 0, 1) := by decide +kernel
theorem dX6_digest_68 : decode cX6_digest 68 = .ok (.getfield 10, 3) := by decide +kernel
theorem dX6_digest_71 : decode cX6_digest 71 = .ok (.iload_n 3, 1) := by decide +kernel
theorem dX6_digest_72 : decode cX6_digest 72 = .ok (.invokevirtual 111, 3) := by decide +kernel
theorem dX6_digest_75 : decode cX6_digest 75 = .ok (.checkcast 66, 3) := by decide +kernel
theorem dX6_digest_78 : decode cX6_digest 78 = .ok (.invokestatic 294, 3) := by decide +kernel
theorem dX6_digest_81 : decode cX6_digest 81 = .ok (.lstore_n 1, 1) := by decide +kernel
theorem dX6_digest_82 : decode cX6_digest 82 = .ok (.iinc 3 1, 3) := by decide +kernel
theorem dX6_digest_85 : decode cX6_digest 85 = .ok (.goto (-30), 3) := by decide +kernel
theorem dX6_digest_88 : decode cX6_digest 88 = .ok (.iconst 0, 1) := by decide +kernel
theorem dX6_digest_89 : decode cX6_digest 89 = .ok (.istore_n 3, 1) := by decide +kernel
theorem dX6_digest_90 : decode cX6_digest 90 = .ok (.iload_n 3, 1) := by decide +kernel
theorem dX6_digest_91 : decode cX6_digest 91 = .ok (.aload_n 0, 1) := by decide +kernel
theorem dX6_digest_92 : decode cX6_digest 92 = .ok (.getfield 16, 3) := by decide +kernel
theorem dX6_digest_95 : decode cX6_digest 95 = .ok (.invokevirtual 57, 3) := by decide +kernel
theorem dX6_digest_98 : decode cX6_digest 98 = .ok (.if_icmp .ge 26, 3) := by decide +kernel
theorem dX6_digest_101 : decode cX6_digest 101 = .ok (.aload_n 0, 1) := by decide +kernel
theorem dX6_digest_102 : decode cX6_digest 102 = .ok (.lload_n 1, 1) := by decide +kernel
theorem dX6_digest_103 : decode cX6_digest 103 = .ok (.aload_n 0, 1) := by decide +kernel
theorem dX6_digest_104 : decode cX6_digest 104 = .ok (.getfield 16, 3) := by decide +kernel
theorem dX6_digest_107 : decode cX6_digest 107 = .ok (.iload_n 3, 1) := by decide +kernel
theorem dX6_digest_108 : decode cX6_digest 108 = .ok (.invokevirtual 111, 3) := by decide +kernel
theorem dX6_digest_111 : decode cX6_digest 111 = .ok (.checkcast 138, 3) := by decide +kernel
theorem dX6_digest_114 : decode cX6_digest 114 = .ok (.invokevirtual 298, 3) := by decide +kernel
theorem dX6_digest_117 : decode cX6_digest 117 = .ok (.lstore_n 1, 1) := by decide +kernel
theorem dX6_digest_118 : decode cX6_digest 118 = .ok (.iinc 3 1, 3) := by decide +kernel
theorem dX6_digest_121 : decode cX6_digest 121 = .ok (.goto (-31), 3) := by decide +kernel
theorem dX6_digest_124 : decode cX6_digest 124 = .ok (.iconst 0, 1) := by decide +kernel
theorem dX6_digest_125 : decode cX6_digest 125 = .ok (.istore_n 3, 1) := by decide +kernel
theorem dX6_digest_126 : decode cX6_digest 126 = .ok (.iload_n 3, 1) := by decide +kernel
theorem dX6_digest_127 : decode cX6_digest 127 = .ok (.aload_n 0, 1) := by decide +kernel
theorem dX6_digest_128 : decode cX6_digest 128 = .ok (.getfield 16, 3) := by decide +kernel
theorem dX6_digest_131 : decode cX6_digest 131 = .ok (.invokevirtual 57, 3) := by decide +kernel
theorem dX6_digest_134 : decode cX6_digest 134 = .ok (.if_icmp .ge 51, 3) := by decide +kernel
theorem dX6_digest_137 : decode cX6_digest 137 = .ok (.iconst 0, 1) := by decide +kernel
theorem dX6_digest_138 : decode cX6_digest 138 = .ok (.istore 4, 2) := by decide +kernel
theorem dX6_digest_140 : decode cX6_digest 140 = .ok (.iload 4, 2) := by decide +kernel
theorem dX6_digest_142 : decode cX6_digest 142 = .ok (.bipush 6, 2) := by decide +kernel
theorem dX6_digest_144 : decode cX6_digest 144 = .ok (.if_icmp .ge 35, 3) := by decide +kernel
theorem dX6_digest_147 : decode cX6_digest 147 = .ok (.lload_n 1, 1) := by decide +kernel
theorem dX6_digest_148 : decode cX6_digest 148 = .ok (.aload_n 0, 1) := by decide +kernel
theorem dX6_digest_149 : decode cX6_digest 149 = .ok (.getfield 16, 3) := by decide +kernel
theorem dX6_digest_152 : decode cX6_digest 152 = .ok (.iload_n 3, 1) := by decide +kernel
theorem dX6_digest_153 : decode cX6_digest 153 = .ok (.invokevirtual 111, 3) := by decide +kernel
theorem dX6_digest_156 : decode cX6_digest 156 = .ok (.checkcast 138, 3) := by decide +kernel
theorem dX6_digest_159 : decode cX6_digest 159 = .ok (.iload 4, 2) := by decide +kernel
theorem dX6_digest_161 : decode cX6_digest 161 = .ok (.aload_n 0, 1) := by decide +kernel
theorem dX6_digest_162 : decode cX6_digest 162 = .ok (.getfield 37, 3) := by decide +kernel
theorem dX6_digest_165 : decode cX6_digest 165 = .ok (.invokevirtual 201, 3) := by decide +kernel
theorem dX6_digest_168 : decode cX6_digest 168 = .ok (.i2l, 1) := by decide +kernel
theorem dX6_digest_169 : decode cX6_digest 169 = .ok (.invokestatic 290, 3) := by decide +kernel
theorem dX6_digest_172 : decode cX6_digest 172 = .ok (.lstore_n 1, 1) := by decide +kernel
theorem dX6_digest_173 : decode cX6_digest 173 = .ok (.iinc 4 1, 3) := by decide +kernel
theorem dX6_digest_176 : decode cX6_digest 176 = .ok (.goto (-36), 3) := by decide +kernel
theorem dX6_digest_179 : decode cX6_digest 179 = .ok (.iinc 3 1, 3) := by decide +kernel
theorem dX6_digest_182 : decode cX6_digest 182 = .ok (.goto (-56), 3) := by decide +kernel
theorem dX6_digest_185 : decode cX6_digest 185 = .ok (.iconst 0, 1) := by decide +kernel
theorem dX6_digest_186 : decode cX6_digest 186 = .ok (.istore_n 3, 1) := by decide +kernel
theorem dX6_digest_187 : decode cX6_digest 187 = .ok (.iload_n 3, 1) := by decide +kernel
theorem dX6_digest_188 : decode cX6_digest 188 = .ok (.aload_n 0, 1) := by decide +kernel
theorem dX6_digest_189 : decode cX6_digest 189 = .ok (.getfield 22, 3) := by decide +kernel
theorem dX6_digest_192 : decode cX6_digest 192 = .ok (.getfield 266, 3) := by decide +kernel
theorem dX6_digest_195 : decode cX6_digest 195 = .ok (.if_icmp .ge 40, 3) := by decide +kernel
theorem dX6_digest_198 : decode cX6_digest 198 = .ok (.iconst 0, 1) := by decide +kernel
theorem dX6_digest_199 : decode cX6_digest 199 = .ok (.istore 4, 2) := by decide +kernel
theorem dX6_digest_201 : decode cX6_digest 201 = .ok (.iload 4, 2) := by decide +kernel
theorem dX6_digest_203 : decode cX6_digest 203 = .ok (.iconst 4, 1) := by decide +kernel
theorem dX6_digest_204 : decode cX6_digest 204 = .ok (.if_icmp .gt 25, 3) := by decide +kernel
theorem dX6_digest_207 : decode cX6_digest 207 = .ok (.lload_n 1, 1) := by decide +kernel
theorem dX6_digest_208 : decode cX6_digest 208 = .ok (.aload_n 0, 1) := by decide +kernel
theorem dX6_digest_209 : decode cX6_digest 209 = .ok (.getfield 22, 3) := by decide +kernel
theorem dX6_digest_212 : decode cX6_digest 212 = .ok (.iload_n 3, 1) := by decide +kernel
theorem dX6_digest_213 : decode cX6_digest 213 = .ok (.iload 4, 2) := by decide +kernel
theorem dX6_digest_215 : decode cX6_digest 215 = .ok (.invokevirtual 273, 3) := by decide +kernel
theorem dX6_digest_218 : decode cX6_digest 218 = .ok (.i2l, 1) := by decide +kernel
theorem dX6_digest_219 : decode cX6_digest 219 = .ok (.invokestatic 290, 3) := by decide +kernel
theorem dX6_digest_222 : decode cX6_digest 222 = .ok (.lstore_n 1, 1) := by decide +kernel
theorem dX6_digest_223 : decode cX6_digest 223 = .ok (.iinc 4 1, 3) := by decide +kernel
theorem dX6_digest_226 : decode cX6_digest 226 = .ok (.goto (-25), 3) := by decide +kernel
theorem dX6_digest_229 : decode cX6_digest 229 = .ok (.iinc 3 1, 3) := by decide +kernel
theorem dX6_digest_232 : decode cX6_digest 232 = .ok (.goto (-45), 3) := by decide +kernel
theorem dX6_digest_235 : decode cX6_digest 235 = .ok (.lload_n 1, 1) := by decide +kernel
theorem dX6_digest_236 : decode cX6_digest 236 = .ok (.lreturn, 1) := by decide +kernel
theorem dX6_mix_0 : decode cX6_mix 0 = .ok (.lload_n 0, 1) := by decide +kernel
theorem dX6_mix_1 : decode cX6_mix 1 = .ok (.ldc2_w 302, 3) := by decide +kernel
theorem dX6_mix_4 : decode cX6_mix 4 = .ok (.lmul, 1) := by decide +kernel
theorem dX6_mix_5 : decode cX6_mix 5 = .ok (.lload_n 2, 1) := by decide +kernel
theorem dX6_mix_6 : decode cX6_mix 6 = .ok (.ladd, 1) := by decide +kernel
theorem dX6_mix_7 : decode cX6_mix 7 = .ok (.lreturn, 1) := by decide +kernel
theorem dX6_mixTopic_0 : decode cX6_mixTopic 0 = .ok (.lload_n 0, 1) := by decide +kernel
theorem dX6_mixTopic_1 : decode cX6_mixTopic 1 = .ok (.aload_n 2, 1) := by decide +kernel
theorem dX6_mixTopic_2 : decode cX6_mixTopic 2 = .ok (.invokevirtual 175, 3) := by decide +kernel
theorem dX6_mixTopic_5 : decode cX6_mixTopic 5 = .ok (.i2l, 1) := by decide +kernel
theorem dX6_mixTopic_6 : decode cX6_mixTopic 6 = .ok (.invokestatic 290, 3) := by decide +kernel
theorem dX6_mixTopic_9 : decode cX6_mixTopic 9 = .ok (.lstore_n 3, 1) := by decide +kernel
theorem dX6_mixTopic_10 : decode cX6_mixTopic 10 = .ok (.lload_n 3, 1) := by decide +kernel
theorem dX6_mixTopic_11 : decode cX6_mixTopic 11 = .ok (.aload_n 2, 1) := by decide +kernel
theorem dX6_mixTopic_12 : decode cX6_mixTopic 12 = .ok (.invokevirtual 285, 3) := by decide +kernel
theorem dX6_mixTopic_15 : decode cX6_mixTopic 15 = .ok (.i2l, 1) := by decide +kernel
theorem dX6_mixTopic_16 : decode cX6_mixTopic 16 = .ok (.invokestatic 290, 3) := by decide +kernel
theorem dX6_mixTopic_19 : decode cX6_mixTopic 19 = .ok (.lstore_n 3, 1) := by decide +kernel
theorem dX6_mixTopic_20 : decode cX6_mixTopic 20 = .ok (.iconst 0, 1) := by decide +kernel
theorem dX6_mixTopic_21 : decode cX6_mixTopic 21 = .ok (.istore 5, 2) := by decide +kernel
theorem dX6_mixTopic_23 : decode cX6_mixTopic 23 = .ok (.iload 5, 2) := by decide +kernel
theorem dX6_mixTopic_25 : decode cX6_mixTopic 25 = .ok (.aload_n 2, 1) := by decide +kernel
theorem dX6_mixTopic_26 : decode cX6_mixTopic 26 = .ok (.getfield 304, 3) := by decide +kernel
theorem dX6_mixTopic_29 : decode cX6_mixTopic 29 = .ok (.arraylength, 1) := by decide +kernel
theorem dX6_mixTopic_30 : decode cX6_mixTopic 30 = .ok (.if_icmp .ge 21, 3) := by decide +kernel
theorem dX6_mixTopic_33 : decode cX6_mixTopic 33 = .ok (.lload_n 3, 1) := by decide +kernel
theorem dX6_mixTopic_34 : decode cX6_mixTopic 34 = .ok (.aload_n 2, 1) := by decide +kernel
theorem dX6_mixTopic_35 : decode cX6_mixTopic 35 = .ok (.getfield 304, 3) := by decide +kernel
theorem dX6_mixTopic_38 : decode cX6_mixTopic 38 = .ok (.iload 5, 2) := by decide +kernel
theorem dX6_mixTopic_40 : decode cX6_mixTopic 40 = .ok (.aaload, 1) := by decide +kernel
theorem dX6_mixTopic_41 : decode cX6_mixTopic 41 = .ok (.invokestatic 308, 3) := by decide +kernel
theorem dX6_mixTopic_44 : decode cX6_mixTopic 44 = .ok (.lstore_n 3, 1) := by decide +kernel
theorem dX6_mixTopic_45 : decode cX6_mixTopic 45 = .ok (.iinc 5 1, 3) := by decide +kernel
theorem dX6_mixTopic_48 : decode cX6_mixTopic 48 = .ok (.goto (-25), 3) := by decide +kernel
theorem dX6_mixTopic_51 : decode cX6_mixTopic 51 = .ok (.lload_n 3, 1) := by decide +kernel
theorem dX6_mixTopic_52 : decode cX6_mixTopic 52 = .ok (.lreturn, 1) := by decide +kernel
theorem dX6_mixPartition_0 : decode cX6_mixPartition 0 = .ok (.lload_n 0, 1) := by decide +kernel
theorem dX6_mixPartition_1 : decode cX6_mixPartition 1 = .ok (.aload_n 2, 1) := by decide +kernel
theorem dX6_mixPartition_2 : decode cX6_mixPartition 2 = .ok (.getfield 153, 3) := by decide +kernel
theorem dX6_mixPartition_5 : decode cX6_mixPartition 5 = .ok (.i2l, 1) := by decide +kernel
theorem dX6_mixPartition_6 : decode cX6_mixPartition 6 = .ok (.invokestatic 290, 3) := by decide +kernel
theorem dX6_mixPartition_9 : decode cX6_mixPartition 9 = .ok (.lstore_n 3, 1) := by decide +kernel
theorem dX6_mixPartition_10 : decode cX6_mixPartition 10 = .ok (.lload_n 3, 1) := by decide +kernel
theorem dX6_mixPartition_11 : decode cX6_mixPartition 11 = .ok (.aload_n 2, 1) := by decide +kernel
theorem dX6_mixPartition_12 : decode cX6_mixPartition 12 = .ok (.invokevirtual 156, 3) := by decide +kernel
theorem dX6_mixPartition_15 : decode cX6_mixPartition 15 = .ok (.i2l, 1) := by decide +kernel
theorem dX6_mixPartition_16 : decode cX6_mixPartition 16 = .ok (.invokestatic 290, 3) := by decide +kernel
theorem dX6_mixPartition_19 : decode cX6_mixPartition 19 = .ok (.lstore_n 3, 1) := by decide +kernel
theorem dX6_mixPartition_20 : decode cX6_mixPartition 20 = .ok (.lload_n 3, 1) := by decide +kernel
theorem dX6_mixPartition_21 : decode cX6_mixPartition 21 = .ok (.aload_n 2, 1) := by decide +kernel
theorem dX6_mixPartition_22 : decode cX6_mixPartition 22 = .ok (.invokevirtual 157, 3) := by decide +kernel
theorem dX6_mixPartition_25 : decode cX6_mixPartition 25 = .ok (.i2l, 1) := by decide +kernel
theorem dX6_mixPartition_26 : decode cX6_mixPartition 26 = .ok (.invokestatic 290, 3) := by decide +kernel
theorem dX6_mixPartition_29 : decode cX6_mixPartition 29 = .ok (.lstore_n 3, 1) := by decide +kernel
theorem dX6_mixPartition_30 : decode cX6_mixPartition 30 = .ok (.iconst 0, 1) := by decide +kernel
theorem dX6_mixPartition_31 : decode cX6_mixPartition 31 = .ok (.istore 5, 2) := by decide +kernel
theorem dX6_mixPartition_33 : decode cX6_mixPartition 33 = .ok (.iload 5, 2) := by decide +kernel
theorem dX6_mixPartition_35 : decode cX6_mixPartition 35 = .ok (.aload_n 2, 1) := by decide +kernel
theorem dX6_mixPartition_36 : decode cX6_mixPartition 36 = .ok (.invokevirtual 156, 3) := by decide +kernel
theorem dX6_mixPartition_39 : decode cX6_mixPartition 39 = .ok (.if_icmp .ge 41, 3) := by decide +kernel
theorem dX6_mixPartition_42 : decode cX6_mixPartition 42 = .ok (.iconst 0, 1) := by decide +kernel
theorem dX6_mixPartition_43 : decode cX6_mixPartition 43 = .ok (.istore 6, 2) := by decide +kernel
theorem dX6_mixPartition_45 : decode cX6_mixPartition 45 = .ok (.iload 6, 2) := by decide +kernel
theorem dX6_mixPartition_47 : decode cX6_mixPartition 47 = .ok (.iconst 4, 1) := by decide +kernel
theorem dX6_mixPartition_48 : decode cX6_mixPartition 48 = .ok (.if_icmp .gt 26, 3) := by decide +kernel
theorem dX6_mixPartition_51 : decode cX6_mixPartition 51 = .ok (.lload_n 3, 1) := by decide +kernel
theorem dX6_mixPartition_52 : decode cX6_mixPartition 52 = .ok (.aload_n 2, 1) := by decide +kernel
theorem dX6_mixPartition_53 : decode cX6_mixPartition 53 = .ok (.iload 5, 2) := by decide +kernel
theorem dX6_mixPartition_55 : decode cX6_mixPartition 55 = .ok (.invokevirtual 167, 3) := by decide +kernel
theorem dX6_mixPartition_58 : decode cX6_mixPartition 58 = .ok (.iload 6, 2) := by decide +kernel
theorem dX6_mixPartition_60 : decode cX6_mixPartition 60 = .ok (.invokevirtual 171, 3) := by decide +kernel
theorem dX6_mixPartition_63 : decode cX6_mixPartition 63 = .ok (.i2l, 1) := by decide +kernel
theorem dX6_mixPartition_64 : decode cX6_mixPartition 64 = .ok (.invokestatic 290, 3) := by decide +kernel
theorem dX6_mixPartition_67 : decode cX6_mixPartition 67 = .ok (.lstore_n 3, 1) := by decide +kernel
theorem dX6_mixPartition_68 : decode cX6_mixPartition 68 = .ok (.iinc 6 1, 3) := by decide +kernel
theorem dX6_mixPartition_71 : decode cX6_mixPartition 71 = .ok (.goto (-26), 3) := by decide +kernel
theorem dX6_mixPartition_74 : decode cX6_mixPartition 74 = .ok (.iinc 5 1, 3) := by decide +kernel
theorem dX6_mixPartition_77 : decode cX6_mixPartition 77 = .ok (.goto (-44), 3) := by decide +kernel
theorem dX6_mixPartition_80 : decode cX6_mixPartition 80 = .ok (.lload_n 3, 1) := by decide +kernel
theorem dX6_mixPartition_81 : decode cX6_mixPartition 81 = .ok (.lreturn, 1) := by decide +kernel
theorem dX6_mixGroup_0 : decode cX6_mixGroup 0 = .ok (.lload_n 1, 1) := by decide +kernel
theorem dX6_mixGroup_1 : decode cX6_mixGroup 1 = .ok (.aload_n 3, 1) := by decide +kernel
theorem dX6_mixGroup_2 : decode cX6_mixGroup 2 = .ok (.iconst 4, 1) := by decide +kernel
theorem dX6_mixGroup_3 : decode cX6_mixGroup 3 = .ok (.invokevirtual 260, 3) := by decide +kernel
theorem dX6_mixGroup_6 : decode cX6_mixGroup 6 = .ok (.i2l, 1) := by decide +kernel
theorem dX6_mixGroup_7 : decode cX6_mixGroup 7 = .ok (.invokestatic 290, 3) := by decide +kernel
theorem dX6_mixGroup_10 : decode cX6_mixGroup 10 = .ok (.lstore 4, 2) := by decide +kernel
theorem dX6_mixGroup_12 : decode cX6_mixGroup 12 = .ok (.lload 4, 2) := by decide +kernel
theorem dX6_mixGroup_14 : decode cX6_mixGroup 14 = .ok (.aload_n 3, 1) := by decide +kernel
theorem dX6_mixGroup_15 : decode cX6_mixGroup 15 = .ok (.aload_n 0, 1) := by decide +kernel
theorem dX6_mixGroup_16 : decode cX6_mixGroup 16 = .ok (.getfield 37, 3) := by decide +kernel
theorem dX6_mixGroup_19 : decode cX6_mixGroup 19 = .ok (.aload_n 0, 1) := by decide +kernel
theorem dX6_mixGroup_20 : decode cX6_mixGroup 20 = .ok (.getfield 43, 3) := by decide +kernel
theorem dX6_mixGroup_23 : decode cX6_mixGroup 23 = .ok (.invokevirtual 282, 3) := by decide +kernel
theorem dX6_mixGroup_26 : decode cX6_mixGroup 26 = .ok (.i2l, 1) := by decide +kernel
theorem dX6_mixGroup_27 : decode cX6_mixGroup 27 = .ok (.invokestatic 290, 3) := by decide +kernel
theorem dX6_mixGroup_30 : decode cX6_mixGroup 30 = .ok (.lstore 4, 2) := by decide +kernel
theorem dX6_mixGroup_32 : decode cX6_mixGroup 32 = .ok (.iconst 0, 1) := by decide +kernel
theorem dX6_mixGroup_33 : decode cX6_mixGroup 33 = .ok (.istore 6, 2) := by decide +kernel
theorem dX6_mixGroup_35 : decode cX6_mixGroup 35 = .ok (.iload 6, 2) := by decide +kernel
theorem dX6_mixGroup_37 : decode cX6_mixGroup 37 = .ok (.aload_n 3, 1) := by decide +kernel
theorem dX6_mixGroup_38 : decode cX6_mixGroup 38 = .ok (.getfield 204, 3) := by decide +kernel
theorem dX6_mixGroup_41 : decode cX6_mixGroup 41 = .ok (.arraylength, 1) := by decide +kernel
theorem dX6_mixGroup_42 : decode cX6_mixGroup 42 = .ok (.if_icmp .ge 23, 3) := by decide +kernel
theorem dX6_mixGroup_45 : decode cX6_mixGroup 45 = .ok (.lload 4, 2) := by decide +kernel
theorem dX6_mixGroup_47 : decode cX6_mixGroup 47 = .ok (.aload_n 3, 1) := by decide +kernel
theorem dX6_mixGroup_48 : decode cX6_mixGroup 48 = .ok (.getfield 204, 3) := by decide +kernel
theorem dX6_mixGroup_51 : decode cX6_mixGroup 51 = .ok (.iload 6, 2) := by decide +kernel
theorem dX6_mixGroup_53 : decode cX6_mixGroup 53 = .ok (.aaload, 1) := by decide +kernel
theorem dX6_mixGroup_54 : decode cX6_mixGroup 54 = .ok (.invokestatic 312, 3) := by decide +kernel
theorem dX6_mixGroup_57 : decode cX6_mixGroup 57 = .ok (.lstore 4, 2) := by decide +kernel
theorem dX6_mixGroup_59 : decode cX6_mixGroup 59 = .ok (.iinc 6 1, 3) := by decide +kernel
theorem dX6_mixGroup_62 : decode cX6_mixGroup 62 = .ok (.goto (-27), 3) := by decide +kernel
theorem dX6_mixGroup_65 : decode cX6_mixGroup 65 = .ok (.lload 4, 2) := by decide +kernel
theorem dX6_mixGroup_67 : decode cX6_mixGroup 67 = .ok (.lreturn, 1) := by decide +kernel
theorem dX6_mixProgress_0 : decode cX6_mixProgress 0 = .ok (.lload_n 0, 1) := by decide +kernel
theorem dX6_mixProgress_1 : decode cX6_mixProgress 1 = .ok (.aload_n 2, 1) := by decide +kernel
theorem dX6_mixProgress_2 : decode cX6_mixProgress 2 = .ok (.getfield 245, 3) := by decide +kernel
theorem dX6_mixProgress_5 : decode cX6_mixProgress 5 = .ok (.i2l, 1) := by decide +kernel
theorem dX6_mixProgress_6 : decode cX6_mixProgress 6 = .ok (.invokestatic 290, 3) := by decide +kernel
theorem dX6_mixProgress_9 : decode cX6_mixProgress 9 = .ok (.lstore_n 3, 1) := by decide +kernel
theorem dX6_mixProgress_10 : decode cX6_mixProgress 10 = .ok (.lload_n 3, 1) := by decide +kernel
theorem dX6_mixProgress_11 : decode cX6_mixProgress 11 = .ok (.aload_n 2, 1) := by decide +kernel
theorem dX6_mixProgress_12 : decode cX6_mixProgress 12 = .ok (.getfield 229, 3) := by decide +kernel
theorem dX6_mixProgress_15 : decode cX6_mixProgress 15 = .ok (.i2l, 1) := by decide +kernel
theorem dX6_mixProgress_16 : decode cX6_mixProgress 16 = .ok (.invokestatic 290, 3) := by decide +kernel
theorem dX6_mixProgress_19 : decode cX6_mixProgress 19 = .ok (.lstore_n 3, 1) := by decide +kernel
theorem dX6_mixProgress_20 : decode cX6_mixProgress 20 = .ok (.lload_n 3, 1) := by decide +kernel
theorem dX6_mixProgress_21 : decode cX6_mixProgress 21 = .ok (.aload_n 2, 1) := by decide +kernel
theorem dX6_mixProgress_22 : decode cX6_mixProgress 22 = .ok (.getfield 248, 3) := by decide +kernel
theorem dX6_mixProgress_25 : decode cX6_mixProgress 25 = .ok (.i2l, 1) := by decide +kernel
theorem dX6_mixProgress_26 : decode cX6_mixProgress 26 = .ok (.invokestatic 290, 3) := by decide +kernel
theorem dX6_mixProgress_29 : decode cX6_mixProgress 29 = .ok (.lstore_n 3, 1) := by decide +kernel
theorem dX6_mixProgress_30 : decode cX6_mixProgress 30 = .ok (.lload_n 3, 1) := by decide +kernel
theorem dX6_mixProgress_31 : decode cX6_mixProgress 31 = .ok (.aload_n 2, 1) := by decide +kernel
theorem dX6_mixProgress_32 : decode cX6_mixProgress 32 = .ok (.invokevirtual 257, 3) := by decide +kernel
theorem dX6_mixProgress_35 : decode cX6_mixProgress 35 = .ok (.i2l, 1) := by decide +kernel
theorem dX6_mixProgress_36 : decode cX6_mixProgress 36 = .ok (.invokestatic 290, 3) := by decide +kernel
theorem dX6_mixProgress_39 : decode cX6_mixProgress 39 = .ok (.lstore_n 3, 1) := by decide +kernel
theorem dX6_mixProgress_40 : decode cX6_mixProgress 40 = .ok (.iconst 0, 1) := by decide +kernel
theorem dX6_mixProgress_41 : decode cX6_mixProgress 41 = .ok (.istore 5, 2) := by decide +kernel
theorem dX6_mixProgress_43 : decode cX6_mixProgress 43 = .ok (.iload 5, 2) := by decide +kernel
theorem dX6_mixProgress_45 : decode cX6_mixProgress 45 = .ok (.aload_n 2, 1) := by decide +kernel
theorem dX6_mixProgress_46 : decode cX6_mixProgress 46 = .ok (.getfield 236, 3) := by decide +kernel
theorem dX6_mixProgress_49 : decode cX6_mixProgress 49 = .ok (.invokevirtual 156, 3) := by decide +kernel
theorem dX6_mixProgress_52 : decode cX6_mixProgress 52 = .ok (.if_icmp .ge 35, 3) := by decide +kernel
theorem dX6_mixProgress_55 : decode cX6_mixProgress 55 = .ok (.lload_n 3, 1) := by decide +kernel
theorem dX6_mixProgress_56 : decode cX6_mixProgress 56 = .ok (.aload_n 2, 1) := by decide +kernel
theorem dX6_mixProgress_57 : decode cX6_mixProgress 57 = .ok (.getfield 251, 3) := by decide +kernel
theorem dX6_mixProgress_60 : decode cX6_mixProgress 60 = .ok (.iload 5, 2) := by decide +kernel
theorem dX6_mixProgress_62 : decode cX6_mixProgress 62 = .ok (.iaload, 1) := by decide +kernel
theorem dX6_mixProgress_63 : decode cX6_mixProgress 63 = .ok (.i2l, 1) := by decide +kernel
theorem dX6_mixProgress_64 : decode cX6_mixProgress 64 = .ok (.invokestatic 290, 3) := by decide +kernel
theorem dX6_mixProgress_67 : decode cX6_mixProgress 67 = .ok (.lstore_n 3, 1) := by decide +kernel
theorem dX6_mixProgress_68 : decode cX6_mixProgress 68 = .ok (.lload_n 3, 1) := by decide +kernel
theorem dX6_mixProgress_69 : decode cX6_mixProgress 69 = .ok (.aload_n 2, 1) := by decide +kernel
theorem dX6_mixProgress_70 : decode cX6_mixProgress 70 = .ok (.getfield 254, 3) := by decide +kernel
theorem dX6_mixProgress_73 : decode cX6_mixProgress 73 = .ok (.iload 5, 2) := by decide +kernel
theorem dX6_mixProgress_75 : decode cX6_mixProgress 75 = .ok (.iaload, 1) := by decide +kernel
theorem dX6_mixProgress_76 : decode cX6_mixProgress 76 = .ok (.i2l, 1) := by decide +kernel
theorem dX6_mixProgress_77 : decode cX6_mixProgress 77 = .ok (.invokestatic 290, 3) := by decide +kernel
theorem dX6_mixProgress_80 : decode cX6_mixProgress 80 = .ok (.lstore_n 3, 1) := by decide +kernel
theorem dX6_mixProgress_81 : decode cX6_mixProgress 81 = .ok (.iinc 5 1, 3) := by decide +kernel
theorem dX6_mixProgress_84 : decode cX6_mixProgress 84 = .ok (.goto (-41), 3) := by decide +kernel
theorem dX6_mixProgress_87 : decode cX6_mixProgress 87 = .ok (.lload_n 3, 1) := by decide +kernel
theorem dX6_mixProgress_88 : decode cX6_mixProgress 88 = .ok (.lreturn, 1) := by decide +kernel
theorem dX6_nackOverdue_0 : decode cX6_nackOverdue 0 = .ok (.iconst 0, 1) := by decide +kernel
theorem dX6_nackOverdue_1 : decode cX6_nackOverdue 1 = .ok (.istore_n 3, 1) := by decide +kernel
theorem dX6_nackOverdue_2 : decode cX6_nackOverdue 2 = .ok (.iconst 0, 1) := by decide +kernel
theorem dX6_nackOverdue_3 : decode cX6_nackOverdue 3 = .ok (.istore 4, 2) := by decide +kernel
theorem dX6_nackOverdue_5 : decode cX6_nackOverdue 5 = .ok (.iload 4, 2) := by decide +kernel
theorem dX6_nackOverdue_7 : decode cX6_nackOverdue 7 = .ok (.aload_n 2, 1) := by decide +kernel
theorem dX6_nackOverdue_8 : decode cX6_nackOverdue 8 = .ok (.getfield 204, 3) := by decide +kernel
theorem dX6_nackOverdue_11 : decode cX6_nackOverdue 11 = .ok (.arraylength, 1) := by decide +kernel
theorem dX6_nackOverdue_12 : decode cX6_nackOverdue 12 = .ok (.if_icmp .ge 85, 3) := by decide +kernel
theorem dX6_nackOverdue_15 : decode cX6_nackOverdue 15 = .ok (.aload_n 2, 1) := by decide +kernel
theorem dX6_nackOverdue_16 : decode cX6_nackOverdue 16 = .ok (.getfield 204, 3) := by decide +kernel
theorem dX6_nackOverdue_19 : decode cX6_nackOverdue 19 = .ok (.iload 4, 2) := by decide +kernel
theorem dX6_nackOverdue_21 : decode cX6_nackOverdue 21 = .ok (.aaload, 1) := by decide +kernel
theorem dX6_nackOverdue_22 : decode cX6_nackOverdue 22 = .ok (.astore 5, 2) := by decide +kernel
theorem dX6_nackOverdue_24 : decode cX6_nackOverdue 24 = .ok (.iconst 0, 1) := by decide +kernel
theorem dX6_nackOverdue_25 : decode cX6_nackOverdue 25 = .ok (.istore 6, 2) := by decide +kernel
theorem dX6_nackOverdue_27 : decode cX6_nackOverdue 27 = .ok (.iload 6, 2) := by decide +kernel
theorem dX6_nackOverdue_29 : decode cX6_nackOverdue 29 = .ok (.aload 5, 2) := by decide +kernel
theorem dX6_nackOverdue_31 : decode cX6_nackOverdue 31 = .ok (.getfield 236, 3) := by decide +kernel
theorem dX6_nackOverdue_34 : decode cX6_nackOverdue 34 = .ok (.invokevirtual 156, 3) := by decide +kernel
theorem dX6_nackOverdue_37 : decode cX6_nackOverdue 37 = .ok (.if_icmp .ge 54, 3) := by decide +kernel
theorem dX6_nackOverdue_40 : decode cX6_nackOverdue 40 = .ok (.aload 5, 2) := by decide +kernel
theorem dX6_nackOverdue_42 : decode cX6_nackOverdue 42 = .ok (.iload 6, 2) := by decide +kernel
theorem dX6_nackOverdue_44 : decode cX6_nackOverdue 44 = .ok (.invokevirtual 316, 3) := by decide +kernel
theorem dX6_nackOverdue_47 : decode cX6_nackOverdue 47 = .ok (.ifCond .eq 38, 3) := by decide +kernel
theorem dX6_nackOverdue_50 : decode cX6_nackOverdue 50 = .ok (.aload_n 0, 1) := by decide +kernel
theorem dX6_nackOverdue_51 : decode cX6_nackOverdue 51 = .ok (.getfield 37, 3) := by decide +kernel
theorem dX6_nackOverdue_54 : decode cX6_nackOverdue 54 = .ok (.aload 5, 2) := by decide +kernel
theorem dX6_nackOverdue_56 : decode cX6_nackOverdue 56 = .ok (.getfield 320, 3) := by decide +kernel
theorem dX6_nackOverdue_59 : decode cX6_nackOverdue 59 = .ok (.iload 6, 2) := by decide +kernel
theorem dX6_nackOverdue_61 : decode cX6_nackOverdue 61 = .ok (.iaload, 1) := by decide +kernel
theorem dX6_nackOverdue_62 : decode cX6_nackOverdue 62 = .ok (.isub, 1) := by decide +kernel
theorem dX6_nackOverdue_63 : decode cX6_nackOverdue 63 = .ok (.aload_n 0, 1) := by decide +kernel
theorem dX6_nackOverdue_64 : decode cX6_nackOverdue 64 = .ok (.getfield 43, 3) := by decide +kernel
theorem dX6_nackOverdue_67 : decode cX6_nackOverdue 67 = .ok (.if_icmp .lt 18, 3) := by decide +kernel
theorem dX6_nackOverdue_70 : decode cX6_nackOverdue 70 = .ok (.aload_n 0, 1) := by decide +kernel
theorem dX6_nackOverdue_71 : decode cX6_nackOverdue 71 = .ok (.iload_n 1, 1) := by decide +kernel
theorem dX6_nackOverdue_72 : decode cX6_nackOverdue 72 = .ok (.iload 4, 2) := by decide +kernel
theorem dX6_nackOverdue_74 : decode cX6_nackOverdue 74 = .ok (.aload 5, 2) := by decide +kernel
theorem dX6_nackOverdue_76 : decode cX6_nackOverdue 76 = .ok (.iload 6, 2) := by decide +kernel
theorem dX6_nackOverdue_78 : decode cX6_nackOverdue 78 = .ok (.invokevirtual 232, 3) := by decide +kernel
theorem dX6_nackOverdue_81 : decode cX6_nackOverdue 81 = .ok (.pop, 1) := by decide +kernel
theorem dX6_nackOverdue_82 : decode cX6_nackOverdue 82 = .ok (.iinc 3 1, 3) := by decide +kernel
theorem dX6_nackOverdue_85 : decode cX6_nackOverdue 85 = .ok (.iinc 6 1, 3) := by decide +kernel
theorem dX6_nackOverdue_88 : decode cX6_nackOverdue 88 = .ok (.goto (-61), 3) := by decide +kernel
theorem dX6_nackOverdue_91 : decode cX6_nackOverdue 91 = .ok (.iinc 4 1, 3) := by decide +kernel
theorem dX6_nackOverdue_94 : decode cX6_nackOverdue 94 = .ok (.goto (-89), 3) := by decide +kernel
theorem dX6_nackOverdue_97 : decode cX6_nackOverdue 97 = .ok (.iload_n 3, 1) := by decide +kernel
theorem dX6_nackOverdue_98 : decode cX6_nackOverdue 98 = .ok (.ireturn, 1) := by decide +kernel
theorem dX6_giveBack_0 : decode cX6_giveBack 0 = .ok (.aload_n 3, 1) := by decide +kernel
theorem dX6_giveBack_1 : decode cX6_giveBack 1 = .ok (.iload 4, 2) := by decide +kernel
theorem dX6_giveBack_3 : decode cX6_giveBack 3 = .ok (.aload_n 0, 1) := by decide +kernel
theorem dX6_giveBack_4 : decode cX6_giveBack 4 = .ok (.getfield 37, 3) := by decide +kernel
theorem dX6_giveBack_7 : decode cX6_giveBack 7 = .ok (.aload_n 0, 1) := by decide +kernel
theorem dX6_giveBack_8 : decode cX6_giveBack 8 = .ok (.getfield 40, 3) := by decide +kernel
theorem dX6_giveBack_11 : decode cX6_giveBack 11 = .ok (.invokevirtual 323, 3) := by decide +kernel
theorem dX6_giveBack_14 : decode cX6_giveBack 14 = .ok (.istore 5, 2) := by decide +kernel
theorem dX6_giveBack_16 : decode cX6_giveBack 16 = .ok (.aload_n 0, 1) := by decide +kernel
theorem dX6_giveBack_17 : decode cX6_giveBack 17 = .ok (.getfield 22, 3) := by decide +kernel
theorem dX6_giveBack_20 : decode cX6_giveBack 20 = .ok (.iconst 2, 1) := by decide +kernel
theorem dX6_giveBack_21 : decode cX6_giveBack 21 = .ok (.iload_n 1, 1) := by decide +kernel
theorem dX6_giveBack_22 : decode cX6_giveBack 22 = .ok (.iload_n 2, 1) := by decide +kernel
theorem dX6_giveBack_23 : decode cX6_giveBack 23 = .ok (.iload 4, 2) := by decide +kernel
theorem dX6_giveBack_25 : decode cX6_giveBack 25 = .ok (.aload_n 0, 1) := by decide +kernel
theorem dX6_giveBack_26 : decode cX6_giveBack 26 = .ok (.getfield 37, 3) := by decide +kernel
theorem dX6_giveBack_29 : decode cX6_giveBack 29 = .ok (.invokevirtual 214, 3) := by decide +kernel
theorem dX6_giveBack_32 : decode cX6_giveBack 32 = .ok (.iload 5, 2) := by decide +kernel
theorem dX6_giveBack_34 : decode cX6_giveBack 34 = .ok (.iconst (-1), 1) := by decide +kernel
theorem dX6_giveBack_35 : decode cX6_giveBack 35 = .ok (.if_icmp .ne 19, 3) := by decide +kernel
theorem dX6_giveBack_38 : decode cX6_giveBack 38 = .ok (.aload_n 0, 1) := by decide +kernel
theorem dX6_giveBack_39 : decode cX6_giveBack 39 = .ok (.getfield 22, 3) := by decide +kernel
theorem dX6_giveBack_42 : decode cX6_giveBack 42 = .ok (.iconst 3, 1) := by decide +kernel
theorem dX6_giveBack_43 : decode cX6_giveBack 43 = .ok (.iload_n 1, 1) := by decide +kernel
theorem dX6_giveBack_44 : decode cX6_giveBack 44 = .ok (.iload_n 2, 1) := by decide +kernel
theorem dX6_giveBack_45 : decode cX6_giveBack 45 = .ok (.iload 4, 2) := by decide +kernel
theorem dX6_giveBack_47 : decode cX6_giveBack 47 = .ok (.aload_n 0, 1) := by decide +kernel
theorem dX6_giveBack_48 : decode cX6_giveBack 48 = .ok (.getfield 37, 3) := by decide +kernel
theorem dX6_giveBack_51 : decode cX6_giveBack 51 = .ok (.invokevirtual 214, 3) := by decide +kernel
theorem dX6_giveBack_54 : decode cX6_giveBack 54 = .ok (.iload 5, 2) := by decide +kernel
theorem dX6_giveBack_56 : decode cX6_giveBack 56 = .ok (.ireturn, 1) := by decide +kernel
theorem dX6_keepUpGroups_0 : decode cX6_keepUpGroups 0 = .ok (.iconst 0, 1) := by decide +kernel
theorem dX6_keepUpGroups_1 : decode cX6_keepUpGroups 1 = .ok (.istore_n 1, 1) := by decide +kernel
theorem dX6_keepUpGroups_2 : decode cX6_keepUpGroups 2 = .ok (.iload_n 1, 1) := by decide +kernel
theorem dX6_keepUpGroups_3 : decode cX6_keepUpGroups 3 = .ok (.aload_n 0, 1) := by decide +kernel
theorem dX6_keepUpGroups_4 : decode cX6_keepUpGroups 4 = .ok (.getfield 16, 3) := by decide +kernel
theorem dX6_keepUpGroups_7 : decode cX6_keepUpGroups 7 = .ok (.invokevirtual 57, 3) := by decide +kernel
theorem dX6_keepUpGroups_10 : decode cX6_keepUpGroups 10 = .ok (.if_icmp .ge 23, 3) := by decide +kernel
theorem dX6_keepUpGroups_13 : decode cX6_keepUpGroups 13 = .ok (.aload_n 0, 1) := by decide +kernel
theorem dX6_keepUpGroups_14 : decode cX6_keepUpGroups 14 = .ok (.getfield 16, 3) := by decide +kernel
theorem dX6_keepUpGroups_17 : decode cX6_keepUpGroups 17 = .ok (.iload_n 1, 1) := by decide +kernel
theorem dX6_keepUpGroups_18 : decode cX6_keepUpGroups 18 = .ok (.invokevirtual 111, 3) := by decide +kernel
theorem dX6_keepUpGroups_21 : decode cX6_keepUpGroups 21 = .ok (.checkcast 138, 3) := by decide +kernel
theorem dX6_keepUpGroups_24 : decode cX6_keepUpGroups 24 = .ok (.invokevirtual 183, 3) := by decide +kernel
theorem dX6_keepUpGroups_27 : decode cX6_keepUpGroups 27 = .ok (.iinc 1 1, 3) := by decide +kernel
theorem dX6_keepUpGroups_30 : decode cX6_keepUpGroups 30 = .ok (.goto (-28), 3) := by decide +kernel
theorem dX6_keepUpGroups_33 : decode cX6_keepUpGroups 33 = .ok (.return_, 1) := by decide +kernel
theorem dX6_topicAt_0 : decode cX6_topicAt 0 = .ok (.iload_n 1, 1) := by decide +kernel
theorem dX6_topicAt_1 : decode cX6_topicAt 1 = .ok (.iconst 0, 1) := by decide +kernel
theorem dX6_topicAt_2 : decode cX6_topicAt 2 = .ok (.aload_n 0, 1) := by decide +kernel
theorem dX6_topicAt_3 : decode cX6_topicAt 3 = .ok (.getfield 10, 3) := by decide +kernel
theorem dX6_topicAt_6 : decode cX6_topicAt 6 = .ok (.invokevirtual 57, 3) := by decide +kernel
theorem dX6_topicAt_9 : decode cX6_topicAt 9 = .ok (.iconst 1, 1) := by decide +kernel
theorem dX6_topicAt_10 : decode cX6_topicAt 10 = .ok (.isub, 1) := by decide +kernel
theorem dX6_topicAt_11 : decode cX6_topicAt 11 = .ok (.invokestatic 46, 3) := by decide +kernel
theorem dX6_topicAt_14 : decode cX6_topicAt 14 = .ok (.ifCond .ne 14, 3) := by decide +kernel
theorem dX6_topicAt_17 : decode cX6_topicAt 17 = .ok (.new 268, 3) := by decide +kernel
theorem dX6_topicAt_20 : decode cX6_topicAt 20 = .ok (.dup, 1) := by decide +kernel
theorem dX6_topicAt_21 : decode cX6_topicAt 21 = .ok (.ldc_w 326, 3) := by decide +kernel
theorem dX6_topicAt_24 : decode cX6_topicAt 24 = .ok (.invokespecial 272, 3) := by decide +kernel
theorem dX6_topicAt_27 : decode cX6_topicAt 27 = .ok (.athrow, 1) := by decide +kernel
theorem dX6_topicAt_28 : decode cX6_topicAt 28 = .ok (.aload_n 0, 1) := by decide +kernel
theorem dX6_topicAt_29 : decode cX6_topicAt 29 = .ok (.getfield 10, 3) := by decide +kernel
theorem dX6_topicAt_32 : decode cX6_topicAt 32 = .ok (.iload_n 1, 1) := by decide +kernel
theorem dX6_topicAt_33 : decode cX6_topicAt 33 = .ok (.invokevirtual 111, 3) := by decide +kernel
theorem dX6_topicAt_36 : decode cX6_topicAt 36 = .ok (.checkcast 66, 3) := by decide +kernel
theorem dX6_topicAt_39 : decode cX6_topicAt 39 = .ok (.areturn, 1) := by decide +kernel
theorem dX6_partitionAt_0 : decode cX6_partitionAt 0 = .ok (.aload_n 0, 1) := by decide +kernel
theorem dX6_partitionAt_1 : decode cX6_partitionAt 1 = .ok (.iload_n 1, 1) := by decide +kernel
theorem dX6_partitionAt_2 : decode cX6_partitionAt 2 = .ok (.invokevirtual 75, 3) := by decide +kernel
theorem dX6_partitionAt_5 : decode cX6_partitionAt 5 = .ok (.astore_n 3, 1) := by decide +kernel
theorem dX6_partitionAt_6 : decode cX6_partitionAt 6 = .ok (.iload_n 2, 1) := by decide +kernel
theorem dX6_partitionAt_7 : decode cX6_partitionAt 7 = .ok (.iconst 0, 1) := by decide +kernel
theorem dX6_partitionAt_8 : decode cX6_partitionAt 8 = .ok (.aload_n 3, 1) := by decide +kernel
theorem dX6_partitionAt_9 : decode cX6_partitionAt 9 = .ok (.getfield 304, 3) := by decide +kernel
theorem dX6_partitionAt_12 : decode cX6_partitionAt 12 = .ok (.arraylength, 1) := by decide +kernel
theorem dX6_partitionAt_13 : decode cX6_partitionAt 13 = .ok (.iconst 1, 1) := by decide +kernel
theorem dX6_partitionAt_14 : decode cX6_partitionAt 14 = .ok (.isub, 1) := by decide +kernel
theorem dX6_partitionAt_15 : decode cX6_partitionAt 15 = .ok (.invokestatic 46, 3) := by decide +kernel
theorem dX6_partitionAt_18 : decode cX6_partitionAt 18 = .ok (.ifCond .ne 14, 3) := by decide +kernel
theorem dX6_partitionAt_21 : decode cX6_partitionAt 21 = .ok (.new 268, 3) := by decide +kernel
theorem dX6_partitionAt_24 : decode cX6_partitionAt 24 = .ok (.dup, 1) := by decide +kernel
theorem dX6_partitionAt_25 : decode cX6_partitionAt 25 = .ok (.ldc_w 328, 3) := by decide +kernel
theorem dX6_partitionAt_28 : decode cX6_partitionAt 28 = .ok (.invokespecial 272, 3) := by decide +kernel
theorem dX6_partitionAt_31 : decode cX6_partitionAt 31 = .ok (.athrow, 1) := by decide +kernel
theorem dX6_partitionAt_32 : decode cX6_partitionAt 32 = .ok (.aload_n 3, 1) := by decide +kernel
theorem dX6_partitionAt_33 : decode cX6_partitionAt 33 = .ok (.getfield 304, 3) := by decide +kernel
theorem dX6_partitionAt_36 : decode cX6_partitionAt 36 = .ok (.iload_n 2, 1) := by decide +kernel
theorem dX6_partitionAt_37 : decode cX6_partitionAt 37 = .ok (.aaload, 1) := by decide +kernel
theorem dX6_partitionAt_38 : decode cX6_partitionAt 38 = .ok (.areturn, 1) := by decide +kernel
theorem dX6_groupAt_0 : decode cX6_groupAt 0 = .ok (.iload_n 1, 1) := by decide +kernel
theorem dX6_groupAt_1 : decode cX6_groupAt 1 = .ok (.iconst 0, 1) := by decide +kernel
theorem dX6_groupAt_2 : decode cX6_groupAt 2 = .ok (.aload_n 0, 1) := by decide +kernel
theorem dX6_groupAt_3 : decode cX6_groupAt 3 = .ok (.getfield 16, 3) := by decide +kernel
theorem dX6_groupAt_6 : decode cX6_groupAt 6 = .ok (.invokevirtual 57, 3) := by decide +kernel
theorem dX6_groupAt_9 : decode cX6_groupAt 9 = .ok (.iconst 1, 1) := by decide +kernel
theorem dX6_groupAt_10 : decode cX6_groupAt 10 = .ok (.isub, 1) := by decide +kernel
theorem dX6_groupAt_11 : decode cX6_groupAt 11 = .ok (.invokestatic 46, 3) := by decide +kernel
theorem dX6_groupAt_14 : decode cX6_groupAt 14 = .ok (.ifCond .ne 14, 3) := by decide +kernel
theorem dX6_groupAt_17 : decode cX6_groupAt 17 = .ok (.new 268, 3) := by decide +kernel
theorem dX6_groupAt_20 : decode cX6_groupAt 20 = .ok (.dup, 1) := by decide +kernel
theorem dX6_groupAt_21 : decode cX6_groupAt 21 = .ok (.ldc_w 330, 3) := by decide +kernel
theorem dX6_groupAt_24 : decode cX6_groupAt 24 = .ok (.invokespecial 272, 3) := by decide +kernel
theorem dX6_groupAt_27 : decode cX6_groupAt 27 = .ok (.athrow, 1) := by decide +kernel
theorem dX6_groupAt_28 : decode cX6_groupAt 28 = .ok (.aload_n 0, 1) := by decide +kernel
theorem dX6_groupAt_29 : decode cX6_groupAt 29 = .ok (.getfield 16, 3) := by decide +kernel
theorem dX6_groupAt_32 : decode cX6_groupAt 32 = .ok (.iload_n 1, 1) := by decide +kernel
theorem dX6_groupAt_33 : decode cX6_groupAt 33 = .ok (.invokevirtual 111, 3) := by decide +kernel
theorem dX6_groupAt_36 : decode cX6_groupAt 36 = .ok (.checkcast 138, 3) := by decide +kernel
theorem dX6_groupAt_39 : decode cX6_groupAt 39 = .ok (.areturn, 1) := by decide +kernel
theorem dX6_progressAt_0 : decode cX6_progressAt 0 = .ok (.aload_n 0, 1) := by decide +kernel
theorem dX6_progressAt_1 : decode cX6_progressAt 1 = .ok (.iload_n 1, 1) := by decide +kernel
theorem dX6_progressAt_2 : decode cX6_progressAt 2 = .ok (.invokevirtual 186, 3) := by decide +kernel
theorem dX6_progressAt_5 : decode cX6_progressAt 5 = .ok (.astore_n 3, 1) := by decide +kernel
theorem dX6_progressAt_6 : decode cX6_progressAt 6 = .ok (.aload_n 3, 1) := by decide +kernel
theorem dX6_progressAt_7 : decode cX6_progressAt 7 = .ok (.iload_n 2, 1) := by decide +kernel
theorem dX6_progressAt_8 : decode cX6_progressAt 8 = .ok (.invokestatic 275, 3) := by decide +kernel
theorem dX6_progressAt_11 : decode cX6_progressAt 11 = .ok (.aload_n 3, 1) := by decide +kernel
theorem dX6_progressAt_12 : decode cX6_progressAt 12 = .ok (.getfield 204, 3) := by decide +kernel
theorem dX6_progressAt_15 : decode cX6_progressAt 15 = .ok (.iload_n 2, 1) := by decide +kernel
theorem dX6_progressAt_16 : decode cX6_progressAt 16 = .ok (.aaload, 1) := by decide +kernel
theorem dX6_progressAt_17 : decode cX6_progressAt 17 = .ok (.areturn, 1) := by decide +kernel
theorem dX6_refuseOtherPartitions_0 : decode cX6_refuseOtherPartitions 0 = .ok (.iload_n 1, 1) := by decide +kernel
theorem dX6_refuseOtherPartitions_1 : decode cX6_refuseOtherPartitions 1 = .ok (.iconst 0, 1) := by decide +kernel
theorem dX6_refuseOtherPartitions_2 : decode cX6_refuseOtherPartitions 2 = .ok (.aload_n 0, 1) := by decide +kernel
theorem dX6_refuseOtherPartitions_3 : decode cX6_refuseOtherPartitions 3 = .ok (.getfield 204, 3) := by decide +kernel
theorem dX6_refuseOtherPartitions_6 : decode cX6_refuseOtherPartitions 6 = .ok (.arraylength, 1) := by decide +kernel
theorem dX6_refuseOtherPartitions_7 : decode cX6_refuseOtherPartitions 7 = .ok (.iconst 1, 1) := by decide +kernel
theorem dX6_refuseOtherPartitions_8 : decode cX6_refuseOtherPartitions 8 = .ok (.isub, 1) := by decide +kernel
theorem dX6_refuseOtherPartitions_9 : decode cX6_refuseOtherPartitions 9 = .ok (.invokestatic 46, 3) := by decide +kernel
theorem dX6_refuseOtherPartitions_12 : decode cX6_refuseOtherPartitions 12 = .ok (.ifCond .ne 14, 3) := by decide +kernel
theorem dX6_refuseOtherPartitions_15 : decode cX6_refuseOtherPartitions 15 = .ok (.new 268, 3) := by decide +kernel
theorem dX6_refuseOtherPartitions_18 : decode cX6_refuseOtherPartitions 18 = .ok (.dup, 1) := by decide +kernel
theorem dX6_refuseOtherPartitions_19 : decode cX6_refuseOtherPartitions 19 = .ok (.ldc_w 332, 3) := by decide +kernel
theorem dX6_refuseOtherPartitions_22 : decode cX6_refuseOtherPartitions 22 = .ok (.invokespecial 272, 3) := by decide +kernel
theorem dX6_refuseOtherPartitions_25 : decode cX6_refuseOtherPartitions 25 = .ok (.athrow, 1) := by decide +kernel
theorem dX6_refuseOtherPartitions_26 : decode cX6_refuseOtherPartitions 26 = .ok (.return_, 1) := by decide +kernel
theorem dX6_refuseOtherProducers_0 : decode cX6_refuseOtherProducers 0 = .ok (.iload_n 0, 1) := by decide +kernel
theorem dX6_refuseOtherProducers_1 : decode cX6_refuseOtherProducers 1 = .ok (.iconst 0, 1) := by decide +kernel
theorem dX6_refuseOtherProducers_2 : decode cX6_refuseOtherProducers 2 = .ok (.iconst 3, 1) := by decide +kernel
theorem dX6_refuseOtherProducers_3 : decode cX6_refuseOtherProducers 3 = .ok (.invokestatic 46, 3) := by decide +kernel
theorem dX6_refuseOtherProducers_6 : decode cX6_refuseOtherProducers 6 = .ok (.ifCond .ne 14, 3) := by decide +kernel
theorem dX6_refuseOtherProducers_9 : decode cX6_refuseOtherProducers 9 = .ok (.new 268, 3) := by decide +kernel
theorem dX6_refuseOtherProducers_12 : decode cX6_refuseOtherProducers 12 = .ok (.dup, 1) := by decide +kernel
theorem dX6_refuseOtherProducers_13 : decode cX6_refuseOtherProducers 13 = .ok (.ldc_w 334, 3) := by decide +kernel
theorem dX6_refuseOtherProducers_16 : decode cX6_refuseOtherProducers 16 = .ok (.invokespecial 272, 3) := by decide +kernel
theorem dX6_refuseOtherProducers_19 : decode cX6_refuseOtherProducers 19 = .ok (.athrow, 1) := by decide +kernel
theorem dX6_refuseOtherProducers_20 : decode cX6_refuseOtherProducers 20 = .ok (.return_, 1) := by decide +kernel
theorem dX6_refuseOtherReaders_0 : decode cX6_refuseOtherReaders 0 = .ok (.iload_n 0, 1) := by decide +kernel
theorem dX6_refuseOtherReaders_1 : decode cX6_refuseOtherReaders 1 = .ok (.iconst 0, 1) := by decide +kernel
theorem dX6_refuseOtherReaders_2 : decode cX6_refuseOtherReaders 2 = .ok (.iconst 5, 1) := by decide +kernel
theorem dX6_refuseOtherReaders_3 : decode cX6_refuseOtherReaders 3 = .ok (.invokestatic 46, 3) := by decide +kernel
theorem dX6_refuseOtherReaders_6 : decode cX6_refuseOtherReaders 6 = .ok (.ifCond .ne 14, 3) := by decide +kernel
theorem dX6_refuseOtherReaders_9 : decode cX6_refuseOtherReaders 9 = .ok (.new 268, 3) := by decide +kernel
theorem dX6_refuseOtherReaders_12 : decode cX6_refuseOtherReaders 12 = .ok (.dup, 1) := by decide +kernel
theorem dX6_refuseOtherReaders_13 : decode cX6_refuseOtherReaders 13 = .ok (.ldc_w 336, 3) := by decide +kernel
theorem dX6_refuseOtherReaders_16 : decode cX6_refuseOtherReaders 16 = .ok (.invokespecial 272, 3) := by decide +kernel
theorem dX6_refuseOtherReaders_19 : decode cX6_refuseOtherReaders 19 = .ok (.athrow, 1) := by decide +kernel
theorem dX6_refuseOtherReaders_20 : decode cX6_refuseOtherReaders 20 = .ok (.return_, 1) := by decide +kernel
theorem dX6_refuseOtherOffsets_0 : decode cX6_refuseOtherOffsets 0 = .ok (.aload_n 0, 1) := by decide +kernel
theorem dX6_refuseOtherOffsets_1 : decode cX6_refuseOtherOffsets 1 = .ok (.iload_n 1, 1) := by decide +kernel
theorem dX6_refuseOtherOffsets_2 : decode cX6_refuseOtherOffsets 2 = .ok (.invokevirtual 338, 3) := by decide +kernel
theorem dX6_refuseOtherOffsets_5 : decode cX6_refuseOtherOffsets 5 = .ok (.ifCond .ne 14, 3) := by decide +kernel
theorem dX6_refuseOtherOffsets_8 : decode cX6_refuseOtherOffsets 8 = .ok (.new 268, 3) := by decide +kernel
theorem dX6_refuseOtherOffsets_11 : decode cX6_refuseOtherOffsets 11 = .ok (.dup, 1) := by decide +kernel
theorem dX6_refuseOtherOffsets_12 : decode cX6_refuseOtherOffsets 12 = .ok (.ldc_w 341, 3) := by decide +kernel
theorem dX6_refuseOtherOffsets_15 : decode cX6_refuseOtherOffsets 15 = .ok (.invokespecial 272, 3) := by decide +kernel
theorem dX6_refuseOtherOffsets_18 : decode cX6_refuseOtherOffsets 18 = .ok (.athrow, 1) := by decide +kernel
theorem dX6_refuseOtherOffsets_19 : decode cX6_refuseOtherOffsets 19 = .ok (.return_, 1) := by decide +kernel
theorem dX6_refuseOtherWhats_0 : decode cX6_refuseOtherWhats 0 = .ok (.iload_n 0, 1) := by decide +kernel
theorem dX6_refuseOtherWhats_1 : decode cX6_refuseOtherWhats 1 = .ok (.iconst 0, 1) := by decide +kernel
theorem dX6_refuseOtherWhats_2 : decode cX6_refuseOtherWhats 2 = .ok (.iconst 4, 1) := by decide +kernel
theorem dX6_refuseOtherWhats_3 : decode cX6_refuseOtherWhats 3 = .ok (.invokestatic 46, 3) := by decide +kernel
theorem dX6_refuseOtherWhats_6 : decode cX6_refuseOtherWhats 6 = .ok (.ifCond .ne 14, 3) := by decide +kernel
theorem dX6_refuseOtherWhats_9 : decode cX6_refuseOtherWhats 9 = .ok (.new 50, 3) := by decide +kernel
theorem dX6_refuseOtherWhats_12 : decode cX6_refuseOtherWhats 12 = .ok (.dup, 1) := by decide +kernel
theorem dX6_refuseOtherWhats_13 : decode cX6_refuseOtherWhats 13 = .ok (.ldc_w 343, 3) := by decide +kernel
theorem dX6_refuseOtherWhats_16 : decode cX6_refuseOtherWhats 16 = .ok (.invokespecial 54, 3) := by decide +kernel
theorem dX6_refuseOtherWhats_19 : decode cX6_refuseOtherWhats 19 = .ok (.athrow, 1) := by decide +kernel
theorem dX6_refuseOtherWhats_20 : decode cX6_refuseOtherWhats 20 = .ok (.return_, 1) := by decide +kernel
theorem dX6_refuseUnlessOut_0 : decode cX6_refuseUnlessOut 0 = .ok (.aload_n 0, 1) := by decide +kernel
theorem dX6_refuseUnlessOut_1 : decode cX6_refuseUnlessOut 1 = .ok (.iload_n 1, 1) := by decide +kernel
theorem dX6_refuseUnlessOut_2 : decode cX6_refuseUnlessOut 2 = .ok (.invokevirtual 316, 3) := by decide +kernel
theorem dX6_refuseUnlessOut_5 : decode cX6_refuseUnlessOut 5 = .ok (.ifCond .ne 14, 3) := by decide +kernel
theorem dX6_refuseUnlessOut_8 : decode cX6_refuseUnlessOut 8 = .ok (.new 61, 3) := by decide +kernel
theorem dX6_refuseUnlessOut_11 : decode cX6_refuseUnlessOut 11 = .ok (.dup, 1) := by decide +kernel
theorem dX6_refuseUnlessOut_12 : decode cX6_refuseUnlessOut 12 = .ok (.ldc_w 345, 3) := by decide +kernel
theorem dX6_refuseUnlessOut_15 : decode cX6_refuseUnlessOut 15 = .ok (.invokespecial 65, 3) := by decide +kernel
theorem dX6_refuseUnlessOut_18 : decode cX6_refuseUnlessOut 18 = .ok (.athrow, 1) := by decide +kernel
theorem dX6_refuseUnlessOut_19 : decode cX6_refuseUnlessOut 19 = .ok (.return_, 1) := by decide +kernel
theorem dX6_isWithin_0 : decode cX6_isWithin 0 = .ok (.iload_n 0, 1) := by decide +kernel
theorem dX6_isWithin_1 : decode cX6_isWithin 1 = .ok (.iload_n 1, 1) := by decide +kernel
theorem dX6_isWithin_2 : decode cX6_isWithin 2 = .ok (.if_icmp .lt 12, 3) := by decide +kernel
theorem dX6_isWithin_5 : decode cX6_isWithin 5 = .ok (.iload_n 0, 1) := by decide +kernel
theorem dX6_isWithin_6 : decode cX6_isWithin 6 = .ok (.iload_n 2, 1) := by decide +kernel
theorem dX6_isWithin_7 : decode cX6_isWithin 7 = .ok (.if_icmp .gt 7, 3) := by decide +kernel
theorem dX6_isWithin_10 : decode cX6_isWithin 10 = .ok (.iconst 1, 1) := by decide +kernel
theorem dX6_isWithin_11 : decode cX6_isWithin 11 = .ok (.goto 4, 3) := by decide +kernel
theorem dX6_isWithin_14 : decode cX6_isWithin 14 = .ok (.iconst 0, 1) := by decide +kernel
theorem dX6_isWithin_15 : decode cX6_isWithin 15 = .ok (.ireturn, 1) := by decide +kernel
theorem dJ9_max_7cf53_0 : decode cJ9_max_7cf53 0 = .ok (.iload_n 0, 1) := by decide +kernel
theorem dJ9_max_7cf53_1 : decode cJ9_max_7cf53 1 = .ok (.iload_n 1, 1) := by decide +kernel
theorem dJ9_max_7cf53_2 : decode cJ9_max_7cf53 2 = .ok (.if_icmp .lt 7, 3) := by decide +kernel
theorem dJ9_max_7cf53_5 : decode cJ9_max_7cf53 5 = .ok (.iload_n 0, 1) := by decide +kernel
theorem dJ9_max_7cf53_6 : decode cJ9_max_7cf53 6 = .ok (.goto 4, 3) := by decide +kernel
theorem dJ9_max_7cf53_9 : decode cJ9_max_7cf53 9 = .ok (.iload_n 1, 1) := by decide +kernel
theorem dJ9_max_7cf53_10 : decode cJ9_max_7cf53 10 = .ok (.ireturn, 1) := by decide +kernel
theorem dJ9_min_7cf53_0 : decode cJ9_min_7cf53 0 = .ok (.iload_n 0, 1) := by decide +kernel
theorem dJ9_min_7cf53_1 : decode cJ9_min_7cf53 1 = .ok (.iload_n 1, 1) := by decide +kernel
theorem dJ9_min_7cf53_2 : decode cJ9_min_7cf53 2 = .ok (.if_icmp .gt 7, 3) := by decide +kernel
theorem dJ9_min_7cf53_5 : decode cJ9_min_7cf53 5 = .ok (.iload_n 0, 1) := by decide +kernel
theorem dJ9_min_7cf53_6 : decode cJ9_min_7cf53 6 = .ok (.goto 4, 3) := by decide +kernel
theorem dJ9_min_7cf53_9 : decode cJ9_min_7cf53 9 = .ok (.iload_n 1, 1) := by decide +kernel
theorem dJ9_min_7cf53_10 : decode cJ9_min_7cf53 10 = .ok (.ireturn, 1) := by decide +kernel
theorem dJxa1e45_init_da8c8_0 : decode cJxa1e45_init_da8c8 0 = .ok (.aload_n 0, 1) := by decide +kernel
theorem dJxa1e45_init_da8c8_1 : decode cJxa1e45_init_da8c8 1 = .ok (.invokespecial 1, 3) := by decide +kernel
theorem dJxa1e45_init_da8c8_4 : decode cJxa1e45_init_da8c8 4 = .ok (.return_, 1) := by decide +kernel
theorem dJxc12de_init_da8c8_0 : decode cJxc12de_init_da8c8 0 = .ok (.aload_n 0, 1) := by decide +kernel
theorem dJxc12de_init_da8c8_1 : decode cJxc12de_init_da8c8 1 = .ok (.invokespecial 1, 3) := by decide +kernel
theorem dJxc12de_init_da8c8_4 : decode cJxc12de_init_da8c8 4 = .ok (.aload_n 0, 1) := by decide +kernel
theorem dJxc12de_init_da8c8_5 : decode cJxc12de_init_da8c8 5 = .ok (.iconst 0, 1) := by decide +kernel
theorem dJxc12de_init_da8c8_6 : decode cJxc12de_init_da8c8 6 = .ok (.putfield 7, 3) := by decide +kernel
theorem dJxc12de_init_da8c8_9 : decode cJxc12de_init_da8c8 9 = .ok (.return_, 1) := by decide +kernel
theorem dJx4a65c_init_da8c8_0 : decode cJx4a65c_init_da8c8 0 = .ok (.aload_n 0, 1) := by decide +kernel
theorem dJx4a65c_init_da8c8_1 : decode cJx4a65c_init_da8c8 1 = .ok (.invokespecial 1, 3) := by decide +kernel
theorem dJx4a65c_init_da8c8_4 : decode cJx4a65c_init_da8c8 4 = .ok (.aload_n 0, 1) := by decide +kernel
theorem dJx4a65c_init_da8c8_5 : decode cJx4a65c_init_da8c8 5 = .ok (.getstatic 39, 3) := by decide +kernel
theorem dJx4a65c_init_da8c8_8 : decode cJx4a65c_init_da8c8 8 = .ok (.putfield 9, 3) := by decide +kernel
theorem dJx4a65c_init_da8c8_11 : decode cJx4a65c_init_da8c8 11 = .ok (.return_, 1) := by decide +kernel
theorem dJx4a65c_grow_92f84_0 : decode cJx4a65c_grow_92f84 0 = .ok (.aload_n 0, 1) := by decide +kernel
theorem dJx4a65c_grow_92f84_1 : decode cJx4a65c_grow_92f84 1 = .ok (.getfield 9, 3) := by decide +kernel
theorem dJx4a65c_grow_92f84_4 : decode cJx4a65c_grow_92f84 4 = .ok (.arraylength, 1) := by decide +kernel
theorem dJx4a65c_grow_92f84_5 : decode cJx4a65c_grow_92f84 5 = .ok (.istore_n 2, 1) := by decide +kernel
theorem dJx4a65c_grow_92f84_6 : decode cJx4a65c_grow_92f84 6 = .ok (.iload_n 2, 1) := by decide +kernel
theorem dJx4a65c_grow_92f84_7 : decode cJx4a65c_grow_92f84 7 = .ok (.ifCond .gt 13, 3) := by decide +kernel
theorem dJx4a65c_grow_92f84_10 : decode cJx4a65c_grow_92f84 10 = .ok (.aload_n 0, 1) := by decide +kernel
theorem dJx4a65c_grow_92f84_11 : decode cJx4a65c_grow_92f84 11 = .ok (.getfield 9, 3) := by decide +kernel
theorem dJx4a65c_grow_92f84_14 : decode cJx4a65c_grow_92f84 14 = .ok (.getstatic 39, 3) := by decide +kernel
theorem dJx4a65c_grow_92f84_17 : decode cJx4a65c_grow_92f84 17 = .ok (.if_acmp .eq 28, 3) := by decide +kernel
theorem dJx4a65c_grow_92f84_20 : decode cJx4a65c_grow_92f84 20 = .ok (.iload_n 2, 1) := by decide +kernel
theorem dJx4a65c_grow_92f84_21 : decode cJx4a65c_grow_92f84 21 = .ok (.iload_n 1, 1) := by decide +kernel
theorem dJx4a65c_grow_92f84_22 : decode cJx4a65c_grow_92f84 22 = .ok (.iload_n 2, 1) := by decide +kernel
theorem dJx4a65c_grow_92f84_23 : decode cJx4a65c_grow_92f84 23 = .ok (.isub, 1) := by decide +kernel
theorem dJx4a65c_grow_92f84_24 : decode cJx4a65c_grow_92f84 24 = .ok (.iload_n 2, 1) := by decide +kernel
theorem dJx4a65c_grow_92f84_25 : decode cJx4a65c_grow_92f84 25 = .ok (.iconst 1, 1) := by decide +kernel
theorem dJx4a65c_grow_92f84_26 : decode cJx4a65c_grow_92f84 26 = .ok (.ishr, 1) := by decide +kernel
theorem dJx4a65c_grow_92f84_27 : decode cJx4a65c_grow_92f84 27 = .ok (.invokestatic 73, 3) := by decide +kernel
theorem dJx4a65c_grow_92f84_30 : decode cJx4a65c_grow_92f84 30 = .ok (.istore_n 3, 1) := by decide +kernel
theorem dJx4a65c_grow_92f84_31 : decode cJx4a65c_grow_92f84 31 = .ok (.aload_n 0, 1) := by decide +kernel
theorem dJx4a65c_grow_92f84_32 : decode cJx4a65c_grow_92f84 32 = .ok (.aload_n 0, 1) := by decide +kernel
theorem dJx4a65c_grow_92f84_33 : decode cJx4a65c_grow_92f84 33 = .ok (.getfield 9, 3) := by decide +kernel
theorem dJx4a65c_grow_92f84_36 : decode cJx4a65c_grow_92f84 36 = .ok (.iload_n 3, 1) := by decide +kernel
theorem dJx4a65c_grow_92f84_37 : decode cJx4a65c_grow_92f84 37 = .ok (.invokestatic 66, 3) := by decide +kernel
theorem dJx4a65c_grow_92f84_40 : decode cJx4a65c_grow_92f84 40 = .ok (.dup_x1, 1) := by decide +kernel
theorem dJx4a65c_grow_92f84_41 : decode cJx4a65c_grow_92f84 41 = .ok (.putfield 9, 3) := by decide +kernel
theorem dJx4a65c_grow_92f84_44 : decode cJx4a65c_grow_92f84 44 = .ok (.areturn, 1) := by decide +kernel
theorem dJx4a65c_grow_92f84_45 : decode cJx4a65c_grow_92f84 45 = .ok (.aload_n 0, 1) := by decide +kernel
theorem dJx4a65c_grow_92f84_46 : decode cJx4a65c_grow_92f84 46 = .ok (.bipush 10, 2) := by decide +kernel
theorem dJx4a65c_grow_92f84_48 : decode cJx4a65c_grow_92f84 48 = .ok (.iload_n 1, 1) := by decide +kernel
theorem dJx4a65c_grow_92f84_49 : decode cJx4a65c_grow_92f84 49 = .ok (.invokestatic 79, 3) := by decide +kernel
theorem dJx4a65c_grow_92f84_52 : decode cJx4a65c_grow_92f84 52 = .ok (.anewarray 7, 3) := by decide +kernel
theorem dJx4a65c_grow_92f84_55 : decode cJx4a65c_grow_92f84 55 = .ok (.dup_x1, 1) := by decide +kernel
theorem dJx4a65c_grow_92f84_56 : decode cJx4a65c_grow_92f84 56 = .ok (.putfield 9, 3) := by decide +kernel
theorem dJx4a65c_grow_92f84_59 : decode cJx4a65c_grow_92f84 59 = .ok (.areturn, 1) := by decide +kernel
theorem dJx4a65c_grow_d5877_0 : decode cJx4a65c_grow_d5877 0 = .ok (.aload_n 0, 1) := by decide +kernel
theorem dJx4a65c_grow_d5877_1 : decode cJx4a65c_grow_d5877 1 = .ok (.aload_n 0, 1) := by decide +kernel
theorem dJx4a65c_grow_d5877_2 : decode cJx4a65c_grow_d5877 2 = .ok (.getfield 48, 3) := by decide +kernel
theorem dJx4a65c_grow_d5877_5 : decode cJx4a65c_grow_d5877 5 = .ok (.iconst 1, 1) := by decide +kernel
theorem dJx4a65c_grow_d5877_6 : decode cJx4a65c_grow_d5877 6 = .ok (.iadd, 1) := by decide +kernel
theorem dJx4a65c_grow_d5877_7 : decode cJx4a65c_grow_d5877 7 = .ok (.invokevirtual 69, 3) := by decide +kernel
theorem dJx4a65c_grow_d5877_10 : decode cJx4a65c_grow_d5877 10 = .ok (.areturn, 1) := by decide +kernel
theorem dJx4a65c_size_8abf5_0 : decode cJx4a65c_size_8abf5 0 = .ok (.aload_n 0, 1) := by decide +kernel
theorem dJx4a65c_size_8abf5_1 : decode cJx4a65c_size_8abf5 1 = .ok (.getfield 48, 3) := by decide +kernel
theorem dJx4a65c_size_8abf5_4 : decode cJx4a65c_size_8abf5 4 = .ok (.ireturn, 1) := by decide +kernel
theorem dJx4a65c_elementData_915e3_0 : decode cJx4a65c_elementData_915e3 0 = .ok (.aload_n 0, 1) := by decide +kernel
theorem dJx4a65c_elementData_915e3_1 : decode cJx4a65c_elementData_915e3 1 = .ok (.getfield 9, 3) := by decide +kernel
theorem dJx4a65c_elementData_915e3_4 : decode cJx4a65c_elementData_915e3 4 = .ok (.iload_n 1, 1) := by decide +kernel
theorem dJx4a65c_elementData_915e3_5 : decode cJx4a65c_elementData_915e3 5 = .ok (.aaload, 1) := by decide +kernel
theorem dJx4a65c_elementData_915e3_6 : decode cJx4a65c_elementData_915e3 6 = .ok (.areturn, 1) := by decide +kernel
theorem dJx4a65c_get_915e3_0 : decode cJx4a65c_get_915e3 0 = .ok (.iload_n 1, 1) := by decide +kernel
theorem dJx4a65c_get_915e3_1 : decode cJx4a65c_get_915e3 1 = .ok (.aload_n 0, 1) := by decide +kernel
theorem dJx4a65c_get_915e3_2 : decode cJx4a65c_get_915e3 2 = .ok (.getfield 48, 3) := by decide +kernel
theorem dJx4a65c_get_915e3_5 : decode cJx4a65c_get_915e3 5 = .ok (.invokestatic 118, 3) := by decide +kernel
theorem dJx4a65c_get_915e3_8 : decode cJx4a65c_get_915e3 8 = .ok (.pop, 1) := by decide +kernel
theorem dJx4a65c_get_915e3_9 : decode cJx4a65c_get_915e3 9 = .ok (.aload_n 0, 1) := by decide +kernel
theorem dJx4a65c_get_915e3_10 : decode cJx4a65c_get_915e3 10 = .ok (.iload_n 1, 1) := by decide +kernel
theorem dJx4a65c_get_915e3_11 : decode cJx4a65c_get_915e3 11 = .ok (.invokevirtual 123, 3) := by decide +kernel
theorem dJx4a65c_get_915e3_14 : decode cJx4a65c_get_915e3 14 = .ok (.areturn, 1) := by decide +kernel
theorem dJx4a65c_add_72be8_0 : decode cJx4a65c_add_72be8 0 = .ok (.iload_n 3, 1) := by decide +kernel
theorem dJx4a65c_add_72be8_1 : decode cJx4a65c_add_72be8 1 = .ok (.aload_n 2, 1) := by decide +kernel
theorem dJx4a65c_add_72be8_2 : decode cJx4a65c_add_72be8 2 = .ok (.arraylength, 1) := by decide +kernel
theorem dJx4a65c_add_72be8_3 : decode cJx4a65c_add_72be8 3 = .ok (.if_icmp .ne 8, 3) := by decide +kernel
theorem dJx4a65c_add_72be8_6 : decode cJx4a65c_add_72be8 6 = .ok (.aload_n 0, 1) := by decide +kernel
theorem dJx4a65c_add_72be8_7 : decode cJx4a65c_add_72be8 7 = .ok (.invokevirtual 129, 3) := by decide +kernel
theorem dJx4a65c_add_72be8_10 : decode cJx4a65c_add_72be8 10 = .ok (.astore_n 2, 1) := by decide +kernel
theorem dJx4a65c_add_72be8_11 : decode cJx4a65c_add_72be8 11 = .ok (.aload_n 2, 1) := by decide +kernel
theorem dJx4a65c_add_72be8_12 : decode cJx4a65c_add_72be8 12 = .ok (.iload_n 3, 1) := by decide +kernel
theorem dJx4a65c_add_72be8_13 : decode cJx4a65c_add_72be8 13 = .ok (.aload_n 1, 1) := by decide +kernel
theorem dJx4a65c_add_72be8_14 : decode cJx4a65c_add_72be8 14 = .ok (.aastore, 1) := by decide +kernel
theorem dJx4a65c_add_72be8_15 : decode cJx4a65c_add_72be8 15 = .ok (.aload_n 0, 1) := by decide +kernel
theorem dJx4a65c_add_72be8_16 : decode cJx4a65c_add_72be8 16 = .ok (.iload_n 3, 1) := by decide +kernel
theorem dJx4a65c_add_72be8_17 : decode cJx4a65c_add_72be8 17 = .ok (.iconst 1, 1) := by decide +kernel
theorem dJx4a65c_add_72be8_18 : decode cJx4a65c_add_72be8 18 = .ok (.iadd, 1) := by decide +kernel
theorem dJx4a65c_add_72be8_19 : decode cJx4a65c_add_72be8 19 = .ok (.putfield 48, 3) := by decide +kernel
theorem dJx4a65c_add_72be8_22 : decode cJx4a65c_add_72be8 22 = .ok (.return_, 1) := by decide +kernel
theorem dJx4a65c_add_9ea2d_0 : decode cJx4a65c_add_9ea2d 0 = .ok (.aload_n 0, 1) := by decide +kernel
theorem dJx4a65c_add_9ea2d_1 : decode cJx4a65c_add_9ea2d 1 = .ok (.dup, 1) := by decide +kernel
theorem dJx4a65c_add_9ea2d_2 : decode cJx4a65c_add_9ea2d 2 = .ok (.getfield 63, 3) := by decide +kernel
theorem dJx4a65c_add_9ea2d_5 : decode cJx4a65c_add_9ea2d 5 = .ok (.iconst 1, 1) := by decide +kernel
theorem dJx4a65c_add_9ea2d_6 : decode cJx4a65c_add_9ea2d 6 = .ok (.iadd, 1) := by decide +kernel
theorem dJx4a65c_add_9ea2d_7 : decode cJx4a65c_add_9ea2d 7 = .ok (.putfield 63, 3) := by decide +kernel
theorem dJx4a65c_add_9ea2d_10 : decode cJx4a65c_add_9ea2d 10 = .ok (.aload_n 0, 1) := by decide +kernel
theorem dJx4a65c_add_9ea2d_11 : decode cJx4a65c_add_9ea2d 11 = .ok (.aload_n 1, 1) := by decide +kernel
theorem dJx4a65c_add_9ea2d_12 : decode cJx4a65c_add_9ea2d 12 = .ok (.aload_n 0, 1) := by decide +kernel
theorem dJx4a65c_add_9ea2d_13 : decode cJx4a65c_add_9ea2d 13 = .ok (.getfield 9, 3) := by decide +kernel
theorem dJx4a65c_add_9ea2d_16 : decode cJx4a65c_add_9ea2d 16 = .ok (.aload_n 0, 1) := by decide +kernel
theorem dJx4a65c_add_9ea2d_17 : decode cJx4a65c_add_9ea2d 17 = .ok (.getfield 48, 3) := by decide +kernel
theorem dJx4a65c_add_9ea2d_20 : decode cJx4a65c_add_9ea2d 20 = .ok (.invokevirtual 131, 3) := by decide +kernel
theorem dJx4a65c_add_9ea2d_23 : decode cJx4a65c_add_9ea2d 23 = .ok (.iconst 1, 1) := by decide +kernel
theorem dJx4a65c_add_9ea2d_24 : decode cJx4a65c_add_9ea2d 24 = .ok (.ireturn, 1) := by decide +kernel
theorem dJ7_copyOf_1904c_0 : decode cJ7_copyOf_1904c 0 = .ok (.aload_n 0, 1) := by decide +kernel
theorem dJ7_copyOf_1904c_1 : decode cJ7_copyOf_1904c 1 = .ok (.iload_n 1, 1) := by decide +kernel
theorem dJ7_copyOf_1904c_2 : decode cJ7_copyOf_1904c 2 = .ok (.aload_n 0, 1) := by decide +kernel
theorem dJ7_copyOf_1904c_3 : decode cJ7_copyOf_1904c 3 = .ok (.invokevirtual 86, 3) := by decide +kernel
theorem dJ7_copyOf_1904c_6 : decode cJ7_copyOf_1904c 6 = .ok (.invokestatic 300, 3) := by decide +kernel
theorem dJ7_copyOf_1904c_9 : decode cJ7_copyOf_1904c 9 = .ok (.areturn, 1) := by decide +kernel
theorem dJ7_copyOf_6403c_0 : decode cJ7_copyOf_6403c 0 = .ok (.aload_n 2, 1) := by decide +kernel
theorem dJ7_copyOf_6403c_1 : decode cJ7_copyOf_6403c 1 = .ok (.ldc 110, 2) := by decide +kernel
theorem dJ7_copyOf_6403c_3 : decode cJ7_copyOf_6403c 3 = .ok (.if_acmp .ne 10, 3) := by decide +kernel
theorem dJ7_copyOf_6403c_6 : decode cJ7_copyOf_6403c 6 = .ok (.iload_n 1, 1) := by decide +kernel
theorem dJ7_copyOf_6403c_7 : decode cJ7_copyOf_6403c 7 = .ok (.anewarray 2, 3) := by decide +kernel
theorem dJ7_copyOf_6403c_10 : decode cJ7_copyOf_6403c 10 = .ok (.goto 14, 3) := by decide +kernel
theorem dJ7_copyOf_6403c_13 : decode cJ7_copyOf_6403c 13 = .ok (.aload_n 2, 1) := by decide +kernel
theorem dJ7_copyOf_6403c_14 : decode cJ7_copyOf_6403c 14 = .ok (.invokevirtual 90, 3) := by decide +kernel
theorem dJ7_copyOf_6403c_17 : decode cJ7_copyOf_6403c 17 = .ok (.iload_n 1, 1) := by decide +kernel
theorem dJ7_copyOf_6403c_18 : decode cJ7_copyOf_6403c 18 = .ok (.invokestatic 95, 3) := by decide +kernel
theorem dJ7_copyOf_6403c_21 : decode cJ7_copyOf_6403c 21 = .ok (.checkcast 110, 3) := by decide +kernel
theorem dJ7_copyOf_6403c_24 : decode cJ7_copyOf_6403c 24 = .ok (.astore_n 3, 1) := by decide +kernel
theorem dJ7_copyOf_6403c_25 : decode cJ7_copyOf_6403c 25 = .ok (.aload_n 0, 1) := by decide +kernel
theorem dJ7_copyOf_6403c_26 : decode cJ7_copyOf_6403c 26 = .ok (.iconst 0, 1) := by decide +kernel
theorem dJ7_copyOf_6403c_27 : decode cJ7_copyOf_6403c 27 = .ok (.aload_n 3, 1) := by decide +kernel
theorem dJ7_copyOf_6403c_28 : decode cJ7_copyOf_6403c 28 = .ok (.iconst 0, 1) := by decide +kernel
theorem dJ7_copyOf_6403c_29 : decode cJ7_copyOf_6403c 29 = .ok (.aload_n 0, 1) := by decide +kernel
theorem dJ7_copyOf_6403c_30 : decode cJ7_copyOf_6403c 30 = .ok (.arraylength, 1) := by decide +kernel
theorem dJ7_copyOf_6403c_31 : decode cJ7_copyOf_6403c 31 = .ok (.iload_n 1, 1) := by decide +kernel
theorem dJ7_copyOf_6403c_32 : decode cJ7_copyOf_6403c 32 = .ok (.invokestatic 304, 3) := by decide +kernel
theorem dJ7_copyOf_6403c_35 : decode cJ7_copyOf_6403c 35 = .ok (.invokestatic 150, 3) := by decide +kernel
theorem dJ7_copyOf_6403c_38 : decode cJ7_copyOf_6403c 38 = .ok (.aload_n 3, 1) := by decide +kernel
theorem dJ7_copyOf_6403c_39 : decode cJ7_copyOf_6403c 39 = .ok (.areturn, 1) := by decide +kernel
theorem dJ15_checkIndex_7cf53_0 : decode cJ15_checkIndex_7cf53 0 = .ok (.iload_n 0, 1) := by decide +kernel
theorem dJ15_checkIndex_7cf53_1 : decode cJ15_checkIndex_7cf53 1 = .ok (.iload_n 1, 1) := by decide +kernel
theorem dJ15_checkIndex_7cf53_2 : decode cJ15_checkIndex_7cf53 2 = .ok (.aconst_null, 1) := by decide +kernel
theorem dJ15_checkIndex_7cf53_3 : decode cJ15_checkIndex_7cf53 3 = .ok (.invokestatic 105, 3) := by decide +kernel
theorem dJ15_checkIndex_7cf53_6 : decode cJ15_checkIndex_7cf53 6 = .ok (.ireturn, 1) := by decide +kernel
theorem dJ8_newLength_cabcc_0 : decode cJ8_newLength_cabcc 0 = .ok (.iload_n 0, 1) := by decide +kernel
theorem dJ8_newLength_cabcc_1 : decode cJ8_newLength_cabcc 1 = .ok (.iload_n 1, 1) := by decide +kernel
theorem dJ8_newLength_cabcc_2 : decode cJ8_newLength_cabcc 2 = .ok (.iload_n 2, 1) := by decide +kernel
theorem dJ8_newLength_cabcc_3 : decode cJ8_newLength_cabcc 3 = .ok (.invokestatic 194, 3) := by decide +kernel
theorem dJ8_newLength_cabcc_6 : decode cJ8_newLength_cabcc 6 = .ok (.iadd, 1) := by decide +kernel
theorem dJ8_newLength_cabcc_7 : decode cJ8_newLength_cabcc 7 = .ok (.istore_n 3, 1) := by decide +kernel
theorem dJ8_newLength_cabcc_8 : decode cJ8_newLength_cabcc 8 = .ok (.iconst 0, 1) := by decide +kernel
theorem dJ8_newLength_cabcc_9 : decode cJ8_newLength_cabcc 9 = .ok (.iload_n 3, 1) := by decide +kernel
theorem dJ8_newLength_cabcc_10 : decode cJ8_newLength_cabcc 10 = .ok (.if_icmp .ge 11, 3) := by decide +kernel
theorem dJ8_newLength_cabcc_13 : decode cJ8_newLength_cabcc 13 = .ok (.iload_n 3, 1) := by decide +kernel
theorem dJ8_newLength_cabcc_14 : decode cJ8_newLength_cabcc 14 = .ok (.ldc 200, 2) := by decide +kernel
theorem dJ8_newLength_cabcc_16 : decode cJ8_newLength_cabcc 16 = .ok (.if_icmp .gt 5, 3) := by decide +kernel
theorem dJ8_newLength_cabcc_19 : decode cJ8_newLength_cabcc 19 = .ok (.iload_n 3, 1) := by decide +kernel
theorem dJ8_newLength_cabcc_20 : decode cJ8_newLength_cabcc 20 = .ok (.ireturn, 1) := by decide +kernel
theorem dJ8_newLength_cabcc_21 : decode cJ8_newLength_cabcc 21 = .ok (.iload_n 0, 1) := by decide +kernel
theorem dJ8_newLength_cabcc_22 : decode cJ8_newLength_cabcc 22 = .ok (.iload_n 1, 1) := by decide +kernel
theorem dJ8_newLength_cabcc_23 : decode cJ8_newLength_cabcc 23 = .ok (.invokestatic 201, 3) := by decide +kernel
theorem dJ8_newLength_cabcc_26 : decode cJ8_newLength_cabcc 26 = .ok (.ireturn, 1) := by decide +kernel
theorem dJ8_hugeLength_7cf53_0 : decode cJ8_hugeLength_7cf53 0 = .ok (.iload_n 0, 1) := by decide +kernel
theorem dJ8_hugeLength_7cf53_1 : decode cJ8_hugeLength_7cf53 1 = .ok (.iload_n 1, 1) := by decide +kernel
theorem dJ8_hugeLength_7cf53_2 : decode cJ8_hugeLength_7cf53 2 = .ok (.iadd, 1) := by decide +kernel
theorem dJ8_hugeLength_7cf53_3 : decode cJ8_hugeLength_7cf53 3 = .ok (.istore_n 2, 1) := by decide +kernel
theorem dJ8_hugeLength_7cf53_4 : decode cJ8_hugeLength_7cf53 4 = .ok (.iload_n 2, 1) := by decide +kernel
theorem dJ8_hugeLength_7cf53_5 : decode cJ8_hugeLength_7cf53 5 = .ok (.ifCond .ge 44, 3) := by decide +kernel
theorem dJ8_hugeLength_7cf53_8 : decode cJ8_hugeLength_7cf53 8 = .ok (.new 204, 3) := by decide +kernel
theorem dJ8_hugeLength_7cf53_11 : decode cJ8_hugeLength_7cf53 11 = .ok (.dup, 1) := by decide +kernel
theorem dJ8_hugeLength_7cf53_12 : decode cJ8_hugeLength_7cf53 12 = .ok (.new 89, 3) := by decide +kernel
theorem dJ8_hugeLength_7cf53_15 : decode cJ8_hugeLength_7cf53 15 = .ok (.dup, 1) := by decide +kernel
theorem dJ8_hugeLength_7cf53_16 : decode cJ8_hugeLength_7cf53 16 = .ok (.invokespecial 91, 3) := by decide +kernel
theorem dJ8_hugeLength_7cf53_19 : decode cJ8_hugeLength_7cf53 19 = .ok (.ldc 206, 2) := by decide +kernel
theorem dJ8_hugeLength_7cf53_21 : decode cJ8_hugeLength_7cf53 21 = .ok (.invokevirtual 94, 3) := by decide +kernel
theorem dJ8_hugeLength_7cf53_24 : decode cJ8_hugeLength_7cf53 24 = .ok (.iload_n 0, 1) := by decide +kernel
theorem dJ8_hugeLength_7cf53_25 : decode cJ8_hugeLength_7cf53 25 = .ok (.invokevirtual 98, 3) := by decide +kernel
theorem dJ8_hugeLength_7cf53_28 : decode cJ8_hugeLength_7cf53 28 = .ok (.ldc 208, 2) := by decide +kernel
theorem dJ8_hugeLength_7cf53_30 : decode cJ8_hugeLength_7cf53 30 = .ok (.invokevirtual 94, 3) := by decide +kernel
theorem dJ8_hugeLength_7cf53_33 : decode cJ8_hugeLength_7cf53 33 = .ok (.iload_n 1, 1) := by decide +kernel
theorem dJ8_hugeLength_7cf53_34 : decode cJ8_hugeLength_7cf53 34 = .ok (.invokevirtual 98, 3) := by decide +kernel
theorem dJ8_hugeLength_7cf53_37 : decode cJ8_hugeLength_7cf53 37 = .ok (.ldc 210, 2) := by decide +kernel
theorem dJ8_hugeLength_7cf53_39 : decode cJ8_hugeLength_7cf53 39 = .ok (.invokevirtual 94, 3) := by decide +kernel
theorem dJ8_hugeLength_7cf53_42 : decode cJ8_hugeLength_7cf53 42 = .ok (.invokevirtual 101, 3) := by decide +kernel
theorem dJ8_hugeLength_7cf53_45 : decode cJ8_hugeLength_7cf53 45 = .ok (.invokespecial 212, 3) := by decide +kernel
theorem dJ8_hugeLength_7cf53_48 : decode cJ8_hugeLength_7cf53 48 = .ok (.athrow, 1) := by decide +kernel
theorem dJ8_hugeLength_7cf53_49 : decode cJ8_hugeLength_7cf53 49 = .ok (.iload_n 2, 1) := by decide +kernel
theorem dJ8_hugeLength_7cf53_50 : decode cJ8_hugeLength_7cf53 50 = .ok (.ldc 200, 2) := by decide +kernel
theorem dJ8_hugeLength_7cf53_52 : decode cJ8_hugeLength_7cf53 52 = .ok (.if_icmp .gt 6, 3) := by decide +kernel
theorem dJ8_hugeLength_7cf53_55 : decode cJ8_hugeLength_7cf53 55 = .ok (.ldc 200, 2) := by decide +kernel
theorem dJ8_hugeLength_7cf53_57 : decode cJ8_hugeLength_7cf53 57 = .ok (.ireturn, 1) := by decide +kernel
theorem dJ8_hugeLength_7cf53_58 : decode cJ8_hugeLength_7cf53 58 = .ok (.iload_n 2, 1) := by decide +kernel
theorem dJ8_hugeLength_7cf53_59 : decode cJ8_hugeLength_7cf53 59 = .ok (.ireturn, 1) := by decide +kernel
theorem dJ3_checkIndex_8e157_0 : decode cJ3_checkIndex_8e157 0 = .ok (.iload_n 0, 1) := by decide +kernel
theorem dJ3_checkIndex_8e157_1 : decode cJ3_checkIndex_8e157 1 = .ok (.ifCond .lt 8, 3) := by decide +kernel
theorem dJ3_checkIndex_8e157_4 : decode cJ3_checkIndex_8e157 4 = .ok (.iload_n 0, 1) := by decide +kernel
theorem dJ3_checkIndex_8e157_5 : decode cJ3_checkIndex_8e157 5 = .ok (.iload_n 1, 1) := by decide +kernel
theorem dJ3_checkIndex_8e157_6 : decode cJ3_checkIndex_8e157 6 = .ok (.if_icmp .lt 10, 3) := by decide +kernel
theorem dJ3_checkIndex_8e157_9 : decode cJ3_checkIndex_8e157 9 = .ok (.aload_n 2, 1) := by decide +kernel
theorem dJ3_checkIndex_8e157_10 : decode cJ3_checkIndex_8e157 10 = .ok (.iload_n 0, 1) := by decide +kernel
theorem dJ3_checkIndex_8e157_11 : decode cJ3_checkIndex_8e157 11 = .ok (.iload_n 1, 1) := by decide +kernel
theorem dJ3_checkIndex_8e157_12 : decode cJ3_checkIndex_8e157 12 = .ok (.invokestatic 95, 3) := by decide +kernel
theorem dJ3_checkIndex_8e157_15 : decode cJ3_checkIndex_8e157 15 = .ok (.athrow, 1) := by decide +kernel
theorem dJ3_checkIndex_8e157_16 : decode cJ3_checkIndex_8e157 16 = .ok (.iload_n 0, 1) := by decide +kernel
theorem dJ3_checkIndex_8e157_17 : decode cJ3_checkIndex_8e157 17 = .ok (.ireturn, 1) := by decide +kernel
