theorem dX0_init_0 : decode cX0_init 0 = .ok (.aload_n 0, 1) := by decide +kernel
theorem dX0_init_1 : decode cX0_init 1 = .ok (.invokespecial 3, 3) := by decide +kernel
theorem dX0_init_4 : decode cX0_init 4 = .ok (.aload_n 0, 1) := by decide +kernel
theorem dX0_init_5 : decode cX0_init 5 = .ok (.iconst 4, 1) := by decide +kernel
theorem dX0_init_6 : decode cX0_init 6 = .ok (.sipush 1600, 3) := by decide +kernel
theorem dX0_init_9 : decode cX0_init 9 = .ok (.multianewarray 9 2, 4) := by decide +kernel
theorem dX0_init_13 : decode cX0_init 13 = .ok (.putfield 11, 3) := by decide +kernel
theorem dX0_init_16 : decode cX0_init 16 = .ok (.aload_n 0, 1) := by decide +kernel
theorem dX0_init_17 : decode cX0_init 17 = .ok (.iconst 4, 1) := by decide +kernel
theorem dX0_init_18 : decode cX0_init 18 = .ok (.newarray .int, 2) := by decide +kernel
theorem dX0_init_20 : decode cX0_init 20 = .ok (.putfield 16, 3) := by decide +kernel
theorem dX0_init_23 : decode cX0_init 23 = .ok (.return_, 1) := by decide +kernel
theorem dX0_merge_0 : decode cX0_merge 0 = .ok (.iconst 0, 1) := by decide +kernel
theorem dX0_merge_1 : decode cX0_merge 1 = .ok (.istore 4, 2) := by decide +kernel
theorem dX0_merge_3 : decode cX0_merge 3 = .ok (.iload 4, 2) := by decide +kernel
theorem dX0_merge_5 : decode cX0_merge 5 = .ok (.iload_n 2, 1) := by decide +kernel
theorem dX0_merge_6 : decode cX0_merge 6 = .ok (.if_icmp .ge 17, 3) := by decide +kernel
theorem dX0_merge_9 : decode cX0_merge 9 = .ok (.aload_n 0, 1) := by decide +kernel
theorem dX0_merge_10 : decode cX0_merge 10 = .ok (.getfield 16, 3) := by decide +kernel
theorem dX0_merge_13 : decode cX0_merge 13 = .ok (.iload 4, 2) := by decide +kernel
theorem dX0_merge_15 : decode cX0_merge 15 = .ok (.iconst 0, 1) := by decide +kernel
theorem dX0_merge_16 : decode cX0_merge 16 = .ok (.iastore, 1) := by decide +kernel
theorem dX0_merge_17 : decode cX0_merge 17 = .ok (.iinc 4 1, 3) := by decide +kernel
theorem dX0_merge_20 : decode cX0_merge 20 = .ok (.goto (-17), 3) := by decide +kernel
theorem dX0_merge_23 : decode cX0_merge 23 = .ok (.iconst 0, 1) := by decide +kernel
theorem dX0_merge_24 : decode cX0_merge 24 = .ok (.istore 4, 2) := by decide +kernel
theorem dX0_merge_26 : decode cX0_merge 26 = .ok (.iload 4, 2) := by decide +kernel
theorem dX0_merge_28 : decode cX0_merge 28 = .ok (.iload_n 3, 1) := by decide +kernel
theorem dX0_merge_29 : decode cX0_merge 29 = .ok (.if_icmp .ge 45, 3) := by decide +kernel
theorem dX0_merge_32 : decode cX0_merge 32 = .ok (.aload_n 0, 1) := by decide +kernel
theorem dX0_merge_33 : decode cX0_merge 33 = .ok (.aload_n 1, 1) := by decide +kernel
theorem dX0_merge_34 : decode cX0_merge 34 = .ok (.iload_n 2, 1) := by decide +kernel
theorem dX0_merge_35 : decode cX0_merge 35 = .ok (.invokevirtual 20, 3) := by decide +kernel
theorem dX0_merge_38 : decode cX0_merge 38 = .ok (.istore 5, 2) := by decide +kernel
theorem dX0_merge_40 : decode cX0_merge 40 = .ok (.iload 5, 2) := by decide +kernel
theorem dX0_merge_42 : decode cX0_merge 42 = .ok (.ifCond .lt 26, 3) := by decide +kernel
theorem dX0_merge_45 : decode cX0_merge 45 = .ok (.aload_n 0, 1) := by decide +kernel
theorem dX0_merge_46 : decode cX0_merge 46 = .ok (.iload 4, 2) := by decide +kernel
theorem dX0_merge_48 : decode cX0_merge 48 = .ok (.iload 5, 2) := by decide +kernel
theorem dX0_merge_50 : decode cX0_merge 50 = .ok (.aload_n 1, 1) := by decide +kernel
theorem dX0_merge_51 : decode cX0_merge 51 = .ok (.iload 5, 2) := by decide +kernel
theorem dX0_merge_53 : decode cX0_merge 53 = .ok (.aaload, 1) := by decide +kernel
theorem dX0_merge_54 : decode cX0_merge 54 = .ok (.invokevirtual 24, 3) := by decide +kernel
theorem dX0_merge_57 : decode cX0_merge 57 = .ok (.aload_n 0, 1) := by decide +kernel
theorem dX0_merge_58 : decode cX0_merge 58 = .ok (.getfield 16, 3) := by decide +kernel
theorem dX0_merge_61 : decode cX0_merge 61 = .ok (.iload 5, 2) := by decide +kernel
theorem dX0_merge_63 : decode cX0_merge 63 = .ok (.dup2, 1) := by decide +kernel
theorem dX0_merge_64 : decode cX0_merge 64 = .ok (.iaload, 1) := by decide +kernel
theorem dX0_merge_65 : decode cX0_merge 65 = .ok (.iconst 1, 1) := by decide +kernel
theorem dX0_merge_66 : decode cX0_merge 66 = .ok (.iadd, 1) := by decide +kernel
theorem dX0_merge_67 : decode cX0_merge 67 = .ok (.iastore, 1) := by decide +kernel
theorem dX0_merge_68 : decode cX0_merge 68 = .ok (.iinc 4 1, 3) := by decide +kernel
theorem dX0_merge_71 : decode cX0_merge 71 = .ok (.goto (-45), 3) := by decide +kernel
theorem dX0_merge_74 : decode cX0_merge 74 = .ok (.return_, 1) := by decide +kernel
theorem dX0_findEarliest_0 : decode cX0_findEarliest 0 = .ok (.iconst (-1), 1) := by decide +kernel
theorem dX0_findEarliest_1 : decode cX0_findEarliest 1 = .ok (.istore_n 3, 1) := by decide +kernel
theorem dX0_findEarliest_2 : decode cX0_findEarliest 2 = .ok (.iconst 0, 1) := by decide +kernel
theorem dX0_findEarliest_3 : decode cX0_findEarliest 3 = .ok (.istore 4, 2) := by decide +kernel
theorem dX0_findEarliest_5 : decode cX0_findEarliest 5 = .ok (.iconst 0, 1) := by decide +kernel
theorem dX0_findEarliest_6 : decode cX0_findEarliest 6 = .ok (.istore 5, 2) := by decide +kernel
theorem dX0_findEarliest_8 : decode cX0_findEarliest 8 = .ok (.iload 5, 2) := by decide +kernel
theorem dX0_findEarliest_10 : decode cX0_findEarliest 10 = .ok (.iload_n 2, 1) := by decide +kernel
theorem dX0_findEarliest_11 : decode cX0_findEarliest 11 = .ok (.if_icmp .ge 62, 3) := by decide +kernel
theorem dX0_findEarliest_14 : decode cX0_findEarliest 14 = .ok (.aload_n 0, 1) := by decide +kernel
theorem dX0_findEarliest_15 : decode cX0_findEarliest 15 = .ok (.getfield 16, 3) := by decide +kernel
theorem dX0_findEarliest_18 : decode cX0_findEarliest 18 = .ok (.iload 5, 2) := by decide +kernel
theorem dX0_findEarliest_20 : decode cX0_findEarliest 20 = .ok (.iaload, 1) := by decide +kernel
theorem dX0_findEarliest_21 : decode cX0_findEarliest 21 = .ok (.iconst 2, 1) := by decide +kernel
theorem dX0_findEarliest_22 : decode cX0_findEarliest 22 = .ok (.aload_n 1, 1) := by decide +kernel
theorem dX0_findEarliest_23 : decode cX0_findEarliest 23 = .ok (.iload 5, 2) := by decide +kernel
theorem dX0_findEarliest_25 : decode cX0_findEarliest 25 = .ok (.aaload, 1) := by decide +kernel
theorem dX0_findEarliest_26 : decode cX0_findEarliest 26 = .ok (.getfield 28, 3) := by decide +kernel
theorem dX0_findEarliest_29 : decode cX0_findEarliest 29 = .ok (.imul, 1) := by decide +kernel
theorem dX0_findEarliest_30 : decode cX0_findEarliest 30 = .ok (.if_icmp .ge 37, 3) := by decide +kernel
theorem dX0_findEarliest_33 : decode cX0_findEarliest 33 = .ok (.aload_n 1, 1) := by decide +kernel
theorem dX0_findEarliest_34 : decode cX0_findEarliest 34 = .ok (.iload 5, 2) := by decide +kernel
theorem dX0_findEarliest_36 : decode cX0_findEarliest 36 = .ok (.aaload, 1) := by decide +kernel
theorem dX0_findEarliest_37 : decode cX0_findEarliest 37 = .ok (.aload_n 0, 1) := by decide +kernel
theorem dX0_findEarliest_38 : decode cX0_findEarliest 38 = .ok (.getfield 16, 3) := by decide +kernel
theorem dX0_findEarliest_41 : decode cX0_findEarliest 41 = .ok (.iload 5, 2) := by decide +kernel
theorem dX0_findEarliest_43 : decode cX0_findEarliest 43 = .ok (.iaload, 1) := by decide +kernel
theorem dX0_findEarliest_44 : decode cX0_findEarliest 44 = .ok (.invokestatic 34, 3) := by decide +kernel
theorem dX0_findEarliest_47 : decode cX0_findEarliest 47 = .ok (.istore 6, 2) := by decide +kernel
theorem dX0_findEarliest_49 : decode cX0_findEarliest 49 = .ok (.iload_n 3, 1) := by decide +kernel
theorem dX0_findEarliest_50 : decode cX0_findEarliest 50 = .ok (.ifCond .lt 10, 3) := by decide +kernel
theorem dX0_findEarliest_53 : decode cX0_findEarliest 53 = .ok (.iload 6, 2) := by decide +kernel
theorem dX0_findEarliest_55 : decode cX0_findEarliest 55 = .ok (.iload 4, 2) := by decide +kernel
theorem dX0_findEarliest_57 : decode cX0_findEarliest 57 = .ok (.if_icmp .ge 10, 3) := by decide +kernel
theorem dX0_findEarliest_60 : decode cX0_findEarliest 60 = .ok (.iload 5, 2) := by decide +kernel
theorem dX0_findEarliest_62 : decode cX0_findEarliest 62 = .ok (.istore_n 3, 1) := by decide +kernel
theorem dX0_findEarliest_63 : decode cX0_findEarliest 63 = .ok (.iload 6, 2) := by decide +kernel
theorem dX0_findEarliest_65 : decode cX0_findEarliest 65 = .ok (.istore 4, 2) := by decide +kernel
theorem dX0_findEarliest_67 : decode cX0_findEarliest 67 = .ok (.iinc 5 1, 3) := by decide +kernel
theorem dX0_findEarliest_70 : decode cX0_findEarliest 70 = .ok (.goto (-62), 3) := by decide +kernel
theorem dX0_findEarliest_73 : decode cX0_findEarliest 73 = .ok (.iload_n 3, 1) := by decide +kernel
theorem dX0_findEarliest_74 : decode cX0_findEarliest 74 = .ok (.ireturn, 1) := by decide +kernel
theorem dX0_rankOf_0 : decode cX0_rankOf 0 = .ok (.iconst 2, 1) := by decide +kernel
theorem dX0_rankOf_1 : decode cX0_rankOf 1 = .ok (.aload_n 0, 1) := by decide +kernel
theorem dX0_rankOf_2 : decode cX0_rankOf 2 = .ok (.iload_n 1, 1) := by decide +kernel
theorem dX0_rankOf_3 : decode cX0_rankOf 3 = .ok (.invokestatic 38, 3) := by decide +kernel
theorem dX0_rankOf_6 : decode cX0_rankOf 6 = .ok (.imul, 1) := by decide +kernel
theorem dX0_rankOf_7 : decode cX0_rankOf 7 = .ok (.iload_n 1, 1) := by decide +kernel
theorem dX0_rankOf_8 : decode cX0_rankOf 8 = .ok (.invokestatic 41, 3) := by decide +kernel
theorem dX0_rankOf_11 : decode cX0_rankOf 11 = .ok (.ifCond .eq 7, 3) := by decide +kernel
theorem dX0_rankOf_14 : decode cX0_rankOf 14 = .ok (.iconst 1, 1) := by decide +kernel
theorem dX0_rankOf_15 : decode cX0_rankOf 15 = .ok (.goto 4, 3) := by decide +kernel
theorem dX0_rankOf_18 : decode cX0_rankOf 18 = .ok (.iconst 0, 1) := by decide +kernel
theorem dX0_rankOf_19 : decode cX0_rankOf 19 = .ok (.iadd, 1) := by decide +kernel
theorem dX0_rankOf_20 : decode cX0_rankOf 20 = .ok (.ireturn, 1) := by decide +kernel
theorem dX0_isBeginning_0 : decode cX0_isBeginning 0 = .ok (.iload_n 0, 1) := by decide +kernel
theorem dX0_isBeginning_1 : decode cX0_isBeginning 1 = .ok (.iconst 1, 1) := by decide +kernel
theorem dX0_isBeginning_2 : decode cX0_isBeginning 2 = .ok (.iand, 1) := by decide +kernel
theorem dX0_isBeginning_3 : decode cX0_isBeginning 3 = .ok (.ifCond .ne 7, 3) := by decide +kernel
theorem dX0_isBeginning_6 : decode cX0_isBeginning 6 = .ok (.iconst 1, 1) := by decide +kernel
theorem dX0_isBeginning_7 : decode cX0_isBeginning 7 = .ok (.goto 4, 3) := by decide +kernel
theorem dX0_isBeginning_10 : decode cX0_isBeginning 10 = .ok (.iconst 0, 1) := by decide +kernel
theorem dX0_isBeginning_11 : decode cX0_isBeginning 11 = .ok (.ireturn, 1) := by decide +kernel
theorem dX0_tickOf_0 : decode cX0_tickOf 0 = .ok (.aload_n 0, 1) := by decide +kernel
theorem dX0_tickOf_1 : decode cX0_tickOf 1 = .ok (.getfield 45, 3) := by decide +kernel
theorem dX0_tickOf_4 : decode cX0_tickOf 4 = .ok (.iload_n 1, 1) := by decide +kernel
theorem dX0_tickOf_5 : decode cX0_tickOf 5 = .ok (.invokestatic 41, 3) := by decide +kernel
theorem dX0_tickOf_8 : decode cX0_tickOf 8 = .ok (.ifCond .eq 7, 3) := by decide +kernel
theorem dX0_tickOf_11 : decode cX0_tickOf 11 = .ok (.iconst 0, 1) := by decide +kernel
theorem dX0_tickOf_12 : decode cX0_tickOf 12 = .ok (.goto 4, 3) := by decide +kernel
theorem dX0_tickOf_15 : decode cX0_tickOf 15 = .ok (.iconst 1, 1) := by decide +kernel
theorem dX0_tickOf_16 : decode cX0_tickOf 16 = .ok (.aaload, 1) := by decide +kernel
theorem dX0_tickOf_17 : decode cX0_tickOf 17 = .ok (.iload_n 1, 1) := by decide +kernel
theorem dX0_tickOf_18 : decode cX0_tickOf 18 = .ok (.iconst 1, 1) := by decide +kernel
theorem dX0_tickOf_19 : decode cX0_tickOf 19 = .ok (.ishr, 1) := by decide +kernel
theorem dX0_tickOf_20 : decode cX0_tickOf 20 = .ok (.iaload, 1) := by decide +kernel
theorem dX0_tickOf_21 : decode cX0_tickOf 21 = .ok (.ireturn, 1) := by decide +kernel
theorem dX0_put_0 : decode cX0_put 0 = .ok (.aload_n 0, 1) := by decide +kernel
theorem dX0_put_1 : decode cX0_put 1 = .ok (.getfield 16, 3) := by decide +kernel
theorem dX0_put_4 : decode cX0_put 4 = .ok (.iload_n 2, 1) := by decide +kernel
theorem dX0_put_5 : decode cX0_put 5 = .ok (.iaload, 1) := by decide +kernel
theorem dX0_put_6 : decode cX0_put 6 = .ok (.istore 4, 2) := by decide +kernel
theorem dX0_put_8 : decode cX0_put 8 = .ok (.aload_n 0, 1) := by decide +kernel
theorem dX0_put_9 : decode cX0_put 9 = .ok (.getfield 11, 3) := by decide +kernel
theorem dX0_put_12 : decode cX0_put 12 = .ok (.iconst 0, 1) := by decide +kernel
theorem dX0_put_13 : decode cX0_put 13 = .ok (.aaload, 1) := by decide +kernel
theorem dX0_put_14 : decode cX0_put 14 = .ok (.iload_n 1, 1) := by decide +kernel
theorem dX0_put_15 : decode cX0_put 15 = .ok (.aload_n 3, 1) := by decide +kernel
theorem dX0_put_16 : decode cX0_put 16 = .ok (.iload 4, 2) := by decide +kernel
theorem dX0_put_18 : decode cX0_put 18 = .ok (.invokestatic 38, 3) := by decide +kernel
theorem dX0_put_21 : decode cX0_put 21 = .ok (.iastore, 1) := by decide +kernel
theorem dX0_put_22 : decode cX0_put 22 = .ok (.aload_n 0, 1) := by decide +kernel
theorem dX0_put_23 : decode cX0_put 23 = .ok (.getfield 11, 3) := by decide +kernel
theorem dX0_put_26 : decode cX0_put 26 = .ok (.iconst 1, 1) := by decide +kernel
theorem dX0_put_27 : decode cX0_put 27 = .ok (.aaload, 1) := by decide +kernel
theorem dX0_put_28 : decode cX0_put 28 = .ok (.iload_n 1, 1) := by decide +kernel
theorem dX0_put_29 : decode cX0_put 29 = .ok (.iload_n 2, 1) := by decide +kernel
theorem dX0_put_30 : decode cX0_put 30 = .ok (.iastore, 1) := by decide +kernel
theorem dX0_put_31 : decode cX0_put 31 = .ok (.aload_n 0, 1) := by decide +kernel
theorem dX0_put_32 : decode cX0_put 32 = .ok (.getfield 11, 3) := by decide +kernel
theorem dX0_put_35 : decode cX0_put 35 = .ok (.iconst 2, 1) := by decide +kernel
theorem dX0_put_36 : decode cX0_put 36 = .ok (.aaload, 1) := by decide +kernel
theorem dX0_put_37 : decode cX0_put 37 = .ok (.iload_n 1, 1) := by decide +kernel
theorem dX0_put_38 : decode cX0_put 38 = .ok (.aload_n 3, 1) := by decide +kernel
theorem dX0_put_39 : decode cX0_put 39 = .ok (.getfield 45, 3) := by decide +kernel
theorem dX0_put_42 : decode cX0_put 42 = .ok (.iconst 2, 1) := by decide +kernel
theorem dX0_put_43 : decode cX0_put 43 = .ok (.aaload, 1) := by decide +kernel
theorem dX0_put_44 : decode cX0_put 44 = .ok (.iload 4, 2) := by decide +kernel
theorem dX0_put_46 : decode cX0_put 46 = .ok (.iconst 1, 1) := by decide +kernel
theorem dX0_put_47 : decode cX0_put 47 = .ok (.ishr, 1) := by decide +kernel
theorem dX0_put_48 : decode cX0_put 48 = .ok (.iaload, 1) := by decide +kernel
theorem dX0_put_49 : decode cX0_put 49 = .ok (.iastore, 1) := by decide +kernel
theorem dX0_put_50 : decode cX0_put 50 = .ok (.aload_n 0, 1) := by decide +kernel
theorem dX0_put_51 : decode cX0_put 51 = .ok (.getfield 11, 3) := by decide +kernel
theorem dX0_put_54 : decode cX0_put 54 = .ok (.iconst 3, 1) := by decide +kernel
theorem dX0_put_55 : decode cX0_put 55 = .ok (.aaload, 1) := by decide +kernel
theorem dX0_put_56 : decode cX0_put 56 = .ok (.iload_n 1, 1) := by decide +kernel
theorem dX0_put_57 : decode cX0_put 57 = .ok (.iload 4, 2) := by decide +kernel
theorem dX0_put_59 : decode cX0_put 59 = .ok (.invokestatic 41, 3) := by decide +kernel
theorem dX0_put_62 : decode cX0_put 62 = .ok (.ifCond .eq 7, 3) := by decide +kernel
theorem dX0_put_65 : decode cX0_put 65 = .ok (.iconst 1, 1) := by decide +kernel
theorem dX0_put_66 : decode cX0_put 66 = .ok (.goto 4, 3) := by decide +kernel
theorem dX0_put_69 : decode cX0_put 69 = .ok (.iconst 0, 1) := by decide +kernel
theorem dX0_put_70 : decode cX0_put 70 = .ok (.iastore, 1) := by decide +kernel
theorem dX0_put_71 : decode cX0_put 71 = .ok (.return_, 1) := by decide +kernel
theorem dX1_init_0 : decode cX1_init 0 = .ok (.aload_n 0, 1) := by decide +kernel
theorem dX1_init_1 : decode cX1_init 1 = .ok (.invokespecial 3, 3) := by decide +kernel
theorem dX1_init_4 : decode cX1_init 4 = .ok (.aload_n 0, 1) := by decide +kernel
theorem dX1_init_5 : decode cX1_init 5 = .ok (.bipush 9, 2) := by decide +kernel
theorem dX1_init_7 : decode cX1_init 7 = .ok (.sipush 200, 3) := by decide +kernel
theorem dX1_init_10 : decode cX1_init 10 = .ok (.multianewarray 9 2, 4) := by decide +kernel
theorem dX1_init_14 : decode cX1_init 14 = .ok (.putfield 11, 3) := by decide +kernel
theorem dX1_init_17 : decode cX1_init 17 = .ok (.aload_n 0, 1) := by decide +kernel
theorem dX1_init_18 : decode cX1_init 18 = .ok (.iconst 3, 1) := by decide +kernel
theorem dX1_init_19 : decode cX1_init 19 = .ok (.sipush 200, 3) := by decide +kernel
theorem dX1_init_22 : decode cX1_init 22 = .ok (.multianewarray 9 2, 4) := by decide +kernel
theorem dX1_init_26 : decode cX1_init 26 = .ok (.putfield 16, 3) := by decide +kernel
theorem dX1_init_29 : decode cX1_init 29 = .ok (.aload_n 0, 1) := by decide +kernel
theorem dX1_init_30 : decode cX1_init 30 = .ok (.iconst 3, 1) := by decide +kernel
theorem dX1_init_31 : decode cX1_init 31 = .ok (.sipush 200, 3) := by decide +kernel
theorem dX1_init_34 : decode cX1_init 34 = .ok (.multianewarray 9 2, 4) := by decide +kernel
theorem dX1_init_38 : decode cX1_init 38 = .ok (.putfield 19, 3) := by decide +kernel
theorem dX1_init_41 : decode cX1_init 41 = .ok (.aload_n 0, 1) := by decide +kernel
theorem dX1_init_42 : decode cX1_init 42 = .ok (.bipush 63, 2) := by decide +kernel
theorem dX1_init_44 : decode cX1_init 44 = .ok (.newarray .int, 2) := by decide +kernel
theorem dX1_init_46 : decode cX1_init 46 = .ok (.putfield 22, 3) := by decide +kernel
theorem dX1_init_49 : decode cX1_init 49 = .ok (.aload_n 0, 1) := by decide +kernel
theorem dX1_init_50 : decode cX1_init 50 = .ok (.bipush 63, 2) := by decide +kernel
theorem dX1_init_52 : decode cX1_init 52 = .ok (.newarray .int, 2) := by decide +kernel
theorem dX1_init_54 : decode cX1_init 54 = .ok (.putfield 26, 3) := by decide +kernel
theorem dX1_init_57 : decode cX1_init 57 = .ok (.aload_n 0, 1) := by decide +kernel
theorem dX1_init_58 : decode cX1_init 58 = .ok (.iconst 0, 1) := by decide +kernel
theorem dX1_init_59 : decode cX1_init 59 = .ok (.putfield 29, 3) := by decide +kernel
theorem dX1_init_62 : decode cX1_init 62 = .ok (.aload_n 0, 1) := by decide +kernel
theorem dX1_init_63 : decode cX1_init 63 = .ok (.iconst 0, 1) := by decide +kernel
theorem dX1_init_64 : decode cX1_init 64 = .ok (.putfield 33, 3) := by decide +kernel
theorem dX1_init_67 : decode cX1_init 67 = .ok (.aload_n 0, 1) := by decide +kernel
theorem dX1_init_68 : decode cX1_init 68 = .ok (.iconst 0, 1) := by decide +kernel
theorem dX1_init_69 : decode cX1_init 69 = .ok (.putfield 36, 3) := by decide +kernel
theorem dX1_init_72 : decode cX1_init 72 = .ok (.aload_n 0, 1) := by decide +kernel
theorem dX1_init_73 : decode cX1_init 73 = .ok (.iconst 0, 1) := by decide +kernel
theorem dX1_init_74 : decode cX1_init 74 = .ok (.putfield 39, 3) := by decide +kernel
theorem dX1_init_77 : decode cX1_init 77 = .ok (.aload_n 0, 1) := by decide +kernel
theorem dX1_init_78 : decode cX1_init 78 = .ok (.iconst 0, 1) := by decide +kernel
theorem dX1_init_79 : decode cX1_init 79 = .ok (.putfield 42, 3) := by decide +kernel
theorem dX1_init_82 : decode cX1_init 82 = .ok (.aload_n 0, 1) := by decide +kernel
theorem dX1_init_83 : decode cX1_init 83 = .ok (.iconst (-1), 1) := by decide +kernel
theorem dX1_init_84 : decode cX1_init 84 = .ok (.putfield 45, 3) := by decide +kernel
theorem dX1_init_87 : decode cX1_init 87 = .ok (.aload_n 0, 1) := by decide +kernel
theorem dX1_init_88 : decode cX1_init 88 = .ok (.iconst (-1), 1) := by decide +kernel
theorem dX1_init_89 : decode cX1_init 89 = .ok (.putfield 48, 3) := by decide +kernel
theorem dX1_init_92 : decode cX1_init 92 = .ok (.return_, 1) := by decide +kernel
theorem dX1_tell_0 : decode cX1_tell 0 = .ok (.iload_n 1, 1) := by decide +kernel
theorem dX1_tell_1 : decode cX1_tell 1 = .ok (.tableswitch 69 0 5 #[39, 44, 49, 54, 59, 64], 39) := by decide +kernel
theorem dX1_tell_40 : decode cX1_tell 40 = .ok (.aload_n 0, 1) := by decide +kernel
theorem dX1_tell_41 : decode cX1_tell 41 = .ok (.getfield 29, 3) := by decide +kernel
theorem dX1_tell_44 : decode cX1_tell 44 = .ok (.ireturn, 1) := by decide +kernel
theorem dX1_tell_45 : decode cX1_tell 45 = .ok (.aload_n 0, 1) := by decide +kernel
theorem dX1_tell_46 : decode cX1_tell 46 = .ok (.getfield 33, 3) := by decide +kernel
theorem dX1_tell_49 : decode cX1_tell 49 = .ok (.ireturn, 1) := by decide +kernel
theorem dX1_tell_50 : decode cX1_tell 50 = .ok (.aload_n 0, 1) := by decide +kernel
theorem dX1_tell_51 : decode cX1_tell 51 = .ok (.getfield 36, 3) := by decide +kernel
theorem dX1_tell_54 : decode cX1_tell 54 = .ok (.ireturn, 1) := by decide +kernel
theorem dX1_tell_55 : decode cX1_tell 55 = .ok (.aload_n 0, 1) := by decide +kernel
theorem dX1_tell_56 : decode cX1_tell 56 = .ok (.getfield 39, 3) := by decide +kernel
theorem dX1_tell_59 : decode cX1_tell 59 = .ok (.ireturn, 1) := by decide +kernel
theorem dX1_tell_60 : decode cX1_tell 60 = .ok (.aload_n 0, 1) := by decide +kernel
theorem dX1_tell_61 : decode cX1_tell 61 = .ok (.getfield 42, 3) := by decide +kernel
theorem dX1_tell_64 : decode cX1_tell 64 = .ok (.ireturn, 1) := by decide +kernel
theorem dX1_tell_65 : decode cX1_tell 65 = .ok (.aload_n 0, 1) := by decide +kernel
theorem dX1_tell_66 : decode cX1_tell 66 = .ok (.getfield 45, 3) := by decide +kernel
theorem dX1_tell_69 : decode cX1_tell 69 = .ok (.ireturn, 1) := by decide +kernel
theorem dX1_tell_70 : decode cX1_tell 70 = .ok (.aload_n 0, 1) := by decide +kernel
theorem dX1_tell_71 : decode cX1_tell 71 = .ok (.getfield 48, 3) := by decide +kernel
theorem dX1_tell_74 : decode cX1_tell 74 = .ok (.ireturn, 1) := by decide +kernel
theorem dX1_isNote_0 : decode cX1_isNote 0 = .ok (.aload_n 0, 1) := by decide +kernel
theorem dX1_isNote_1 : decode cX1_isNote 1 = .ok (.getfield 11, 3) := by decide +kernel
theorem dX1_isNote_4 : decode cX1_isNote 4 = .ok (.iconst 4, 1) := by decide +kernel
theorem dX1_isNote_5 : decode cX1_isNote 5 = .ok (.aaload, 1) := by decide +kernel
theorem dX1_isNote_6 : decode cX1_isNote 6 = .ok (.iload_n 1, 1) := by decide +kernel
theorem dX1_isNote_7 : decode cX1_isNote 7 = .ok (.iaload, 1) := by decide +kernel
theorem dX1_isNote_8 : decode cX1_isNote 8 = .ok (.iconst (-1), 1) := by decide +kernel
theorem dX1_isNote_9 : decode cX1_isNote 9 = .ok (.if_icmp .eq 7, 3) := by decide +kernel
theorem dX1_isNote_12 : decode cX1_isNote 12 = .ok (.iconst 1, 1) := by decide +kernel
theorem dX1_isNote_13 : decode cX1_isNote 13 = .ok (.goto 4, 3) := by decide +kernel
theorem dX1_isNote_16 : decode cX1_isNote 16 = .ok (.iconst 0, 1) := by decide +kernel
theorem dX1_isNote_17 : decode cX1_isNote 17 = .ok (.ireturn, 1) := by decide +kernel
theorem dX1_isTied_0 : decode cX1_isTied 0 = .ok (.aload_n 0, 1) := by decide +kernel
theorem dX1_isTied_1 : decode cX1_isTied 1 = .ok (.getfield 11, 3) := by decide +kernel
theorem dX1_isTied_4 : decode cX1_isTied 4 = .ok (.iconst 5, 1) := by decide +kernel
theorem dX1_isTied_5 : decode cX1_isTied 5 = .ok (.aaload, 1) := by decide +kernel
theorem dX1_isTied_6 : decode cX1_isTied 6 = .ok (.iload_n 1, 1) := by decide +kernel
theorem dX1_isTied_7 : decode cX1_isTied 7 = .ok (.iaload, 1) := by decide +kernel
theorem dX1_isTied_8 : decode cX1_isTied 8 = .ok (.iconst 1, 1) := by decide +kernel
theorem dX1_isTied_9 : decode cX1_isTied 9 = .ok (.if_icmp .ne 7, 3) := by decide +kernel
theorem dX1_isTied_12 : decode cX1_isTied 12 = .ok (.iconst 1, 1) := by decide +kernel
theorem dX1_isTied_13 : decode cX1_isTied 13 = .ok (.goto 4, 3) := by decide +kernel
theorem dX1_isTied_16 : decode cX1_isTied 16 = .ok (.iconst 0, 1) := by decide +kernel
theorem dX1_isTied_17 : decode cX1_isTied 17 = .ok (.ireturn, 1) := by decide +kernel
theorem dX1_isJoinedToNext_0 : decode cX1_isJoinedToNext 0 = .ok (.iload_n 1, 1) := by decide +kernel
theorem dX1_isJoinedToNext_1 : decode cX1_isJoinedToNext 1 = .ok (.ifCond .lt 13, 3) := by decide +kernel
theorem dX1_isJoinedToNext_4 : decode cX1_isJoinedToNext 4 = .ok (.iload_n 1, 1) := by decide +kernel
theorem dX1_isJoinedToNext_5 : decode cX1_isJoinedToNext 5 = .ok (.iconst 1, 1) := by decide +kernel
theorem dX1_isJoinedToNext_6 : decode cX1_isJoinedToNext 6 = .ok (.iadd, 1) := by decide +kernel
theorem dX1_isJoinedToNext_7 : decode cX1_isJoinedToNext 7 = .ok (.aload_n 0, 1) := by decide +kernel
theorem dX1_isJoinedToNext_8 : decode cX1_isJoinedToNext 8 = .ok (.getfield 29, 3) := by decide +kernel
theorem dX1_isJoinedToNext_11 : decode cX1_isJoinedToNext 11 = .ok (.if_icmp .lt 5, 3) := by decide +kernel
theorem dX1_isJoinedToNext_14 : decode cX1_isJoinedToNext 14 = .ok (.iconst 0, 1) := by decide +kernel
theorem dX1_isJoinedToNext_15 : decode cX1_isJoinedToNext 15 = .ok (.ireturn, 1) := by decide +kernel
theorem dX1_isJoinedToNext_16 : decode cX1_isJoinedToNext 16 = .ok (.aload_n 0, 1) := by decide +kernel
theorem dX1_isJoinedToNext_17 : decode cX1_isJoinedToNext 17 = .ok (.iload_n 1, 1) := by decide +kernel
theorem dX1_isJoinedToNext_18 : decode cX1_isJoinedToNext 18 = .ok (.invokevirtual 51, 3) := by decide +kernel
theorem dX1_isJoinedToNext_21 : decode cX1_isJoinedToNext 21 = .ok (.ifCond .eq 28, 3) := by decide +kernel
theorem dX1_isJoinedToNext_24 : decode cX1_isJoinedToNext 24 = .ok (.aload_n 0, 1) := by decide +kernel
theorem dX1_isJoinedToNext_25 : decode cX1_isJoinedToNext 25 = .ok (.getfield 11, 3) := by decide +kernel
theorem dX1_isJoinedToNext_28 : decode cX1_isJoinedToNext 28 = .ok (.iconst 4, 1) := by decide +kernel
theorem dX1_isJoinedToNext_29 : decode cX1_isJoinedToNext 29 = .ok (.aaload, 1) := by decide +kernel
theorem dX1_isJoinedToNext_30 : decode cX1_isJoinedToNext 30 = .ok (.iload_n 1, 1) := by decide +kernel
theorem dX1_isJoinedToNext_31 : decode cX1_isJoinedToNext 31 = .ok (.iaload, 1) := by decide +kernel
theorem dX1_isJoinedToNext_32 : decode cX1_isJoinedToNext 32 = .ok (.aload_n 0, 1) := by decide +kernel
theorem dX1_isJoinedToNext_33 : decode cX1_isJoinedToNext 33 = .ok (.getfield 11, 3) := by decide +kernel
theorem dX1_isJoinedToNext_36 : decode cX1_isJoinedToNext 36 = .ok (.iconst 4, 1) := by decide +kernel
theorem dX1_isJoinedToNext_37 : decode cX1_isJoinedToNext 37 = .ok (.aaload, 1) := by decide +kernel
theorem dX1_isJoinedToNext_38 : decode cX1_isJoinedToNext 38 = .ok (.iload_n 1, 1) := by decide +kernel
theorem dX1_isJoinedToNext_39 : decode cX1_isJoinedToNext 39 = .ok (.iconst 1, 1) := by decide +kernel
theorem dX1_isJoinedToNext_40 : decode cX1_isJoinedToNext 40 = .ok (.iadd, 1) := by decide +kernel
theorem dX1_isJoinedToNext_41 : decode cX1_isJoinedToNext 41 = .ok (.iaload, 1) := by decide +kernel
theorem dX1_isJoinedToNext_42 : decode cX1_isJoinedToNext 42 = .ok (.if_icmp .ne 7, 3) := by decide +kernel
theorem dX1_isJoinedToNext_45 : decode cX1_isJoinedToNext 45 = .ok (.iconst 1, 1) := by decide +kernel
theorem dX1_isJoinedToNext_46 : decode cX1_isJoinedToNext 46 = .ok (.goto 4, 3) := by decide +kernel
theorem dX1_isJoinedToNext_49 : decode cX1_isJoinedToNext 49 = .ok (.iconst 0, 1) := by decide +kernel
theorem dX1_isJoinedToNext_50 : decode cX1_isJoinedToNext 50 = .ok (.ireturn, 1) := by decide +kernel
theorem dX1_placeOf_0 : decode cX1_placeOf 0 = .ok (.bipush 7, 2) := by decide +kernel
theorem dX1_placeOf_2 : decode cX1_placeOf 2 = .ok (.aload_n 0, 1) := by decide +kernel
theorem dX1_placeOf_3 : decode cX1_placeOf 3 = .ok (.getfield 16, 3) := by decide +kernel
theorem dX1_placeOf_6 : decode cX1_placeOf 6 = .ok (.iconst 2, 1) := by decide +kernel
theorem dX1_placeOf_7 : decode cX1_placeOf 7 = .ok (.aaload, 1) := by decide +kernel
theorem dX1_placeOf_8 : decode cX1_placeOf 8 = .ok (.iload_n 1, 1) := by decide +kernel
theorem dX1_placeOf_9 : decode cX1_placeOf 9 = .ok (.iaload, 1) := by decide +kernel
theorem dX1_placeOf_10 : decode cX1_placeOf 10 = .ok (.imul, 1) := by decide +kernel
theorem dX1_placeOf_11 : decode cX1_placeOf 11 = .ok (.aload_n 0, 1) := by decide +kernel
theorem dX1_placeOf_12 : decode cX1_placeOf 12 = .ok (.getfield 16, 3) := by decide +kernel
theorem dX1_placeOf_15 : decode cX1_placeOf 15 = .ok (.iconst 0, 1) := by decide +kernel
theorem dX1_placeOf_16 : decode cX1_placeOf 16 = .ok (.aaload, 1) := by decide +kernel
theorem dX1_placeOf_17 : decode cX1_placeOf 17 = .ok (.iload_n 1, 1) := by decide +kernel
theorem dX1_placeOf_18 : decode cX1_placeOf 18 = .ok (.iaload, 1) := by decide +kernel
theorem dX1_placeOf_19 : decode cX1_placeOf 19 = .ok (.iadd, 1) := by decide +kernel
theorem dX1_placeOf_20 : decode cX1_placeOf 20 = .ok (.ireturn, 1) := by decide +kernel
theorem dX1_append_0 : decode cX1_append 0 = .ok (.aload_n 0, 1) := by decide +kernel
theorem dX1_append_1 : decode cX1_append 1 = .ok (.getfield 11, 3) := by decide +kernel
theorem dX1_append_4 : decode cX1_append 4 = .ok (.iconst 0, 1) := by decide +kernel
theorem dX1_append_5 : decode cX1_append 5 = .ok (.aaload, 1) := by decide +kernel
theorem dX1_append_6 : decode cX1_append 6 = .ok (.aload_n 0, 1) := by decide +kernel
theorem dX1_append_7 : decode cX1_append 7 = .ok (.getfield 29, 3) := by decide +kernel
theorem dX1_append_10 : decode cX1_append 10 = .ok (.aload_n 0, 1) := by decide +kernel
theorem dX1_append_11 : decode cX1_append 11 = .ok (.getfield 33, 3) := by decide +kernel
theorem dX1_append_14 : decode cX1_append 14 = .ok (.iastore, 1) := by decide +kernel
theorem dX1_append_15 : decode cX1_append 15 = .ok (.aload_n 0, 1) := by decide +kernel
theorem dX1_append_16 : decode cX1_append 16 = .ok (.getfield 11, 3) := by decide +kernel
theorem dX1_append_19 : decode cX1_append 19 = .ok (.iconst 1, 1) := by decide +kernel
theorem dX1_append_20 : decode cX1_append 20 = .ok (.aaload, 1) := by decide +kernel
theorem dX1_append_21 : decode cX1_append 21 = .ok (.aload_n 0, 1) := by decide +kernel
theorem dX1_append_22 : decode cX1_append 22 = .ok (.getfield 29, 3) := by decide +kernel
theorem dX1_append_25 : decode cX1_append 25 = .ok (.getstatic 55, 3) := by decide +kernel
theorem dX1_append_28 : decode cX1_append 28 = .ok (.iload_n 1, 1) := by decide +kernel
theorem dX1_append_29 : decode cX1_append 29 = .ok (.iaload, 1) := by decide +kernel
theorem dX1_append_30 : decode cX1_append 30 = .ok (.iastore, 1) := by decide +kernel
theorem dX1_append_31 : decode cX1_append 31 = .ok (.aload_n 0, 1) := by decide +kernel
theorem dX1_append_32 : decode cX1_append 32 = .ok (.getfield 11, 3) := by decide +kernel
theorem dX1_append_35 : decode cX1_append 35 = .ok (.iconst 2, 1) := by decide +kernel
theorem dX1_append_36 : decode cX1_append 36 = .ok (.aaload, 1) := by decide +kernel
theorem dX1_append_37 : decode cX1_append 37 = .ok (.aload_n 0, 1) := by decide +kernel
theorem dX1_append_38 : decode cX1_append 38 = .ok (.getfield 29, 3) := by decide +kernel
theorem dX1_append_41 : decode cX1_append 41 = .ok (.getstatic 58, 3) := by decide +kernel
theorem dX1_append_44 : decode cX1_append 44 = .ok (.iload_n 1, 1) := by decide +kernel
theorem dX1_append_45 : decode cX1_append 45 = .ok (.iaload, 1) := by decide +kernel
theorem dX1_append_46 : decode cX1_append 46 = .ok (.iastore, 1) := by decide +kernel
theorem dX1_append_47 : decode cX1_append 47 = .ok (.aload_n 0, 1) := by decide +kernel
theorem dX1_append_48 : decode cX1_append 48 = .ok (.getfield 11, 3) := by decide +kernel
theorem dX1_append_51 : decode cX1_append 51 = .ok (.iconst 3, 1) := by decide +kernel
theorem dX1_append_52 : decode cX1_append 52 = .ok (.aaload, 1) := by decide +kernel
theorem dX1_append_53 : decode cX1_append 53 = .ok (.aload_n 0, 1) := by decide +kernel
theorem dX1_append_54 : decode cX1_append 54 = .ok (.getfield 29, 3) := by decide +kernel
theorem dX1_append_57 : decode cX1_append 57 = .ok (.getstatic 61, 3) := by decide +kernel
theorem dX1_append_60 : decode cX1_append 60 = .ok (.iload_n 1, 1) := by decide +kernel
theorem dX1_append_61 : decode cX1_append 61 = .ok (.iaload, 1) := by decide +kernel
theorem dX1_append_62 : decode cX1_append 62 = .ok (.iastore, 1) := by decide +kernel
theorem dX1_append_63 : decode cX1_append 63 = .ok (.aload_n 0, 1) := by decide +kernel
theorem dX1_append_64 : decode cX1_append 64 = .ok (.getfield 11, 3) := by decide +kernel
theorem dX1_append_67 : decode cX1_append 67 = .ok (.iconst 4, 1) := by decide +kernel
theorem dX1_append_68 : decode cX1_append 68 = .ok (.aaload, 1) := by decide +kernel
theorem dX1_append_69 : decode cX1_append 69 = .ok (.aload_n 0, 1) := by decide +kernel
theorem dX1_append_70 : decode cX1_append 70 = .ok (.getfield 29, 3) := by decide +kernel
theorem dX1_append_73 : decode cX1_append 73 = .ok (.iconst (-1), 1) := by decide +kernel
theorem dX1_append_74 : decode cX1_append 74 = .ok (.iastore, 1) := by decide +kernel
theorem dX1_append_75 : decode cX1_append 75 = .ok (.aload_n 0, 1) := by decide +kernel
theorem dX1_append_76 : decode cX1_append 76 = .ok (.getfield 11, 3) := by decide +kernel
theorem dX1_append_79 : decode cX1_append 79 = .ok (.iconst 5, 1) := by decide +kernel
theorem dX1_append_80 : decode cX1_append 80 = .ok (.aaload, 1) := by decide +kernel
theorem dX1_append_81 : decode cX1_append 81 = .ok (.aload_n 0, 1) := by decide +kernel
theorem dX1_append_82 : decode cX1_append 82 = .ok (.getfield 29, 3) := by decide +kernel
theorem dX1_append_85 : decode cX1_append 85 = .ok (.iconst 0, 1) := by decide +kernel
theorem dX1_append_86 : decode cX1_append 86 = .ok (.iastore, 1) := by decide +kernel
theorem dX1_append_87 : decode cX1_append 87 = .ok (.aload_n 0, 1) := by decide +kernel
theorem dX1_append_88 : decode cX1_append 88 = .ok (.getfield 11, 3) := by decide +kernel
theorem dX1_append_91 : decode cX1_append 91 = .ok (.bipush 6, 2) := by decide +kernel
theorem dX1_append_93 : decode cX1_append 93 = .ok (.aaload, 1) := by decide +kernel
theorem dX1_append_94 : decode cX1_append 94 = .ok (.aload_n 0, 1) := by decide +kernel
theorem dX1_append_95 : decode cX1_append 95 = .ok (.getfield 29, 3) := by decide +kernel
theorem dX1_append_98 : decode cX1_append 98 = .ok (.iload_n 2, 1) := by decide +kernel
theorem dX1_append_99 : decode cX1_append 99 = .ok (.iastore, 1) := by decide +kernel
theorem dX1_append_100 : decode cX1_append 100 = .ok (.aload_n 0, 1) := by decide +kernel
theorem dX1_append_101 : decode cX1_append 101 = .ok (.dup, 1) := by decide +kernel
theorem dX1_append_102 : decode cX1_append 102 = .ok (.getfield 33, 3) := by decide +kernel
theorem dX1_append_105 : decode cX1_append 105 = .ok (.getstatic 55, 3) := by decide +kernel
theorem dX1_append_108 : decode cX1_append 108 = .ok (.iload_n 1, 1) := by decide +kernel
theorem dX1_append_109 : decode cX1_append 109 = .ok (.iaload, 1) := by decide +kernel
theorem dX1_append_110 : decode cX1_append 110 = .ok (.iadd, 1) := by decide +kernel
theorem dX1_append_111 : decode cX1_append 111 = .ok (.putfield 33, 3) := by decide +kernel
theorem dX1_append_114 : decode cX1_append 114 = .ok (.aload_n 0, 1) := by decide +kernel
theorem dX1_append_115 : decode cX1_append 115 = .ok (.dup, 1) := by decide +kernel
theorem dX1_append_116 : decode cX1_append 116 = .ok (.getfield 29, 3) := by decide +kernel
theorem dX1_append_119 : decode cX1_append 119 = .ok (.iconst 1, 1) := by decide +kernel
theorem dX1_append_120 : decode cX1_append 120 = .ok (.iadd, 1) := by decide +kernel
theorem dX1_append_121 : decode cX1_append 121 = .ok (.putfield 29, 3) := by decide +kernel
theorem dX1_append_124 : decode cX1_append 124 = .ok (.return_, 1) := by decide +kernel
theorem dX1_putPitch_0 : decode cX1_putPitch 0 = .ok (.aload_n 0, 1) := by decide +kernel
theorem dX1_putPitch_1 : decode cX1_putPitch 1 = .ok (.getfield 16, 3) := by decide +kernel
theorem dX1_putPitch_4 : decode cX1_putPitch 4 = .ok (.iconst 0, 1) := by decide +kernel
theorem dX1_putPitch_5 : decode cX1_putPitch 5 = .ok (.aaload, 1) := by decide +kernel
theorem dX1_putPitch_6 : decode cX1_putPitch 6 = .ok (.iload_n 1, 1) := by decide +kernel
theorem dX1_putPitch_7 : decode cX1_putPitch 7 = .ok (.iload_n 2, 1) := by decide +kernel
theorem dX1_putPitch_8 : decode cX1_putPitch 8 = .ok (.iastore, 1) := by decide +kernel
theorem dX1_putPitch_9 : decode cX1_putPitch 9 = .ok (.aload_n 0, 1) := by decide +kernel
theorem dX1_putPitch_10 : decode cX1_putPitch 10 = .ok (.getfield 16, 3) := by decide +kernel
theorem dX1_putPitch_13 : decode cX1_putPitch 13 = .ok (.iconst 1, 1) := by decide +kernel
theorem dX1_putPitch_14 : decode cX1_putPitch 14 = .ok (.aaload, 1) := by decide +kernel
theorem dX1_putPitch_15 : decode cX1_putPitch 15 = .ok (.iload_n 1, 1) := by decide +kernel
theorem dX1_putPitch_16 : decode cX1_putPitch 16 = .ok (.iload_n 3, 1) := by decide +kernel
theorem dX1_putPitch_17 : decode cX1_putPitch 17 = .ok (.iastore, 1) := by decide +kernel
theorem dX1_putPitch_18 : decode cX1_putPitch 18 = .ok (.aload_n 0, 1) := by decide +kernel
theorem dX1_putPitch_19 : decode cX1_putPitch 19 = .ok (.getfield 16, 3) := by decide +kernel
theorem dX1_putPitch_22 : decode cX1_putPitch 22 = .ok (.iconst 2, 1) := by decide +kernel
theorem dX1_putPitch_23 : decode cX1_putPitch 23 = .ok (.aaload, 1) := by decide +kernel
theorem dX1_putPitch_24 : decode cX1_putPitch 24 = .ok (.iload_n 1, 1) := by decide +kernel
theorem dX1_putPitch_25 : decode cX1_putPitch 25 = .ok (.iload 4, 2) := by decide +kernel
theorem dX1_putPitch_27 : decode cX1_putPitch 27 = .ok (.iastore, 1) := by decide +kernel
theorem dX1_putPitch_28 : decode cX1_putPitch 28 = .ok (.aload_n 0, 1) := by decide +kernel
theorem dX1_putPitch_29 : decode cX1_putPitch 29 = .ok (.getfield 11, 3) := by decide +kernel
theorem dX1_putPitch_32 : decode cX1_putPitch 32 = .ok (.iconst 4, 1) := by decide +kernel
theorem dX1_putPitch_33 : decode cX1_putPitch 33 = .ok (.aaload, 1) := by decide +kernel
theorem dX1_putPitch_34 : decode cX1_putPitch 34 = .ok (.iload_n 1, 1) := by decide +kernel
theorem dX1_putPitch_35 : decode cX1_putPitch 35 = .ok (.iload_n 2, 1) := by decide +kernel
theorem dX1_putPitch_36 : decode cX1_putPitch 36 = .ok (.iload_n 3, 1) := by decide +kernel
theorem dX1_putPitch_37 : decode cX1_putPitch 37 = .ok (.iload 4, 2) := by decide +kernel
theorem dX1_putPitch_39 : decode cX1_putPitch 39 = .ok (.invokestatic 64, 3) := by decide +kernel
theorem dX1_putPitch_42 : decode cX1_putPitch 42 = .ok (.iastore, 1) := by decide +kernel
theorem dX1_putPitch_43 : decode cX1_putPitch 43 = .ok (.return_, 1) := by decide +kernel
theorem dX1_countLooseTies_0 : decode cX1_countLooseTies 0 = .ok (.iconst 0, 1) := by decide +kernel
theorem dX1_countLooseTies_1 : decode cX1_countLooseTies 1 = .ok (.istore_n 1, 1) := by decide +kernel
theorem dX1_countLooseTies_2 : decode cX1_countLooseTies 2 = .ok (.iconst 0, 1) := by decide +kernel
theorem dX1_countLooseTies_3 : decode cX1_countLooseTies 3 = .ok (.istore_n 2, 1) := by decide +kernel
theorem dX1_countLooseTies_4 : decode cX1_countLooseTies 4 = .ok (.iload_n 2, 1) := by decide +kernel
theorem dX1_countLooseTies_5 : decode cX1_countLooseTies 5 = .ok (.aload_n 0, 1) := by decide +kernel
theorem dX1_countLooseTies_6 : decode cX1_countLooseTies 6 = .ok (.getfield 29, 3) := by decide +kernel
theorem dX1_countLooseTies_9 : decode cX1_countLooseTies 9 = .ok (.if_icmp .ge 28, 3) := by decide +kernel
theorem dX1_countLooseTies_12 : decode cX1_countLooseTies 12 = .ok (.aload_n 0, 1) := by decide +kernel
theorem dX1_countLooseTies_13 : decode cX1_countLooseTies 13 = .ok (.iload_n 2, 1) := by decide +kernel
theorem dX1_countLooseTies_14 : decode cX1_countLooseTies 14 = .ok (.invokevirtual 51, 3) := by decide +kernel
theorem dX1_countLooseTies_17 : decode cX1_countLooseTies 17 = .ok (.ifCond .eq 14, 3) := by decide +kernel
theorem dX1_countLooseTies_20 : decode cX1_countLooseTies 20 = .ok (.aload_n 0, 1) := by decide +kernel
theorem dX1_countLooseTies_21 : decode cX1_countLooseTies 21 = .ok (.iload_n 2, 1) := by decide +kernel
theorem dX1_countLooseTies_22 : decode cX1_countLooseTies 22 = .ok (.invokevirtual 93, 3) := by decide +kernel
theorem dX1_countLooseTies_25 : decode cX1_countLooseTies 25 = .ok (.ifCond .ne 6, 3) := by decide +kernel
theorem dX1_countLooseTies_28 : decode cX1_countLooseTies 28 = .ok (.iinc 1 1, 3) := by decide +kernel
theorem dX1_countLooseTies_31 : decode cX1_countLooseTies 31 = .ok (.iinc 2 1, 3) := by decide +kernel
theorem dX1_countLooseTies_34 : decode cX1_countLooseTies 34 = .ok (.goto (-30), 3) := by decide +kernel
theorem dX1_countLooseTies_37 : decode cX1_countLooseTies 37 = .ok (.iload_n 1, 1) := by decide +kernel
theorem dX1_countLooseTies_38 : decode cX1_countLooseTies 38 = .ok (.ireturn, 1) := by decide +kernel
theorem dX1_arrange_0 : decode cX1_arrange 0 = .ok (.aload_n 0, 1) := by decide +kernel
theorem dX1_arrange_1 : decode cX1_arrange 1 = .ok (.invokevirtual 96, 3) := by decide +kernel
theorem dX1_arrange_4 : decode cX1_arrange 4 = .ok (.aload_n 0, 1) := by decide +kernel
theorem dX1_arrange_5 : decode cX1_arrange 5 = .ok (.invokevirtual 99, 3) := by decide +kernel
theorem dX1_arrange_8 : decode cX1_arrange 8 = .ok (.aload_n 0, 1) := by decide +kernel
theorem dX1_arrange_9 : decode cX1_arrange 9 = .ok (.iload_n 1, 1) := by decide +kernel
theorem dX1_arrange_10 : decode cX1_arrange 10 = .ok (.invokevirtual 102, 3) := by decide +kernel
theorem dX1_arrange_13 : decode cX1_arrange 13 = .ok (.aload_n 0, 1) := by decide +kernel
theorem dX1_arrange_14 : decode cX1_arrange 14 = .ok (.iload_n 2, 1) := by decide +kernel
theorem dX1_arrange_15 : decode cX1_arrange 15 = .ok (.invokevirtual 106, 3) := by decide +kernel
theorem dX1_arrange_18 : decode cX1_arrange 18 = .ok (.return_, 1) := by decide +kernel
theorem dX1_arrangeTones_0 : decode cX1_arrangeTones 0 = .ok (.aload_n 0, 1) := by decide +kernel
theorem dX1_arrangeTones_1 : decode cX1_arrangeTones 1 = .ok (.iconst (-1), 1) := by decide +kernel
theorem dX1_arrangeTones_2 : decode cX1_arrangeTones 2 = .ok (.putfield 45, 3) := by decide +kernel
theorem dX1_arrangeTones_5 : decode cX1_arrangeTones 5 = .ok (.aload_n 0, 1) := by decide +kernel
theorem dX1_arrangeTones_6 : decode cX1_arrangeTones 6 = .ok (.iconst (-1), 1) := by decide +kernel
theorem dX1_arrangeTones_7 : decode cX1_arrangeTones 7 = .ok (.putfield 48, 3) := by decide +kernel
theorem dX1_arrangeTones_10 : decode cX1_arrangeTones 10 = .ok (.iconst 0, 1) := by decide +kernel
theorem dX1_arrangeTones_11 : decode cX1_arrangeTones 11 = .ok (.istore_n 1, 1) := by decide +kernel
theorem dX1_arrangeTones_12 : decode cX1_arrangeTones 12 = .ok (.iload_n 1, 1) := by decide +kernel
theorem dX1_arrangeTones_13 : decode cX1_arrangeTones 13 = .ok (.aload_n 0, 1) := by decide +kernel
theorem dX1_arrangeTones_14 : decode cX1_arrangeTones 14 = .ok (.getfield 29, 3) := by decide +kernel
theorem dX1_arrangeTones_17 : decode cX1_arrangeTones 17 = .ok (.if_icmp .ge 62, 3) := by decide +kernel
theorem dX1_arrangeTones_20 : decode cX1_arrangeTones 20 = .ok (.aload_n 0, 1) := by decide +kernel
theorem dX1_arrangeTones_21 : decode cX1_arrangeTones 21 = .ok (.iload_n 1, 1) := by decide +kernel
theorem dX1_arrangeTones_22 : decode cX1_arrangeTones 22 = .ok (.invokevirtual 76, 3) := by decide +kernel
theorem dX1_arrangeTones_25 : decode cX1_arrangeTones 25 = .ok (.ifCond .eq 48, 3) := by decide +kernel
theorem dX1_arrangeTones_28 : decode cX1_arrangeTones 28 = .ok (.aload_n 0, 1) := by decide +kernel
theorem dX1_arrangeTones_29 : decode cX1_arrangeTones 29 = .ok (.getfield 11, 3) := by decide +kernel
theorem dX1_arrangeTones_32 : decode cX1_arrangeTones 32 = .ok (.iconst 4, 1) := by decide +kernel
theorem dX1_arrangeTones_33 : decode cX1_arrangeTones 33 = .ok (.aaload, 1) := by decide +kernel
theorem dX1_arrangeTones_34 : decode cX1_arrangeTones 34 = .ok (.iload_n 1, 1) := by decide +kernel
theorem dX1_arrangeTones_35 : decode cX1_arrangeTones 35 = .ok (.iaload, 1) := by decide +kernel
theorem dX1_arrangeTones_36 : decode cX1_arrangeTones 36 = .ok (.istore_n 2, 1) := by decide +kernel
theorem dX1_arrangeTones_37 : decode cX1_arrangeTones 37 = .ok (.aload_n 0, 1) := by decide +kernel
theorem dX1_arrangeTones_38 : decode cX1_arrangeTones 38 = .ok (.aload_n 0, 1) := by decide +kernel
theorem dX1_arrangeTones_39 : decode cX1_arrangeTones 39 = .ok (.getfield 45, 3) := by decide +kernel
theorem dX1_arrangeTones_42 : decode cX1_arrangeTones 42 = .ok (.iload_n 2, 1) := by decide +kernel
theorem dX1_arrangeTones_43 : decode cX1_arrangeTones 43 = .ok (.invokestatic 109, 3) := by decide +kernel
theorem dX1_arrangeTones_46 : decode cX1_arrangeTones 46 = .ok (.putfield 45, 3) := by decide +kernel
theorem dX1_arrangeTones_49 : decode cX1_arrangeTones 49 = .ok (.aload_n 0, 1) := by decide +kernel
theorem dX1_arrangeTones_50 : decode cX1_arrangeTones 50 = .ok (.aload_n 0, 1) := by decide +kernel
theorem dX1_arrangeTones_51 : decode cX1_arrangeTones 51 = .ok (.getfield 48, 3) := by decide +kernel
theorem dX1_arrangeTones_54 : decode cX1_arrangeTones 54 = .ok (.iconst (-1), 1) := by decide +kernel
theorem dX1_arrangeTones_55 : decode cX1_arrangeTones 55 = .ok (.if_icmp .ne 7, 3) := by decide +kernel
theorem dX1_arrangeTones_58 : decode cX1_arrangeTones 58 = .ok (.iload_n 2, 1) := by decide +kernel
theorem dX1_arrangeTones_59 : decode cX1_arrangeTones 59 = .ok (.goto 11, 3) := by decide +kernel
theorem dX1_arrangeTones_62 : decode cX1_arrangeTones 62 = .ok (.aload_n 0, 1) := by decide +kernel
theorem dX1_arrangeTones_63 : decode cX1_arrangeTones 63 = .ok (.getfield 48, 3) := by decide +kernel
theorem dX1_arrangeTones_66 : decode cX1_arrangeTones 66 = .ok (.iload_n 2, 1) := by decide +kernel
theorem dX1_arrangeTones_67 : decode cX1_arrangeTones 67 = .ok (.invokestatic 114, 3) := by decide +kernel
theorem dX1_arrangeTones_70 : decode cX1_arrangeTones 70 = .ok (.putfield 48, 3) := by decide +kernel
theorem dX1_arrangeTones_73 : decode cX1_arrangeTones 73 = .ok (.iinc 1 1, 3) := by decide +kernel
theorem dX1_arrangeTones_76 : decode cX1_arrangeTones 76 = .ok (.goto (-64), 3) := by decide +kernel
theorem dX1_arrangeTones_79 : decode cX1_arrangeTones 79 = .ok (.return_, 1) := by decide +kernel
theorem dX1_arrangeSounds_0 : decode cX1_arrangeSounds 0 = .ok (.aload_n 0, 1) := by decide +kernel
theorem dX1_arrangeSounds_1 : decode cX1_arrangeSounds 1 = .ok (.iconst 0, 1) := by decide +kernel
theorem dX1_arrangeSounds_2 : decode cX1_arrangeSounds 2 = .ok (.putfield 36, 3) := by decide +kernel
theorem dX1_arrangeSounds_5 : decode cX1_arrangeSounds 5 = .ok (.iconst 0, 1) := by decide +kernel
theorem dX1_arrangeSounds_6 : decode cX1_arrangeSounds 6 = .ok (.istore_n 1, 1) := by decide +kernel
theorem dX1_arrangeSounds_7 : decode cX1_arrangeSounds 7 = .ok (.iload_n 1, 1) := by decide +kernel
theorem dX1_arrangeSounds_8 : decode cX1_arrangeSounds 8 = .ok (.aload_n 0, 1) := by decide +kernel
theorem dX1_arrangeSounds_9 : decode cX1_arrangeSounds 9 = .ok (.getfield 29, 3) := by decide +kernel
theorem dX1_arrangeSounds_12 : decode cX1_arrangeSounds 12 = .ok (.if_icmp .ge 125, 3) := by decide +kernel
theorem dX1_arrangeSounds_15 : decode cX1_arrangeSounds 15 = .ok (.aload_n 0, 1) := by decide +kernel
theorem dX1_arrangeSounds_16 : decode cX1_arrangeSounds 16 = .ok (.iload_n 1, 1) := by decide +kernel
theorem dX1_arrangeSounds_17 : decode cX1_arrangeSounds 17 = .ok (.invokevirtual 76, 3) := by decide +kernel
theorem dX1_arrangeSounds_20 : decode cX1_arrangeSounds 20 = .ok (.ifCond .eq 111, 3) := by decide +kernel
theorem dX1_arrangeSounds_23 : decode cX1_arrangeSounds 23 = .ok (.aload_n 0, 1) := by decide +kernel
theorem dX1_arrangeSounds_24 : decode cX1_arrangeSounds 24 = .ok (.iload_n 1, 1) := by decide +kernel
theorem dX1_arrangeSounds_25 : decode cX1_arrangeSounds 25 = .ok (.iconst 1, 1) := by decide +kernel
theorem dX1_arrangeSounds_26 : decode cX1_arrangeSounds 26 = .ok (.isub, 1) := by decide +kernel
theorem dX1_arrangeSounds_27 : decode cX1_arrangeSounds 27 = .ok (.invokevirtual 93, 3) := by decide +kernel
theorem dX1_arrangeSounds_30 : decode cX1_arrangeSounds 30 = .ok (.istore_n 2, 1) := by decide +kernel
theorem dX1_arrangeSounds_31 : decode cX1_arrangeSounds 31 = .ok (.iload_n 2, 1) := by decide +kernel
theorem dX1_arrangeSounds_32 : decode cX1_arrangeSounds 32 = .ok (.ifCond .eq 19, 3) := by decide +kernel
theorem dX1_arrangeSounds_35 : decode cX1_arrangeSounds 35 = .ok (.aload_n 0, 1) := by decide +kernel
theorem dX1_arrangeSounds_36 : decode cX1_arrangeSounds 36 = .ok (.getfield 36, 3) := by decide +kernel
theorem dX1_arrangeSounds_39 : decode cX1_arrangeSounds 39 = .ok (.ifCond .le 12, 3) := by decide +kernel
theorem dX1_arrangeSounds_42 : decode cX1_arrangeSounds 42 = .ok (.aload_n 0, 1) := by decide +kernel
theorem dX1_arrangeSounds_43 : decode cX1_arrangeSounds 43 = .ok (.getfield 36, 3) := by decide +kernel
theorem dX1_arrangeSounds_46 : decode cX1_arrangeSounds 46 = .ok (.iconst 1, 1) := by decide +kernel
theorem dX1_arrangeSounds_47 : decode cX1_arrangeSounds 47 = .ok (.isub, 1) := by decide +kernel
theorem dX1_arrangeSounds_48 : decode cX1_arrangeSounds 48 = .ok (.goto 7, 3) := by decide +kernel
theorem dX1_arrangeSounds_51 : decode cX1_arrangeSounds 51 = .ok (.aload_n 0, 1) := by decide +kernel
theorem dX1_arrangeSounds_52 : decode cX1_arrangeSounds 52 = .ok (.getfield 36, 3) := by decide +kernel
theorem dX1_arrangeSounds_55 : decode cX1_arrangeSounds 55 = .ok (.istore_n 3, 1) := by decide +kernel
theorem dX1_arrangeSounds_56 : decode cX1_arrangeSounds 56 = .ok (.iload_n 3, 1) := by decide +kernel
theorem dX1_arrangeSounds_57 : decode cX1_arrangeSounds 57 = .ok (.aload_n 0, 1) := by decide +kernel
theorem dX1_arrangeSounds_58 : decode cX1_arrangeSounds 58 = .ok (.getfield 36, 3) := by decide +kernel
theorem dX1_arrangeSounds_61 : decode cX1_arrangeSounds 61 = .ok (.if_icmp .ne 45, 3) := by decide +kernel
theorem dX1_arrangeSounds_64 : decode cX1_arrangeSounds 64 = .ok (.aload_n 0, 1) := by decide +kernel
theorem dX1_arrangeSounds_65 : decode cX1_arrangeSounds 65 = .ok (.getfield 19, 3) := by decide +kernel
theorem dX1_arrangeSounds_68 : decode cX1_arrangeSounds 68 = .ok (.iconst 0, 1) := by decide +kernel
theorem dX1_arrangeSounds_69 : decode cX1_arrangeSounds 69 = .ok (.aaload, 1) := by decide +kernel
theorem dX1_arrangeSounds_70 : decode cX1_arrangeSounds 70 = .ok (.iload_n 3, 1) := by decide +kernel
theorem dX1_arrangeSounds_71 : decode cX1_arrangeSounds 71 = .ok (.aload_n 0, 1) := by decide +kernel
theorem dX1_arrangeSounds_72 : decode cX1_arrangeSounds 72 = .ok (.getfield 11, 3) := by decide +kernel
theorem dX1_arrangeSounds_75 : decode cX1_arrangeSounds 75 = .ok (.iconst 0, 1) := by decide +kernel
theorem dX1_arrangeSounds_76 : decode cX1_arrangeSounds 76 = .ok (.aaload, 1) := by decide +kernel
theorem dX1_arrangeSounds_77 : decode cX1_arrangeSounds 77 = .ok (.iload_n 1, 1) := by decide +kernel
theorem dX1_arrangeSounds_78 : decode cX1_arrangeSounds 78 = .ok (.iaload, 1) := by decide +kernel
theorem dX1_arrangeSounds_79 : decode cX1_arrangeSounds 79 = .ok (.iastore, 1) := by decide +kernel
theorem dX1_arrangeSounds_80 : decode cX1_arrangeSounds 80 = .ok (.aload_n 0, 1) := by decide +kernel
theorem dX1_arrangeSounds_81 : decode cX1_arrangeSounds 81 = .ok (.getfield 19, 3) := by decide +kernel
theorem dX1_arrangeSounds_84 : decode cX1_arrangeSounds 84 = .ok (.iconst 2, 1) := by decide +kernel
theorem dX1_arrangeSounds_85 : decode cX1_arrangeSounds 85 = .ok (.aaload, 1) := by decide +kernel
theorem dX1_arrangeSounds_86 : decode cX1_arrangeSounds 86 = .ok (.iload_n 3, 1) := by decide +kernel
theorem dX1_arrangeSounds_87 : decode cX1_arrangeSounds 87 = .ok (.aload_n 0, 1) := by decide +kernel
theorem dX1_arrangeSounds_88 : decode cX1_arrangeSounds 88 = .ok (.getfield 11, 3) := by decide +kernel
theorem dX1_arrangeSounds_91 : decode cX1_arrangeSounds 91 = .ok (.iconst 4, 1) := by decide +kernel
theorem dX1_arrangeSounds_92 : decode cX1_arrangeSounds 92 = .ok (.aaload, 1) := by decide +kernel
theorem dX1_arrangeSounds_93 : decode cX1_arrangeSounds 93 = .ok (.iload_n 1, 1) := by decide +kernel
theorem dX1_arrangeSounds_94 : decode cX1_arrangeSounds 94 = .ok (.iaload, 1) := by decide +kernel
theorem dX1_arrangeSounds_95 : decode cX1_arrangeSounds 95 = .ok (.iastore, 1) := by decide +kernel
theorem dX1_arrangeSounds_96 : decode cX1_arrangeSounds 96 = .ok (.aload_n 0, 1) := by decide +kernel
theorem dX1_arrangeSounds_97 : decode cX1_arrangeSounds 97 = .ok (.dup, 1) := by decide +kernel
theorem dX1_arrangeSounds_98 : decode cX1_arrangeSounds 98 = .ok (.getfield 36, 3) := by decide +kernel
theorem dX1_arrangeSounds_101 : decode cX1_arrangeSounds 101 = .ok (.iconst 1, 1) := by decide +kernel
theorem dX1_arrangeSounds_102 : decode cX1_arrangeSounds 102 = .ok (.iadd, 1) := by decide +kernel
theorem dX1_arrangeSounds_103 : decode cX1_arrangeSounds 103 = .ok (.putfield 36, 3) := by decide +kernel
theorem dX1_arrangeSounds_106 : decode cX1_arrangeSounds 106 = .ok (.aload_n 0, 1) := by decide +kernel
theorem dX1_arrangeSounds_107 : decode cX1_arrangeSounds 107 = .ok (.getfield 19, 3) := by decide +kernel
theorem dX1_arrangeSounds_110 : decode cX1_arrangeSounds 110 = .ok (.iconst 1, 1) := by decide +kernel
theorem dX1_arrangeSounds_111 : decode cX1_arrangeSounds 111 = .ok (.aaload, 1) := by decide +kernel
theorem dX1_arrangeSounds_112 : decode cX1_arrangeSounds 112 = .ok (.iload_n 3, 1) := by decide +kernel
theorem dX1_arrangeSounds_113 : decode cX1_arrangeSounds 113 = .ok (.aload_n 0, 1) := by decide +kernel
theorem dX1_arrangeSounds_114 : decode cX1_arrangeSounds 114 = .ok (.getfield 11, 3) := by decide +kernel
theorem dX1_arrangeSounds_117 : decode cX1_arrangeSounds 117 = .ok (.iconst 0, 1) := by decide +kernel
theorem dX1_arrangeSounds_118 : decode cX1_arrangeSounds 118 = .ok (.aaload, 1) := by decide +kernel
theorem dX1_arrangeSounds_119 : decode cX1_arrangeSounds 119 = .ok (.iload_n 1, 1) := by decide +kernel
theorem dX1_arrangeSounds_120 : decode cX1_arrangeSounds 120 = .ok (.iaload, 1) := by decide +kernel
theorem dX1_arrangeSounds_121 : decode cX1_arrangeSounds 121 = .ok (.aload_n 0, 1) := by decide +kernel
theorem dX1_arrangeSounds_122 : decode cX1_arrangeSounds 122 = .ok (.getfield 11, 3) := by decide +kernel
theorem dX1_arrangeSounds_125 : decode cX1_arrangeSounds 125 = .ok (.iconst 1, 1) := by decide +kernel
theorem dX1_arrangeSounds_126 : decode cX1_arrangeSounds 126 = .ok (.aaload, 1) := by decide +kernel
theorem dX1_arrangeSounds_127 : decode cX1_arrangeSounds 127 = .ok (.iload_n 1, 1) := by decide +kernel
theorem dX1_arrangeSounds_128 : decode cX1_arrangeSounds 128 = .ok (.iaload, 1) := by decide +kernel
theorem dX1_arrangeSounds_129 : decode cX1_arrangeSounds 129 = .ok (.iadd, 1) := by decide +kernel
theorem dX1_arrangeSounds_130 : decode cX1_arrangeSounds 130 = .ok (.iastore, 1) := by decide +kernel
theorem dX1_arrangeSounds_131 : decode cX1_arrangeSounds 131 = .ok (.iinc 1 1, 3) := by decide +kernel
theorem dX1_arrangeSounds_134 : decode cX1_arrangeSounds 134 = .ok (.goto (-127), 3) := by decide +kernel
theorem dX1_arrangeSounds_137 : decode cX1_arrangeSounds 137 = .ok (.return_, 1) := by decide +kernel
theorem dX1_arrangeSigns_0 : decode cX1_arrangeSigns 0 = .ok (.aload_n 0, 1) := by decide +kernel
theorem dX1_arrangeSigns_1 : decode cX1_arrangeSigns 1 = .ok (.iconst 0, 1) := by decide +kernel
theorem dX1_arrangeSigns_2 : decode cX1_arrangeSigns 2 = .ok (.putfield 42, 3) := by decide +kernel
theorem dX1_arrangeSigns_5 : decode cX1_arrangeSigns 5 = .ok (.iconst 0, 1) := by decide +kernel
theorem dX1_arrangeSigns_6 : decode cX1_arrangeSigns 6 = .ok (.istore_n 2, 1) := by decide +kernel
theorem dX1_arrangeSigns_7 : decode cX1_arrangeSigns 7 = .ok (.iload_n 2, 1) := by decide +kernel
theorem dX1_arrangeSigns_8 : decode cX1_arrangeSigns 8 = .ok (.aload_n 0, 1) := by decide +kernel
theorem dX1_arrangeSigns_9 : decode cX1_arrangeSigns 9 = .ok (.getfield 22, 3) := by decide +kernel
theorem dX1_arrangeSigns_12 : decode cX1_arrangeSigns 12 = .ok (.arraylength, 1) := by decide +kernel
theorem dX1_arrangeSigns_13 : decode cX1_arrangeSigns 13 = .ok (.if_icmp .ge 16, 3) := by decide +kernel
theorem dX1_arrangeSigns_16 : decode cX1_arrangeSigns 16 = .ok (.aload_n 0, 1) := by decide +kernel
theorem dX1_arrangeSigns_17 : decode cX1_arrangeSigns 17 = .ok (.getfield 22, 3) := by decide +kernel
theorem dX1_arrangeSigns_20 : decode cX1_arrangeSigns 20 = .ok (.iload_n 2, 1) := by decide +kernel
theorem dX1_arrangeSigns_21 : decode cX1_arrangeSigns 21 = .ok (.iconst (-1), 1) := by decide +kernel
theorem dX1_arrangeSigns_22 : decode cX1_arrangeSigns 22 = .ok (.iastore, 1) := by decide +kernel
theorem dX1_arrangeSigns_23 : decode cX1_arrangeSigns 23 = .ok (.iinc 2 1, 3) := by decide +kernel
theorem dX1_arrangeSigns_26 : decode cX1_arrangeSigns 26 = .ok (.goto (-19), 3) := by decide +kernel
theorem dX1_arrangeSigns_29 : decode cX1_arrangeSigns 29 = .ok (.iconst 0, 1) := by decide +kernel
theorem dX1_arrangeSigns_30 : decode cX1_arrangeSigns 30 = .ok (.istore_n 2, 1) := by decide +kernel
theorem dX1_arrangeSigns_31 : decode cX1_arrangeSigns 31 = .ok (.iload_n 2, 1) := by decide +kernel
theorem dX1_arrangeSigns_32 : decode cX1_arrangeSigns 32 = .ok (.aload_n 0, 1) := by decide +kernel
theorem dX1_arrangeSigns_33 : decode cX1_arrangeSigns 33 = .ok (.getfield 29, 3) := by decide +kernel
theorem dX1_arrangeSigns_36 : decode cX1_arrangeSigns 36 = .ok (.if_icmp .ge 146, 3) := by decide +kernel
theorem dX1_arrangeSigns_39 : decode cX1_arrangeSigns 39 = .ok (.aload_n 0, 1) := by decide +kernel
theorem dX1_arrangeSigns_40 : decode cX1_arrangeSigns 40 = .ok (.getfield 11, 3) := by decide +kernel
theorem dX1_arrangeSigns_43 : decode cX1_arrangeSigns 43 = .ok (.bipush 7, 2) := by decide +kernel
theorem dX1_arrangeSigns_45 : decode cX1_arrangeSigns 45 = .ok (.aaload, 1) := by decide +kernel
theorem dX1_arrangeSigns_46 : decode cX1_arrangeSigns 46 = .ok (.iload_n 2, 1) := by decide +kernel
theorem dX1_arrangeSigns_47 : decode cX1_arrangeSigns 47 = .ok (.iconst 0, 1) := by decide +kernel
theorem dX1_arrangeSigns_48 : decode cX1_arrangeSigns 48 = .ok (.iastore, 1) := by decide +kernel
theorem dX1_arrangeSigns_49 : decode cX1_arrangeSigns 49 = .ok (.aload_n 0, 1) := by decide +kernel
theorem dX1_arrangeSigns_50 : decode cX1_arrangeSigns 50 = .ok (.iload_n 2, 1) := by decide +kernel
theorem dX1_arrangeSigns_51 : decode cX1_arrangeSigns 51 = .ok (.invokevirtual 76, 3) := by decide +kernel
theorem dX1_arrangeSigns_54 : decode cX1_arrangeSigns 54 = .ok (.ifCond .eq 122, 3) := by decide +kernel
theorem dX1_arrangeSigns_57 : decode cX1_arrangeSigns 57 = .ok (.aload_n 0, 1) := by decide +kernel
theorem dX1_arrangeSigns_58 : decode cX1_arrangeSigns 58 = .ok (.iload_n 2, 1) := by decide +kernel
theorem dX1_arrangeSigns_59 : decode cX1_arrangeSigns 59 = .ok (.invokevirtual 68, 3) := by decide +kernel
theorem dX1_arrangeSigns_62 : decode cX1_arrangeSigns 62 = .ok (.istore_n 3, 1) := by decide +kernel
theorem dX1_arrangeSigns_63 : decode cX1_arrangeSigns 63 = .ok (.aload_n 0, 1) := by decide +kernel
theorem dX1_arrangeSigns_64 : decode cX1_arrangeSigns 64 = .ok (.getfield 22, 3) := by decide +kernel
theorem dX1_arrangeSigns_67 : decode cX1_arrangeSigns 67 = .ok (.iload_n 3, 1) := by decide +kernel
theorem dX1_arrangeSigns_68 : decode cX1_arrangeSigns 68 = .ok (.iaload, 1) := by decide +kernel
theorem dX1_arrangeSigns_69 : decode cX1_arrangeSigns 69 = .ok (.aload_n 0, 1) := by decide +kernel
theorem dX1_arrangeSigns_70 : decode cX1_arrangeSigns 70 = .ok (.getfield 11, 3) := by decide +kernel
theorem dX1_arrangeSigns_73 : decode cX1_arrangeSigns 73 = .ok (.bipush 6, 2) := by decide +kernel
theorem dX1_arrangeSigns_75 : decode cX1_arrangeSigns 75 = .ok (.aaload, 1) := by decide +kernel
theorem dX1_arrangeSigns_76 : decode cX1_arrangeSigns 76 = .ok (.iload_n 2, 1) := by decide +kernel
theorem dX1_arrangeSigns_77 : decode cX1_arrangeSigns 77 = .ok (.iaload, 1) := by decide +kernel
theorem dX1_arrangeSigns_78 : decode cX1_arrangeSigns 78 = .ok (.if_icmp .ne 12, 3) := by decide +kernel
theorem dX1_arrangeSigns_81 : decode cX1_arrangeSigns 81 = .ok (.aload_n 0, 1) := by decide +kernel
theorem dX1_arrangeSigns_82 : decode cX1_arrangeSigns 82 = .ok (.getfield 26, 3) := by decide +kernel
theorem dX1_arrangeSigns_85 : decode cX1_arrangeSigns 85 = .ok (.iload_n 3, 1) := by decide +kernel
theorem dX1_arrangeSigns_86 : decode cX1_arrangeSigns 86 = .ok (.iaload, 1) := by decide +kernel
theorem dX1_arrangeSigns_87 : decode cX1_arrangeSigns 87 = .ok (.goto 15, 3) := by decide +kernel
theorem dX1_arrangeSigns_90 : decode cX1_arrangeSigns 90 = .ok (.iload_n 1, 1) := by decide +kernel
theorem dX1_arrangeSigns_91 : decode cX1_arrangeSigns 91 = .ok (.aload_n 0, 1) := by decide +kernel
theorem dX1_arrangeSigns_92 : decode cX1_arrangeSigns 92 = .ok (.getfield 16, 3) := by decide +kernel
theorem dX1_arrangeSigns_95 : decode cX1_arrangeSigns 95 = .ok (.iconst 0, 1) := by decide +kernel
theorem dX1_arrangeSigns_96 : decode cX1_arrangeSigns 96 = .ok (.aaload, 1) := by decide +kernel
theorem dX1_arrangeSigns_97 : decode cX1_arrangeSigns 97 = .ok (.iload_n 2, 1) := by decide +kernel
theorem dX1_arrangeSigns_98 : decode cX1_arrangeSigns 98 = .ok (.iaload, 1) := by decide +kernel
theorem dX1_arrangeSigns_99 : decode cX1_arrangeSigns 99 = .ok (.invokestatic 117, 3) := by decide +kernel
theorem dX1_arrangeSigns_102 : decode cX1_arrangeSigns 102 = .ok (.istore 4, 2) := by decide +kernel
theorem dX1_arrangeSigns_104 : decode cX1_arrangeSigns 104 = .ok (.iload 4, 2) := by decide +kernel
theorem dX1_arrangeSigns_106 : decode cX1_arrangeSigns 106 = .ok (.aload_n 0, 1) := by decide +kernel
theorem dX1_arrangeSigns_107 : decode cX1_arrangeSigns 107 = .ok (.getfield 16, 3) := by decide +kernel
theorem dX1_arrangeSigns_110 : decode cX1_arrangeSigns 110 = .ok (.iconst 1, 1) := by decide +kernel
theorem dX1_arrangeSigns_111 : decode cX1_arrangeSigns 111 = .ok (.aaload, 1) := by decide +kernel
theorem dX1_arrangeSigns_112 : decode cX1_arrangeSigns 112 = .ok (.iload_n 2, 1) := by decide +kernel
theorem dX1_arrangeSigns_113 : decode cX1_arrangeSigns 113 = .ok (.iaload, 1) := by decide +kernel
theorem dX1_arrangeSigns_114 : decode cX1_arrangeSigns 114 = .ok (.if_icmp .eq 33, 3) := by decide +kernel
theorem dX1_arrangeSigns_117 : decode cX1_arrangeSigns 117 = .ok (.aload_n 0, 1) := by decide +kernel
theorem dX1_arrangeSigns_118 : decode cX1_arrangeSigns 118 = .ok (.iload_n 2, 1) := by decide +kernel
theorem dX1_arrangeSigns_119 : decode cX1_arrangeSigns 119 = .ok (.iconst 1, 1) := by decide +kernel
theorem dX1_arrangeSigns_120 : decode cX1_arrangeSigns 120 = .ok (.isub, 1) := by decide +kernel
theorem dX1_arrangeSigns_121 : decode cX1_arrangeSigns 121 = .ok (.invokevirtual 93, 3) := by decide +kernel
theorem dX1_arrangeSigns_124 : decode cX1_arrangeSigns 124 = .ok (.ifCond .ne 23, 3) := by decide +kernel
theorem dX1_arrangeSigns_127 : decode cX1_arrangeSigns 127 = .ok (.aload_n 0, 1) := by decide +kernel
theorem dX1_arrangeSigns_128 : decode cX1_arrangeSigns 128 = .ok (.getfield 11, 3) := by decide +kernel
theorem dX1_arrangeSigns_131 : decode cX1_arrangeSigns 131 = .ok (.bipush 7, 2) := by decide +kernel
theorem dX1_arrangeSigns_133 : decode cX1_arrangeSigns 133 = .ok (.aaload, 1) := by decide +kernel
theorem dX1_arrangeSigns_134 : decode cX1_arrangeSigns 134 = .ok (.iload_n 2, 1) := by decide +kernel
theorem dX1_arrangeSigns_135 : decode cX1_arrangeSigns 135 = .ok (.iconst 1, 1) := by decide +kernel
theorem dX1_arrangeSigns_136 : decode cX1_arrangeSigns 136 = .ok (.iastore, 1) := by decide +kernel
theorem dX1_arrangeSigns_137 : decode cX1_arrangeSigns 137 = .ok (.aload_n 0, 1) := by decide +kernel
theorem dX1_arrangeSigns_138 : decode cX1_arrangeSigns 138 = .ok (.dup, 1) := by decide +kernel
theorem dX1_arrangeSigns_139 : decode cX1_arrangeSigns 139 = .ok (.getfield 42, 3) := by decide +kernel
theorem dX1_arrangeSigns_142 : decode cX1_arrangeSigns 142 = .ok (.iconst 1, 1) := by decide +kernel
theorem dX1_arrangeSigns_143 : decode cX1_arrangeSigns 143 = .ok (.iadd, 1) := by decide +kernel
theorem dX1_arrangeSigns_144 : decode cX1_arrangeSigns 144 = .ok (.putfield 42, 3) := by decide +kernel
theorem dX1_arrangeSigns_147 : decode cX1_arrangeSigns 147 = .ok (.aload_n 0, 1) := by decide +kernel
theorem dX1_arrangeSigns_148 : decode cX1_arrangeSigns 148 = .ok (.getfield 22, 3) := by decide +kernel
theorem dX1_arrangeSigns_151 : decode cX1_arrangeSigns 151 = .ok (.iload_n 3, 1) := by decide +kernel
theorem dX1_arrangeSigns_152 : decode cX1_arrangeSigns 152 = .ok (.aload_n 0, 1) := by decide +kernel
theorem dX1_arrangeSigns_153 : decode cX1_arrangeSigns 153 = .ok (.getfield 11, 3) := by decide +kernel
theorem dX1_arrangeSigns_156 : decode cX1_arrangeSigns 156 = .ok (.bipush 6, 2) := by decide +kernel
theorem dX1_arrangeSigns_158 : decode cX1_arrangeSigns 158 = .ok (.aaload, 1) := by decide +kernel
theorem dX1_arrangeSigns_159 : decode cX1_arrangeSigns 159 = .ok (.iload_n 2, 1) := by decide +kernel
theorem dX1_arrangeSigns_160 : decode cX1_arrangeSigns 160 = .ok (.iaload, 1) := by decide +kernel
theorem dX1_arrangeSigns_161 : decode cX1_arrangeSigns 161 = .ok (.iastore, 1) := by decide +kernel
theorem dX1_arrangeSigns_162 : decode cX1_arrangeSigns 162 = .ok (.aload_n 0, 1) := by decide +kernel
theorem dX1_arrangeSigns_163 : decode cX1_arrangeSigns 163 = .ok (.getfield 26, 3) := by decide +kernel
theorem dX1_arrangeSigns_166 : decode cX1_arrangeSigns 166 = .ok (.iload_n 3, 1) := by decide +kernel
theorem dX1_arrangeSigns_167 : decode cX1_arrangeSigns 167 = .ok (.aload_n 0, 1) := by decide +kernel
theorem dX1_arrangeSigns_168 : decode cX1_arrangeSigns 168 = .ok (.getfield 16, 3) := by decide +kernel
theorem dX1_arrangeSigns_171 : decode cX1_arrangeSigns 171 = .ok (.iconst 1, 1) := by decide +kernel
theorem dX1_arrangeSigns_172 : decode cX1_arrangeSigns 172 = .ok (.aaload, 1) := by decide +kernel
theorem dX1_arrangeSigns_173 : decode cX1_arrangeSigns 173 = .ok (.iload_n 2, 1) := by decide +kernel
theorem dX1_arrangeSigns_174 : decode cX1_arrangeSigns 174 = .ok (.iaload, 1) := by decide +kernel
theorem dX1_arrangeSigns_175 : decode cX1_arrangeSigns 175 = .ok (.iastore, 1) := by decide +kernel
theorem dX1_arrangeSigns_176 : decode cX1_arrangeSigns 176 = .ok (.iinc 2 1, 3) := by decide +kernel
theorem dX1_arrangeSigns_179 : decode cX1_arrangeSigns 179 = .ok (.goto (-148), 3) := by decide +kernel
theorem dX1_arrangeSigns_182 : decode cX1_arrangeSigns 182 = .ok (.return_, 1) := by decide +kernel
theorem dX1_arrangeBeams_0 : decode cX1_arrangeBeams 0 = .ok (.aload_n 0, 1) := by decide +kernel
theorem dX1_arrangeBeams_1 : decode cX1_arrangeBeams 1 = .ok (.iconst 0, 1) := by decide +kernel
theorem dX1_arrangeBeams_2 : decode cX1_arrangeBeams 2 = .ok (.putfield 39, 3) := by decide +kernel
theorem dX1_arrangeBeams_5 : decode cX1_arrangeBeams 5 = .ok (.iconst 0, 1) := by decide +kernel
theorem dX1_arrangeBeams_6 : decode cX1_arrangeBeams 6 = .ok (.istore_n 2, 1) := by decide +kernel
theorem dX1_arrangeBeams_7 : decode cX1_arrangeBeams 7 = .ok (.iload_n 2, 1) := by decide +kernel
theorem dX1_arrangeBeams_8 : decode cX1_arrangeBeams 8 = .ok (.aload_n 0, 1) := by decide +kernel
theorem dX1_arrangeBeams_9 : decode cX1_arrangeBeams 9 = .ok (.getfield 29, 3) := by decide +kernel
theorem dX1_arrangeBeams_12 : decode cX1_arrangeBeams 12 = .ok (.if_icmp .ge 90, 3) := by decide +kernel
theorem dX1_arrangeBeams_15 : decode cX1_arrangeBeams 15 = .ok (.aload_n 0, 1) := by decide +kernel
theorem dX1_arrangeBeams_16 : decode cX1_arrangeBeams 16 = .ok (.getfield 11, 3) := by decide +kernel
theorem dX1_arrangeBeams_19 : decode cX1_arrangeBeams 19 = .ok (.bipush 8, 2) := by decide +kernel
theorem dX1_arrangeBeams_21 : decode cX1_arrangeBeams 21 = .ok (.aaload, 1) := by decide +kernel
theorem dX1_arrangeBeams_22 : decode cX1_arrangeBeams 22 = .ok (.iload_n 2, 1) := by decide +kernel
theorem dX1_arrangeBeams_23 : decode cX1_arrangeBeams 23 = .ok (.iconst (-1), 1) := by decide +kernel
theorem dX1_arrangeBeams_24 : decode cX1_arrangeBeams 24 = .ok (.iastore, 1) := by decide +kernel
theorem dX1_arrangeBeams_25 : decode cX1_arrangeBeams 25 = .ok (.aload_n 0, 1) := by decide +kernel
theorem dX1_arrangeBeams_26 : decode cX1_arrangeBeams 26 = .ok (.iload_n 2, 1) := by decide +kernel
theorem dX1_arrangeBeams_27 : decode cX1_arrangeBeams 27 = .ok (.iconst 1, 1) := by decide +kernel
theorem dX1_arrangeBeams_28 : decode cX1_arrangeBeams 28 = .ok (.isub, 1) := by decide +kernel
theorem dX1_arrangeBeams_29 : decode cX1_arrangeBeams 29 = .ok (.iload_n 1, 1) := by decide +kernel
theorem dX1_arrangeBeams_30 : decode cX1_arrangeBeams 30 = .ok (.invokevirtual 120, 3) := by decide +kernel
theorem dX1_arrangeBeams_33 : decode cX1_arrangeBeams 33 = .ok (.ifCond .eq 63, 3) := by decide +kernel
theorem dX1_arrangeBeams_36 : decode cX1_arrangeBeams 36 = .ok (.aload_n 0, 1) := by decide +kernel
theorem dX1_arrangeBeams_37 : decode cX1_arrangeBeams 37 = .ok (.getfield 11, 3) := by decide +kernel
theorem dX1_arrangeBeams_40 : decode cX1_arrangeBeams 40 = .ok (.bipush 8, 2) := by decide +kernel
theorem dX1_arrangeBeams_42 : decode cX1_arrangeBeams 42 = .ok (.aaload, 1) := by decide +kernel
theorem dX1_arrangeBeams_43 : decode cX1_arrangeBeams 43 = .ok (.iload_n 2, 1) := by decide +kernel
theorem dX1_arrangeBeams_44 : decode cX1_arrangeBeams 44 = .ok (.iconst 1, 1) := by decide +kernel
theorem dX1_arrangeBeams_45 : decode cX1_arrangeBeams 45 = .ok (.isub, 1) := by decide +kernel
theorem dX1_arrangeBeams_46 : decode cX1_arrangeBeams 46 = .ok (.iaload, 1) := by decide +kernel
theorem dX1_arrangeBeams_47 : decode cX1_arrangeBeams 47 = .ok (.iconst (-1), 1) := by decide +kernel
theorem dX1_arrangeBeams_48 : decode cX1_arrangeBeams 48 = .ok (.if_icmp .ne 28, 3) := by decide +kernel
theorem dX1_arrangeBeams_51 : decode cX1_arrangeBeams 51 = .ok (.aload_n 0, 1) := by decide +kernel
theorem dX1_arrangeBeams_52 : decode cX1_arrangeBeams 52 = .ok (.getfield 11, 3) := by decide +kernel
theorem dX1_arrangeBeams_55 : decode cX1_arrangeBeams 55 = .ok (.bipush 8, 2) := by decide +kernel
theorem dX1_arrangeBeams_57 : decode cX1_arrangeBeams 57 = .ok (.aaload, 1) := by decide +kernel
theorem dX1_arrangeBeams_58 : decode cX1_arrangeBeams 58 = .ok (.iload_n 2, 1) := by decide +kernel
theorem dX1_arrangeBeams_59 : decode cX1_arrangeBeams 59 = .ok (.iconst 1, 1) := by decide +kernel
theorem dX1_arrangeBeams_60 : decode cX1_arrangeBeams 60 = .ok (.isub, 1) := by decide +kernel
theorem dX1_arrangeBeams_61 : decode cX1_arrangeBeams 61 = .ok (.aload_n 0, 1) := by decide +kernel
theorem dX1_arrangeBeams_62 : decode cX1_arrangeBeams 62 = .ok (.getfield 39, 3) := by decide +kernel
theorem dX1_arrangeBeams_65 : decode cX1_arrangeBeams 65 = .ok (.iastore, 1) := by decide +kernel
theorem dX1_arrangeBeams_66 : decode cX1_arrangeBeams 66 = .ok (.aload_n 0, 1) := by decide +kernel
theorem dX1_arrangeBeams_67 : decode cX1_arrangeBeams 67 = .ok (.dup, 1) := by decide +kernel
theorem dX1_arrangeBeams_68 : decode cX1_arrangeBeams 68 = .ok (.getfield 39, 3) := by decide +kernel
theorem dX1_arrangeBeams_71 : decode cX1_arrangeBeams 71 = .ok (.iconst 1, 1) := by decide +kernel
theorem dX1_arrangeBeams_72 : decode cX1_arrangeBeams 72 = .ok (.iadd, 1) := by decide +kernel
theorem dX1_arrangeBeams_73 : decode cX1_arrangeBeams 73 = .ok (.putfield 39, 3) := by decide +kernel
theorem dX1_arrangeBeams_76 : decode cX1_arrangeBeams 76 = .ok (.aload_n 0, 1) := by decide +kernel
theorem dX1_arrangeBeams_77 : decode cX1_arrangeBeams 77 = .ok (.getfield 11, 3) := by decide +kernel
theorem dX1_arrangeBeams_80 : decode cX1_arrangeBeams 80 = .ok (.bipush 8, 2) := by decide +kernel
theorem dX1_arrangeBeams_82 : decode cX1_arrangeBeams 82 = .ok (.aaload, 1) := by decide +kernel
theorem dX1_arrangeBeams_83 : decode cX1_arrangeBeams 83 = .ok (.iload_n 2, 1) := by decide +kernel
theorem dX1_arrangeBeams_84 : decode cX1_arrangeBeams 84 = .ok (.aload_n 0, 1) := by decide +kernel
theorem dX1_arrangeBeams_85 : decode cX1_arrangeBeams 85 = .ok (.getfield 11, 3) := by decide +kernel
theorem dX1_arrangeBeams_88 : decode cX1_arrangeBeams 88 = .ok (.bipush 8, 2) := by decide +kernel
theorem dX1_arrangeBeams_90 : decode cX1_arrangeBeams 90 = .ok (.aaload, 1) := by decide +kernel
theorem dX1_arrangeBeams_91 : decode cX1_arrangeBeams 91 = .ok (.iload_n 2, 1) := by decide +kernel
theorem dX1_arrangeBeams_92 : decode cX1_arrangeBeams 92 = .ok (.iconst 1, 1) := by decide +kernel
theorem dX1_arrangeBeams_93 : decode cX1_arrangeBeams 93 = .ok (.isub, 1) := by decide +kernel
theorem dX1_arrangeBeams_94 : decode cX1_arrangeBeams 94 = .ok (.iaload, 1) := by decide +kernel
theorem dX1_arrangeBeams_95 : decode cX1_arrangeBeams 95 = .ok (.iastore, 1) := by decide +kernel
theorem dX1_arrangeBeams_96 : decode cX1_arrangeBeams 96 = .ok (.iinc 2 1, 3) := by decide +kernel
theorem dX1_arrangeBeams_99 : decode cX1_arrangeBeams 99 = .ok (.goto (-92), 3) := by decide +kernel
theorem dX1_arrangeBeams_102 : decode cX1_arrangeBeams 102 = .ok (.return_, 1) := by decide +kernel
theorem dX1_isGrouped_0 : decode cX1_isGrouped 0 = .ok (.iload_n 1, 1) := by decide +kernel
theorem dX1_isGrouped_1 : decode cX1_isGrouped 1 = .ok (.ifCond .lt 31, 3) := by decide +kernel
theorem dX1_isGrouped_4 : decode cX1_isGrouped 4 = .ok (.iload_n 1, 1) := by decide +kernel
theorem dX1_isGrouped_5 : decode cX1_isGrouped 5 = .ok (.iconst 1, 1) := by decide +kernel
theorem dX1_isGrouped_6 : decode cX1_isGrouped 6 = .ok (.iadd, 1) := by decide +kernel
theorem dX1_isGrouped_7 : decode cX1_isGrouped 7 = .ok (.aload_n 0, 1) := by decide +kernel
theorem dX1_isGrouped_8 : decode cX1_isGrouped 8 = .ok (.getfield 29, 3) := by decide +kernel
theorem dX1_isGrouped_11 : decode cX1_isGrouped 11 = .ok (.if_icmp .ge 21, 3) := by decide +kernel
theorem dX1_isGrouped_14 : decode cX1_isGrouped 14 = .ok (.aload_n 0, 1) := by decide +kernel
theorem dX1_isGrouped_15 : decode cX1_isGrouped 15 = .ok (.iload_n 1, 1) := by decide +kernel
theorem dX1_isGrouped_16 : decode cX1_isGrouped 16 = .ok (.invokevirtual 124, 3) := by decide +kernel
theorem dX1_isGrouped_19 : decode cX1_isGrouped 19 = .ok (.ifCond .eq 13, 3) := by decide +kernel
theorem dX1_isGrouped_22 : decode cX1_isGrouped 22 = .ok (.aload_n 0, 1) := by decide +kernel
theorem dX1_isGrouped_23 : decode cX1_isGrouped 23 = .ok (.iload_n 1, 1) := by decide +kernel
theorem dX1_isGrouped_24 : decode cX1_isGrouped 24 = .ok (.iconst 1, 1) := by decide +kernel
theorem dX1_isGrouped_25 : decode cX1_isGrouped 25 = .ok (.iadd, 1) := by decide +kernel
theorem dX1_isGrouped_26 : decode cX1_isGrouped 26 = .ok (.invokevirtual 124, 3) := by decide +kernel
theorem dX1_isGrouped_29 : decode cX1_isGrouped 29 = .ok (.ifCond .ne 5, 3) := by decide +kernel
theorem dX1_isGrouped_32 : decode cX1_isGrouped 32 = .ok (.iconst 0, 1) := by decide +kernel
theorem dX1_isGrouped_33 : decode cX1_isGrouped 33 = .ok (.ireturn, 1) := by decide +kernel
theorem dX1_isGrouped_34 : decode cX1_isGrouped 34 = .ok (.aload_n 0, 1) := by decide +kernel
theorem dX1_isGrouped_35 : decode cX1_isGrouped 35 = .ok (.getfield 11, 3) := by decide +kernel
theorem dX1_isGrouped_38 : decode cX1_isGrouped 38 = .ok (.iconst 0, 1) := by decide +kernel
theorem dX1_isGrouped_39 : decode cX1_isGrouped 39 = .ok (.aaload, 1) := by decide +kernel
theorem dX1_isGrouped_40 : decode cX1_isGrouped 40 = .ok (.iload_n 1, 1) := by decide +kernel
theorem dX1_isGrouped_41 : decode cX1_isGrouped 41 = .ok (.iaload, 1) := by decide +kernel
theorem dX1_isGrouped_42 : decode cX1_isGrouped 42 = .ok (.iload_n 2, 1) := by decide +kernel
theorem dX1_isGrouped_43 : decode cX1_isGrouped 43 = .ok (.invokestatic 127, 3) := by decide +kernel
theorem dX1_isGrouped_46 : decode cX1_isGrouped 46 = .ok (.istore_n 3, 1) := by decide +kernel
theorem dX1_isGrouped_47 : decode cX1_isGrouped 47 = .ok (.iload_n 3, 1) := by decide +kernel
theorem dX1_isGrouped_48 : decode cX1_isGrouped 48 = .ok (.aload_n 0, 1) := by decide +kernel
theorem dX1_isGrouped_49 : decode cX1_isGrouped 49 = .ok (.getfield 11, 3) := by decide +kernel
theorem dX1_isGrouped_52 : decode cX1_isGrouped 52 = .ok (.iconst 0, 1) := by decide +kernel
theorem dX1_isGrouped_53 : decode cX1_isGrouped 53 = .ok (.aaload, 1) := by decide +kernel
theorem dX1_isGrouped_54 : decode cX1_isGrouped 54 = .ok (.iload_n 1, 1) := by decide +kernel
theorem dX1_isGrouped_55 : decode cX1_isGrouped 55 = .ok (.iconst 1, 1) := by decide +kernel
theorem dX1_isGrouped_56 : decode cX1_isGrouped 56 = .ok (.iadd, 1) := by decide +kernel
theorem dX1_isGrouped_57 : decode cX1_isGrouped 57 = .ok (.iaload, 1) := by decide +kernel
theorem dX1_isGrouped_58 : decode cX1_isGrouped 58 = .ok (.iload_n 2, 1) := by decide +kernel
theorem dX1_isGrouped_59 : decode cX1_isGrouped 59 = .ok (.invokestatic 127, 3) := by decide +kernel
theorem dX1_isGrouped_62 : decode cX1_isGrouped 62 = .ok (.if_icmp .ne 7, 3) := by decide +kernel
theorem dX1_isGrouped_65 : decode cX1_isGrouped 65 = .ok (.iconst 1, 1) := by decide +kernel
theorem dX1_isGrouped_66 : decode cX1_isGrouped 66 = .ok (.goto 4, 3) := by decide +kernel
theorem dX1_isGrouped_69 : decode cX1_isGrouped 69 = .ok (.iconst 0, 1) := by decide +kernel
theorem dX1_isGrouped_70 : decode cX1_isGrouped 70 = .ok (.ireturn, 1) := by decide +kernel
theorem dX1_isShortNote_0 : decode cX1_isShortNote 0 = .ok (.aload_n 0, 1) := by decide +kernel
theorem dX1_isShortNote_1 : decode cX1_isShortNote 1 = .ok (.iload_n 1, 1) := by decide +kernel
theorem dX1_isShortNote_2 : decode cX1_isShortNote 2 = .ok (.invokevirtual 76, 3) := by decide +kernel
theorem dX1_isShortNote_5 : decode cX1_isShortNote 5 = .ok (.ifCond .eq 20, 3) := by decide +kernel
theorem dX1_isShortNote_8 : decode cX1_isShortNote 8 = .ok (.aload_n 0, 1) := by decide +kernel
theorem dX1_isShortNote_9 : decode cX1_isShortNote 9 = .ok (.getfield 11, 3) := by decide +kernel
theorem dX1_isShortNote_12 : decode cX1_isShortNote 12 = .ok (.iconst 2, 1) := by decide +kernel
theorem dX1_isShortNote_13 : decode cX1_isShortNote 13 = .ok (.aaload, 1) := by decide +kernel
theorem dX1_isShortNote_14 : decode cX1_isShortNote 14 = .ok (.iload_n 1, 1) := by decide +kernel
theorem dX1_isShortNote_15 : decode cX1_isShortNote 15 = .ok (.iaload, 1) := by decide +kernel
theorem dX1_isShortNote_16 : decode cX1_isShortNote 16 = .ok (.bipush 8, 2) := by decide +kernel
theorem dX1_isShortNote_18 : decode cX1_isShortNote 18 = .ok (.if_icmp .lt 7, 3) := by decide +kernel
theorem dX1_isShortNote_21 : decode cX1_isShortNote 21 = .ok (.iconst 1, 1) := by decide +kernel
theorem dX1_isShortNote_22 : decode cX1_isShortNote 22 = .ok (.goto 4, 3) := by decide +kernel
theorem dX1_isShortNote_25 : decode cX1_isShortNote 25 = .ok (.iconst 0, 1) := by decide +kernel
theorem dX1_isShortNote_26 : decode cX1_isShortNote 26 = .ok (.ireturn, 1) := by decide +kernel
theorem dX2_init_0 : decode cX2_init 0 = .ok (.aload_n 0, 1) := by decide +kernel
theorem dX2_init_1 : decode cX2_init 1 = .ok (.invokespecial 1, 3) := by decide +kernel
theorem dX2_init_4 : decode cX2_init 4 = .ok (.aload_n 0, 1) := by decide +kernel
theorem dX2_init_5 : decode cX2_init 5 = .ok (.iconst 4, 1) := by decide +kernel
theorem dX2_init_6 : decode cX2_init 6 = .ok (.anewarray 9, 3) := by decide +kernel
theorem dX2_init_9 : decode cX2_init 9 = .ok (.putfield 11, 3) := by decide +kernel
theorem dX2_init_12 : decode cX2_init 12 = .ok (.aload_n 0, 1) := by decide +kernel
theorem dX2_init_13 : decode cX2_init 13 = .ok (.new 15, 3) := by decide +kernel
theorem dX2_init_16 : decode cX2_init 16 = .ok (.dup, 1) := by decide +kernel
theorem dX2_init_17 : decode cX2_init 17 = .ok (.invokespecial 17, 3) := by decide +kernel
theorem dX2_init_20 : decode cX2_init 20 = .ok (.putfield 18, 3) := by decide +kernel
theorem dX2_init_23 : decode cX2_init 23 = .ok (.aload_n 0, 1) := by decide +kernel
theorem dX2_init_24 : decode cX2_init 24 = .ok (.bipush 56, 2) := by decide +kernel
theorem dX2_init_26 : decode cX2_init 26 = .ok (.newarray .int, 2) := by decide +kernel
theorem dX2_init_28 : decode cX2_init 28 = .ok (.putfield 22, 3) := by decide +kernel
theorem dX2_init_31 : decode cX2_init 31 = .ok (.aload_n 0, 1) := by decide +kernel
theorem dX2_init_32 : decode cX2_init 32 = .ok (.iconst 0, 1) := by decide +kernel
theorem dX2_init_33 : decode cX2_init 33 = .ok (.putfield 26, 3) := by decide +kernel
theorem dX2_init_36 : decode cX2_init 36 = .ok (.aload_n 0, 1) := by decide +kernel
theorem dX2_init_37 : decode cX2_init 37 = .ok (.bipush 96, 2) := by decide +kernel
theorem dX2_init_39 : decode cX2_init 39 = .ok (.putfield 30, 3) := by decide +kernel
theorem dX2_init_42 : decode cX2_init 42 = .ok (.aload_n 0, 1) := by decide +kernel
theorem dX2_init_43 : decode cX2_init 43 = .ok (.sipush 384, 3) := by decide +kernel
theorem dX2_init_46 : decode cX2_init 46 = .ok (.putfield 33, 3) := by decide +kernel
theorem dX2_init_49 : decode cX2_init 49 = .ok (.aload_n 0, 1) := by decide +kernel
theorem dX2_init_50 : decode cX2_init 50 = .ok (.iconst 0, 1) := by decide +kernel
theorem dX2_init_51 : decode cX2_init 51 = .ok (.putfield 36, 3) := by decide +kernel
theorem dX2_init_54 : decode cX2_init 54 = .ok (.aload_n 0, 1) := by decide +kernel
theorem dX2_init_55 : decode cX2_init 55 = .ok (.iconst 0, 1) := by decide +kernel
theorem dX2_init_56 : decode cX2_init 56 = .ok (.putfield 39, 3) := by decide +kernel
theorem dX2_init_59 : decode cX2_init 59 = .ok (.iconst 0, 1) := by decide +kernel
theorem dX2_init_60 : decode cX2_init 60 = .ok (.istore_n 1, 1) := by decide +kernel
theorem dX2_init_61 : decode cX2_init 61 = .ok (.iload_n 1, 1) := by decide +kernel
theorem dX2_init_62 : decode cX2_init 62 = .ok (.iconst 4, 1) := by decide +kernel
theorem dX2_init_63 : decode cX2_init 63 = .ok (.if_icmp .ge 22, 3) := by decide +kernel
theorem dX2_init_66 : decode cX2_init 66 = .ok (.aload_n 0, 1) := by decide +kernel
theorem dX2_init_67 : decode cX2_init 67 = .ok (.getfield 11, 3) := by decide +kernel
theorem dX2_init_70 : decode cX2_init 70 = .ok (.iload_n 1, 1) := by decide +kernel
theorem dX2_init_71 : decode cX2_init 71 = .ok (.new 9, 3) := by decide +kernel
theorem dX2_init_74 : decode cX2_init 74 = .ok (.dup, 1) := by decide +kernel
theorem dX2_init_75 : decode cX2_init 75 = .ok (.invokespecial 43, 3) := by decide +kernel
theorem dX2_init_78 : decode cX2_init 78 = .ok (.aastore, 1) := by decide +kernel
theorem dX2_init_79 : decode cX2_init 79 = .ok (.iinc 1 1, 3) := by decide +kernel
theorem dX2_init_82 : decode cX2_init 82 = .ok (.goto (-21), 3) := by decide +kernel
theorem dX2_init_85 : decode cX2_init 85 = .ok (.return_, 1) := by decide +kernel
theorem dX2_setBars_0 : decode cX2_setBars 0 = .ok (.iload_n 1, 1) := by decide +kernel
theorem dX2_setBars_1 : decode cX2_setBars 1 = .ok (.iconst 1, 1) := by decide +kernel
theorem dX2_setBars_2 : decode cX2_setBars 2 = .ok (.if_icmp .lt 25, 3) := by decide +kernel
theorem dX2_setBars_5 : decode cX2_setBars 5 = .ok (.iload_n 1, 1) := by decide +kernel
theorem dX2_setBars_6 : decode cX2_setBars 6 = .ok (.bipush 12, 2) := by decide +kernel
theorem dX2_setBars_8 : decode cX2_setBars 8 = .ok (.if_icmp .gt 19, 3) := by decide +kernel
theorem dX2_setBars_11 : decode cX2_setBars 11 = .ok (.iload_n 2, 1) := by decide +kernel
theorem dX2_setBars_12 : decode cX2_setBars 12 = .ok (.iconst 2, 1) := by decide +kernel
theorem dX2_setBars_13 : decode cX2_setBars 13 = .ok (.if_icmp .eq 24, 3) := by decide +kernel
theorem dX2_setBars_16 : decode cX2_setBars 16 = .ok (.iload_n 2, 1) := by decide +kernel
theorem dX2_setBars_17 : decode cX2_setBars 17 = .ok (.iconst 4, 1) := by decide +kernel
theorem dX2_setBars_18 : decode cX2_setBars 18 = .ok (.if_icmp .eq 19, 3) := by decide +kernel
theorem dX2_setBars_21 : decode cX2_setBars 21 = .ok (.iload_n 2, 1) := by decide +kernel
theorem dX2_setBars_22 : decode cX2_setBars 22 = .ok (.bipush 8, 2) := by decide +kernel
theorem dX2_setBars_24 : decode cX2_setBars 24 = .ok (.if_icmp .eq 13, 3) := by decide +kernel
theorem dX2_setBars_27 : decode cX2_setBars 27 = .ok (.new 44, 3) := by decide +kernel
theorem dX2_setBars_30 : decode cX2_setBars 30 = .ok (.dup, 1) := by decide +kernel
theorem dX2_setBars_31 : decode cX2_setBars 31 = .ok (.ldc 46, 2) := by decide +kernel
theorem dX2_setBars_33 : decode cX2_setBars 33 = .ok (.invokespecial 48, 3) := by decide +kernel
theorem dX2_setBars_36 : decode cX2_setBars 36 = .ok (.athrow, 1) := by decide +kernel
theorem dX2_setBars_37 : decode cX2_setBars 37 = .ok (.aload_n 0, 1) := by decide +kernel
theorem dX2_setBars_38 : decode cX2_setBars 38 = .ok (.invokevirtual 51, 3) := by decide +kernel
theorem dX2_setBars_41 : decode cX2_setBars 41 = .ok (.ifCond .le 13, 3) := by decide +kernel
theorem dX2_setBars_44 : decode cX2_setBars 44 = .ok (.new 55, 3) := by decide +kernel
theorem dX2_setBars_47 : decode cX2_setBars 47 = .ok (.dup, 1) := by decide +kernel
theorem dX2_setBars_48 : decode cX2_setBars 48 = .ok (.ldc 57, 2) := by decide +kernel
theorem dX2_setBars_50 : decode cX2_setBars 50 = .ok (.invokespecial 59, 3) := by decide +kernel
theorem dX2_setBars_53 : decode cX2_setBars 53 = .ok (.athrow, 1) := by decide +kernel
theorem dX2_setBars_54 : decode cX2_setBars 54 = .ok (.aload_n 0, 1) := by decide +kernel
theorem dX2_setBars_55 : decode cX2_setBars 55 = .ok (.sipush 384, 3) := by decide +kernel
theorem dX2_setBars_58 : decode cX2_setBars 58 = .ok (.iload_n 2, 1) := by decide +kernel
theorem dX2_setBars_59 : decode cX2_setBars 59 = .ok (.idiv, 1) := by decide +kernel
theorem dX2_setBars_60 : decode cX2_setBars 60 = .ok (.putfield 30, 3) := by decide +kernel
theorem dX2_setBars_63 : decode cX2_setBars 63 = .ok (.aload_n 0, 1) := by decide +kernel
theorem dX2_setBars_64 : decode cX2_setBars 64 = .ok (.iload_n 1, 1) := by decide +kernel
theorem dX2_setBars_65 : decode cX2_setBars 65 = .ok (.aload_n 0, 1) := by decide +kernel
theorem dX2_setBars_66 : decode cX2_setBars 66 = .ok (.getfield 30, 3) := by decide +kernel
theorem dX2_setBars_69 : decode cX2_setBars 69 = .ok (.imul, 1) := by decide +kernel
theorem dX2_setBars_70 : decode cX2_setBars 70 = .ok (.putfield 33, 3) := by decide +kernel
theorem dX2_setBars_73 : decode cX2_setBars 73 = .ok (.aload_n 0, 1) := by decide +kernel
theorem dX2_setBars_74 : decode cX2_setBars 74 = .ok (.getfield 33, 3) := by decide +kernel
theorem dX2_setBars_77 : decode cX2_setBars 77 = .ok (.ireturn, 1) := by decide +kernel
theorem dX2_setKey_0 : decode cX2_setKey 0 = .ok (.iload_n 1, 1) := by decide +kernel
theorem dX2_setKey_1 : decode cX2_setKey 1 = .ok (.invokestatic 60, 3) := by decide +kernel
theorem dX2_setKey_4 : decode cX2_setKey 4 = .ok (.ifCond .ne 13, 3) := by decide +kernel
theorem dX2_setKey_7 : decode cX2_setKey 7 = .ok (.new 44, 3) := by decide +kernel
theorem dX2_setKey_10 : decode cX2_setKey 10 = .ok (.dup, 1) := by decide +kernel
theorem dX2_setKey_11 : decode cX2_setKey 11 = .ok (.ldc 64, 2) := by decide +kernel
theorem dX2_setKey_13 : decode cX2_setKey 13 = .ok (.invokespecial 48, 3) := by decide +kernel
theorem dX2_setKey_16 : decode cX2_setKey 16 = .ok (.athrow, 1) := by decide +kernel
theorem dX2_setKey_17 : decode cX2_setKey 17 = .ok (.aload_n 0, 1) := by decide +kernel
theorem dX2_setKey_18 : decode cX2_setKey 18 = .ok (.getfield 36, 3) := by decide +kernel
theorem dX2_setKey_21 : decode cX2_setKey 21 = .ok (.istore_n 2, 1) := by decide +kernel
theorem dX2_setKey_22 : decode cX2_setKey 22 = .ok (.aload_n 0, 1) := by decide +kernel
theorem dX2_setKey_23 : decode cX2_setKey 23 = .ok (.iload_n 1, 1) := by decide +kernel
theorem dX2_setKey_24 : decode cX2_setKey 24 = .ok (.putfield 36, 3) := by decide +kernel
theorem dX2_setKey_27 : decode cX2_setKey 27 = .ok (.aload_n 0, 1) := by decide +kernel
theorem dX2_setKey_28 : decode cX2_setKey 28 = .ok (.invokevirtual 66, 3) := by decide +kernel
theorem dX2_setKey_31 : decode cX2_setKey 31 = .ok (.iload_n 2, 1) := by decide +kernel
theorem dX2_setKey_32 : decode cX2_setKey 32 = .ok (.ireturn, 1) := by decide +kernel
theorem dX2_addVoice_0 : decode cX2_addVoice 0 = .ok (.aload_n 0, 1) := by decide +kernel
theorem dX2_addVoice_1 : decode cX2_addVoice 1 = .ok (.getfield 26, 3) := by decide +kernel
theorem dX2_addVoice_4 : decode cX2_addVoice 4 = .ok (.iconst 4, 1) := by decide +kernel
theorem dX2_addVoice_5 : decode cX2_addVoice 5 = .ok (.if_icmp .lt 13, 3) := by decide +kernel
theorem dX2_addVoice_8 : decode cX2_addVoice 8 = .ok (.new 55, 3) := by decide +kernel
theorem dX2_addVoice_11 : decode cX2_addVoice 11 = .ok (.dup, 1) := by decide +kernel
theorem dX2_addVoice_12 : decode cX2_addVoice 12 = .ok (.ldc 69, 2) := by decide +kernel
theorem dX2_addVoice_14 : decode cX2_addVoice 14 = .ok (.invokespecial 59, 3) := by decide +kernel
theorem dX2_addVoice_17 : decode cX2_addVoice 17 = .ok (.athrow, 1) := by decide +kernel
theorem dX2_addVoice_18 : decode cX2_addVoice 18 = .ok (.aload_n 0, 1) := by decide +kernel
theorem dX2_addVoice_19 : decode cX2_addVoice 19 = .ok (.dup, 1) := by decide +kernel
theorem dX2_addVoice_20 : decode cX2_addVoice 20 = .ok (.getfield 26, 3) := by decide +kernel
theorem dX2_addVoice_23 : decode cX2_addVoice 23 = .ok (.iconst 1, 1) := by decide +kernel
theorem dX2_addVoice_24 : decode cX2_addVoice 24 = .ok (.iadd, 1) := by decide +kernel
theorem dX2_addVoice_25 : decode cX2_addVoice 25 = .ok (.putfield 26, 3) := by decide +kernel
theorem dX2_addVoice_28 : decode cX2_addVoice 28 = .ok (.aload_n 0, 1) := by decide +kernel
theorem dX2_addVoice_29 : decode cX2_addVoice 29 = .ok (.getfield 26, 3) := by decide +kernel
theorem dX2_addVoice_32 : decode cX2_addVoice 32 = .ok (.iconst 1, 1) := by decide +kernel
theorem dX2_addVoice_33 : decode cX2_addVoice 33 = .ok (.isub, 1) := by decide +kernel
theorem dX2_addVoice_34 : decode cX2_addVoice 34 = .ok (.ireturn, 1) := by decide +kernel
theorem dX2_score_0 : decode cX2_score 0 = .ok (.iload_n 1, 1) := by decide +kernel
theorem dX2_score_1 : decode cX2_score 1 = .ok (.ifCond .lt 8, 3) := by decide +kernel
theorem dX2_score_4 : decode cX2_score 4 = .ok (.iload_n 1, 1) := by decide +kernel
theorem dX2_score_5 : decode cX2_score 5 = .ok (.iconst 5, 1) := by decide +kernel
theorem dX2_score_6 : decode cX2_score 6 = .ok (.if_icmp .lt 13, 3) := by decide +kernel
theorem dX2_score_9 : decode cX2_score 9 = .ok (.new 71, 3) := by decide +kernel
theorem dX2_score_12 : decode cX2_score 12 = .ok (.dup, 1) := by decide +kernel
theorem dX2_score_13 : decode cX2_score 13 = .ok (.ldc 73, 2) := by decide +kernel
theorem dX2_score_15 : decode cX2_score 15 = .ok (.invokespecial 75, 3) := by decide +kernel
theorem dX2_score_18 : decode cX2_score 18 = .ok (.athrow, 1) := by decide +kernel
theorem dX2_score_19 : decode cX2_score 19 = .ok (.iload_n 1, 1) := by decide +kernel
theorem dX2_score_20 : decode cX2_score 20 = .ok (.tableswitch 52 0 3 #[32, 37, 42, 47], 32) := by decide +kernel
theorem dX2_score_52 : decode cX2_score 52 = .ok (.aload_n 0, 1) := by decide +kernel
theorem dX2_score_53 : decode cX2_score 53 = .ok (.getfield 26, 3) := by decide +kernel
theorem dX2_score_56 : decode cX2_score 56 = .ok (.ireturn, 1) := by decide +kernel
theorem dX2_score_57 : decode cX2_score 57 = .ok (.aload_n 0, 1) := by decide +kernel
theorem dX2_score_58 : decode cX2_score 58 = .ok (.getfield 33, 3) := by decide +kernel
theorem dX2_score_61 : decode cX2_score 61 = .ok (.ireturn, 1) := by decide +kernel
theorem dX2_score_62 : decode cX2_score 62 = .ok (.aload_n 0, 1) := by decide +kernel
theorem dX2_score_63 : decode cX2_score 63 = .ok (.getfield 36, 3) := by decide +kernel
theorem dX2_score_66 : decode cX2_score 66 = .ok (.ireturn, 1) := by decide +kernel
theorem dX2_score_67 : decode cX2_score 67 = .ok (.aload_n 0, 1) := by decide +kernel
theorem dX2_score_68 : decode cX2_score 68 = .ok (.invokevirtual 76, 3) := by decide +kernel
theorem dX2_score_71 : decode cX2_score 71 = .ok (.ireturn, 1) := by decide +kernel
theorem dX2_score_72 : decode cX2_score 72 = .ok (.aload_n 0, 1) := by decide +kernel
theorem dX2_score_73 : decode cX2_score 73 = .ok (.invokevirtual 51, 3) := by decide +kernel
theorem dX2_score_76 : decode cX2_score 76 = .ok (.ireturn, 1) := by decide +kernel
theorem dX2_ticks_0 : decode cX2_ticks 0 = .ok (.iload_n 1, 1) := by decide +kernel
theorem dX2_ticks_1 : decode cX2_ticks 1 = .ok (.iload_n 2, 1) := by decide +kernel
theorem dX2_ticks_2 : decode cX2_ticks 2 = .ok (.invokestatic 85, 3) := by decide +kernel
theorem dX2_ticks_5 : decode cX2_ticks 5 = .ok (.istore_n 3, 1) := by decide +kernel
theorem dX2_ticks_6 : decode cX2_ticks 6 = .ok (.iload_n 3, 1) := by decide +kernel
theorem dX2_ticks_7 : decode cX2_ticks 7 = .ok (.ifCond .ge 13, 3) := by decide +kernel
theorem dX2_ticks_10 : decode cX2_ticks 10 = .ok (.new 44, 3) := by decide +kernel
theorem dX2_ticks_13 : decode cX2_ticks 13 = .ok (.dup, 1) := by decide +kernel
theorem dX2_ticks_14 : decode cX2_ticks 14 = .ok (.ldc 88, 2) := by decide +kernel
theorem dX2_ticks_16 : decode cX2_ticks 16 = .ok (.invokespecial 48, 3) := by decide +kernel
theorem dX2_ticks_19 : decode cX2_ticks 19 = .ok (.athrow, 1) := by decide +kernel
theorem dX2_ticks_20 : decode cX2_ticks 20 = .ok (.getstatic 90, 3) := by decide +kernel
theorem dX2_ticks_23 : decode cX2_ticks 23 = .ok (.iload_n 3, 1) := by decide +kernel
theorem dX2_ticks_24 : decode cX2_ticks 24 = .ok (.iaload, 1) := by decide +kernel
theorem dX2_ticks_25 : decode cX2_ticks 25 = .ok (.ireturn, 1) := by decide +kernel
theorem dX2_addNote_0 : decode cX2_addNote 0 = .ok (.aload_n 0, 1) := by decide +kernel
theorem dX2_addNote_1 : decode cX2_addNote 1 = .ok (.iload_n 1, 1) := by decide +kernel
theorem dX2_addNote_2 : decode cX2_addNote 2 = .ok (.invokevirtual 93, 3) := by decide +kernel
theorem dX2_addNote_5 : decode cX2_addNote 5 = .ok (.iload_n 2, 1) := by decide +kernel
theorem dX2_addNote_6 : decode cX2_addNote 6 = .ok (.iload_n 3, 1) := by decide +kernel
theorem dX2_addNote_7 : decode cX2_addNote 7 = .ok (.invokestatic 85, 3) := by decide +kernel
theorem dX2_addNote_10 : decode cX2_addNote 10 = .ok (.istore 8, 2) := by decide +kernel
theorem dX2_addNote_12 : decode cX2_addNote 12 = .ok (.iload 8, 2) := by decide +kernel
theorem dX2_addNote_14 : decode cX2_addNote 14 = .ok (.ifCond .lt 15, 3) := by decide +kernel
theorem dX2_addNote_17 : decode cX2_addNote 17 = .ok (.iload 4, 2) := by decide +kernel
theorem dX2_addNote_19 : decode cX2_addNote 19 = .ok (.iload 5, 2) := by decide +kernel
theorem dX2_addNote_21 : decode cX2_addNote 21 = .ok (.iload 6, 2) := by decide +kernel
theorem dX2_addNote_23 : decode cX2_addNote 23 = .ok (.invokestatic 97, 3) := by decide +kernel
theorem dX2_addNote_26 : decode cX2_addNote 26 = .ok (.ifCond .ne 13, 3) := by decide +kernel
theorem dX2_addNote_29 : decode cX2_addNote 29 = .ok (.new 44, 3) := by decide +kernel
theorem dX2_addNote_32 : decode cX2_addNote 32 = .ok (.dup, 1) := by decide +kernel
theorem dX2_addNote_33 : decode cX2_addNote 33 = .ok (.ldc 101, 2) := by decide +kernel
theorem dX2_addNote_35 : decode cX2_addNote 35 = .ok (.invokespecial 48, 3) := by decide +kernel
theorem dX2_addNote_38 : decode cX2_addNote 38 = .ok (.athrow, 1) := by decide +kernel
theorem dX2_addNote_39 : decode cX2_addNote 39 = .ok (.aload_n 0, 1) := by decide +kernel
theorem dX2_addNote_40 : decode cX2_addNote 40 = .ok (.getfield 11, 3) := by decide +kernel
theorem dX2_addNote_43 : decode cX2_addNote 43 = .ok (.iload_n 1, 1) := by decide +kernel
theorem dX2_addNote_44 : decode cX2_addNote 44 = .ok (.aaload, 1) := by decide +kernel
theorem dX2_addNote_45 : decode cX2_addNote 45 = .ok (.astore 9, 2) := by decide +kernel
theorem dX2_addNote_47 : decode cX2_addNote 47 = .ok (.aload 9, 2) := by decide +kernel
theorem dX2_addNote_49 : decode cX2_addNote 49 = .ok (.getfield 103, 3) := by decide +kernel
theorem dX2_addNote_52 : decode cX2_addNote 52 = .ok (.istore 10, 2) := by decide +kernel
theorem dX2_addNote_54 : decode cX2_addNote 54 = .ok (.aload_n 0, 1) := by decide +kernel
theorem dX2_addNote_55 : decode cX2_addNote 55 = .ok (.aload 9, 2) := by decide +kernel
theorem dX2_addNote_57 : decode cX2_addNote 57 = .ok (.iload 8, 2) := by decide +kernel
theorem dX2_addNote_59 : decode cX2_addNote 59 = .ok (.invokevirtual 106, 3) := by decide +kernel
theorem dX2_addNote_62 : decode cX2_addNote 62 = .ok (.istore 11, 2) := by decide +kernel
theorem dX2_addNote_64 : decode cX2_addNote 64 = .ok (.iload 10, 2) := by decide +kernel
theorem dX2_addNote_66 : decode cX2_addNote 66 = .ok (.istore 12, 2) := by decide +kernel
theorem dX2_addNote_68 : decode cX2_addNote 68 = .ok (.iload 12, 2) := by decide +kernel
theorem dX2_addNote_70 : decode cX2_addNote 70 = .ok (.aload 9, 2) := by decide +kernel
theorem dX2_addNote_72 : decode cX2_addNote 72 = .ok (.getfield 103, 3) := by decide +kernel
theorem dX2_addNote_75 : decode cX2_addNote 75 = .ok (.if_icmp .ge 66, 3) := by decide +kernel
theorem dX2_addNote_78 : decode cX2_addNote 78 = .ok (.aload 9, 2) := by decide +kernel
theorem dX2_addNote_80 : decode cX2_addNote 80 = .ok (.iload 12, 2) := by decide +kernel
theorem dX2_addNote_82 : decode cX2_addNote 82 = .ok (.iload 4, 2) := by decide +kernel
theorem dX2_addNote_84 : decode cX2_addNote 84 = .ok (.iload 5, 2) := by decide +kernel
theorem dX2_addNote_86 : decode cX2_addNote 86 = .ok (.iload 6, 2) := by decide +kernel
theorem dX2_addNote_88 : decode cX2_addNote 88 = .ok (.invokevirtual 110, 3) := by decide +kernel
theorem dX2_addNote_91 : decode cX2_addNote 91 = .ok (.iload 12, 2) := by decide +kernel
theorem dX2_addNote_93 : decode cX2_addNote 93 = .ok (.aload 9, 2) := by decide +kernel
theorem dX2_addNote_95 : decode cX2_addNote 95 = .ok (.getfield 103, 3) := by decide +kernel
theorem dX2_addNote_98 : decode cX2_addNote 98 = .ok (.iconst 1, 1) := by decide +kernel
theorem dX2_addNote_99 : decode cX2_addNote 99 = .ok (.isub, 1) := by decide +kernel
theorem dX2_addNote_100 : decode cX2_addNote 100 = .ok (.if_icmp .ne 7, 3) := by decide +kernel
theorem dX2_addNote_103 : decode cX2_addNote 103 = .ok (.iconst 1, 1) := by decide +kernel
theorem dX2_addNote_104 : decode cX2_addNote 104 = .ok (.goto 4, 3) := by decide +kernel
theorem dX2_addNote_107 : decode cX2_addNote 107 = .ok (.iconst 0, 1) := by decide +kernel
theorem dX2_addNote_108 : decode cX2_addNote 108 = .ok (.istore 13, 2) := by decide +kernel
theorem dX2_addNote_110 : decode cX2_addNote 110 = .ok (.aload 9, 2) := by decide +kernel
theorem dX2_addNote_112 : decode cX2_addNote 112 = .ok (.getfield 114, 3) := by decide +kernel
theorem dX2_addNote_115 : decode cX2_addNote 115 = .ok (.iconst 5, 1) := by decide +kernel
theorem dX2_addNote_116 : decode cX2_addNote 116 = .ok (.aaload, 1) := by decide +kernel
theorem dX2_addNote_117 : decode cX2_addNote 117 = .ok (.iload 12, 2) := by decide +kernel
theorem dX2_addNote_119 : decode cX2_addNote 119 = .ok (.iload 7, 2) := by decide +kernel
theorem dX2_addNote_121 : decode cX2_addNote 121 = .ok (.ifCond .ne 8, 3) := by decide +kernel
theorem dX2_addNote_124 : decode cX2_addNote 124 = .ok (.iload 13, 2) := by decide +kernel
theorem dX2_addNote_126 : decode cX2_addNote 126 = .ok (.ifCond .ne 7, 3) := by decide +kernel
theorem dX2_addNote_129 : decode cX2_addNote 129 = .ok (.iconst 1, 1) := by decide +kernel
theorem dX2_addNote_130 : decode cX2_addNote 130 = .ok (.goto 4, 3) := by decide +kernel
theorem dX2_addNote_133 : decode cX2_addNote 133 = .ok (.iconst 0, 1) := by decide +kernel
theorem dX2_addNote_134 : decode cX2_addNote 134 = .ok (.iastore, 1) := by decide +kernel
theorem dX2_addNote_135 : decode cX2_addNote 135 = .ok (.iinc 12 1, 3) := by decide +kernel
theorem dX2_addNote_138 : decode cX2_addNote 138 = .ok (.goto (-70), 3) := by decide +kernel
theorem dX2_addNote_141 : decode cX2_addNote 141 = .ok (.aload_n 0, 1) := by decide +kernel
theorem dX2_addNote_142 : decode cX2_addNote 142 = .ok (.aload 9, 2) := by decide +kernel
theorem dX2_addNote_144 : decode cX2_addNote 144 = .ok (.invokevirtual 118, 3) := by decide +kernel
theorem dX2_addNote_147 : decode cX2_addNote 147 = .ok (.iload 11, 2) := by decide +kernel
theorem dX2_addNote_149 : decode cX2_addNote 149 = .ok (.ireturn, 1) := by decide +kernel
theorem dX2_addRest_0 : decode cX2_addRest 0 = .ok (.aload_n 0, 1) := by decide +kernel
theorem dX2_addRest_1 : decode cX2_addRest 1 = .ok (.iload_n 1, 1) := by decide +kernel
theorem dX2_addRest_2 : decode cX2_addRest 2 = .ok (.invokevirtual 93, 3) := by decide +kernel
theorem dX2_addRest_5 : decode cX2_addRest 5 = .ok (.iload_n 2, 1) := by decide +kernel
theorem dX2_addRest_6 : decode cX2_addRest 6 = .ok (.iload_n 3, 1) := by decide +kernel
theorem dX2_addRest_7 : decode cX2_addRest 7 = .ok (.invokestatic 85, 3) := by decide +kernel
theorem dX2_addRest_10 : decode cX2_addRest 10 = .ok (.istore 4, 2) := by decide +kernel
theorem dX2_addRest_12 : decode cX2_addRest 12 = .ok (.iload 4, 2) := by decide +kernel
theorem dX2_addRest_14 : decode cX2_addRest 14 = .ok (.ifCond .ge 13, 3) := by decide +kernel
theorem dX2_addRest_17 : decode cX2_addRest 17 = .ok (.new 44, 3) := by decide +kernel
theorem dX2_addRest_20 : decode cX2_addRest 20 = .ok (.dup, 1) := by decide +kernel
theorem dX2_addRest_21 : decode cX2_addRest 21 = .ok (.ldc 88, 2) := by decide +kernel
theorem dX2_addRest_23 : decode cX2_addRest 23 = .ok (.invokespecial 48, 3) := by decide +kernel
theorem dX2_addRest_26 : decode cX2_addRest 26 = .ok (.athrow, 1) := by decide +kernel
theorem dX2_addRest_27 : decode cX2_addRest 27 = .ok (.aload_n 0, 1) := by decide +kernel
theorem dX2_addRest_28 : decode cX2_addRest 28 = .ok (.aload_n 0, 1) := by decide +kernel
theorem dX2_addRest_29 : decode cX2_addRest 29 = .ok (.getfield 11, 3) := by decide +kernel
theorem dX2_addRest_32 : decode cX2_addRest 32 = .ok (.iload_n 1, 1) := by decide +kernel
theorem dX2_addRest_33 : decode cX2_addRest 33 = .ok (.aaload, 1) := by decide +kernel
theorem dX2_addRest_34 : decode cX2_addRest 34 = .ok (.iload 4, 2) := by decide +kernel
theorem dX2_addRest_36 : decode cX2_addRest 36 = .ok (.invokevirtual 106, 3) := by decide +kernel
theorem dX2_addRest_39 : decode cX2_addRest 39 = .ok (.istore 5, 2) := by decide +kernel
theorem dX2_addRest_41 : decode cX2_addRest 41 = .ok (.aload_n 0, 1) := by decide +kernel
theorem dX2_addRest_42 : decode cX2_addRest 42 = .ok (.aload_n 0, 1) := by decide +kernel
theorem dX2_addRest_43 : decode cX2_addRest 43 = .ok (.getfield 11, 3) := by decide +kernel
theorem dX2_addRest_46 : decode cX2_addRest 46 = .ok (.iload_n 1, 1) := by decide +kernel
theorem dX2_addRest_47 : decode cX2_addRest 47 = .ok (.aaload, 1) := by decide +kernel
theorem dX2_addRest_48 : decode cX2_addRest 48 = .ok (.invokevirtual 118, 3) := by decide +kernel
theorem dX2_addRest_51 : decode cX2_addRest 51 = .ok (.iload 5, 2) := by decide +kernel
theorem dX2_addRest_53 : decode cX2_addRest 53 = .ok (.ireturn, 1) := by decide +kernel
theorem dX2_element_0 : decode cX2_element 0 = .ok (.aload_n 0, 1) := by decide +kernel
theorem dX2_element_1 : decode cX2_element 1 = .ok (.iload_n 1, 1) := by decide +kernel
theorem dX2_element_2 : decode cX2_element 2 = .ok (.iload_n 2, 1) := by decide +kernel
theorem dX2_element_3 : decode cX2_element 3 = .ok (.invokevirtual 127, 3) := by decide +kernel
theorem dX2_element_6 : decode cX2_element 6 = .ok (.iload_n 3, 1) := by decide +kernel
theorem dX2_element_7 : decode cX2_element 7 = .ok (.ifCond .lt 9, 3) := by decide +kernel
theorem dX2_element_10 : decode cX2_element 10 = .ok (.iload_n 3, 1) := by decide +kernel
theorem dX2_element_11 : decode cX2_element 11 = .ok (.bipush 9, 2) := by decide +kernel
theorem dX2_element_13 : decode cX2_element 13 = .ok (.if_icmp .lt 13, 3) := by decide +kernel
theorem dX2_element_16 : decode cX2_element 16 = .ok (.new 71, 3) := by decide +kernel
theorem dX2_element_19 : decode cX2_element 19 = .ok (.dup, 1) := by decide +kernel
theorem dX2_element_20 : decode cX2_element 20 = .ok (.ldc 139, 2) := by decide +kernel
theorem dX2_element_22 : decode cX2_element 22 = .ok (.invokespecial 75, 3) := by decide +kernel
theorem dX2_element_25 : decode cX2_element 25 = .ok (.athrow, 1) := by decide +kernel
theorem dX2_element_26 : decode cX2_element 26 = .ok (.aload_n 0, 1) := by decide +kernel
theorem dX2_element_27 : decode cX2_element 27 = .ok (.getfield 11, 3) := by decide +kernel
theorem dX2_element_30 : decode cX2_element 30 = .ok (.iload_n 1, 1) := by decide +kernel
theorem dX2_element_31 : decode cX2_element 31 = .ok (.aaload, 1) := by decide +kernel
theorem dX2_element_32 : decode cX2_element 32 = .ok (.getfield 114, 3) := by decide +kernel
theorem dX2_element_35 : decode cX2_element 35 = .ok (.iload_n 3, 1) := by decide +kernel
theorem dX2_element_36 : decode cX2_element 36 = .ok (.aaload, 1) := by decide +kernel
theorem dX2_element_37 : decode cX2_element 37 = .ok (.iload_n 2, 1) := by decide +kernel
theorem dX2_element_38 : decode cX2_element 38 = .ok (.iaload, 1) := by decide +kernel
theorem dX2_element_39 : decode cX2_element 39 = .ok (.ireturn, 1) := by decide +kernel
theorem dX2_pitch_0 : decode cX2_pitch 0 = .ok (.aload_n 0, 1) := by decide +kernel
theorem dX2_pitch_1 : decode cX2_pitch 1 = .ok (.iload_n 1, 1) := by decide +kernel
theorem dX2_pitch_2 : decode cX2_pitch 2 = .ok (.iload_n 2, 1) := by decide +kernel
theorem dX2_pitch_3 : decode cX2_pitch 3 = .ok (.invokevirtual 127, 3) := by decide +kernel
theorem dX2_pitch_6 : decode cX2_pitch 6 = .ok (.iload_n 3, 1) := by decide +kernel
theorem dX2_pitch_7 : decode cX2_pitch 7 = .ok (.ifCond .lt 8, 3) := by decide +kernel
theorem dX2_pitch_10 : decode cX2_pitch 10 = .ok (.iload_n 3, 1) := by decide +kernel
theorem dX2_pitch_11 : decode cX2_pitch 11 = .ok (.iconst 3, 1) := by decide +kernel
theorem dX2_pitch_12 : decode cX2_pitch 12 = .ok (.if_icmp .lt 13, 3) := by decide +kernel
theorem dX2_pitch_15 : decode cX2_pitch 15 = .ok (.new 71, 3) := by decide +kernel
theorem dX2_pitch_18 : decode cX2_pitch 18 = .ok (.dup, 1) := by decide +kernel
theorem dX2_pitch_19 : decode cX2_pitch 19 = .ok (.ldc 141, 2) := by decide +kernel
theorem dX2_pitch_21 : decode cX2_pitch 21 = .ok (.invokespecial 75, 3) := by decide +kernel
theorem dX2_pitch_24 : decode cX2_pitch 24 = .ok (.athrow, 1) := by decide +kernel
theorem dX2_pitch_25 : decode cX2_pitch 25 = .ok (.aload_n 0, 1) := by decide +kernel
theorem dX2_pitch_26 : decode cX2_pitch 26 = .ok (.getfield 11, 3) := by decide +kernel
theorem dX2_pitch_29 : decode cX2_pitch 29 = .ok (.iload_n 1, 1) := by decide +kernel
theorem dX2_pitch_30 : decode cX2_pitch 30 = .ok (.aaload, 1) := by decide +kernel
theorem dX2_pitch_31 : decode cX2_pitch 31 = .ok (.iload_n 2, 1) := by decide +kernel
theorem dX2_pitch_32 : decode cX2_pitch 32 = .ok (.invokevirtual 131, 3) := by decide +kernel
theorem dX2_pitch_35 : decode cX2_pitch 35 = .ok (.ifCond .ne 13, 3) := by decide +kernel
theorem dX2_pitch_38 : decode cX2_pitch 38 = .ok (.new 55, 3) := by decide +kernel
theorem dX2_pitch_41 : decode cX2_pitch 41 = .ok (.dup, 1) := by decide +kernel
theorem dX2_pitch_42 : decode cX2_pitch 42 = .ok (.ldc 134, 2) := by decide +kernel
theorem dX2_pitch_44 : decode cX2_pitch 44 = .ok (.invokespecial 59, 3) := by decide +kernel
theorem dX2_pitch_47 : decode cX2_pitch 47 = .ok (.athrow, 1) := by decide +kernel
theorem dX2_pitch_48 : decode cX2_pitch 48 = .ok (.aload_n 0, 1) := by decide +kernel
theorem dX2_pitch_49 : decode cX2_pitch 49 = .ok (.getfield 11, 3) := by decide +kernel
theorem dX2_pitch_52 : decode cX2_pitch 52 = .ok (.iload_n 1, 1) := by decide +kernel
theorem dX2_pitch_53 : decode cX2_pitch 53 = .ok (.aaload, 1) := by decide +kernel
theorem dX2_pitch_54 : decode cX2_pitch 54 = .ok (.getfield 143, 3) := by decide +kernel
theorem dX2_pitch_57 : decode cX2_pitch 57 = .ok (.iload_n 3, 1) := by decide +kernel
theorem dX2_pitch_58 : decode cX2_pitch 58 = .ok (.aaload, 1) := by decide +kernel
theorem dX2_pitch_59 : decode cX2_pitch 59 = .ok (.iload_n 2, 1) := by decide +kernel
theorem dX2_pitch_60 : decode cX2_pitch 60 = .ok (.iaload, 1) := by decide +kernel
theorem dX2_pitch_61 : decode cX2_pitch 61 = .ok (.ireturn, 1) := by decide +kernel
theorem dX2_voice_0 : decode cX2_voice 0 = .ok (.aload_n 0, 1) := by decide +kernel
theorem dX2_voice_1 : decode cX2_voice 1 = .ok (.iload_n 1, 1) := by decide +kernel
theorem dX2_voice_2 : decode cX2_voice 2 = .ok (.invokevirtual 93, 3) := by decide +kernel
theorem dX2_voice_5 : decode cX2_voice 5 = .ok (.iload_n 2, 1) := by decide +kernel
theorem dX2_voice_6 : decode cX2_voice 6 = .ok (.ifCond .lt 9, 3) := by decide +kernel
theorem dX2_voice_9 : decode cX2_voice 9 = .ok (.iload_n 2, 1) := by decide +kernel
theorem dX2_voice_10 : decode cX2_voice 10 = .ok (.bipush 7, 2) := by decide +kernel
theorem dX2_voice_12 : decode cX2_voice 12 = .ok (.if_icmp .lt 13, 3) := by decide +kernel
theorem dX2_voice_15 : decode cX2_voice 15 = .ok (.new 71, 3) := by decide +kernel
theorem dX2_voice_18 : decode cX2_voice 18 = .ok (.dup, 1) := by decide +kernel
theorem dX2_voice_19 : decode cX2_voice 19 = .ok (.ldc 146, 2) := by decide +kernel
theorem dX2_voice_21 : decode cX2_voice 21 = .ok (.invokespecial 75, 3) := by decide +kernel
theorem dX2_voice_24 : decode cX2_voice 24 = .ok (.athrow, 1) := by decide +kernel
theorem dX2_voice_25 : decode cX2_voice 25 = .ok (.aload_n 0, 1) := by decide +kernel
theorem dX2_voice_26 : decode cX2_voice 26 = .ok (.getfield 11, 3) := by decide +kernel
theorem dX2_voice_29 : decode cX2_voice 29 = .ok (.iload_n 1, 1) := by decide +kernel
theorem dX2_voice_30 : decode cX2_voice 30 = .ok (.aaload, 1) := by decide +kernel
theorem dX2_voice_31 : decode cX2_voice 31 = .ok (.iload_n 2, 1) := by decide +kernel
theorem dX2_voice_32 : decode cX2_voice 32 = .ok (.invokevirtual 148, 3) := by decide +kernel
theorem dX2_voice_35 : decode cX2_voice 35 = .ok (.ireturn, 1) := by decide +kernel
theorem dX2_faults_0 : decode cX2_faults 0 = .ok (.aload_n 0, 1) := by decide +kernel
theorem dX2_faults_1 : decode cX2_faults 1 = .ok (.invokevirtual 76, 3) := by decide +kernel
theorem dX2_faults_4 : decode cX2_faults 4 = .ok (.istore_n 1, 1) := by decide +kernel
theorem dX2_faults_5 : decode cX2_faults 5 = .ok (.iconst 0, 1) := by decide +kernel
theorem dX2_faults_6 : decode cX2_faults 6 = .ok (.istore_n 2, 1) := by decide +kernel
theorem dX2_faults_7 : decode cX2_faults 7 = .ok (.iconst 0, 1) := by decide +kernel
theorem dX2_faults_8 : decode cX2_faults 8 = .ok (.istore_n 3, 1) := by decide +kernel
theorem dX2_faults_9 : decode cX2_faults 9 = .ok (.iload_n 3, 1) := by decide +kernel
theorem dX2_faults_10 : decode cX2_faults 10 = .ok (.aload_n 0, 1) := by decide +kernel
theorem dX2_faults_11 : decode cX2_faults 11 = .ok (.getfield 26, 3) := by decide +kernel
theorem dX2_faults_14 : decode cX2_faults 14 = .ok (.if_icmp .ge 81, 3) := by decide +kernel
theorem dX2_faults_17 : decode cX2_faults 17 = .ok (.iload_n 2, 1) := by decide +kernel
theorem dX2_faults_18 : decode cX2_faults 18 = .ok (.iload_n 1, 1) := by decide +kernel
theorem dX2_faults_19 : decode cX2_faults 19 = .ok (.aload_n 0, 1) := by decide +kernel
theorem dX2_faults_20 : decode cX2_faults 20 = .ok (.getfield 11, 3) := by decide +kernel
theorem dX2_faults_23 : decode cX2_faults 23 = .ok (.iload_n 3, 1) := by decide +kernel
theorem dX2_faults_24 : decode cX2_faults 24 = .ok (.aaload, 1) := by decide +kernel
theorem dX2_faults_25 : decode cX2_faults 25 = .ok (.getfield 165, 3) := by decide +kernel
theorem dX2_faults_28 : decode cX2_faults 28 = .ok (.aload_n 0, 1) := by decide +kernel
theorem dX2_faults_29 : decode cX2_faults 29 = .ok (.getfield 33, 3) := by decide +kernel
theorem dX2_faults_32 : decode cX2_faults 32 = .ok (.invokestatic 168, 3) := by decide +kernel
theorem dX2_faults_35 : decode cX2_faults 35 = .ok (.isub, 1) := by decide +kernel
theorem dX2_faults_36 : decode cX2_faults 36 = .ok (.iadd, 1) := by decide +kernel
theorem dX2_faults_37 : decode cX2_faults 37 = .ok (.istore_n 2, 1) := by decide +kernel
theorem dX2_faults_38 : decode cX2_faults 38 = .ok (.iload_n 2, 1) := by decide +kernel
theorem dX2_faults_39 : decode cX2_faults 39 = .ok (.aload_n 0, 1) := by decide +kernel
theorem dX2_faults_40 : decode cX2_faults 40 = .ok (.getfield 11, 3) := by decide +kernel
theorem dX2_faults_43 : decode cX2_faults 43 = .ok (.iload_n 3, 1) := by decide +kernel
theorem dX2_faults_44 : decode cX2_faults 44 = .ok (.aaload, 1) := by decide +kernel
theorem dX2_faults_45 : decode cX2_faults 45 = .ok (.invokevirtual 171, 3) := by decide +kernel
theorem dX2_faults_48 : decode cX2_faults 48 = .ok (.iadd, 1) := by decide +kernel
theorem dX2_faults_49 : decode cX2_faults 49 = .ok (.istore_n 2, 1) := by decide +kernel
theorem dX2_faults_50 : decode cX2_faults 50 = .ok (.iload_n 3, 1) := by decide +kernel
theorem dX2_faults_51 : decode cX2_faults 51 = .ok (.iconst 1, 1) := by decide +kernel
theorem dX2_faults_52 : decode cX2_faults 52 = .ok (.iadd, 1) := by decide +kernel
theorem dX2_faults_53 : decode cX2_faults 53 = .ok (.istore 4, 2) := by decide +kernel
theorem dX2_faults_55 : decode cX2_faults 55 = .ok (.iload 4, 2) := by decide +kernel
theorem dX2_faults_57 : decode cX2_faults 57 = .ok (.aload_n 0, 1) := by decide +kernel
theorem dX2_faults_58 : decode cX2_faults 58 = .ok (.getfield 26, 3) := by decide +kernel
theorem dX2_faults_61 : decode cX2_faults 61 = .ok (.if_icmp .ge 28, 3) := by decide +kernel
theorem dX2_faults_64 : decode cX2_faults 64 = .ok (.iload_n 2, 1) := by decide +kernel
theorem dX2_faults_65 : decode cX2_faults 65 = .ok (.aload_n 0, 1) := by decide +kernel
theorem dX2_faults_66 : decode cX2_faults 66 = .ok (.getfield 11, 3) := by decide +kernel
theorem dX2_faults_69 : decode cX2_faults 69 = .ok (.iload_n 3, 1) := by decide +kernel
theorem dX2_faults_70 : decode cX2_faults 70 = .ok (.aaload, 1) := by decide +kernel
theorem dX2_faults_71 : decode cX2_faults 71 = .ok (.aload_n 0, 1) := by decide +kernel
theorem dX2_faults_72 : decode cX2_faults 72 = .ok (.getfield 11, 3) := by decide +kernel
theorem dX2_faults_75 : decode cX2_faults 75 = .ok (.iload 4, 2) := by decide +kernel
theorem dX2_faults_77 : decode cX2_faults 77 = .ok (.aaload, 1) := by decide +kernel
theorem dX2_faults_78 : decode cX2_faults 78 = .ok (.invokestatic 174, 3) := by decide +kernel
theorem dX2_faults_81 : decode cX2_faults 81 = .ok (.iadd, 1) := by decide +kernel
theorem dX2_faults_82 : decode cX2_faults 82 = .ok (.istore_n 2, 1) := by decide +kernel
theorem dX2_faults_83 : decode cX2_faults 83 = .ok (.iinc 4 1, 3) := by decide +kernel
theorem dX2_faults_86 : decode cX2_faults 86 = .ok (.goto (-31), 3) := by decide +kernel
theorem dX2_faults_89 : decode cX2_faults 89 = .ok (.iinc 3 1, 3) := by decide +kernel
theorem dX2_faults_92 : decode cX2_faults 92 = .ok (.goto (-83), 3) := by decide +kernel
theorem dX2_faults_95 : decode cX2_faults 95 = .ok (.iload_n 2, 1) := by decide +kernel
theorem dX2_faults_96 : decode cX2_faults 96 = .ok (.ireturn, 1) := by decide +kernel
theorem dX2_event_0 : decode cX2_event 0 = .ok (.iload_n 1, 1) := by decide +kernel
theorem dX2_event_1 : decode cX2_event 1 = .ok (.ifCond .lt 11, 3) := by decide +kernel
theorem dX2_event_4 : decode cX2_event 4 = .ok (.iload_n 1, 1) := by decide +kernel
theorem dX2_event_5 : decode cX2_event 5 = .ok (.aload_n 0, 1) := by decide +kernel
theorem dX2_event_6 : decode cX2_event 6 = .ok (.invokevirtual 183, 3) := by decide +kernel
theorem dX2_event_9 : decode cX2_event 9 = .ok (.if_icmp .lt 13, 3) := by decide +kernel
theorem dX2_event_12 : decode cX2_event 12 = .ok (.new 71, 3) := by decide +kernel
theorem dX2_event_15 : decode cX2_event 15 = .ok (.dup, 1) := by decide +kernel
theorem dX2_event_16 : decode cX2_event 16 = .ok (.ldc 186, 2) := by decide +kernel
theorem dX2_event_18 : decode cX2_event 18 = .ok (.invokespecial 75, 3) := by decide +kernel
theorem dX2_event_21 : decode cX2_event 21 = .ok (.athrow, 1) := by decide +kernel
theorem dX2_event_22 : decode cX2_event 22 = .ok (.iload_n 2, 1) := by decide +kernel
theorem dX2_event_23 : decode cX2_event 23 = .ok (.ifCond .lt 8, 3) := by decide +kernel
theorem dX2_event_26 : decode cX2_event 26 = .ok (.iload_n 2, 1) := by decide +kernel
theorem dX2_event_27 : decode cX2_event 27 = .ok (.iconst 4, 1) := by decide +kernel
theorem dX2_event_28 : decode cX2_event 28 = .ok (.if_icmp .lt 13, 3) := by decide +kernel
theorem dX2_event_31 : decode cX2_event 31 = .ok (.new 71, 3) := by decide +kernel
theorem dX2_event_34 : decode cX2_event 34 = .ok (.dup, 1) := by decide +kernel
theorem dX2_event_35 : decode cX2_event 35 = .ok (.ldc 188, 2) := by decide +kernel
theorem dX2_event_37 : decode cX2_event 37 = .ok (.invokespecial 75, 3) := by decide +kernel
theorem dX2_event_40 : decode cX2_event 40 = .ok (.athrow, 1) := by decide +kernel
theorem dX2_event_41 : decode cX2_event 41 = .ok (.aload_n 0, 1) := by decide +kernel
theorem dX2_event_42 : decode cX2_event 42 = .ok (.invokevirtual 190, 3) := by decide +kernel
theorem dX2_event_45 : decode cX2_event 45 = .ok (.aload_n 0, 1) := by decide +kernel
theorem dX2_event_46 : decode cX2_event 46 = .ok (.getfield 18, 3) := by decide +kernel
theorem dX2_event_49 : decode cX2_event 49 = .ok (.getfield 193, 3) := by decide +kernel
theorem dX2_event_52 : decode cX2_event 52 = .ok (.iload_n 2, 1) := by decide +kernel
theorem dX2_event_53 : decode cX2_event 53 = .ok (.aaload, 1) := by decide +kernel
theorem dX2_event_54 : decode cX2_event 54 = .ok (.iload_n 1, 1) := by decide +kernel
theorem dX2_event_55 : decode cX2_event 55 = .ok (.iaload, 1) := by decide +kernel
theorem dX2_event_56 : decode cX2_event 56 = .ok (.ireturn, 1) := by decide +kernel
theorem dX2_events_0 : decode cX2_events 0 = .ok (.aload_n 0, 1) := by decide +kernel
theorem dX2_events_1 : decode cX2_events 1 = .ok (.invokevirtual 183, 3) := by decide +kernel
theorem dX2_events_4 : decode cX2_events 4 = .ok (.ireturn, 1) := by decide +kernel
theorem dX2_digest_0 : decode cX2_digest 0 = .ok (.ldc2_w 199, 3) := by decide +kernel
theorem dX2_digest_3 : decode cX2_digest 3 = .ok (.lstore_n 1, 1) := by decide +kernel
theorem dX2_digest_4 : decode cX2_digest 4 = .ok (.iconst 0, 1) := by decide +kernel
theorem dX2_digest_5 : decode cX2_digest 5 = .ok (.istore_n 3, 1) := by decide +kernel
theorem dX2_digest_6 : decode cX2_digest 6 = .ok (.iload_n 3, 1) := by decide +kernel
theorem dX2_digest_7 : decode cX2_digest 7 = .ok (.iconst 5, 1) := by decide +kernel
theorem dX2_digest_8 : decode cX2_digest 8 = .ok (.if_icmp .ge 22, 3) := by decide +kernel
theorem dX2_digest_11 : decode cX2_digest 11 = .ok (.lload_n 1, 1) := by decide +kernel
theorem dX2_digest_12 : decode cX2_digest 12 = .ok (.ldc2_w 201, 3) := by decide +kernel
theorem dX2_digest_15 : decode cX2_digest 15 = .ok (.lmul, 1) := by decide +kernel
theorem dX2_digest_16 : decode cX2_digest 16 = .ok (.aload_n 0, 1) := by decide +kernel
theorem dX2_digest_17 : decode cX2_digest 17 = .ok (.iload_n 3, 1) := by decide +kernel
theorem dX2_digest_18 : decode cX2_digest 18 = .ok (.invokevirtual 203, 3) := by decide +kernel
theorem dX2_digest_21 : decode cX2_digest 21 = .ok (.i2l, 1) := by decide +kernel
theorem dX2_digest_22 : decode cX2_digest 22 = .ok (.ladd, 1) := by decide +kernel
theorem dX2_digest_23 : decode cX2_digest 23 = .ok (.lstore_n 1, 1) := by decide +kernel
theorem dX2_digest_24 : decode cX2_digest 24 = .ok (.iinc 3 1, 3) := by decide +kernel
theorem dX2_digest_27 : decode cX2_digest 27 = .ok (.goto (-21), 3) := by decide +kernel
theorem dX2_digest_30 : decode cX2_digest 30 = .ok (.iconst 0, 1) := by decide +kernel
theorem dX2_digest_31 : decode cX2_digest 31 = .ok (.istore_n 3, 1) := by decide +kernel
theorem dX2_digest_32 : decode cX2_digest 32 = .ok (.iload_n 3, 1) := by decide +kernel
theorem dX2_digest_33 : decode cX2_digest 33 = .ok (.aload_n 0, 1) := by decide +kernel
theorem dX2_digest_34 : decode cX2_digest 34 = .ok (.getfield 26, 3) := by decide +kernel
theorem dX2_digest_37 : decode cX2_digest 37 = .ok (.if_icmp .ge 20, 3) := by decide +kernel
theorem dX2_digest_40 : decode cX2_digest 40 = .ok (.lload_n 1, 1) := by decide +kernel
theorem dX2_digest_41 : decode cX2_digest 41 = .ok (.aload_n 0, 1) := by decide +kernel
theorem dX2_digest_42 : decode cX2_digest 42 = .ok (.getfield 11, 3) := by decide +kernel
theorem dX2_digest_45 : decode cX2_digest 45 = .ok (.iload_n 3, 1) := by decide +kernel
theorem dX2_digest_46 : decode cX2_digest 46 = .ok (.aaload, 1) := by decide +kernel
theorem dX2_digest_47 : decode cX2_digest 47 = .ok (.invokestatic 206, 3) := by decide +kernel
theorem dX2_digest_50 : decode cX2_digest 50 = .ok (.lstore_n 1, 1) := by decide +kernel
theorem dX2_digest_51 : decode cX2_digest 51 = .ok (.iinc 3 1, 3) := by decide +kernel
theorem dX2_digest_54 : decode cX2_digest 54 = .ok (.goto (-22), 3) := by decide +kernel
theorem dX2_digest_57 : decode cX2_digest 57 = .ok (.lload_n 1, 1) := by decide +kernel
theorem dX2_digest_58 : decode cX2_digest 58 = .ok (.ldc2_w 201, 3) := by decide +kernel
theorem dX2_digest_61 : decode cX2_digest 61 = .ok (.lmul, 1) := by decide +kernel
theorem dX2_digest_62 : decode cX2_digest 62 = .ok (.aload_n 0, 1) := by decide +kernel
theorem dX2_digest_63 : decode cX2_digest 63 = .ok (.invokevirtual 210, 3) := by decide +kernel
theorem dX2_digest_66 : decode cX2_digest 66 = .ok (.i2l, 1) := by decide +kernel
theorem dX2_digest_67 : decode cX2_digest 67 = .ok (.ladd, 1) := by decide +kernel
theorem dX2_digest_68 : decode cX2_digest 68 = .ok (.lstore_n 1, 1) := by decide +kernel
theorem dX2_digest_69 : decode cX2_digest 69 = .ok (.lload_n 1, 1) := by decide +kernel
theorem dX2_digest_70 : decode cX2_digest 70 = .ok (.ldc2_w 201, 3) := by decide +kernel
theorem dX2_digest_73 : decode cX2_digest 73 = .ok (.lmul, 1) := by decide +kernel
theorem dX2_digest_74 : decode cX2_digest 74 = .ok (.aload_n 0, 1) := by decide +kernel
theorem dX2_digest_75 : decode cX2_digest 75 = .ok (.invokevirtual 183, 3) := by decide +kernel
theorem dX2_digest_78 : decode cX2_digest 78 = .ok (.i2l, 1) := by decide +kernel
theorem dX2_digest_79 : decode cX2_digest 79 = .ok (.ladd, 1) := by decide +kernel
theorem dX2_digest_80 : decode cX2_digest 80 = .ok (.lstore_n 1, 1) := by decide +kernel
theorem dX2_digest_81 : decode cX2_digest 81 = .ok (.aload_n 0, 1) := by decide +kernel
theorem dX2_digest_82 : decode cX2_digest 82 = .ok (.invokevirtual 190, 3) := by decide +kernel
theorem dX2_digest_85 : decode cX2_digest 85 = .ok (.aload_n 0, 1) := by decide +kernel
theorem dX2_digest_86 : decode cX2_digest 86 = .ok (.lload_n 1, 1) := by decide +kernel
theorem dX2_digest_87 : decode cX2_digest 87 = .ok (.invokevirtual 213, 3) := by decide +kernel
theorem dX2_digest_90 : decode cX2_digest 90 = .ok (.lreturn, 1) := by decide +kernel
theorem dX2_requireVoice_0 : decode cX2_requireVoice 0 = .ok (.iload_n 1, 1) := by decide +kernel
theorem dX2_requireVoice_1 : decode cX2_requireVoice 1 = .ok (.ifCond .lt 11, 3) := by decide +kernel
theorem dX2_requireVoice_4 : decode cX2_requireVoice 4 = .ok (.iload_n 1, 1) := by decide +kernel
theorem dX2_requireVoice_5 : decode cX2_requireVoice 5 = .ok (.aload_n 0, 1) := by decide +kernel
theorem dX2_requireVoice_6 : decode cX2_requireVoice 6 = .ok (.getfield 26, 3) := by decide +kernel
theorem dX2_requireVoice_9 : decode cX2_requireVoice 9 = .ok (.if_icmp .lt 13, 3) := by decide +kernel
theorem dX2_requireVoice_12 : decode cX2_requireVoice 12 = .ok (.new 71, 3) := by decide +kernel
theorem dX2_requireVoice_15 : decode cX2_requireVoice 15 = .ok (.dup, 1) := by decide +kernel
theorem dX2_requireVoice_16 : decode cX2_requireVoice 16 = .ok (.ldc 217, 2) := by decide +kernel
theorem dX2_requireVoice_18 : decode cX2_requireVoice 18 = .ok (.invokespecial 75, 3) := by decide +kernel
theorem dX2_requireVoice_21 : decode cX2_requireVoice 21 = .ok (.athrow, 1) := by decide +kernel
theorem dX2_requireVoice_22 : decode cX2_requireVoice 22 = .ok (.return_, 1) := by decide +kernel
theorem dX2_requireElement_0 : decode cX2_requireElement 0 = .ok (.aload_n 0, 1) := by decide +kernel
theorem dX2_requireElement_1 : decode cX2_requireElement 1 = .ok (.iload_n 1, 1) := by decide +kernel
theorem dX2_requireElement_2 : decode cX2_requireElement 2 = .ok (.invokevirtual 93, 3) := by decide +kernel
theorem dX2_requireElement_5 : decode cX2_requireElement 5 = .ok (.iload_n 2, 1) := by decide +kernel
theorem dX2_requireElement_6 : decode cX2_requireElement 6 = .ok (.ifCond .lt 16, 3) := by decide +kernel
theorem dX2_requireElement_9 : decode cX2_requireElement 9 = .ok (.iload_n 2, 1) := by decide +kernel
theorem dX2_requireElement_10 : decode cX2_requireElement 10 = .ok (.aload_n 0, 1) := by decide +kernel
theorem dX2_requireElement_11 : decode cX2_requireElement 11 = .ok (.getfield 11, 3) := by decide +kernel
theorem dX2_requireElement_14 : decode cX2_requireElement 14 = .ok (.iload_n 1, 1) := by decide +kernel
theorem dX2_requireElement_15 : decode cX2_requireElement 15 = .ok (.aaload, 1) := by decide +kernel
theorem dX2_requireElement_16 : decode cX2_requireElement 16 = .ok (.getfield 103, 3) := by decide +kernel
theorem dX2_requireElement_19 : decode cX2_requireElement 19 = .ok (.if_icmp .lt 13, 3) := by decide +kernel
theorem dX2_requireElement_22 : decode cX2_requireElement 22 = .ok (.new 71, 3) := by decide +kernel
theorem dX2_requireElement_25 : decode cX2_requireElement 25 = .ok (.dup, 1) := by decide +kernel
theorem dX2_requireElement_26 : decode cX2_requireElement 26 = .ok (.ldc 219, 2) := by decide +kernel
theorem dX2_requireElement_28 : decode cX2_requireElement 28 = .ok (.invokespecial 75, 3) := by decide +kernel
theorem dX2_requireElement_31 : decode cX2_requireElement 31 = .ok (.athrow, 1) := by decide +kernel
theorem dX2_requireElement_32 : decode cX2_requireElement 32 = .ok (.return_, 1) := by decide +kernel
theorem dX2_greatestEnd_0 : decode cX2_greatestEnd 0 = .ok (.iconst 0, 1) := by decide +kernel
theorem dX2_greatestEnd_1 : decode cX2_greatestEnd 1 = .ok (.istore_n 1, 1) := by decide +kernel
theorem dX2_greatestEnd_2 : decode cX2_greatestEnd 2 = .ok (.iconst 0, 1) := by decide +kernel
theorem dX2_greatestEnd_3 : decode cX2_greatestEnd 3 = .ok (.istore_n 2, 1) := by decide +kernel
theorem dX2_greatestEnd_4 : decode cX2_greatestEnd 4 = .ok (.iload_n 2, 1) := by decide +kernel
theorem dX2_greatestEnd_5 : decode cX2_greatestEnd 5 = .ok (.aload_n 0, 1) := by decide +kernel
theorem dX2_greatestEnd_6 : decode cX2_greatestEnd 6 = .ok (.getfield 26, 3) := by decide +kernel
theorem dX2_greatestEnd_9 : decode cX2_greatestEnd 9 = .ok (.if_icmp .ge 23, 3) := by decide +kernel
theorem dX2_greatestEnd_12 : decode cX2_greatestEnd 12 = .ok (.iload_n 1, 1) := by decide +kernel
theorem dX2_greatestEnd_13 : decode cX2_greatestEnd 13 = .ok (.aload_n 0, 1) := by decide +kernel
theorem dX2_greatestEnd_14 : decode cX2_greatestEnd 14 = .ok (.getfield 11, 3) := by decide +kernel
theorem dX2_greatestEnd_17 : decode cX2_greatestEnd 17 = .ok (.iload_n 2, 1) := by decide +kernel
theorem dX2_greatestEnd_18 : decode cX2_greatestEnd 18 = .ok (.aaload, 1) := by decide +kernel
theorem dX2_greatestEnd_19 : decode cX2_greatestEnd 19 = .ok (.getfield 165, 3) := by decide +kernel
theorem dX2_greatestEnd_22 : decode cX2_greatestEnd 22 = .ok (.invokestatic 221, 3) := by decide +kernel
theorem dX2_greatestEnd_25 : decode cX2_greatestEnd 25 = .ok (.istore_n 1, 1) := by decide +kernel
theorem dX2_greatestEnd_26 : decode cX2_greatestEnd 26 = .ok (.iinc 2 1, 3) := by decide +kernel
theorem dX2_greatestEnd_29 : decode cX2_greatestEnd 29 = .ok (.goto (-25), 3) := by decide +kernel
theorem dX2_greatestEnd_32 : decode cX2_greatestEnd 32 = .ok (.iload_n 1, 1) := by decide +kernel
theorem dX2_greatestEnd_33 : decode cX2_greatestEnd 33 = .ok (.ireturn, 1) := by decide +kernel
theorem dX2_barsBegun_0 : decode cX2_barsBegun 0 = .ok (.iconst 0, 1) := by decide +kernel
theorem dX2_barsBegun_1 : decode cX2_barsBegun 1 = .ok (.istore_n 1, 1) := by decide +kernel
theorem dX2_barsBegun_2 : decode cX2_barsBegun 2 = .ok (.iconst 0, 1) := by decide +kernel
theorem dX2_barsBegun_3 : decode cX2_barsBegun 3 = .ok (.istore_n 2, 1) := by decide +kernel
theorem dX2_barsBegun_4 : decode cX2_barsBegun 4 = .ok (.iload_n 2, 1) := by decide +kernel
theorem dX2_barsBegun_5 : decode cX2_barsBegun 5 = .ok (.aload_n 0, 1) := by decide +kernel
theorem dX2_barsBegun_6 : decode cX2_barsBegun 6 = .ok (.getfield 26, 3) := by decide +kernel
theorem dX2_barsBegun_9 : decode cX2_barsBegun 9 = .ok (.if_icmp .ge 44, 3) := by decide +kernel
theorem dX2_barsBegun_12 : decode cX2_barsBegun 12 = .ok (.aload_n 0, 1) := by decide +kernel
theorem dX2_barsBegun_13 : decode cX2_barsBegun 13 = .ok (.getfield 11, 3) := by decide +kernel
theorem dX2_barsBegun_16 : decode cX2_barsBegun 16 = .ok (.iload_n 2, 1) := by decide +kernel
theorem dX2_barsBegun_17 : decode cX2_barsBegun 17 = .ok (.aaload, 1) := by decide +kernel
theorem dX2_barsBegun_18 : decode cX2_barsBegun 18 = .ok (.astore_n 3, 1) := by decide +kernel
theorem dX2_barsBegun_19 : decode cX2_barsBegun 19 = .ok (.aload_n 3, 1) := by decide +kernel
theorem dX2_barsBegun_20 : decode cX2_barsBegun 20 = .ok (.getfield 103, 3) := by decide +kernel
theorem dX2_barsBegun_23 : decode cX2_barsBegun 23 = .ok (.ifCond .le 24, 3) := by decide +kernel
theorem dX2_barsBegun_26 : decode cX2_barsBegun 26 = .ok (.iload_n 1, 1) := by decide +kernel
theorem dX2_barsBegun_27 : decode cX2_barsBegun 27 = .ok (.aload_n 3, 1) := by decide +kernel
theorem dX2_barsBegun_28 : decode cX2_barsBegun 28 = .ok (.getfield 114, 3) := by decide +kernel
theorem dX2_barsBegun_31 : decode cX2_barsBegun 31 = .ok (.bipush 6, 2) := by decide +kernel
theorem dX2_barsBegun_33 : decode cX2_barsBegun 33 = .ok (.aaload, 1) := by decide +kernel
theorem dX2_barsBegun_34 : decode cX2_barsBegun 34 = .ok (.aload_n 3, 1) := by decide +kernel
theorem dX2_barsBegun_35 : decode cX2_barsBegun 35 = .ok (.getfield 103, 3) := by decide +kernel
theorem dX2_barsBegun_38 : decode cX2_barsBegun 38 = .ok (.iconst 1, 1) := by decide +kernel
theorem dX2_barsBegun_39 : decode cX2_barsBegun 39 = .ok (.isub, 1) := by decide +kernel
theorem dX2_barsBegun_40 : decode cX2_barsBegun 40 = .ok (.iaload, 1) := by decide +kernel
theorem dX2_barsBegun_41 : decode cX2_barsBegun 41 = .ok (.iconst 1, 1) := by decide +kernel
theorem dX2_barsBegun_42 : decode cX2_barsBegun 42 = .ok (.iadd, 1) := by decide +kernel
theorem dX2_barsBegun_43 : decode cX2_barsBegun 43 = .ok (.invokestatic 221, 3) := by decide +kernel
theorem dX2_barsBegun_46 : decode cX2_barsBegun 46 = .ok (.istore_n 1, 1) := by decide +kernel
theorem dX2_barsBegun_47 : decode cX2_barsBegun 47 = .ok (.iinc 2 1, 3) := by decide +kernel
theorem dX2_barsBegun_50 : decode cX2_barsBegun 50 = .ok (.goto (-46), 3) := by decide +kernel
theorem dX2_barsBegun_53 : decode cX2_barsBegun 53 = .ok (.iload_n 1, 1) := by decide +kernel
theorem dX2_barsBegun_54 : decode cX2_barsBegun 54 = .ok (.ireturn, 1) := by decide +kernel
theorem dX2_arrangeOne_0 : decode cX2_arrangeOne 0 = .ok (.aload_n 1, 1) := by decide +kernel
theorem dX2_arrangeOne_1 : decode cX2_arrangeOne 1 = .ok (.aload_n 0, 1) := by decide +kernel
theorem dX2_arrangeOne_2 : decode cX2_arrangeOne 2 = .ok (.getfield 36, 3) := by decide +kernel
theorem dX2_arrangeOne_5 : decode cX2_arrangeOne 5 = .ok (.aload_n 0, 1) := by decide +kernel
theorem dX2_arrangeOne_6 : decode cX2_arrangeOne 6 = .ok (.getfield 30, 3) := by decide +kernel
theorem dX2_arrangeOne_9 : decode cX2_arrangeOne 9 = .ok (.invokevirtual 226, 3) := by decide +kernel
theorem dX2_arrangeOne_12 : decode cX2_arrangeOne 12 = .ok (.aload_n 0, 1) := by decide +kernel
theorem dX2_arrangeOne_13 : decode cX2_arrangeOne 13 = .ok (.iconst 0, 1) := by decide +kernel
theorem dX2_arrangeOne_14 : decode cX2_arrangeOne 14 = .ok (.putfield 39, 3) := by decide +kernel
theorem dX2_arrangeOne_17 : decode cX2_arrangeOne 17 = .ok (.return_, 1) := by decide +kernel
theorem dX2_arrangeAll_0 : decode cX2_arrangeAll 0 = .ok (.iconst 0, 1) := by decide +kernel
theorem dX2_arrangeAll_1 : decode cX2_arrangeAll 1 = .ok (.istore_n 1, 1) := by decide +kernel
theorem dX2_arrangeAll_2 : decode cX2_arrangeAll 2 = .ok (.iload_n 1, 1) := by decide +kernel
theorem dX2_arrangeAll_3 : decode cX2_arrangeAll 3 = .ok (.aload_n 0, 1) := by decide +kernel
theorem dX2_arrangeAll_4 : decode cX2_arrangeAll 4 = .ok (.getfield 26, 3) := by decide +kernel
theorem dX2_arrangeAll_7 : decode cX2_arrangeAll 7 = .ok (.if_icmp .ge 26, 3) := by decide +kernel
theorem dX2_arrangeAll_10 : decode cX2_arrangeAll 10 = .ok (.aload_n 0, 1) := by decide +kernel
theorem dX2_arrangeAll_11 : decode cX2_arrangeAll 11 = .ok (.getfield 11, 3) := by decide +kernel
theorem dX2_arrangeAll_14 : decode cX2_arrangeAll 14 = .ok (.iload_n 1, 1) := by decide +kernel
theorem dX2_arrangeAll_15 : decode cX2_arrangeAll 15 = .ok (.aaload, 1) := by decide +kernel
theorem dX2_arrangeAll_16 : decode cX2_arrangeAll 16 = .ok (.aload_n 0, 1) := by decide +kernel
theorem dX2_arrangeAll_17 : decode cX2_arrangeAll 17 = .ok (.getfield 36, 3) := by decide +kernel
theorem dX2_arrangeAll_20 : decode cX2_arrangeAll 20 = .ok (.aload_n 0, 1) := by decide +kernel
theorem dX2_arrangeAll_21 : decode cX2_arrangeAll 21 = .ok (.getfield 30, 3) := by decide +kernel
theorem dX2_arrangeAll_24 : decode cX2_arrangeAll 24 = .ok (.invokevirtual 226, 3) := by decide +kernel
theorem dX2_arrangeAll_27 : decode cX2_arrangeAll 27 = .ok (.iinc 1 1, 3) := by decide +kernel
theorem dX2_arrangeAll_30 : decode cX2_arrangeAll 30 = .ok (.goto (-28), 3) := by decide +kernel
theorem dX2_arrangeAll_33 : decode cX2_arrangeAll 33 = .ok (.aload_n 0, 1) := by decide +kernel
theorem dX2_arrangeAll_34 : decode cX2_arrangeAll 34 = .ok (.iconst 0, 1) := by decide +kernel
theorem dX2_arrangeAll_35 : decode cX2_arrangeAll 35 = .ok (.putfield 39, 3) := by decide +kernel
theorem dX2_arrangeAll_38 : decode cX2_arrangeAll 38 = .ok (.return_, 1) := by decide +kernel
theorem dX2_addPieces_0 : decode cX2_addPieces 0 = .ok (.aload_n 0, 1) := by decide +kernel
theorem dX2_addPieces_1 : decode cX2_addPieces 1 = .ok (.aload_n 1, 1) := by decide +kernel
theorem dX2_addPieces_2 : decode cX2_addPieces 2 = .ok (.getfield 165, 3) := by decide +kernel
theorem dX2_addPieces_5 : decode cX2_addPieces 5 = .ok (.getstatic 90, 3) := by decide +kernel
theorem dX2_addPieces_8 : decode cX2_addPieces 8 = .ok (.iload_n 2, 1) := by decide +kernel
theorem dX2_addPieces_9 : decode cX2_addPieces 9 = .ok (.iaload, 1) := by decide +kernel
theorem dX2_addPieces_10 : decode cX2_addPieces 10 = .ok (.invokevirtual 229, 3) := by decide +kernel
theorem dX2_addPieces_13 : decode cX2_addPieces 13 = .ok (.istore_n 3, 1) := by decide +kernel
theorem dX2_addPieces_14 : decode cX2_addPieces 14 = .ok (.aload_n 1, 1) := by decide +kernel
theorem dX2_addPieces_15 : decode cX2_addPieces 15 = .ok (.getfield 103, 3) := by decide +kernel
theorem dX2_addPieces_18 : decode cX2_addPieces 18 = .ok (.iload_n 3, 1) := by decide +kernel
theorem dX2_addPieces_19 : decode cX2_addPieces 19 = .ok (.iadd, 1) := by decide +kernel
theorem dX2_addPieces_20 : decode cX2_addPieces 20 = .ok (.sipush 200, 3) := by decide +kernel
theorem dX2_addPieces_23 : decode cX2_addPieces 23 = .ok (.if_icmp .le 13, 3) := by decide +kernel
theorem dX2_addPieces_26 : decode cX2_addPieces 26 = .ok (.new 55, 3) := by decide +kernel
theorem dX2_addPieces_29 : decode cX2_addPieces 29 = .ok (.dup, 1) := by decide +kernel
theorem dX2_addPieces_30 : decode cX2_addPieces 30 = .ok (.ldc 232, 2) := by decide +kernel
theorem dX2_addPieces_32 : decode cX2_addPieces 32 = .ok (.invokespecial 59, 3) := by decide +kernel
theorem dX2_addPieces_35 : decode cX2_addPieces 35 = .ok (.athrow, 1) := by decide +kernel
theorem dX2_addPieces_36 : decode cX2_addPieces 36 = .ok (.aload_n 1, 1) := by decide +kernel
theorem dX2_addPieces_37 : decode cX2_addPieces 37 = .ok (.getfield 165, 3) := by decide +kernel
theorem dX2_addPieces_40 : decode cX2_addPieces 40 = .ok (.getstatic 90, 3) := by decide +kernel
theorem dX2_addPieces_43 : decode cX2_addPieces 43 = .ok (.iload_n 2, 1) := by decide +kernel
theorem dX2_addPieces_44 : decode cX2_addPieces 44 = .ok (.iaload, 1) := by decide +kernel
theorem dX2_addPieces_45 : decode cX2_addPieces 45 = .ok (.iadd, 1) := by decide +kernel
theorem dX2_addPieces_46 : decode cX2_addPieces 46 = .ok (.bipush 100, 2) := by decide +kernel
theorem dX2_addPieces_48 : decode cX2_addPieces 48 = .ok (.aload_n 0, 1) := by decide +kernel
theorem dX2_addPieces_49 : decode cX2_addPieces 49 = .ok (.getfield 33, 3) := by decide +kernel
theorem dX2_addPieces_52 : decode cX2_addPieces 52 = .ok (.imul, 1) := by decide +kernel
theorem dX2_addPieces_53 : decode cX2_addPieces 53 = .ok (.if_icmp .le 13, 3) := by decide +kernel
theorem dX2_addPieces_56 : decode cX2_addPieces 56 = .ok (.new 55, 3) := by decide +kernel
theorem dX2_addPieces_59 : decode cX2_addPieces 59 = .ok (.dup, 1) := by decide +kernel
theorem dX2_addPieces_60 : decode cX2_addPieces 60 = .ok (.ldc 234, 2) := by decide +kernel
theorem dX2_addPieces_62 : decode cX2_addPieces 62 = .ok (.invokespecial 59, 3) := by decide +kernel
theorem dX2_addPieces_65 : decode cX2_addPieces 65 = .ok (.athrow, 1) := by decide +kernel
theorem dX2_addPieces_66 : decode cX2_addPieces 66 = .ok (.iconst 0, 1) := by decide +kernel
theorem dX2_addPieces_67 : decode cX2_addPieces 67 = .ok (.istore 4, 2) := by decide +kernel
theorem dX2_addPieces_69 : decode cX2_addPieces 69 = .ok (.iload 4, 2) := by decide +kernel
theorem dX2_addPieces_71 : decode cX2_addPieces 71 = .ok (.iload_n 3, 1) := by decide +kernel
theorem dX2_addPieces_72 : decode cX2_addPieces 72 = .ok (.if_icmp .ge 31, 3) := by decide +kernel
theorem dX2_addPieces_75 : decode cX2_addPieces 75 = .ok (.aload_n 1, 1) := by decide +kernel
theorem dX2_addPieces_76 : decode cX2_addPieces 76 = .ok (.aload_n 0, 1) := by decide +kernel
theorem dX2_addPieces_77 : decode cX2_addPieces 77 = .ok (.getfield 22, 3) := by decide +kernel
theorem dX2_addPieces_80 : decode cX2_addPieces 80 = .ok (.iload 4, 2) := by decide +kernel
theorem dX2_addPieces_82 : decode cX2_addPieces 82 = .ok (.iaload, 1) := by decide +kernel
theorem dX2_addPieces_83 : decode cX2_addPieces 83 = .ok (.aload_n 1, 1) := by decide +kernel
theorem dX2_addPieces_84 : decode cX2_addPieces 84 = .ok (.getfield 165, 3) := by decide +kernel
theorem dX2_addPieces_87 : decode cX2_addPieces 87 = .ok (.aload_n 0, 1) := by decide +kernel
theorem dX2_addPieces_88 : decode cX2_addPieces 88 = .ok (.getfield 33, 3) := by decide +kernel
theorem dX2_addPieces_91 : decode cX2_addPieces 91 = .ok (.invokestatic 168, 3) := by decide +kernel
theorem dX2_addPieces_94 : decode cX2_addPieces 94 = .ok (.invokevirtual 236, 3) := by decide +kernel
theorem dX2_addPieces_97 : decode cX2_addPieces 97 = .ok (.iinc 4 1, 3) := by decide +kernel
theorem dX2_addPieces_100 : decode cX2_addPieces 100 = .ok (.goto (-31), 3) := by decide +kernel
theorem dX2_addPieces_103 : decode cX2_addPieces 103 = .ok (.iload_n 3, 1) := by decide +kernel
theorem dX2_addPieces_104 : decode cX2_addPieces 104 = .ok (.ireturn, 1) := by decide +kernel
theorem dX2_planPieces_0 : decode cX2_planPieces 0 = .ok (.iload_n 2, 1) := by decide +kernel
theorem dX2_planPieces_1 : decode cX2_planPieces 1 = .ok (.istore_n 3, 1) := by decide +kernel
theorem dX2_planPieces_2 : decode cX2_planPieces 2 = .ok (.aload_n 0, 1) := by decide +kernel
theorem dX2_planPieces_3 : decode cX2_planPieces 3 = .ok (.getfield 33, 3) := by decide +kernel
theorem dX2_planPieces_6 : decode cX2_planPieces 6 = .ok (.iload_n 1, 1) := by decide +kernel
theorem dX2_planPieces_7 : decode cX2_planPieces 7 = .ok (.iload_n 1, 1) := by decide +kernel
theorem dX2_planPieces_8 : decode cX2_planPieces 8 = .ok (.aload_n 0, 1) := by decide +kernel
theorem dX2_planPieces_9 : decode cX2_planPieces 9 = .ok (.getfield 33, 3) := by decide +kernel
theorem dX2_planPieces_12 : decode cX2_planPieces 12 = .ok (.invokestatic 168, 3) := by decide +kernel
theorem dX2_planPieces_15 : decode cX2_planPieces 15 = .ok (.aload_n 0, 1) := by decide +kernel
theorem dX2_planPieces_16 : decode cX2_planPieces 16 = .ok (.getfield 33, 3) := by decide +kernel
theorem dX2_planPieces_19 : decode cX2_planPieces 19 = .ok (.imul, 1) := by decide +kernel
theorem dX2_planPieces_20 : decode cX2_planPieces 20 = .ok (.isub, 1) := by decide +kernel
theorem dX2_planPieces_21 : decode cX2_planPieces 21 = .ok (.isub, 1) := by decide +kernel
theorem dX2_planPieces_22 : decode cX2_planPieces 22 = .ok (.istore 4, 2) := by decide +kernel
theorem dX2_planPieces_24 : decode cX2_planPieces 24 = .ok (.iconst 0, 1) := by decide +kernel
theorem dX2_planPieces_25 : decode cX2_planPieces 25 = .ok (.istore 5, 2) := by decide +kernel
theorem dX2_planPieces_27 : decode cX2_planPieces 27 = .ok (.iload_n 3, 1) := by decide +kernel
theorem dX2_planPieces_28 : decode cX2_planPieces 28 = .ok (.ifCond .le 67, 3) := by decide +kernel
theorem dX2_planPieces_31 : decode cX2_planPieces 31 = .ok (.iload 5, 2) := by decide +kernel
theorem dX2_planPieces_33 : decode cX2_planPieces 33 = .ok (.bipush 56, 2) := by decide +kernel
theorem dX2_planPieces_35 : decode cX2_planPieces 35 = .ok (.if_icmp .ge 60, 3) := by decide +kernel
theorem dX2_planPieces_38 : decode cX2_planPieces 38 = .ok (.iload_n 3, 1) := by decide +kernel
theorem dX2_planPieces_39 : decode cX2_planPieces 39 = .ok (.iload 4, 2) := by decide +kernel
theorem dX2_planPieces_41 : decode cX2_planPieces 41 = .ok (.invokestatic 239, 3) := by decide +kernel
theorem dX2_planPieces_44 : decode cX2_planPieces 44 = .ok (.invokestatic 242, 3) := by decide +kernel
theorem dX2_planPieces_47 : decode cX2_planPieces 47 = .ok (.istore 6, 2) := by decide +kernel
theorem dX2_planPieces_49 : decode cX2_planPieces 49 = .ok (.aload_n 0, 1) := by decide +kernel
theorem dX2_planPieces_50 : decode cX2_planPieces 50 = .ok (.getfield 22, 3) := by decide +kernel
theorem dX2_planPieces_53 : decode cX2_planPieces 53 = .ok (.iload 5, 2) := by decide +kernel
theorem dX2_planPieces_55 : decode cX2_planPieces 55 = .ok (.iload 6, 2) := by decide +kernel
theorem dX2_planPieces_57 : decode cX2_planPieces 57 = .ok (.iastore, 1) := by decide +kernel
theorem dX2_planPieces_58 : decode cX2_planPieces 58 = .ok (.iinc 5 1, 3) := by decide +kernel
theorem dX2_planPieces_61 : decode cX2_planPieces 61 = .ok (.iload_n 3, 1) := by decide +kernel
theorem dX2_planPieces_62 : decode cX2_planPieces 62 = .ok (.getstatic 90, 3) := by decide +kernel
theorem dX2_planPieces_65 : decode cX2_planPieces 65 = .ok (.iload 6, 2) := by decide +kernel
theorem dX2_planPieces_67 : decode cX2_planPieces 67 = .ok (.iaload, 1) := by decide +kernel
theorem dX2_planPieces_68 : decode cX2_planPieces 68 = .ok (.isub, 1) := by decide +kernel
theorem dX2_planPieces_69 : decode cX2_planPieces 69 = .ok (.istore_n 3, 1) := by decide +kernel
theorem dX2_planPieces_70 : decode cX2_planPieces 70 = .ok (.iload 4, 2) := by decide +kernel
theorem dX2_planPieces_72 : decode cX2_planPieces 72 = .ok (.getstatic 90, 3) := by decide +kernel
theorem dX2_planPieces_75 : decode cX2_planPieces 75 = .ok (.iload 6, 2) := by decide +kernel
theorem dX2_planPieces_77 : decode cX2_planPieces 77 = .ok (.iaload, 1) := by decide +kernel
theorem dX2_planPieces_78 : decode cX2_planPieces 78 = .ok (.isub, 1) := by decide +kernel
theorem dX2_planPieces_79 : decode cX2_planPieces 79 = .ok (.istore 4, 2) := by decide +kernel
theorem dX2_planPieces_81 : decode cX2_planPieces 81 = .ok (.iload 4, 2) := by decide +kernel
theorem dX2_planPieces_83 : decode cX2_planPieces 83 = .ok (.ifCond .gt 9, 3) := by decide +kernel
theorem dX2_planPieces_86 : decode cX2_planPieces 86 = .ok (.aload_n 0, 1) := by decide +kernel
theorem dX2_planPieces_87 : decode cX2_planPieces 87 = .ok (.getfield 33, 3) := by decide +kernel
theorem dX2_planPieces_90 : decode cX2_planPieces 90 = .ok (.istore 4, 2) := by decide +kernel
theorem dX2_planPieces_92 : decode cX2_planPieces 92 = .ok (.goto (-65), 3) := by decide +kernel
theorem dX2_planPieces_95 : decode cX2_planPieces 95 = .ok (.iload 5, 2) := by decide +kernel
theorem dX2_planPieces_97 : decode cX2_planPieces 97 = .ok (.ireturn, 1) := by decide +kernel
theorem dX2_greatestValue_0 : decode cX2_greatestValue 0 = .ok (.iconst 0, 1) := by decide +kernel
theorem dX2_greatestValue_1 : decode cX2_greatestValue 1 = .ok (.istore_n 1, 1) := by decide +kernel
theorem dX2_greatestValue_2 : decode cX2_greatestValue 2 = .ok (.iload_n 1, 1) := by decide +kernel
theorem dX2_greatestValue_3 : decode cX2_greatestValue 3 = .ok (.getstatic 90, 3) := by decide +kernel
theorem dX2_greatestValue_6 : decode cX2_greatestValue 6 = .ok (.arraylength, 1) := by decide +kernel
theorem dX2_greatestValue_7 : decode cX2_greatestValue 7 = .ok (.if_icmp .ge 20, 3) := by decide +kernel
theorem dX2_greatestValue_10 : decode cX2_greatestValue 10 = .ok (.getstatic 90, 3) := by decide +kernel
theorem dX2_greatestValue_13 : decode cX2_greatestValue 13 = .ok (.iload_n 1, 1) := by decide +kernel
theorem dX2_greatestValue_14 : decode cX2_greatestValue 14 = .ok (.iaload, 1) := by decide +kernel
theorem dX2_greatestValue_15 : decode cX2_greatestValue 15 = .ok (.iload_n 0, 1) := by decide +kernel
theorem dX2_greatestValue_16 : decode cX2_greatestValue 16 = .ok (.if_icmp .gt 5, 3) := by decide +kernel
theorem dX2_greatestValue_19 : decode cX2_greatestValue 19 = .ok (.iload_n 1, 1) := by decide +kernel
theorem dX2_greatestValue_20 : decode cX2_greatestValue 20 = .ok (.ireturn, 1) := by decide +kernel
theorem dX2_greatestValue_21 : decode cX2_greatestValue 21 = .ok (.iinc 1 1, 3) := by decide +kernel
theorem dX2_greatestValue_24 : decode cX2_greatestValue 24 = .ok (.goto (-22), 3) := by decide +kernel
theorem dX2_greatestValue_27 : decode cX2_greatestValue 27 = .ok (.getstatic 90, 3) := by decide +kernel
theorem dX2_greatestValue_30 : decode cX2_greatestValue 30 = .ok (.arraylength, 1) := by decide +kernel
theorem dX2_greatestValue_31 : decode cX2_greatestValue 31 = .ok (.iconst 1, 1) := by decide +kernel
theorem dX2_greatestValue_32 : decode cX2_greatestValue 32 = .ok (.isub, 1) := by decide +kernel
theorem dX2_greatestValue_33 : decode cX2_greatestValue 33 = .ok (.ireturn, 1) := by decide +kernel
theorem dX2_findValue_0 : decode cX2_findValue 0 = .ok (.iconst 0, 1) := by decide +kernel
theorem dX2_findValue_1 : decode cX2_findValue 1 = .ok (.istore_n 2, 1) := by decide +kernel
theorem dX2_findValue_2 : decode cX2_findValue 2 = .ok (.iload_n 2, 1) := by decide +kernel
theorem dX2_findValue_3 : decode cX2_findValue 3 = .ok (.getstatic 90, 3) := by decide +kernel
theorem dX2_findValue_6 : decode cX2_findValue 6 = .ok (.arraylength, 1) := by decide +kernel
theorem dX2_findValue_7 : decode cX2_findValue 7 = .ok (.if_icmp .ge 29, 3) := by decide +kernel
theorem dX2_findValue_10 : decode cX2_findValue 10 = .ok (.getstatic 245, 3) := by decide +kernel
theorem dX2_findValue_13 : decode cX2_findValue 13 = .ok (.iload_n 2, 1) := by decide +kernel
theorem dX2_findValue_14 : decode cX2_findValue 14 = .ok (.iaload, 1) := by decide +kernel
theorem dX2_findValue_15 : decode cX2_findValue 15 = .ok (.iload_n 0, 1) := by decide +kernel
theorem dX2_findValue_16 : decode cX2_findValue 16 = .ok (.if_icmp .ne 14, 3) := by decide +kernel
theorem dX2_findValue_19 : decode cX2_findValue 19 = .ok (.getstatic 248, 3) := by decide +kernel
theorem dX2_findValue_22 : decode cX2_findValue 22 = .ok (.iload_n 2, 1) := by decide +kernel
theorem dX2_findValue_23 : decode cX2_findValue 23 = .ok (.iaload, 1) := by decide +kernel
theorem dX2_findValue_24 : decode cX2_findValue 24 = .ok (.iload_n 1, 1) := by decide +kernel
theorem dX2_findValue_25 : decode cX2_findValue 25 = .ok (.if_icmp .ne 5, 3) := by decide +kernel
theorem dX2_findValue_28 : decode cX2_findValue 28 = .ok (.iload_n 2, 1) := by decide +kernel
theorem dX2_findValue_29 : decode cX2_findValue 29 = .ok (.ireturn, 1) := by decide +kernel
theorem dX2_findValue_30 : decode cX2_findValue 30 = .ok (.iinc 2 1, 3) := by decide +kernel
theorem dX2_findValue_33 : decode cX2_findValue 33 = .ok (.goto (-31), 3) := by decide +kernel
theorem dX2_findValue_36 : decode cX2_findValue 36 = .ok (.iconst (-1), 1) := by decide +kernel
theorem dX2_findValue_37 : decode cX2_findValue 37 = .ok (.ireturn, 1) := by decide +kernel
theorem dX2_wholeParts_0 : decode cX2_wholeParts 0 = .ok (.iload_n 1, 1) := by decide +kernel
theorem dX2_wholeParts_1 : decode cX2_wholeParts 1 = .ok (.ifCond .le 9, 3) := by decide +kernel
theorem dX2_wholeParts_4 : decode cX2_wholeParts 4 = .ok (.iload_n 0, 1) := by decide +kernel
theorem dX2_wholeParts_5 : decode cX2_wholeParts 5 = .ok (.iload_n 1, 1) := by decide +kernel
theorem dX2_wholeParts_6 : decode cX2_wholeParts 6 = .ok (.idiv, 1) := by decide +kernel
theorem dX2_wholeParts_7 : decode cX2_wholeParts 7 = .ok (.goto 4, 3) := by decide +kernel
theorem dX2_wholeParts_10 : decode cX2_wholeParts 10 = .ok (.iconst 0, 1) := by decide +kernel
theorem dX2_wholeParts_11 : decode cX2_wholeParts 11 = .ok (.ireturn, 1) := by decide +kernel
theorem dX2_isKey_0 : decode cX2_isKey 0 = .ok (.iload_n 0, 1) := by decide +kernel
theorem dX2_isKey_1 : decode cX2_isKey 1 = .ok (.bipush (-7), 2) := by decide +kernel
theorem dX2_isKey_3 : decode cX2_isKey 3 = .ok (.if_icmp .lt 13, 3) := by decide +kernel
theorem dX2_isKey_6 : decode cX2_isKey 6 = .ok (.iload_n 0, 1) := by decide +kernel
theorem dX2_isKey_7 : decode cX2_isKey 7 = .ok (.bipush 7, 2) := by decide +kernel
theorem dX2_isKey_9 : decode cX2_isKey 9 = .ok (.if_icmp .gt 7, 3) := by decide +kernel
theorem dX2_isKey_12 : decode cX2_isKey 12 = .ok (.iconst 1, 1) := by decide +kernel
theorem dX2_isKey_13 : decode cX2_isKey 13 = .ok (.goto 4, 3) := by decide +kernel
theorem dX2_isKey_16 : decode cX2_isKey 16 = .ok (.iconst 0, 1) := by decide +kernel
theorem dX2_isKey_17 : decode cX2_isKey 17 = .ok (.ireturn, 1) := by decide +kernel
theorem dX2_signOfKey_0 : decode cX2_signOfKey 0 = .ok (.getstatic 251, 3) := by decide +kernel
theorem dX2_signOfKey_3 : decode cX2_signOfKey 3 = .ok (.iload_n 1, 1) := by decide +kernel
theorem dX2_signOfKey_4 : decode cX2_signOfKey 4 = .ok (.iaload, 1) := by decide +kernel
theorem dX2_signOfKey_5 : decode cX2_signOfKey 5 = .ok (.istore_n 2, 1) := by decide +kernel
theorem dX2_signOfKey_6 : decode cX2_signOfKey 6 = .ok (.bipush 6, 2) := by decide +kernel
theorem dX2_signOfKey_8 : decode cX2_signOfKey 8 = .ok (.iload_n 2, 1) := by decide +kernel
theorem dX2_signOfKey_9 : decode cX2_signOfKey 9 = .ok (.isub, 1) := by decide +kernel
theorem dX2_signOfKey_10 : decode cX2_signOfKey 10 = .ok (.istore_n 3, 1) := by decide +kernel
theorem dX2_signOfKey_11 : decode cX2_signOfKey 11 = .ok (.iload_n 2, 1) := by decide +kernel
theorem dX2_signOfKey_12 : decode cX2_signOfKey 12 = .ok (.iload_n 0, 1) := by decide +kernel
theorem dX2_signOfKey_13 : decode cX2_signOfKey 13 = .ok (.if_icmp .ge 5, 3) := by decide +kernel
theorem dX2_signOfKey_16 : decode cX2_signOfKey 16 = .ok (.iconst 1, 1) := by decide +kernel
theorem dX2_signOfKey_17 : decode cX2_signOfKey 17 = .ok (.ireturn, 1) := by decide +kernel
theorem dX2_signOfKey_18 : decode cX2_signOfKey 18 = .ok (.iload_n 3, 1) := by decide +kernel
theorem dX2_signOfKey_19 : decode cX2_signOfKey 19 = .ok (.iload_n 0, 1) := by decide +kernel
theorem dX2_signOfKey_20 : decode cX2_signOfKey 20 = .ok (.ineg, 1) := by decide +kernel
theorem dX2_signOfKey_21 : decode cX2_signOfKey 21 = .ok (.if_icmp .ge 7, 3) := by decide +kernel
theorem dX2_signOfKey_24 : decode cX2_signOfKey 24 = .ok (.iconst (-1), 1) := by decide +kernel
theorem dX2_signOfKey_25 : decode cX2_signOfKey 25 = .ok (.goto 4, 3) := by decide +kernel
theorem dX2_signOfKey_28 : decode cX2_signOfKey 28 = .ok (.iconst 0, 1) := by decide +kernel
theorem dX2_signOfKey_29 : decode cX2_signOfKey 29 = .ok (.ireturn, 1) := by decide +kernel
theorem dX2_toneOf_0 : decode cX2_toneOf 0 = .ok (.bipush 12, 2) := by decide +kernel
theorem dX2_toneOf_2 : decode cX2_toneOf 2 = .ok (.iload_n 2, 1) := by decide +kernel
theorem dX2_toneOf_3 : decode cX2_toneOf 3 = .ok (.imul, 1) := by decide +kernel
theorem dX2_toneOf_4 : decode cX2_toneOf 4 = .ok (.getstatic 254, 3) := by decide +kernel
theorem dX2_toneOf_7 : decode cX2_toneOf 7 = .ok (.iload_n 0, 1) := by decide +kernel
theorem dX2_toneOf_8 : decode cX2_toneOf 8 = .ok (.iaload, 1) := by decide +kernel
theorem dX2_toneOf_9 : decode cX2_toneOf 9 = .ok (.iadd, 1) := by decide +kernel
theorem dX2_toneOf_10 : decode cX2_toneOf 10 = .ok (.iload_n 1, 1) := by decide +kernel
theorem dX2_toneOf_11 : decode cX2_toneOf 11 = .ok (.iadd, 1) := by decide +kernel
theorem dX2_toneOf_12 : decode cX2_toneOf 12 = .ok (.ireturn, 1) := by decide +kernel
theorem dX2_isPitch_0 : decode cX2_isPitch 0 = .ok (.iload_n 0, 1) := by decide +kernel
theorem dX2_isPitch_1 : decode cX2_isPitch 1 = .ok (.ifCond .lt 19, 3) := by decide +kernel
theorem dX2_isPitch_4 : decode cX2_isPitch 4 = .ok (.iload_n 0, 1) := by decide +kernel
theorem dX2_isPitch_5 : decode cX2_isPitch 5 = .ok (.bipush 7, 2) := by decide +kernel
theorem dX2_isPitch_7 : decode cX2_isPitch 7 = .ok (.if_icmp .ge 13, 3) := by decide +kernel
theorem dX2_isPitch_10 : decode cX2_isPitch 10 = .ok (.iload_n 2, 1) := by decide +kernel
theorem dX2_isPitch_11 : decode cX2_isPitch 11 = .ok (.ifCond .lt 9, 3) := by decide +kernel
theorem dX2_isPitch_14 : decode cX2_isPitch 14 = .ok (.iload_n 2, 1) := by decide +kernel
theorem dX2_isPitch_15 : decode cX2_isPitch 15 = .ok (.bipush 9, 2) := by decide +kernel
theorem dX2_isPitch_17 : decode cX2_isPitch 17 = .ok (.if_icmp .lt 5, 3) := by decide +kernel
theorem dX2_isPitch_20 : decode cX2_isPitch 20 = .ok (.iconst 0, 1) := by decide +kernel
theorem dX2_isPitch_21 : decode cX2_isPitch 21 = .ok (.ireturn, 1) := by decide +kernel
theorem dX2_isPitch_22 : decode cX2_isPitch 22 = .ok (.iload_n 1, 1) := by decide +kernel
theorem dX2_isPitch_23 : decode cX2_isPitch 23 = .ok (.bipush (-2), 2) := by decide +kernel
theorem dX2_isPitch_25 : decode cX2_isPitch 25 = .ok (.if_icmp .lt 21, 3) := by decide +kernel
theorem dX2_isPitch_28 : decode cX2_isPitch 28 = .ok (.iload_n 1, 1) := by decide +kernel
theorem dX2_isPitch_29 : decode cX2_isPitch 29 = .ok (.iconst 2, 1) := by decide +kernel
theorem dX2_isPitch_30 : decode cX2_isPitch 30 = .ok (.if_icmp .gt 16, 3) := by decide +kernel
theorem dX2_isPitch_33 : decode cX2_isPitch 33 = .ok (.iload_n 0, 1) := by decide +kernel
theorem dX2_isPitch_34 : decode cX2_isPitch 34 = .ok (.iload_n 1, 1) := by decide +kernel
theorem dX2_isPitch_35 : decode cX2_isPitch 35 = .ok (.iload_n 2, 1) := by decide +kernel
theorem dX2_isPitch_36 : decode cX2_isPitch 36 = .ok (.invokestatic 269, 3) := by decide +kernel
theorem dX2_isPitch_39 : decode cX2_isPitch 39 = .ok (.ifCond .lt 7, 3) := by decide +kernel
theorem dX2_isPitch_42 : decode cX2_isPitch 42 = .ok (.iconst 1, 1) := by decide +kernel
theorem dX2_isPitch_43 : decode cX2_isPitch 43 = .ok (.goto 4, 3) := by decide +kernel
theorem dX2_isPitch_46 : decode cX2_isPitch 46 = .ok (.iconst 0, 1) := by decide +kernel
theorem dX2_isPitch_47 : decode cX2_isPitch 47 = .ok (.ireturn, 1) := by decide +kernel
theorem dX2_countParallels_0 : decode cX2_countParallels 0 = .ok (.iconst 0, 1) := by decide +kernel
theorem dX2_countParallels_1 : decode cX2_countParallels 1 = .ok (.istore_n 2, 1) := by decide +kernel
theorem dX2_countParallels_2 : decode cX2_countParallels 2 = .ok (.iconst (-1), 1) := by decide +kernel
theorem dX2_countParallels_3 : decode cX2_countParallels 3 = .ok (.istore_n 3, 1) := by decide +kernel
theorem dX2_countParallels_4 : decode cX2_countParallels 4 = .ok (.iconst (-1), 1) := by decide +kernel
theorem dX2_countParallels_5 : decode cX2_countParallels 5 = .ok (.istore 4, 2) := by decide +kernel
theorem dX2_countParallels_7 : decode cX2_countParallels 7 = .ok (.iconst 0, 1) := by decide +kernel
theorem dX2_countParallels_8 : decode cX2_countParallels 8 = .ok (.istore 5, 2) := by decide +kernel
theorem dX2_countParallels_10 : decode cX2_countParallels 10 = .ok (.iconst 0, 1) := by decide +kernel
theorem dX2_countParallels_11 : decode cX2_countParallels 11 = .ok (.istore 6, 2) := by decide +kernel
theorem dX2_countParallels_13 : decode cX2_countParallels 13 = .ok (.iload 6, 2) := by decide +kernel
theorem dX2_countParallels_15 : decode cX2_countParallels 15 = .ok (.aload_n 0, 1) := by decide +kernel
theorem dX2_countParallels_16 : decode cX2_countParallels 16 = .ok (.getfield 103, 3) := by decide +kernel
theorem dX2_countParallels_19 : decode cX2_countParallels 19 = .ok (.if_icmp .ge 152, 3) := by decide +kernel
theorem dX2_countParallels_22 : decode cX2_countParallels 22 = .ok (.aload_n 0, 1) := by decide +kernel
theorem dX2_countParallels_23 : decode cX2_countParallels 23 = .ok (.getfield 114, 3) := by decide +kernel
theorem dX2_countParallels_26 : decode cX2_countParallels 26 = .ok (.iconst 0, 1) := by decide +kernel
theorem dX2_countParallels_27 : decode cX2_countParallels 27 = .ok (.aaload, 1) := by decide +kernel
theorem dX2_countParallels_28 : decode cX2_countParallels 28 = .ok (.iload 6, 2) := by decide +kernel
theorem dX2_countParallels_30 : decode cX2_countParallels 30 = .ok (.iaload, 1) := by decide +kernel
theorem dX2_countParallels_31 : decode cX2_countParallels 31 = .ok (.istore 7, 2) := by decide +kernel
theorem dX2_countParallels_33 : decode cX2_countParallels 33 = .ok (.iload 5, 2) := by decide +kernel
theorem dX2_countParallels_35 : decode cX2_countParallels 35 = .ok (.aload_n 1, 1) := by decide +kernel
theorem dX2_countParallels_36 : decode cX2_countParallels 36 = .ok (.getfield 103, 3) := by decide +kernel
theorem dX2_countParallels_39 : decode cX2_countParallels 39 = .ok (.if_icmp .ge 23, 3) := by decide +kernel
theorem dX2_countParallels_42 : decode cX2_countParallels 42 = .ok (.aload_n 1, 1) := by decide +kernel
theorem dX2_countParallels_43 : decode cX2_countParallels 43 = .ok (.getfield 114, 3) := by decide +kernel
theorem dX2_countParallels_46 : decode cX2_countParallels 46 = .ok (.iconst 0, 1) := by decide +kernel
theorem dX2_countParallels_47 : decode cX2_countParallels 47 = .ok (.aaload, 1) := by decide +kernel
theorem dX2_countParallels_48 : decode cX2_countParallels 48 = .ok (.iload 5, 2) := by decide +kernel
theorem dX2_countParallels_50 : decode cX2_countParallels 50 = .ok (.iaload, 1) := by decide +kernel
theorem dX2_countParallels_51 : decode cX2_countParallels 51 = .ok (.iload 7, 2) := by decide +kernel
theorem dX2_countParallels_53 : decode cX2_countParallels 53 = .ok (.if_icmp .ge 9, 3) := by decide +kernel
theorem dX2_countParallels_56 : decode cX2_countParallels 56 = .ok (.iinc 5 1, 3) := by decide +kernel
theorem dX2_countParallels_59 : decode cX2_countParallels 59 = .ok (.goto (-26), 3) := by decide +kernel
theorem dX2_countParallels_62 : decode cX2_countParallels 62 = .ok (.iload 5, 2) := by decide +kernel
theorem dX2_countParallels_64 : decode cX2_countParallels 64 = .ok (.aload_n 1, 1) := by decide +kernel
theorem dX2_countParallels_65 : decode cX2_countParallels 65 = .ok (.getfield 103, 3) := by decide +kernel
theorem dX2_countParallels_68 : decode cX2_countParallels 68 = .ok (.if_icmp .ge 21, 3) := by decide +kernel
theorem dX2_countParallels_71 : decode cX2_countParallels 71 = .ok (.aload_n 1, 1) := by decide +kernel
theorem dX2_countParallels_72 : decode cX2_countParallels 72 = .ok (.getfield 114, 3) := by decide +kernel
theorem dX2_countParallels_75 : decode cX2_countParallels 75 = .ok (.iconst 0, 1) := by decide +kernel
theorem dX2_countParallels_76 : decode cX2_countParallels 76 = .ok (.aaload, 1) := by decide +kernel
theorem dX2_countParallels_77 : decode cX2_countParallels 77 = .ok (.iload 5, 2) := by decide +kernel
theorem dX2_countParallels_79 : decode cX2_countParallels 79 = .ok (.iaload, 1) := by decide +kernel
theorem dX2_countParallels_80 : decode cX2_countParallels 80 = .ok (.iload 7, 2) := by decide +kernel
theorem dX2_countParallels_82 : decode cX2_countParallels 82 = .ok (.if_icmp .ne 7, 3) := by decide +kernel
theorem dX2_countParallels_85 : decode cX2_countParallels 85 = .ok (.iconst 1, 1) := by decide +kernel
theorem dX2_countParallels_86 : decode cX2_countParallels 86 = .ok (.goto 4, 3) := by decide +kernel
theorem dX2_countParallels_89 : decode cX2_countParallels 89 = .ok (.iconst 0, 1) := by decide +kernel
theorem dX2_countParallels_90 : decode cX2_countParallels 90 = .ok (.istore 8, 2) := by decide +kernel
theorem dX2_countParallels_92 : decode cX2_countParallels 92 = .ok (.iload 8, 2) := by decide +kernel
theorem dX2_countParallels_94 : decode cX2_countParallels 94 = .ok (.ifCond .eq 71, 3) := by decide +kernel
theorem dX2_countParallels_97 : decode cX2_countParallels 97 = .ok (.aload_n 0, 1) := by decide +kernel
theorem dX2_countParallels_98 : decode cX2_countParallels 98 = .ok (.iload 6, 2) := by decide +kernel
theorem dX2_countParallels_100 : decode cX2_countParallels 100 = .ok (.invokevirtual 131, 3) := by decide +kernel
theorem dX2_countParallels_103 : decode cX2_countParallels 103 = .ok (.ifCond .eq 62, 3) := by decide +kernel
theorem dX2_countParallels_106 : decode cX2_countParallels 106 = .ok (.aload_n 1, 1) := by decide +kernel
theorem dX2_countParallels_107 : decode cX2_countParallels 107 = .ok (.iload 5, 2) := by decide +kernel
theorem dX2_countParallels_109 : decode cX2_countParallels 109 = .ok (.invokevirtual 131, 3) := by decide +kernel
theorem dX2_countParallels_112 : decode cX2_countParallels 112 = .ok (.ifCond .eq 53, 3) := by decide +kernel
theorem dX2_countParallels_115 : decode cX2_countParallels 115 = .ok (.aload_n 0, 1) := by decide +kernel
theorem dX2_countParallels_116 : decode cX2_countParallels 116 = .ok (.getfield 114, 3) := by decide +kernel
theorem dX2_countParallels_119 : decode cX2_countParallels 119 = .ok (.iconst 4, 1) := by decide +kernel
theorem dX2_countParallels_120 : decode cX2_countParallels 120 = .ok (.aaload, 1) := by decide +kernel
theorem dX2_countParallels_121 : decode cX2_countParallels 121 = .ok (.iload 6, 2) := by decide +kernel
theorem dX2_countParallels_123 : decode cX2_countParallels 123 = .ok (.iaload, 1) := by decide +kernel
theorem dX2_countParallels_124 : decode cX2_countParallels 124 = .ok (.istore 9, 2) := by decide +kernel
theorem dX2_countParallels_126 : decode cX2_countParallels 126 = .ok (.aload_n 1, 1) := by decide +kernel
theorem dX2_countParallels_127 : decode cX2_countParallels 127 = .ok (.getfield 114, 3) := by decide +kernel
theorem dX2_countParallels_130 : decode cX2_countParallels 130 = .ok (.iconst 4, 1) := by decide +kernel
theorem dX2_countParallels_131 : decode cX2_countParallels 131 = .ok (.aaload, 1) := by decide +kernel
theorem dX2_countParallels_132 : decode cX2_countParallels 132 = .ok (.iload 5, 2) := by decide +kernel
theorem dX2_countParallels_134 : decode cX2_countParallels 134 = .ok (.iaload, 1) := by decide +kernel
theorem dX2_countParallels_135 : decode cX2_countParallels 135 = .ok (.istore 10, 2) := by decide +kernel
theorem dX2_countParallels_137 : decode cX2_countParallels 137 = .ok (.iload_n 3, 1) := by decide +kernel
theorem dX2_countParallels_138 : decode cX2_countParallels 138 = .ok (.iconst (-1), 1) := by decide +kernel
theorem dX2_countParallels_139 : decode cX2_countParallels 139 = .ok (.if_icmp .eq 19, 3) := by decide +kernel
theorem dX2_countParallels_142 : decode cX2_countParallels 142 = .ok (.iload_n 3, 1) := by decide +kernel
theorem dX2_countParallels_143 : decode cX2_countParallels 143 = .ok (.iload 4, 2) := by decide +kernel
theorem dX2_countParallels_145 : decode cX2_countParallels 145 = .ok (.iload 9, 2) := by decide +kernel
theorem dX2_countParallels_147 : decode cX2_countParallels 147 = .ok (.iload 10, 2) := by decide +kernel
theorem dX2_countParallels_149 : decode cX2_countParallels 149 = .ok (.invokestatic 273, 3) := by decide +kernel
theorem dX2_countParallels_152 : decode cX2_countParallels 152 = .ok (.ifCond .eq 6, 3) := by decide +kernel
theorem dX2_countParallels_155 : decode cX2_countParallels 155 = .ok (.iinc 2 1, 3) := by decide +kernel
theorem dX2_countParallels_158 : decode cX2_countParallels 158 = .ok (.iload 9, 2) := by decide +kernel
theorem dX2_countParallels_160 : decode cX2_countParallels 160 = .ok (.istore_n 3, 1) := by decide +kernel
theorem dX2_countParallels_161 : decode cX2_countParallels 161 = .ok (.iload 10, 2) := by decide +kernel
theorem dX2_countParallels_163 : decode cX2_countParallels 163 = .ok (.istore 4, 2) := by decide +kernel
theorem dX2_countParallels_165 : decode cX2_countParallels 165 = .ok (.iinc 6 1, 3) := by decide +kernel
theorem dX2_countParallels_168 : decode cX2_countParallels 168 = .ok (.goto (-155), 3) := by decide +kernel
theorem dX2_countParallels_171 : decode cX2_countParallels 171 = .ok (.iload_n 2, 1) := by decide +kernel
theorem dX2_countParallels_172 : decode cX2_countParallels 172 = .ok (.ireturn, 1) := by decide +kernel
theorem dX2_isParallel_0 : decode cX2_isParallel 0 = .ok (.iload_n 3, 1) := by decide +kernel
theorem dX2_isParallel_1 : decode cX2_isParallel 1 = .ok (.iload_n 2, 1) := by decide +kernel
theorem dX2_isParallel_2 : decode cX2_isParallel 2 = .ok (.isub, 1) := by decide +kernel
theorem dX2_isParallel_3 : decode cX2_isParallel 3 = .ok (.bipush 12, 2) := by decide +kernel
theorem dX2_isParallel_5 : decode cX2_isParallel 5 = .ok (.invokestatic 257, 3) := by decide +kernel
theorem dX2_isParallel_8 : decode cX2_isParallel 8 = .ok (.istore 4, 2) := by decide +kernel
theorem dX2_isParallel_10 : decode cX2_isParallel 10 = .ok (.iload 4, 2) := by decide +kernel
theorem dX2_isParallel_12 : decode cX2_isParallel 12 = .ok (.ifCond .eq 12, 3) := by decide +kernel
theorem dX2_isParallel_15 : decode cX2_isParallel 15 = .ok (.iload 4, 2) := by decide +kernel
theorem dX2_isParallel_17 : decode cX2_isParallel 17 = .ok (.bipush 7, 2) := by decide +kernel
theorem dX2_isParallel_19 : decode cX2_isParallel 19 = .ok (.if_icmp .eq 5, 3) := by decide +kernel
theorem dX2_isParallel_22 : decode cX2_isParallel 22 = .ok (.iconst 0, 1) := by decide +kernel
theorem dX2_isParallel_23 : decode cX2_isParallel 23 = .ok (.ireturn, 1) := by decide +kernel
theorem dX2_isParallel_24 : decode cX2_isParallel 24 = .ok (.iload 4, 2) := by decide +kernel
theorem dX2_isParallel_26 : decode cX2_isParallel 26 = .ok (.iload_n 1, 1) := by decide +kernel
theorem dX2_isParallel_27 : decode cX2_isParallel 27 = .ok (.iload_n 0, 1) := by decide +kernel
theorem dX2_isParallel_28 : decode cX2_isParallel 28 = .ok (.isub, 1) := by decide +kernel
theorem dX2_isParallel_29 : decode cX2_isParallel 29 = .ok (.bipush 12, 2) := by decide +kernel
theorem dX2_isParallel_31 : decode cX2_isParallel 31 = .ok (.invokestatic 257, 3) := by decide +kernel
theorem dX2_isParallel_34 : decode cX2_isParallel 34 = .ok (.if_icmp .eq 5, 3) := by decide +kernel
theorem dX2_isParallel_37 : decode cX2_isParallel 37 = .ok (.iconst 0, 1) := by decide +kernel
theorem dX2_isParallel_38 : decode cX2_isParallel 38 = .ok (.ireturn, 1) := by decide +kernel
theorem dX2_isParallel_39 : decode cX2_isParallel 39 = .ok (.iload_n 2, 1) := by decide +kernel
theorem dX2_isParallel_40 : decode cX2_isParallel 40 = .ok (.iload_n 0, 1) := by decide +kernel
theorem dX2_isParallel_41 : decode cX2_isParallel 41 = .ok (.if_icmp .le 12, 3) := by decide +kernel
theorem dX2_isParallel_44 : decode cX2_isParallel 44 = .ok (.iload_n 3, 1) := by decide +kernel
theorem dX2_isParallel_45 : decode cX2_isParallel 45 = .ok (.iload_n 1, 1) := by decide +kernel
theorem dX2_isParallel_46 : decode cX2_isParallel 46 = .ok (.if_icmp .le 7, 3) := by decide +kernel
theorem dX2_isParallel_49 : decode cX2_isParallel 49 = .ok (.iconst 1, 1) := by decide +kernel
theorem dX2_isParallel_50 : decode cX2_isParallel 50 = .ok (.goto 4, 3) := by decide +kernel
theorem dX2_isParallel_53 : decode cX2_isParallel 53 = .ok (.iconst 0, 1) := by decide +kernel
theorem dX2_isParallel_54 : decode cX2_isParallel 54 = .ok (.istore 5, 2) := by decide +kernel
theorem dX2_isParallel_56 : decode cX2_isParallel 56 = .ok (.iload_n 2, 1) := by decide +kernel
theorem dX2_isParallel_57 : decode cX2_isParallel 57 = .ok (.iload_n 0, 1) := by decide +kernel
theorem dX2_isParallel_58 : decode cX2_isParallel 58 = .ok (.if_icmp .ge 12, 3) := by decide +kernel
theorem dX2_isParallel_61 : decode cX2_isParallel 61 = .ok (.iload_n 3, 1) := by decide +kernel
theorem dX2_isParallel_62 : decode cX2_isParallel 62 = .ok (.iload_n 1, 1) := by decide +kernel
theorem dX2_isParallel_63 : decode cX2_isParallel 63 = .ok (.if_icmp .ge 7, 3) := by decide +kernel
theorem dX2_isParallel_66 : decode cX2_isParallel 66 = .ok (.iconst 1, 1) := by decide +kernel
theorem dX2_isParallel_67 : decode cX2_isParallel 67 = .ok (.goto 4, 3) := by decide +kernel
theorem dX2_isParallel_70 : decode cX2_isParallel 70 = .ok (.iconst 0, 1) := by decide +kernel
theorem dX2_isParallel_71 : decode cX2_isParallel 71 = .ok (.istore 6, 2) := by decide +kernel
theorem dX2_isParallel_73 : decode cX2_isParallel 73 = .ok (.iload 5, 2) := by decide +kernel
theorem dX2_isParallel_75 : decode cX2_isParallel 75 = .ok (.ifCond .ne 8, 3) := by decide +kernel
theorem dX2_isParallel_78 : decode cX2_isParallel 78 = .ok (.iload 6, 2) := by decide +kernel
theorem dX2_isParallel_80 : decode cX2_isParallel 80 = .ok (.ifCond .eq 7, 3) := by decide +kernel
theorem dX2_isParallel_83 : decode cX2_isParallel 83 = .ok (.iconst 1, 1) := by decide +kernel
theorem dX2_isParallel_84 : decode cX2_isParallel 84 = .ok (.goto 4, 3) := by decide +kernel
theorem dX2_isParallel_87 : decode cX2_isParallel 87 = .ok (.iconst 0, 1) := by decide +kernel
theorem dX2_isParallel_88 : decode cX2_isParallel 88 = .ok (.ireturn, 1) := by decide +kernel
theorem dX2_countEvents_0 : decode cX2_countEvents 0 = .ok (.iconst 0, 1) := by decide +kernel
theorem dX2_countEvents_1 : decode cX2_countEvents 1 = .ok (.istore_n 1, 1) := by decide +kernel
theorem dX2_countEvents_2 : decode cX2_countEvents 2 = .ok (.iconst 0, 1) := by decide +kernel
theorem dX2_countEvents_3 : decode cX2_countEvents 3 = .ok (.istore_n 2, 1) := by decide +kernel
theorem dX2_countEvents_4 : decode cX2_countEvents 4 = .ok (.iload_n 2, 1) := by decide +kernel
theorem dX2_countEvents_5 : decode cX2_countEvents 5 = .ok (.aload_n 0, 1) := by decide +kernel
theorem dX2_countEvents_6 : decode cX2_countEvents 6 = .ok (.getfield 26, 3) := by decide +kernel
theorem dX2_countEvents_9 : decode cX2_countEvents 9 = .ok (.if_icmp .ge 21, 3) := by decide +kernel
theorem dX2_countEvents_12 : decode cX2_countEvents 12 = .ok (.iload_n 1, 1) := by decide +kernel
theorem dX2_countEvents_13 : decode cX2_countEvents 13 = .ok (.aload_n 0, 1) := by decide +kernel
theorem dX2_countEvents_14 : decode cX2_countEvents 14 = .ok (.getfield 11, 3) := by decide +kernel
theorem dX2_countEvents_17 : decode cX2_countEvents 17 = .ok (.iload_n 2, 1) := by decide +kernel
theorem dX2_countEvents_18 : decode cX2_countEvents 18 = .ok (.aaload, 1) := by decide +kernel
theorem dX2_countEvents_19 : decode cX2_countEvents 19 = .ok (.getfield 277, 3) := by decide +kernel
theorem dX2_countEvents_22 : decode cX2_countEvents 22 = .ok (.iadd, 1) := by decide +kernel
theorem dX2_countEvents_23 : decode cX2_countEvents 23 = .ok (.istore_n 1, 1) := by decide +kernel
theorem dX2_countEvents_24 : decode cX2_countEvents 24 = .ok (.iinc 2 1, 3) := by decide +kernel
theorem dX2_countEvents_27 : decode cX2_countEvents 27 = .ok (.goto (-23), 3) := by decide +kernel
theorem dX2_countEvents_30 : decode cX2_countEvents 30 = .ok (.iconst 2, 1) := by decide +kernel
theorem dX2_countEvents_31 : decode cX2_countEvents 31 = .ok (.iload_n 1, 1) := by decide +kernel
theorem dX2_countEvents_32 : decode cX2_countEvents 32 = .ok (.imul, 1) := by decide +kernel
theorem dX2_countEvents_33 : decode cX2_countEvents 33 = .ok (.ireturn, 1) := by decide +kernel
theorem dX2_refreshEvents_0 : decode cX2_refreshEvents 0 = .ok (.aload_n 0, 1) := by decide +kernel
theorem dX2_refreshEvents_1 : decode cX2_refreshEvents 1 = .ok (.getfield 39, 3) := by decide +kernel
theorem dX2_refreshEvents_4 : decode cX2_refreshEvents 4 = .ok (.ifCond .ne 27, 3) := by decide +kernel
theorem dX2_refreshEvents_7 : decode cX2_refreshEvents 7 = .ok (.aload_n 0, 1) := by decide +kernel
theorem dX2_refreshEvents_8 : decode cX2_refreshEvents 8 = .ok (.getfield 18, 3) := by decide +kernel
theorem dX2_refreshEvents_11 : decode cX2_refreshEvents 11 = .ok (.aload_n 0, 1) := by decide +kernel
theorem dX2_refreshEvents_12 : decode cX2_refreshEvents 12 = .ok (.getfield 11, 3) := by decide +kernel
theorem dX2_refreshEvents_15 : decode cX2_refreshEvents 15 = .ok (.aload_n 0, 1) := by decide +kernel
theorem dX2_refreshEvents_16 : decode cX2_refreshEvents 16 = .ok (.getfield 26, 3) := by decide +kernel
theorem dX2_refreshEvents_19 : decode cX2_refreshEvents 19 = .ok (.aload_n 0, 1) := by decide +kernel
theorem dX2_refreshEvents_20 : decode cX2_refreshEvents 20 = .ok (.invokevirtual 183, 3) := by decide +kernel
theorem dX2_refreshEvents_23 : decode cX2_refreshEvents 23 = .ok (.invokevirtual 280, 3) := by decide +kernel
theorem dX2_refreshEvents_26 : decode cX2_refreshEvents 26 = .ok (.aload_n 0, 1) := by decide +kernel
theorem dX2_refreshEvents_27 : decode cX2_refreshEvents 27 = .ok (.iconst 1, 1) := by decide +kernel
theorem dX2_refreshEvents_28 : decode cX2_refreshEvents 28 = .ok (.putfield 39, 3) := by decide +kernel
theorem dX2_refreshEvents_31 : decode cX2_refreshEvents 31 = .ok (.return_, 1) := by decide +kernel
theorem dX2_digestVoice_0 : decode cX2_digestVoice 0 = .ok (.lload_n 0, 1) := by decide +kernel
theorem dX2_digestVoice_1 : decode cX2_digestVoice 1 = .ok (.lstore_n 3, 1) := by decide +kernel
theorem dX2_digestVoice_2 : decode cX2_digestVoice 2 = .ok (.iconst 0, 1) := by decide +kernel
theorem dX2_digestVoice_3 : decode cX2_digestVoice 3 = .ok (.istore 5, 2) := by decide +kernel
theorem dX2_digestVoice_5 : decode cX2_digestVoice 5 = .ok (.iload 5, 2) := by decide +kernel
theorem dX2_digestVoice_7 : decode cX2_digestVoice 7 = .ok (.bipush 7, 2) := by decide +kernel
theorem dX2_digestVoice_9 : decode cX2_digestVoice 9 = .ok (.if_icmp .ge 23, 3) := by decide +kernel
theorem dX2_digestVoice_12 : decode cX2_digestVoice 12 = .ok (.lload_n 3, 1) := by decide +kernel
theorem dX2_digestVoice_13 : decode cX2_digestVoice 13 = .ok (.ldc2_w 201, 3) := by decide +kernel
theorem dX2_digestVoice_16 : decode cX2_digestVoice 16 = .ok (.lmul, 1) := by decide +kernel
theorem dX2_digestVoice_17 : decode cX2_digestVoice 17 = .ok (.aload_n 2, 1) := by decide +kernel
theorem dX2_digestVoice_18 : decode cX2_digestVoice 18 = .ok (.iload 5, 2) := by decide +kernel
theorem dX2_digestVoice_20 : decode cX2_digestVoice 20 = .ok (.invokevirtual 148, 3) := by decide +kernel
theorem dX2_digestVoice_23 : decode cX2_digestVoice 23 = .ok (.i2l, 1) := by decide +kernel
theorem dX2_digestVoice_24 : decode cX2_digestVoice 24 = .ok (.ladd, 1) := by decide +kernel
theorem dX2_digestVoice_25 : decode cX2_digestVoice 25 = .ok (.lstore_n 3, 1) := by decide +kernel
theorem dX2_digestVoice_26 : decode cX2_digestVoice 26 = .ok (.iinc 5 1, 3) := by decide +kernel
theorem dX2_digestVoice_29 : decode cX2_digestVoice 29 = .ok (.goto (-24), 3) := by decide +kernel
theorem dX2_digestVoice_32 : decode cX2_digestVoice 32 = .ok (.iconst 0, 1) := by decide +kernel
theorem dX2_digestVoice_33 : decode cX2_digestVoice 33 = .ok (.istore 5, 2) := by decide +kernel
theorem dX2_digestVoice_35 : decode cX2_digestVoice 35 = .ok (.iload 5, 2) := by decide +kernel
theorem dX2_digestVoice_37 : decode cX2_digestVoice 37 = .ok (.aload_n 2, 1) := by decide +kernel
theorem dX2_digestVoice_38 : decode cX2_digestVoice 38 = .ok (.getfield 103, 3) := by decide +kernel
theorem dX2_digestVoice_41 : decode cX2_digestVoice 41 = .ok (.if_icmp .ge 43, 3) := by decide +kernel
theorem dX2_digestVoice_44 : decode cX2_digestVoice 44 = .ok (.iconst 0, 1) := by decide +kernel
theorem dX2_digestVoice_45 : decode cX2_digestVoice 45 = .ok (.istore 6, 2) := by decide +kernel
theorem dX2_digestVoice_47 : decode cX2_digestVoice 47 = .ok (.iload 6, 2) := by decide +kernel
theorem dX2_digestVoice_49 : decode cX2_digestVoice 49 = .ok (.bipush 9, 2) := by decide +kernel
theorem dX2_digestVoice_51 : decode cX2_digestVoice 51 = .ok (.if_icmp .ge 27, 3) := by decide +kernel
theorem dX2_digestVoice_54 : decode cX2_digestVoice 54 = .ok (.lload_n 3, 1) := by decide +kernel
theorem dX2_digestVoice_55 : decode cX2_digestVoice 55 = .ok (.ldc2_w 201, 3) := by decide +kernel
theorem dX2_digestVoice_58 : decode cX2_digestVoice 58 = .ok (.lmul, 1) := by decide +kernel
theorem dX2_digestVoice_59 : decode cX2_digestVoice 59 = .ok (.aload_n 2, 1) := by decide +kernel
theorem dX2_digestVoice_60 : decode cX2_digestVoice 60 = .ok (.getfield 114, 3) := by decide +kernel
theorem dX2_digestVoice_63 : decode cX2_digestVoice 63 = .ok (.iload 6, 2) := by decide +kernel
theorem dX2_digestVoice_65 : decode cX2_digestVoice 65 = .ok (.aaload, 1) := by decide +kernel
theorem dX2_digestVoice_66 : decode cX2_digestVoice 66 = .ok (.iload 5, 2) := by decide +kernel
theorem dX2_digestVoice_68 : decode cX2_digestVoice 68 = .ok (.iaload, 1) := by decide +kernel
theorem dX2_digestVoice_69 : decode cX2_digestVoice 69 = .ok (.i2l, 1) := by decide +kernel
theorem dX2_digestVoice_70 : decode cX2_digestVoice 70 = .ok (.ladd, 1) := by decide +kernel
theorem dX2_digestVoice_71 : decode cX2_digestVoice 71 = .ok (.lstore_n 3, 1) := by decide +kernel
theorem dX2_digestVoice_72 : decode cX2_digestVoice 72 = .ok (.iinc 6 1, 3) := by decide +kernel
theorem dX2_digestVoice_75 : decode cX2_digestVoice 75 = .ok (.goto (-28), 3) := by decide +kernel
theorem dX2_digestVoice_78 : decode cX2_digestVoice 78 = .ok (.iinc 5 1, 3) := by decide +kernel
theorem dX2_digestVoice_81 : decode cX2_digestVoice 81 = .ok (.goto (-46), 3) := by decide +kernel
theorem dX2_digestVoice_84 : decode cX2_digestVoice 84 = .ok (.lload_n 3, 1) := by decide +kernel
theorem dX2_digestVoice_85 : decode cX2_digestVoice 85 = .ok (.lreturn, 1) := by decide +kernel
theorem dX2_digestEvents_0 : decode cX2_digestEvents 0 = .ok (.lload_n 1, 1) := by decide +kernel
theorem dX2_digestEvents_1 : decode cX2_digestEvents 1 = .ok (.lstore_n 3, 1) := by decide +kernel
theorem dX2_digestEvents_2 : decode cX2_digestEvents 2 = .ok (.aload_n 0, 1) := by decide +kernel
theorem dX2_digestEvents_3 : decode cX2_digestEvents 3 = .ok (.invokevirtual 183, 3) := by decide +kernel
theorem dX2_digestEvents_6 : decode cX2_digestEvents 6 = .ok (.istore 5, 2) := by decide +kernel
theorem dX2_digestEvents_8 : decode cX2_digestEvents 8 = .ok (.iconst 0, 1) := by decide +kernel
theorem dX2_digestEvents_9 : decode cX2_digestEvents 9 = .ok (.istore 6, 2) := by decide +kernel
theorem dX2_digestEvents_11 : decode cX2_digestEvents 11 = .ok (.iload 6, 2) := by decide +kernel
theorem dX2_digestEvents_13 : decode cX2_digestEvents 13 = .ok (.iload 5, 2) := by decide +kernel
theorem dX2_digestEvents_15 : decode cX2_digestEvents 15 = .ok (.if_icmp .ge 45, 3) := by decide +kernel
theorem dX2_digestEvents_18 : decode cX2_digestEvents 18 = .ok (.iconst 0, 1) := by decide +kernel
theorem dX2_digestEvents_19 : decode cX2_digestEvents 19 = .ok (.istore 7, 2) := by decide +kernel
theorem dX2_digestEvents_21 : decode cX2_digestEvents 21 = .ok (.iload 7, 2) := by decide +kernel
theorem dX2_digestEvents_23 : decode cX2_digestEvents 23 = .ok (.iconst 4, 1) := by decide +kernel
theorem dX2_digestEvents_24 : decode cX2_digestEvents 24 = .ok (.if_icmp .ge 30, 3) := by decide +kernel
theorem dX2_digestEvents_27 : decode cX2_digestEvents 27 = .ok (.lload_n 3, 1) := by decide +kernel
theorem dX2_digestEvents_28 : decode cX2_digestEvents 28 = .ok (.ldc2_w 201, 3) := by decide +kernel
theorem dX2_digestEvents_31 : decode cX2_digestEvents 31 = .ok (.lmul, 1) := by decide +kernel
theorem dX2_digestEvents_32 : decode cX2_digestEvents 32 = .ok (.aload_n 0, 1) := by decide +kernel
theorem dX2_digestEvents_33 : decode cX2_digestEvents 33 = .ok (.getfield 18, 3) := by decide +kernel
theorem dX2_digestEvents_36 : decode cX2_digestEvents 36 = .ok (.getfield 193, 3) := by decide +kernel
theorem dX2_digestEvents_39 : decode cX2_digestEvents 39 = .ok (.iload 7, 2) := by decide +kernel
theorem dX2_digestEvents_41 : decode cX2_digestEvents 41 = .ok (.aaload, 1) := by decide +kernel
theorem dX2_digestEvents_42 : decode cX2_digestEvents 42 = .ok (.iload 6, 2) := by decide +kernel
theorem dX2_digestEvents_44 : decode cX2_digestEvents 44 = .ok (.iaload, 1) := by decide +kernel
theorem dX2_digestEvents_45 : decode cX2_digestEvents 45 = .ok (.i2l, 1) := by decide +kernel
theorem dX2_digestEvents_46 : decode cX2_digestEvents 46 = .ok (.ladd, 1) := by decide +kernel
theorem dX2_digestEvents_47 : decode cX2_digestEvents 47 = .ok (.lstore_n 3, 1) := by decide +kernel
theorem dX2_digestEvents_48 : decode cX2_digestEvents 48 = .ok (.iinc 7 1, 3) := by decide +kernel
theorem dX2_digestEvents_51 : decode cX2_digestEvents 51 = .ok (.goto (-30), 3) := by decide +kernel
theorem dX2_digestEvents_54 : decode cX2_digestEvents 54 = .ok (.iinc 6 1, 3) := by decide +kernel
theorem dX2_digestEvents_57 : decode cX2_digestEvents 57 = .ok (.goto (-46), 3) := by decide +kernel
theorem dX2_digestEvents_60 : decode cX2_digestEvents 60 = .ok (.lload_n 3, 1) := by decide +kernel
theorem dX2_digestEvents_61 : decode cX2_digestEvents 61 = .ok (.lreturn, 1) := by decide +kernel
theorem dX3_init_0 : decode cX3_init 0 = .ok (.aload_n 0, 1) := by decide +kernel
theorem dX3_init_1 : decode cX3_init 1 = .ok (.invokespecial 1, 3) := by decide +kernel
theorem dX3_init_4 : decode cX3_init 4 = .ok (.aload_n 0, 1) := by decide +kernel
theorem dX3_init_5 : decode cX3_init 5 = .ok (.iconst 4, 1) := by decide +kernel
theorem dX3_init_6 : decode cX3_init 6 = .ok (.putfield 7, 3) := by decide +kernel
theorem dX3_init_9 : decode cX3_init 9 = .ok (.aload_n 0, 1) := by decide +kernel
theorem dX3_init_10 : decode cX3_init 10 = .ok (.iconst 4, 1) := by decide +kernel
theorem dX3_init_11 : decode cX3_init 11 = .ok (.putfield 13, 3) := by decide +kernel
theorem dX3_init_14 : decode cX3_init 14 = .ok (.aload_n 0, 1) := by decide +kernel
theorem dX3_init_15 : decode cX3_init 15 = .ok (.iconst 0, 1) := by decide +kernel
theorem dX3_init_16 : decode cX3_init 16 = .ok (.anewarray 16, 3) := by decide +kernel
theorem dX3_init_19 : decode cX3_init 19 = .ok (.putfield 18, 3) := by decide +kernel
theorem dX3_init_22 : decode cX3_init 22 = .ok (.return_, 1) := by decide +kernel
theorem dX3_bar_0 : decode cX3_bar 0 = .ok (.aload_n 0, 1) := by decide +kernel
theorem dX3_bar_1 : decode cX3_bar 1 = .ok (.getfield 7, 3) := by decide +kernel
theorem dX3_bar_4 : decode cX3_bar 4 = .ok (.sipush 384, 3) := by decide +kernel
theorem dX3_bar_7 : decode cX3_bar 7 = .ok (.imul, 1) := by decide +kernel
theorem dX3_bar_8 : decode cX3_bar 8 = .ok (.aload_n 0, 1) := by decide +kernel
theorem dX3_bar_9 : decode cX3_bar 9 = .ok (.getfield 13, 3) := by decide +kernel
theorem dX3_bar_12 : decode cX3_bar 12 = .ok (.idiv, 1) := by decide +kernel
theorem dX3_bar_13 : decode cX3_bar 13 = .ok (.ireturn, 1) := by decide +kernel
theorem dX3_ticks_0 : decode cX3_ticks 0 = .ok (.sipush 384, 3) := by decide +kernel
theorem dX3_ticks_3 : decode cX3_ticks 3 = .ok (.iload_n 0, 1) := by decide +kernel
theorem dX3_ticks_4 : decode cX3_ticks 4 = .ok (.idiv, 1) := by decide +kernel
theorem dX3_ticks_5 : decode cX3_ticks 5 = .ok (.iload_n 1, 1) := by decide +kernel
theorem dX3_ticks_6 : decode cX3_ticks 6 = .ok (.ifCond .ne 7, 3) := by decide +kernel
theorem dX3_ticks_9 : decode cX3_ticks 9 = .ok (.iconst 4, 1) := by decide +kernel
theorem dX3_ticks_10 : decode cX3_ticks 10 = .ok (.goto 15, 3) := by decide +kernel
theorem dX3_ticks_13 : decode cX3_ticks 13 = .ok (.iload_n 1, 1) := by decide +kernel
theorem dX3_ticks_14 : decode cX3_ticks 14 = .ok (.iconst 1, 1) := by decide +kernel
theorem dX3_ticks_15 : decode cX3_ticks 15 = .ok (.if_icmp .ne 8, 3) := by decide +kernel
theorem dX3_ticks_18 : decode cX3_ticks 18 = .ok (.bipush 6, 2) := by decide +kernel
theorem dX3_ticks_20 : decode cX3_ticks 20 = .ok (.goto 5, 3) := by decide +kernel
theorem dX3_ticks_23 : decode cX3_ticks 23 = .ok (.bipush 7, 2) := by decide +kernel
theorem dX3_ticks_25 : decode cX3_ticks 25 = .ok (.imul, 1) := by decide +kernel
theorem dX3_ticks_26 : decode cX3_ticks 26 = .ok (.iconst 4, 1) := by decide +kernel
theorem dX3_ticks_27 : decode cX3_ticks 27 = .ok (.idiv, 1) := by decide +kernel
theorem dX3_ticks_28 : decode cX3_ticks 28 = .ok (.ireturn, 1) := by decide +kernel
theorem dX3_more_0 : decode cX3_more 0 = .ok (.aload_n 0, 1) := by decide +kernel
theorem dX3_more_1 : decode cX3_more 1 = .ok (.arraylength, 1) := by decide +kernel
theorem dX3_more_2 : decode cX3_more 2 = .ok (.iconst 1, 1) := by decide +kernel
theorem dX3_more_3 : decode cX3_more 3 = .ok (.iadd, 1) := by decide +kernel
theorem dX3_more_4 : decode cX3_more 4 = .ok (.anewarray 30, 3) := by decide +kernel
theorem dX3_more_7 : decode cX3_more 7 = .ok (.astore_n 2, 1) := by decide +kernel
theorem dX3_more_8 : decode cX3_more 8 = .ok (.iconst 0, 1) := by decide +kernel
theorem dX3_more_9 : decode cX3_more 9 = .ok (.istore_n 3, 1) := by decide +kernel
theorem dX3_more_10 : decode cX3_more 10 = .ok (.iload_n 3, 1) := by decide +kernel
theorem dX3_more_11 : decode cX3_more 11 = .ok (.aload_n 0, 1) := by decide +kernel
theorem dX3_more_12 : decode cX3_more 12 = .ok (.arraylength, 1) := by decide +kernel
theorem dX3_more_13 : decode cX3_more 13 = .ok (.if_icmp .ge 15, 3) := by decide +kernel
theorem dX3_more_16 : decode cX3_more 16 = .ok (.aload_n 2, 1) := by decide +kernel
theorem dX3_more_17 : decode cX3_more 17 = .ok (.iload_n 3, 1) := by decide +kernel
theorem dX3_more_18 : decode cX3_more 18 = .ok (.aload_n 0, 1) := by decide +kernel
theorem dX3_more_19 : decode cX3_more 19 = .ok (.iload_n 3, 1) := by decide +kernel
theorem dX3_more_20 : decode cX3_more 20 = .ok (.aaload, 1) := by decide +kernel
theorem dX3_more_21 : decode cX3_more 21 = .ok (.aastore, 1) := by decide +kernel
theorem dX3_more_22 : decode cX3_more 22 = .ok (.iinc 3 1, 3) := by decide +kernel
theorem dX3_more_25 : decode cX3_more 25 = .ok (.goto (-15), 3) := by decide +kernel
theorem dX3_more_28 : decode cX3_more 28 = .ok (.aload_n 2, 1) := by decide +kernel
theorem dX3_more_29 : decode cX3_more 29 = .ok (.aload_n 0, 1) := by decide +kernel
theorem dX3_more_30 : decode cX3_more 30 = .ok (.arraylength, 1) := by decide +kernel
theorem dX3_more_31 : decode cX3_more 31 = .ok (.aload_n 1, 1) := by decide +kernel
theorem dX3_more_32 : decode cX3_more 32 = .ok (.aastore, 1) := by decide +kernel
theorem dX3_more_33 : decode cX3_more 33 = .ok (.aload_n 2, 1) := by decide +kernel
theorem dX3_more_34 : decode cX3_more 34 = .ok (.areturn, 1) := by decide +kernel
theorem dX3_addVoice_0 : decode cX3_addVoice 0 = .ok (.aload_n 0, 1) := by decide +kernel
theorem dX3_addVoice_1 : decode cX3_addVoice 1 = .ok (.getfield 18, 3) := by decide +kernel
theorem dX3_addVoice_4 : decode cX3_addVoice 4 = .ok (.arraylength, 1) := by decide +kernel
theorem dX3_addVoice_5 : decode cX3_addVoice 5 = .ok (.iconst 1, 1) := by decide +kernel
theorem dX3_addVoice_6 : decode cX3_addVoice 6 = .ok (.iadd, 1) := by decide +kernel
theorem dX3_addVoice_7 : decode cX3_addVoice 7 = .ok (.anewarray 16, 3) := by decide +kernel
theorem dX3_addVoice_10 : decode cX3_addVoice 10 = .ok (.astore_n 1, 1) := by decide +kernel
theorem dX3_addVoice_11 : decode cX3_addVoice 11 = .ok (.iconst 0, 1) := by decide +kernel
theorem dX3_addVoice_12 : decode cX3_addVoice 12 = .ok (.istore_n 2, 1) := by decide +kernel
theorem dX3_addVoice_13 : decode cX3_addVoice 13 = .ok (.iload_n 2, 1) := by decide +kernel
theorem dX3_addVoice_14 : decode cX3_addVoice 14 = .ok (.aload_n 0, 1) := by decide +kernel
theorem dX3_addVoice_15 : decode cX3_addVoice 15 = .ok (.getfield 18, 3) := by decide +kernel
theorem dX3_addVoice_18 : decode cX3_addVoice 18 = .ok (.arraylength, 1) := by decide +kernel
theorem dX3_addVoice_19 : decode cX3_addVoice 19 = .ok (.if_icmp .ge 18, 3) := by decide +kernel
theorem dX3_addVoice_22 : decode cX3_addVoice 22 = .ok (.aload_n 1, 1) := by decide +kernel
theorem dX3_addVoice_23 : decode cX3_addVoice 23 = .ok (.iload_n 2, 1) := by decide +kernel
theorem dX3_addVoice_24 : decode cX3_addVoice 24 = .ok (.aload_n 0, 1) := by decide +kernel
theorem dX3_addVoice_25 : decode cX3_addVoice 25 = .ok (.getfield 18, 3) := by decide +kernel
theorem dX3_addVoice_28 : decode cX3_addVoice 28 = .ok (.iload_n 2, 1) := by decide +kernel
theorem dX3_addVoice_29 : decode cX3_addVoice 29 = .ok (.aaload, 1) := by decide +kernel
theorem dX3_addVoice_30 : decode cX3_addVoice 30 = .ok (.aastore, 1) := by decide +kernel
theorem dX3_addVoice_31 : decode cX3_addVoice 31 = .ok (.iinc 2 1, 3) := by decide +kernel
theorem dX3_addVoice_34 : decode cX3_addVoice 34 = .ok (.goto (-21), 3) := by decide +kernel
theorem dX3_addVoice_37 : decode cX3_addVoice 37 = .ok (.aload_n 1, 1) := by decide +kernel
theorem dX3_addVoice_38 : decode cX3_addVoice 38 = .ok (.aload_n 0, 1) := by decide +kernel
theorem dX3_addVoice_39 : decode cX3_addVoice 39 = .ok (.getfield 18, 3) := by decide +kernel
theorem dX3_addVoice_42 : decode cX3_addVoice 42 = .ok (.arraylength, 1) := by decide +kernel
theorem dX3_addVoice_43 : decode cX3_addVoice 43 = .ok (.iconst 0, 1) := by decide +kernel
theorem dX3_addVoice_44 : decode cX3_addVoice 44 = .ok (.anewarray 30, 3) := by decide +kernel
theorem dX3_addVoice_47 : decode cX3_addVoice 47 = .ok (.aastore, 1) := by decide +kernel
theorem dX3_addVoice_48 : decode cX3_addVoice 48 = .ok (.aload_n 0, 1) := by decide +kernel
theorem dX3_addVoice_49 : decode cX3_addVoice 49 = .ok (.aload_n 1, 1) := by decide +kernel
theorem dX3_addVoice_50 : decode cX3_addVoice 50 = .ok (.putfield 18, 3) := by decide +kernel
theorem dX3_addVoice_53 : decode cX3_addVoice 53 = .ok (.return_, 1) := by decide +kernel
theorem dX3_end_0 : decode cX3_end 0 = .ok (.aload_n 0, 1) := by decide +kernel
theorem dX3_end_1 : decode cX3_end 1 = .ok (.getfield 18, 3) := by decide +kernel
theorem dX3_end_4 : decode cX3_end 4 = .ok (.iload_n 1, 1) := by decide +kernel
theorem dX3_end_5 : decode cX3_end 5 = .ok (.aaload, 1) := by decide +kernel
theorem dX3_end_6 : decode cX3_end 6 = .ok (.astore_n 2, 1) := by decide +kernel
theorem dX3_end_7 : decode cX3_end 7 = .ok (.aload_n 2, 1) := by decide +kernel
theorem dX3_end_8 : decode cX3_end 8 = .ok (.arraylength, 1) := by decide +kernel
theorem dX3_end_9 : decode cX3_end 9 = .ok (.ifCond .ne 7, 3) := by decide +kernel
theorem dX3_end_12 : decode cX3_end 12 = .ok (.iconst 0, 1) := by decide +kernel
theorem dX3_end_13 : decode cX3_end 13 = .ok (.goto 22, 3) := by decide +kernel
theorem dX3_end_16 : decode cX3_end 16 = .ok (.aload_n 2, 1) := by decide +kernel
theorem dX3_end_17 : decode cX3_end 17 = .ok (.aload_n 2, 1) := by decide +kernel
theorem dX3_end_18 : decode cX3_end 18 = .ok (.arraylength, 1) := by decide +kernel
theorem dX3_end_19 : decode cX3_end 19 = .ok (.iconst 1, 1) := by decide +kernel
theorem dX3_end_20 : decode cX3_end 20 = .ok (.isub, 1) := by decide +kernel
theorem dX3_end_21 : decode cX3_end 21 = .ok (.aaload, 1) := by decide +kernel
theorem dX3_end_22 : decode cX3_end 22 = .ok (.bipush 7, 2) := by decide +kernel
theorem dX3_end_24 : decode cX3_end 24 = .ok (.iaload, 1) := by decide +kernel
theorem dX3_end_25 : decode cX3_end 25 = .ok (.aload_n 2, 1) := by decide +kernel
theorem dX3_end_26 : decode cX3_end 26 = .ok (.aload_n 2, 1) := by decide +kernel
theorem dX3_end_27 : decode cX3_end 27 = .ok (.arraylength, 1) := by decide +kernel
theorem dX3_end_28 : decode cX3_end 28 = .ok (.iconst 1, 1) := by decide +kernel
theorem dX3_end_29 : decode cX3_end 29 = .ok (.isub, 1) := by decide +kernel
theorem dX3_end_30 : decode cX3_end 30 = .ok (.aaload, 1) := by decide +kernel
theorem dX3_end_31 : decode cX3_end 31 = .ok (.bipush 8, 2) := by decide +kernel
theorem dX3_end_33 : decode cX3_end 33 = .ok (.iaload, 1) := by decide +kernel
theorem dX3_end_34 : decode cX3_end 34 = .ok (.iadd, 1) := by decide +kernel
theorem dX3_end_35 : decode cX3_end 35 = .ok (.ireturn, 1) := by decide +kernel
theorem dX3_add_0 : decode cX3_add 0 = .ok (.aload_n 0, 1) := by decide +kernel
theorem dX3_add_1 : decode cX3_add 1 = .ok (.iload_n 1, 1) := by decide +kernel
theorem dX3_add_2 : decode cX3_add 2 = .ok (.invokevirtual 32, 3) := by decide +kernel
theorem dX3_add_5 : decode cX3_add 5 = .ok (.istore 9, 2) := by decide +kernel
theorem dX3_add_7 : decode cX3_add 7 = .ok (.iload 9, 2) := by decide +kernel
theorem dX3_add_9 : decode cX3_add 9 = .ok (.iload_n 2, 1) := by decide +kernel
theorem dX3_add_10 : decode cX3_add 10 = .ok (.iload_n 3, 1) := by decide +kernel
theorem dX3_add_11 : decode cX3_add 11 = .ok (.invokestatic 36, 3) := by decide +kernel
theorem dX3_add_14 : decode cX3_add 14 = .ok (.iadd, 1) := by decide +kernel
theorem dX3_add_15 : decode cX3_add 15 = .ok (.istore 10, 2) := by decide +kernel
theorem dX3_add_17 : decode cX3_add 17 = .ok (.iconst 0, 1) := by decide +kernel
theorem dX3_add_18 : decode cX3_add 18 = .ok (.istore 11, 2) := by decide +kernel
theorem dX3_add_20 : decode cX3_add 20 = .ok (.iload 10, 2) := by decide +kernel
theorem dX3_add_22 : decode cX3_add 22 = .ok (.iconst 1, 1) := by decide +kernel
theorem dX3_add_23 : decode cX3_add 23 = .ok (.isub, 1) := by decide +kernel
theorem dX3_add_24 : decode cX3_add 24 = .ok (.aload_n 0, 1) := by decide +kernel
theorem dX3_add_25 : decode cX3_add 25 = .ok (.invokevirtual 40, 3) := by decide +kernel
theorem dX3_add_28 : decode cX3_add 28 = .ok (.idiv, 1) := by decide +kernel
theorem dX3_add_29 : decode cX3_add 29 = .ok (.iload 9, 2) := by decide +kernel
theorem dX3_add_31 : decode cX3_add 31 = .ok (.aload_n 0, 1) := by decide +kernel
theorem dX3_add_32 : decode cX3_add 32 = .ok (.invokevirtual 40, 3) := by decide +kernel
theorem dX3_add_35 : decode cX3_add 35 = .ok (.idiv, 1) := by decide +kernel
theorem dX3_add_36 : decode cX3_add 36 = .ok (.if_icmp .ne 73, 3) := by decide +kernel
theorem dX3_add_39 : decode cX3_add 39 = .ok (.aload_n 0, 1) := by decide +kernel
theorem dX3_add_40 : decode cX3_add 40 = .ok (.getfield 18, 3) := by decide +kernel
theorem dX3_add_43 : decode cX3_add 43 = .ok (.iload_n 1, 1) := by decide +kernel
theorem dX3_add_44 : decode cX3_add 44 = .ok (.aload_n 0, 1) := by decide +kernel
theorem dX3_add_45 : decode cX3_add 45 = .ok (.getfield 18, 3) := by decide +kernel
theorem dX3_add_48 : decode cX3_add 48 = .ok (.iload_n 1, 1) := by decide +kernel
theorem dX3_add_49 : decode cX3_add 49 = .ok (.aaload, 1) := by decide +kernel
theorem dX3_add_50 : decode cX3_add 50 = .ok (.bipush 9, 2) := by decide +kernel
theorem dX3_add_52 : decode cX3_add 52 = .ok (.newarray .int, 2) := by decide +kernel
theorem dX3_add_54 : decode cX3_add 54 = .ok (.dup, 1) := by decide +kernel
theorem dX3_add_55 : decode cX3_add 55 = .ok (.iconst 0, 1) := by decide +kernel
theorem dX3_add_56 : decode cX3_add 56 = .ok (.iload_n 2, 1) := by decide +kernel
theorem dX3_add_57 : decode cX3_add 57 = .ok (.iastore, 1) := by decide +kernel
theorem dX3_add_58 : decode cX3_add 58 = .ok (.dup, 1) := by decide +kernel
theorem dX3_add_59 : decode cX3_add 59 = .ok (.iconst 1, 1) := by decide +kernel
theorem dX3_add_60 : decode cX3_add 60 = .ok (.iload_n 3, 1) := by decide +kernel
theorem dX3_add_61 : decode cX3_add 61 = .ok (.iastore, 1) := by decide +kernel
theorem dX3_add_62 : decode cX3_add 62 = .ok (.dup, 1) := by decide +kernel
theorem dX3_add_63 : decode cX3_add 63 = .ok (.iconst 2, 1) := by decide +kernel
theorem dX3_add_64 : decode cX3_add 64 = .ok (.iload 4, 2) := by decide +kernel
theorem dX3_add_66 : decode cX3_add 66 = .ok (.iastore, 1) := by decide +kernel
theorem dX3_add_67 : decode cX3_add 67 = .ok (.dup, 1) := by decide +kernel
theorem dX3_add_68 : decode cX3_add 68 = .ok (.iconst 3, 1) := by decide +kernel
theorem dX3_add_69 : decode cX3_add 69 = .ok (.iload 5, 2) := by decide +kernel
theorem dX3_add_71 : decode cX3_add 71 = .ok (.iastore, 1) := by decide +kernel
theorem dX3_add_72 : decode cX3_add 72 = .ok (.dup, 1) := by decide +kernel
theorem dX3_add_73 : decode cX3_add 73 = .ok (.iconst 4, 1) := by decide +kernel
theorem dX3_add_74 : decode cX3_add 74 = .ok (.iload 6, 2) := by decide +kernel
theorem dX3_add_76 : decode cX3_add 76 = .ok (.iastore, 1) := by decide +kernel
theorem dX3_add_77 : decode cX3_add 77 = .ok (.dup, 1) := by decide +kernel
theorem dX3_add_78 : decode cX3_add 78 = .ok (.iconst 5, 1) := by decide +kernel
theorem dX3_add_79 : decode cX3_add 79 = .ok (.iload 7, 2) := by decide +kernel
theorem dX3_add_81 : decode cX3_add 81 = .ok (.iastore, 1) := by decide +kernel
theorem dX3_add_82 : decode cX3_add 82 = .ok (.dup, 1) := by decide +kernel
theorem dX3_add_83 : decode cX3_add 83 = .ok (.bipush 6, 2) := by decide +kernel
theorem dX3_add_85 : decode cX3_add 85 = .ok (.iload 8, 2) := by decide +kernel
theorem dX3_add_87 : decode cX3_add 87 = .ok (.iastore, 1) := by decide +kernel
theorem dX3_add_88 : decode cX3_add 88 = .ok (.dup, 1) := by decide +kernel
theorem dX3_add_89 : decode cX3_add 89 = .ok (.bipush 7, 2) := by decide +kernel
theorem dX3_add_91 : decode cX3_add 91 = .ok (.iload 9, 2) := by decide +kernel
theorem dX3_add_93 : decode cX3_add 93 = .ok (.iastore, 1) := by decide +kernel
theorem dX3_add_94 : decode cX3_add 94 = .ok (.dup, 1) := by decide +kernel
theorem dX3_add_95 : decode cX3_add 95 = .ok (.bipush 8, 2) := by decide +kernel
theorem dX3_add_97 : decode cX3_add 97 = .ok (.iload 10, 2) := by decide +kernel
theorem dX3_add_99 : decode cX3_add 99 = .ok (.iload 9, 2) := by decide +kernel
theorem dX3_add_101 : decode cX3_add 101 = .ok (.isub, 1) := by decide +kernel
theorem dX3_add_102 : decode cX3_add 102 = .ok (.iastore, 1) := by decide +kernel
theorem dX3_add_103 : decode cX3_add 103 = .ok (.invokestatic 44, 3) := by decide +kernel
theorem dX3_add_106 : decode cX3_add 106 = .ok (.aastore, 1) := by decide +kernel
theorem dX3_add_107 : decode cX3_add 107 = .ok (.iconst 1, 1) := by decide +kernel
theorem dX3_add_108 : decode cX3_add 108 = .ok (.ireturn, 1) := by decide +kernel
theorem dX3_add_109 : decode cX3_add 109 = .ok (.iload 9, 2) := by decide +kernel
theorem dX3_add_111 : decode cX3_add 111 = .ok (.iload 10, 2) := by decide +kernel
theorem dX3_add_113 : decode cX3_add 113 = .ok (.if_icmp .ge 254, 3) := by decide +kernel
theorem dX3_add_116 : decode cX3_add 116 = .ok (.iload 10, 2) := by decide +kernel
theorem dX3_add_118 : decode cX3_add 118 = .ok (.iload 9, 2) := by decide +kernel
theorem dX3_add_120 : decode cX3_add 120 = .ok (.isub, 1) := by decide +kernel
theorem dX3_add_121 : decode cX3_add 121 = .ok (.aload_n 0, 1) := by decide +kernel
theorem dX3_add_122 : decode cX3_add 122 = .ok (.invokevirtual 40, 3) := by decide +kernel
theorem dX3_add_125 : decode cX3_add 125 = .ok (.iload 9, 2) := by decide +kernel
theorem dX3_add_127 : decode cX3_add 127 = .ok (.aload_n 0, 1) := by decide +kernel
theorem dX3_add_128 : decode cX3_add 128 = .ok (.invokevirtual 40, 3) := by decide +kernel
theorem dX3_add_131 : decode cX3_add 131 = .ok (.irem, 1) := by decide +kernel
theorem dX3_add_132 : decode cX3_add 132 = .ok (.isub, 1) := by decide +kernel
theorem dX3_add_133 : decode cX3_add 133 = .ok (.invokestatic 48, 3) := by decide +kernel
theorem dX3_add_136 : decode cX3_add 136 = .ok (.istore 12, 2) := by decide +kernel
theorem dX3_add_138 : decode cX3_add 138 = .ok (.iconst 3, 1) := by decide +kernel
theorem dX3_add_139 : decode cX3_add 139 = .ok (.newarray .int, 2) := by decide +kernel
theorem dX3_add_141 : decode cX3_add 141 = .ok (.dup, 1) := by decide +kernel
theorem dX3_add_142 : decode cX3_add 142 = .ok (.iconst 0, 1) := by decide +kernel
theorem dX3_add_143 : decode cX3_add 143 = .ok (.iconst 0, 1) := by decide +kernel
theorem dX3_add_144 : decode cX3_add 144 = .ok (.iastore, 1) := by decide +kernel
theorem dX3_add_145 : decode cX3_add 145 = .ok (.dup, 1) := by decide +kernel
theorem dX3_add_146 : decode cX3_add 146 = .ok (.iconst 1, 1) := by decide +kernel
theorem dX3_add_147 : decode cX3_add 147 = .ok (.iconst 0, 1) := by decide +kernel
theorem dX3_add_148 : decode cX3_add 148 = .ok (.iastore, 1) := by decide +kernel
theorem dX3_add_149 : decode cX3_add 149 = .ok (.dup, 1) := by decide +kernel
theorem dX3_add_150 : decode cX3_add 150 = .ok (.iconst 2, 1) := by decide +kernel
theorem dX3_add_151 : decode cX3_add 151 = .ok (.iconst 0, 1) := by decide +kernel
theorem dX3_add_152 : decode cX3_add 152 = .ok (.iastore, 1) := by decide +kernel
theorem dX3_add_153 : decode cX3_add 153 = .ok (.astore 13, 2) := by decide +kernel
theorem dX3_add_155 : decode cX3_add 155 = .ok (.bipush 32, 2) := by decide +kernel
theorem dX3_add_157 : decode cX3_add 157 = .ok (.istore 14, 2) := by decide +kernel
theorem dX3_add_159 : decode cX3_add 159 = .ok (.iload 14, 2) := by decide +kernel
theorem dX3_add_161 : decode cX3_add 161 = .ok (.iconst 1, 1) := by decide +kernel
theorem dX3_add_162 : decode cX3_add 162 = .ok (.if_icmp .lt 100, 3) := by decide +kernel
theorem dX3_add_165 : decode cX3_add 165 = .ok (.iconst 0, 1) := by decide +kernel
theorem dX3_add_166 : decode cX3_add 166 = .ok (.istore 15, 2) := by decide +kernel
theorem dX3_add_168 : decode cX3_add 168 = .ok (.iload 15, 2) := by decide +kernel
theorem dX3_add_170 : decode cX3_add 170 = .ok (.iload 14, 2) := by decide +kernel
theorem dX3_add_172 : decode cX3_add 172 = .ok (.bipush 32, 2) := by decide +kernel
theorem dX3_add_174 : decode cX3_add 174 = .ok (.if_icmp .ne 7, 3) := by decide +kernel
theorem dX3_add_177 : decode cX3_add 177 = .ok (.iconst 1, 1) := by decide +kernel
theorem dX3_add_178 : decode cX3_add 178 = .ok (.goto 15, 3) := by decide +kernel
theorem dX3_add_181 : decode cX3_add 181 = .ok (.iload 14, 2) := by decide +kernel
theorem dX3_add_183 : decode cX3_add 183 = .ok (.bipush 16, 2) := by decide +kernel
theorem dX3_add_185 : decode cX3_add 185 = .ok (.if_icmp .ne 7, 3) := by decide +kernel
theorem dX3_add_188 : decode cX3_add 188 = .ok (.iconst 2, 1) := by decide +kernel
theorem dX3_add_189 : decode cX3_add 189 = .ok (.goto 4, 3) := by decide +kernel
theorem dX3_add_192 : decode cX3_add 192 = .ok (.iconst 3, 1) := by decide +kernel
theorem dX3_add_193 : decode cX3_add 193 = .ok (.if_icmp .ge 60, 3) := by decide +kernel
theorem dX3_add_196 : decode cX3_add 196 = .ok (.iload 14, 2) := by decide +kernel
theorem dX3_add_198 : decode cX3_add 198 = .ok (.iload 15, 2) := by decide +kernel
theorem dX3_add_200 : decode cX3_add 200 = .ok (.invokestatic 36, 3) := by decide +kernel
theorem dX3_add_203 : decode cX3_add 203 = .ok (.iload 12, 2) := by decide +kernel
theorem dX3_add_205 : decode cX3_add 205 = .ok (.if_icmp .gt 42, 3) := by decide +kernel
theorem dX3_add_208 : decode cX3_add 208 = .ok (.iload 14, 2) := by decide +kernel
theorem dX3_add_210 : decode cX3_add 210 = .ok (.iload 15, 2) := by decide +kernel
theorem dX3_add_212 : decode cX3_add 212 = .ok (.invokestatic 36, 3) := by decide +kernel
theorem dX3_add_215 : decode cX3_add 215 = .ok (.aload 13, 2) := by decide +kernel
theorem dX3_add_217 : decode cX3_add 217 = .ok (.iconst 2, 1) := by decide +kernel
theorem dX3_add_218 : decode cX3_add 218 = .ok (.iaload, 1) := by decide +kernel
theorem dX3_add_219 : decode cX3_add 219 = .ok (.if_icmp .le 28, 3) := by decide +kernel
theorem dX3_add_222 : decode cX3_add 222 = .ok (.iconst 3, 1) := by decide +kernel
theorem dX3_add_223 : decode cX3_add 223 = .ok (.newarray .int, 2) := by decide +kernel
theorem dX3_add_225 : decode cX3_add 225 = .ok (.dup, 1) := by decide +kernel
theorem dX3_add_226 : decode cX3_add 226 = .ok (.iconst 0, 1) := by decide +kernel
theorem dX3_add_227 : decode cX3_add 227 = .ok (.iload 14, 2) := by decide +kernel
theorem dX3_add_229 : decode cX3_add 229 = .ok (.iastore, 1) := by decide +kernel
theorem dX3_add_230 : decode cX3_add 230 = .ok (.dup, 1) := by decide +kernel
theorem dX3_add_231 : decode cX3_add 231 = .ok (.iconst 1, 1) := by decide +kernel
theorem dX3_add_232 : decode cX3_add 232 = .ok (.iload 15, 2) := by decide +kernel
theorem dX3_add_234 : decode cX3_add 234 = .ok (.iastore, 1) := by decide +kernel
theorem dX3_add_235 : decode cX3_add 235 = .ok (.dup, 1) := by decide +kernel
theorem dX3_add_236 : decode cX3_add 236 = .ok (.iconst 2, 1) := by decide +kernel
theorem dX3_add_237 : decode cX3_add 237 = .ok (.iload 14, 2) := by decide +kernel
theorem dX3_add_239 : decode cX3_add 239 = .ok (.iload 15, 2) := by decide +kernel
theorem dX3_add_241 : decode cX3_add 241 = .ok (.invokestatic 36, 3) := by decide +kernel
theorem dX3_add_244 : decode cX3_add 244 = .ok (.iastore, 1) := by decide +kernel
theorem dX3_add_245 : decode cX3_add 245 = .ok (.astore 13, 2) := by decide +kernel
theorem dX3_add_247 : decode cX3_add 247 = .ok (.iinc 15 1, 3) := by decide +kernel
theorem dX3_add_250 : decode cX3_add 250 = .ok (.goto (-82), 3) := by decide +kernel
theorem dX3_add_253 : decode cX3_add 253 = .ok (.iload 14, 2) := by decide +kernel
theorem dX3_add_255 : decode cX3_add 255 = .ok (.iconst 2, 1) := by decide +kernel
theorem dX3_add_256 : decode cX3_add 256 = .ok (.idiv, 1) := by decide +kernel
theorem dX3_add_257 : decode cX3_add 257 = .ok (.istore 14, 2) := by decide +kernel
theorem dX3_add_259 : decode cX3_add 259 = .ok (.goto (-100), 3) := by decide +kernel
theorem dX3_add_262 : decode cX3_add 262 = .ok (.aload_n 0, 1) := by decide +kernel
theorem dX3_add_263 : decode cX3_add 263 = .ok (.getfield 18, 3) := by decide +kernel
theorem dX3_add_266 : decode cX3_add 266 = .ok (.iload_n 1, 1) := by decide +kernel
theorem dX3_add_267 : decode cX3_add 267 = .ok (.aload_n 0, 1) := by decide +kernel
theorem dX3_add_268 : decode cX3_add 268 = .ok (.getfield 18, 3) := by decide +kernel
theorem dX3_add_271 : decode cX3_add 271 = .ok (.iload_n 1, 1) := by decide +kernel
theorem dX3_add_272 : decode cX3_add 272 = .ok (.aaload, 1) := by decide +kernel
theorem dX3_add_273 : decode cX3_add 273 = .ok (.bipush 9, 2) := by decide +kernel
theorem dX3_add_275 : decode cX3_add 275 = .ok (.newarray .int, 2) := by decide +kernel
theorem dX3_add_277 : decode cX3_add 277 = .ok (.dup, 1) := by decide +kernel
theorem dX3_add_278 : decode cX3_add 278 = .ok (.iconst 0, 1) := by decide +kernel
theorem dX3_add_279 : decode cX3_add 279 = .ok (.aload 13, 2) := by decide +kernel
theorem dX3_add_281 : decode cX3_add 281 = .ok (.iconst 0, 1) := by decide +kernel
theorem dX3_add_282 : decode cX3_add 282 = .ok (.iaload, 1) := by decide +kernel
theorem dX3_add_283 : decode cX3_add 283 = .ok (.iastore, 1) := by decide +kernel
theorem dX3_add_284 : decode cX3_add 284 = .ok (.dup, 1) := by decide +kernel
theorem dX3_add_285 : decode cX3_add 285 = .ok (.iconst 1, 1) := by decide +kernel
theorem dX3_add_286 : decode cX3_add 286 = .ok (.aload 13, 2) := by decide +kernel
theorem dX3_add_288 : decode cX3_add 288 = .ok (.iconst 1, 1) := by decide +kernel
theorem dX3_add_289 : decode cX3_add 289 = .ok (.iaload, 1) := by decide +kernel
theorem dX3_add_290 : decode cX3_add 290 = .ok (.iastore, 1) := by decide +kernel
theorem dX3_add_291 : decode cX3_add 291 = .ok (.dup, 1) := by decide +kernel
theorem dX3_add_292 : decode cX3_add 292 = .ok (.iconst 2, 1) := by decide +kernel
theorem dX3_add_293 : decode cX3_add 293 = .ok (.iload 4, 2) := by decide +kernel
theorem dX3_add_295 : decode cX3_add 295 = .ok (.iastore, 1) := by decide +kernel
theorem dX3_add_296 : decode cX3_add 296 = .ok (.dup, 1) := by decide +kernel
theorem dX3_add_297 : decode cX3_add 297 = .ok (.iconst 3, 1) := by decide +kernel
theorem dX3_add_298 : decode cX3_add 298 = .ok (.iload 5, 2) := by decide +kernel
theorem dX3_add_300 : decode cX3_add 300 = .ok (.iastore, 1) := by decide +kernel
theorem dX3_add_301 : decode cX3_add 301 = .ok (.dup, 1) := by decide +kernel
theorem dX3_add_302 : decode cX3_add 302 = .ok (.iconst 4, 1) := by decide +kernel
theorem dX3_add_303 : decode cX3_add 303 = .ok (.iload 6, 2) := by decide +kernel
theorem dX3_add_305 : decode cX3_add 305 = .ok (.iastore, 1) := by decide +kernel
theorem dX3_add_306 : decode cX3_add 306 = .ok (.dup, 1) := by decide +kernel
theorem dX3_add_307 : decode cX3_add 307 = .ok (.iconst 5, 1) := by decide +kernel
theorem dX3_add_308 : decode cX3_add 308 = .ok (.iload 7, 2) := by decide +kernel
theorem dX3_add_310 : decode cX3_add 310 = .ok (.iastore, 1) := by decide +kernel
theorem dX3_add_311 : decode cX3_add 311 = .ok (.dup, 1) := by decide +kernel
theorem dX3_add_312 : decode cX3_add 312 = .ok (.bipush 6, 2) := by decide +kernel
theorem dX3_add_314 : decode cX3_add 314 = .ok (.iload 9, 2) := by decide +kernel
theorem dX3_add_316 : decode cX3_add 316 = .ok (.aload 13, 2) := by decide +kernel
theorem dX3_add_318 : decode cX3_add 318 = .ok (.iconst 2, 1) := by decide +kernel
theorem dX3_add_319 : decode cX3_add 319 = .ok (.iaload, 1) := by decide +kernel
theorem dX3_add_320 : decode cX3_add 320 = .ok (.iadd, 1) := by decide +kernel
theorem dX3_add_321 : decode cX3_add 321 = .ok (.iload 10, 2) := by decide +kernel
theorem dX3_add_323 : decode cX3_add 323 = .ok (.if_icmp .ge 8, 3) := by decide +kernel
theorem dX3_add_326 : decode cX3_add 326 = .ok (.iload 4, 2) := by decide +kernel
theorem dX3_add_328 : decode cX3_add 328 = .ok (.goto 5, 3) := by decide +kernel
theorem dX3_add_331 : decode cX3_add 331 = .ok (.iload 8, 2) := by decide +kernel
theorem dX3_add_333 : decode cX3_add 333 = .ok (.iastore, 1) := by decide +kernel
theorem dX3_add_334 : decode cX3_add 334 = .ok (.dup, 1) := by decide +kernel
theorem dX3_add_335 : decode cX3_add 335 = .ok (.bipush 7, 2) := by decide +kernel
theorem dX3_add_337 : decode cX3_add 337 = .ok (.iload 9, 2) := by decide +kernel
theorem dX3_add_339 : decode cX3_add 339 = .ok (.iastore, 1) := by decide +kernel
theorem dX3_add_340 : decode cX3_add 340 = .ok (.dup, 1) := by decide +kernel
theorem dX3_add_341 : decode cX3_add 341 = .ok (.bipush 8, 2) := by decide +kernel
theorem dX3_add_343 : decode cX3_add 343 = .ok (.aload 13, 2) := by decide +kernel
theorem dX3_add_345 : decode cX3_add 345 = .ok (.iconst 2, 1) := by decide +kernel
theorem dX3_add_346 : decode cX3_add 346 = .ok (.iaload, 1) := by decide +kernel
theorem dX3_add_347 : decode cX3_add 347 = .ok (.iastore, 1) := by decide +kernel
theorem dX3_add_348 : decode cX3_add 348 = .ok (.invokestatic 44, 3) := by decide +kernel
theorem dX3_add_351 : decode cX3_add 351 = .ok (.aastore, 1) := by decide +kernel
theorem dX3_add_352 : decode cX3_add 352 = .ok (.iload 9, 2) := by decide +kernel
theorem dX3_add_354 : decode cX3_add 354 = .ok (.aload 13, 2) := by decide +kernel
theorem dX3_add_356 : decode cX3_add 356 = .ok (.iconst 2, 1) := by decide +kernel
theorem dX3_add_357 : decode cX3_add 357 = .ok (.iaload, 1) := by decide +kernel
theorem dX3_add_358 : decode cX3_add 358 = .ok (.iadd, 1) := by decide +kernel
theorem dX3_add_359 : decode cX3_add 359 = .ok (.istore 9, 2) := by decide +kernel
theorem dX3_add_361 : decode cX3_add 361 = .ok (.iinc 11 1, 3) := by decide +kernel
theorem dX3_add_364 : decode cX3_add 364 = .ok (.goto (-255), 3) := by decide +kernel
theorem dX3_add_367 : decode cX3_add 367 = .ok (.iload 11, 2) := by decide +kernel
theorem dX3_add_369 : decode cX3_add 369 = .ok (.ireturn, 1) := by decide +kernel
theorem dX3_keySign_0 : decode cX3_keySign 0 = .ok (.ldc 57, 2) := by decide +kernel
theorem dX3_keySign_2 : decode cX3_keySign 2 = .ok (.astore_n 2, 1) := by decide +kernel
theorem dX3_keySign_3 : decode cX3_keySign 3 = .ok (.aload_n 2, 1) := by decide +kernel
theorem dX3_keySign_4 : decode cX3_keySign 4 = .ok (.bipush 48, 2) := by decide +kernel
theorem dX3_keySign_6 : decode cX3_keySign 6 = .ok (.iload_n 1, 1) := by decide +kernel
theorem dX3_keySign_7 : decode cX3_keySign 7 = .ok (.iadd, 1) := by decide +kernel
theorem dX3_keySign_8 : decode cX3_keySign 8 = .ok (.i2c, 1) := by decide +kernel
theorem dX3_keySign_9 : decode cX3_keySign 9 = .ok (.invokevirtual 59, 3) := by decide +kernel
theorem dX3_keySign_12 : decode cX3_keySign 12 = .ok (.istore_n 3, 1) := by decide +kernel
theorem dX3_keySign_13 : decode cX3_keySign 13 = .ok (.aload_n 0, 1) := by decide +kernel
theorem dX3_keySign_14 : decode cX3_keySign 14 = .ok (.getfield 62, 3) := by decide +kernel
theorem dX3_keySign_17 : decode cX3_keySign 17 = .ok (.iload_n 3, 1) := by decide +kernel
theorem dX3_keySign_18 : decode cX3_keySign 18 = .ok (.if_icmp .le 7, 3) := by decide +kernel
theorem dX3_keySign_21 : decode cX3_keySign 21 = .ok (.iconst 1, 1) := by decide +kernel
theorem dX3_keySign_22 : decode cX3_keySign 22 = .ok (.goto 19, 3) := by decide +kernel
theorem dX3_keySign_25 : decode cX3_keySign 25 = .ok (.aload_n 0, 1) := by decide +kernel
theorem dX3_keySign_26 : decode cX3_keySign 26 = .ok (.getfield 62, 3) := by decide +kernel
theorem dX3_keySign_29 : decode cX3_keySign 29 = .ok (.iload_n 3, 1) := by decide +kernel
theorem dX3_keySign_30 : decode cX3_keySign 30 = .ok (.bipush 6, 2) := by decide +kernel
theorem dX3_keySign_32 : decode cX3_keySign 32 = .ok (.isub, 1) := by decide +kernel
theorem dX3_keySign_33 : decode cX3_keySign 33 = .ok (.if_icmp .ge 7, 3) := by decide +kernel
theorem dX3_keySign_36 : decode cX3_keySign 36 = .ok (.iconst (-1), 1) := by decide +kernel
theorem dX3_keySign_37 : decode cX3_keySign 37 = .ok (.goto 4, 3) := by decide +kernel
theorem dX3_keySign_40 : decode cX3_keySign 40 = .ok (.iconst 0, 1) := by decide +kernel
theorem dX3_keySign_41 : decode cX3_keySign 41 = .ok (.ireturn, 1) := by decide +kernel
theorem dJ11_isValidCodePoint_9a6ad_0 : decode cJ11_isValidCodePoint_9a6ad 0 = .ok (.iload_n 0, 1) := by decide +kernel
theorem dJ11_isValidCodePoint_9a6ad_1 : decode cJ11_isValidCodePoint_9a6ad 1 = .ok (.bipush 16, 2) := by decide +kernel
theorem dJ11_isValidCodePoint_9a6ad_3 : decode cJ11_isValidCodePoint_9a6ad 3 = .ok (.iushr, 1) := by decide +kernel
theorem dJ11_isValidCodePoint_9a6ad_4 : decode cJ11_isValidCodePoint_9a6ad 4 = .ok (.istore_n 1, 1) := by decide +kernel
theorem dJ11_isValidCodePoint_9a6ad_5 : decode cJ11_isValidCodePoint_9a6ad 5 = .ok (.iload_n 1, 1) := by decide +kernel
theorem dJ11_isValidCodePoint_9a6ad_6 : decode cJ11_isValidCodePoint_9a6ad 6 = .ok (.bipush 17, 2) := by decide +kernel
theorem dJ11_isValidCodePoint_9a6ad_8 : decode cJ11_isValidCodePoint_9a6ad 8 = .ok (.if_icmp .ge 7, 3) := by decide +kernel
theorem dJ11_isValidCodePoint_9a6ad_11 : decode cJ11_isValidCodePoint_9a6ad 11 = .ok (.iconst 1, 1) := by decide +kernel
theorem dJ11_isValidCodePoint_9a6ad_12 : decode cJ11_isValidCodePoint_9a6ad 12 = .ok (.goto 4, 3) := by decide +kernel
theorem dJ11_isValidCodePoint_9a6ad_15 : decode cJ11_isValidCodePoint_9a6ad 15 = .ok (.iconst 0, 1) := by decide +kernel
theorem dJ11_isValidCodePoint_9a6ad_16 : decode cJ11_isValidCodePoint_9a6ad 16 = .ok (.ireturn, 1) := by decide +kernel
theorem dJ11_highSurrogate_5068e_0 : decode cJ11_highSurrogate_5068e 0 = .ok (.iload_n 0, 1) := by decide +kernel
theorem dJ11_highSurrogate_5068e_1 : decode cJ11_highSurrogate_5068e 1 = .ok (.bipush 10, 2) := by decide +kernel
theorem dJ11_highSurrogate_5068e_3 : decode cJ11_highSurrogate_5068e 3 = .ok (.iushr, 1) := by decide +kernel
theorem dJ11_highSurrogate_5068e_4 : decode cJ11_highSurrogate_5068e 4 = .ok (.ldc 110, 2) := by decide +kernel
theorem dJ11_highSurrogate_5068e_6 : decode cJ11_highSurrogate_5068e 6 = .ok (.iadd, 1) := by decide +kernel
theorem dJ11_highSurrogate_5068e_7 : decode cJ11_highSurrogate_5068e 7 = .ok (.i2c, 1) := by decide +kernel
theorem dJ11_highSurrogate_5068e_8 : decode cJ11_highSurrogate_5068e 8 = .ok (.ireturn, 1) := by decide +kernel
theorem dJ11_lowSurrogate_5068e_0 : decode cJ11_lowSurrogate_5068e 0 = .ok (.iload_n 0, 1) := by decide +kernel
theorem dJ11_lowSurrogate_5068e_1 : decode cJ11_lowSurrogate_5068e 1 = .ok (.sipush 1023, 3) := by decide +kernel
theorem dJ11_lowSurrogate_5068e_4 : decode cJ11_lowSurrogate_5068e 4 = .ok (.iand, 1) := by decide +kernel
theorem dJ11_lowSurrogate_5068e_5 : decode cJ11_lowSurrogate_5068e 5 = .ok (.ldc 76, 2) := by decide +kernel
theorem dJ11_lowSurrogate_5068e_7 : decode cJ11_lowSurrogate_5068e 7 = .ok (.iadd, 1) := by decide +kernel
theorem dJ11_lowSurrogate_5068e_8 : decode cJ11_lowSurrogate_5068e 8 = .ok (.i2c, 1) := by decide +kernel
theorem dJ11_lowSurrogate_5068e_9 : decode cJ11_lowSurrogate_5068e 9 = .ok (.ireturn, 1) := by decide +kernel
theorem dJ9_floorMod_7cf53_0 : decode cJ9_floorMod_7cf53 0 = .ok (.iload_n 0, 1) := by decide +kernel
theorem dJ9_floorMod_7cf53_1 : decode cJ9_floorMod_7cf53 1 = .ok (.iload_n 1, 1) := by decide +kernel
theorem dJ9_floorMod_7cf53_2 : decode cJ9_floorMod_7cf53 2 = .ok (.irem, 1) := by decide +kernel
theorem dJ9_floorMod_7cf53_3 : decode cJ9_floorMod_7cf53 3 = .ok (.istore_n 2, 1) := by decide +kernel
theorem dJ9_floorMod_7cf53_4 : decode cJ9_floorMod_7cf53 4 = .ok (.iload_n 0, 1) := by decide +kernel
theorem dJ9_floorMod_7cf53_5 : decode cJ9_floorMod_7cf53 5 = .ok (.iload_n 1, 1) := by decide +kernel
theorem dJ9_floorMod_7cf53_6 : decode cJ9_floorMod_7cf53 6 = .ok (.ixor, 1) := by decide +kernel
theorem dJ9_floorMod_7cf53_7 : decode cJ9_floorMod_7cf53 7 = .ok (.ifCond .ge 11, 3) := by decide +kernel
theorem dJ9_floorMod_7cf53_10 : decode cJ9_floorMod_7cf53 10 = .ok (.iload_n 2, 1) := by decide +kernel
theorem dJ9_floorMod_7cf53_11 : decode cJ9_floorMod_7cf53 11 = .ok (.ifCond .eq 7, 3) := by decide +kernel
theorem dJ9_floorMod_7cf53_14 : decode cJ9_floorMod_7cf53 14 = .ok (.iload_n 2, 1) := by decide +kernel
theorem dJ9_floorMod_7cf53_15 : decode cJ9_floorMod_7cf53 15 = .ok (.iload_n 1, 1) := by decide +kernel
theorem dJ9_floorMod_7cf53_16 : decode cJ9_floorMod_7cf53 16 = .ok (.iadd, 1) := by decide +kernel
theorem dJ9_floorMod_7cf53_17 : decode cJ9_floorMod_7cf53 17 = .ok (.ireturn, 1) := by decide +kernel
theorem dJ9_floorMod_7cf53_18 : decode cJ9_floorMod_7cf53 18 = .ok (.iload_n 2, 1) := by decide +kernel
theorem dJ9_floorMod_7cf53_19 : decode cJ9_floorMod_7cf53 19 = .ok (.ireturn, 1) := by decide +kernel
theorem dJ9_max_7cf53_0 : decode cJ9_max_7cf53 0 = .ok (.iload_n 0, 1) := by decide +kernel
theorem dJ9_max_7cf53_1 : decode cJ9_max_7cf53 1 = .ok (.iload_n 1, 1) := by decide +kernel
theorem dJ9_max_7cf53_2 : decode cJ9_max_7cf53 2 = .ok (.if_icmp .lt 7, 3) := by decide +kernel
theorem dJ9_max_7cf53_5 : decode cJ9_max_7cf53 5 = .ok (.iload_n 0, 1) := by decide +kernel
theorem dJ9_max_7cf53_6 : decode cJ9_max_7cf53 6 = .ok (.goto 4, 3) := by decide +kernel
theorem dJ9_max_7cf53_9 : decode cJ9_max_7cf53 9 = .ok (.iload_n 1, 1) := by decide +kernel
theorem dJ9_max_7cf53_10 : decode cJ9_max_7cf53 10 = .ok (.ireturn, 1) := by decide +kernel
theorem dJ9_min_7cf53_0 : decode cJ9_min_7cf53 0 = .ok (.iload_n 0, 1) := by decide +kernel
theorem dJ9_min_7cf53_1 : decode cJ9_min_7cf53 1 = .ok (.iload_n 1, 1) := by decide +kernel
theorem dJ9_min_7cf53_2 : decode cJ9_min_7cf53 2 = .ok (.if_icmp .gt 7, 3) := by decide +kernel
theorem dJ9_min_7cf53_5 : decode cJ9_min_7cf53 5 = .ok (.iload_n 0, 1) := by decide +kernel
theorem dJ9_min_7cf53_6 : decode cJ9_min_7cf53 6 = .ok (.goto 4, 3) := by decide +kernel
theorem dJ9_min_7cf53_9 : decode cJ9_min_7cf53 9 = .ok (.iload_n 1, 1) := by decide +kernel
theorem dJ9_min_7cf53_10 : decode cJ9_min_7cf53 10 = .ok (.ireturn, 1) := by decide +kernel
theorem dJ0_length_8abf5_0 : decode cJ0_length_8abf5 0 = .ok (.aload_n 0, 1) := by decide +kernel
theorem dJ0_length_8abf5_1 : decode cJ0_length_8abf5 1 = .ok (.getfield 9, 3) := by decide +kernel
theorem dJ0_length_8abf5_4 : decode cJ0_length_8abf5 4 = .ok (.arraylength, 1) := by decide +kernel
theorem dJ0_length_8abf5_5 : decode cJ0_length_8abf5 5 = .ok (.aload_n 0, 1) := by decide +kernel
theorem dJ0_length_8abf5_6 : decode cJ0_length_8abf5 6 = .ok (.invokevirtual 335, 3) := by decide +kernel
theorem dJ0_length_8abf5_9 : decode cJ0_length_8abf5 9 = .ok (.ishr, 1) := by decide +kernel
theorem dJ0_length_8abf5_10 : decode cJ0_length_8abf5 10 = .ok (.ireturn, 1) := by decide +kernel
theorem dJ0_indexOf_0f7a4_0 : decode cJ0_indexOf_0f7a4 0 = .ok (.aload_n 0, 1) := by decide +kernel
theorem dJ0_indexOf_0f7a4_1 : decode cJ0_indexOf_0f7a4 1 = .ok (.iload_n 1, 1) := by decide +kernel
theorem dJ0_indexOf_0f7a4_2 : decode cJ0_indexOf_0f7a4 2 = .ok (.iconst 0, 1) := by decide +kernel
theorem dJ0_indexOf_0f7a4_3 : decode cJ0_indexOf_0f7a4 3 = .ok (.invokevirtual 633, 3) := by decide +kernel
theorem dJ0_indexOf_0f7a4_6 : decode cJ0_indexOf_0f7a4 6 = .ok (.ireturn, 1) := by decide +kernel
theorem dJ0_indexOf_7cf53_0 : decode cJ0_indexOf_7cf53 0 = .ok (.aload_n 0, 1) := by decide +kernel
theorem dJ0_indexOf_7cf53_1 : decode cJ0_indexOf_7cf53 1 = .ok (.invokevirtual 492, 3) := by decide +kernel
theorem dJ0_indexOf_7cf53_4 : decode cJ0_indexOf_7cf53 4 = .ok (.ifCond .eq 19, 3) := by decide +kernel
theorem dJ0_indexOf_7cf53_7 : decode cJ0_indexOf_7cf53 7 = .ok (.aload_n 0, 1) := by decide +kernel
theorem dJ0_indexOf_7cf53_8 : decode cJ0_indexOf_7cf53 8 = .ok (.getfield 9, 3) := by decide +kernel
theorem dJ0_indexOf_7cf53_11 : decode cJ0_indexOf_7cf53 11 = .ok (.iload_n 1, 1) := by decide +kernel
theorem dJ0_indexOf_7cf53_12 : decode cJ0_indexOf_7cf53 12 = .ok (.iload_n 2, 1) := by decide +kernel
theorem dJ0_indexOf_7cf53_13 : decode cJ0_indexOf_7cf53 13 = .ok (.aload_n 0, 1) := by decide +kernel
theorem dJ0_indexOf_7cf53_14 : decode cJ0_indexOf_7cf53 14 = .ok (.invokevirtual 505, 3) := by decide +kernel
theorem dJ0_indexOf_7cf53_17 : decode cJ0_indexOf_7cf53 17 = .ok (.invokestatic 637, 3) := by decide +kernel
theorem dJ0_indexOf_7cf53_20 : decode cJ0_indexOf_7cf53 20 = .ok (.goto 16, 3) := by decide +kernel
theorem dJ0_indexOf_7cf53_23 : decode cJ0_indexOf_7cf53 23 = .ok (.aload_n 0, 1) := by decide +kernel
theorem dJ0_indexOf_7cf53_24 : decode cJ0_indexOf_7cf53 24 = .ok (.getfield 9, 3) := by decide +kernel
theorem dJ0_indexOf_7cf53_27 : decode cJ0_indexOf_7cf53 27 = .ok (.iload_n 1, 1) := by decide +kernel
theorem dJ0_indexOf_7cf53_28 : decode cJ0_indexOf_7cf53 28 = .ok (.iload_n 2, 1) := by decide +kernel
theorem dJ0_indexOf_7cf53_29 : decode cJ0_indexOf_7cf53 29 = .ok (.aload_n 0, 1) := by decide +kernel
theorem dJ0_indexOf_7cf53_30 : decode cJ0_indexOf_7cf53 30 = .ok (.invokevirtual 505, 3) := by decide +kernel
theorem dJ0_indexOf_7cf53_33 : decode cJ0_indexOf_7cf53 33 = .ok (.invokestatic 640, 3) := by decide +kernel
theorem dJ0_indexOf_7cf53_36 : decode cJ0_indexOf_7cf53 36 = .ok (.ireturn, 1) := by decide +kernel
theorem dJ0_coder_7d493_0 : decode cJ0_coder_7d493 0 = .ok (.getstatic 38, 3) := by decide +kernel
theorem dJ0_coder_7d493_3 : decode cJ0_coder_7d493 3 = .ok (.ifCond .eq 10, 3) := by decide +kernel
theorem dJ0_coder_7d493_6 : decode cJ0_coder_7d493 6 = .ok (.aload_n 0, 1) := by decide +kernel
theorem dJ0_coder_7d493_7 : decode cJ0_coder_7d493 7 = .ok (.getfield 15, 3) := by decide +kernel
theorem dJ0_coder_7d493_10 : decode cJ0_coder_7d493 10 = .ok (.goto 4, 3) := by decide +kernel
theorem dJ0_coder_7d493_13 : decode cJ0_coder_7d493 13 = .ok (.iconst 1, 1) := by decide +kernel
theorem dJ0_coder_7d493_14 : decode cJ0_coder_7d493 14 = .ok (.ireturn, 1) := by decide +kernel
theorem dJ0_isLatin1_aae02_0 : decode cJ0_isLatin1_aae02 0 = .ok (.getstatic 38, 3) := by decide +kernel
theorem dJ0_isLatin1_aae02_3 : decode cJ0_isLatin1_aae02 3 = .ok (.ifCond .eq 14, 3) := by decide +kernel
theorem dJ0_isLatin1_aae02_6 : decode cJ0_isLatin1_aae02 6 = .ok (.aload_n 0, 1) := by decide +kernel
theorem dJ0_isLatin1_aae02_7 : decode cJ0_isLatin1_aae02 7 = .ok (.getfield 15, 3) := by decide +kernel
theorem dJ0_isLatin1_aae02_10 : decode cJ0_isLatin1_aae02 10 = .ok (.ifCond .ne 7, 3) := by decide +kernel
theorem dJ0_isLatin1_aae02_13 : decode cJ0_isLatin1_aae02 13 = .ok (.iconst 1, 1) := by decide +kernel
theorem dJ0_isLatin1_aae02_14 : decode cJ0_isLatin1_aae02 14 = .ok (.goto 4, 3) := by decide +kernel
theorem dJ0_isLatin1_aae02_17 : decode cJ0_isLatin1_aae02 17 = .ok (.iconst 0, 1) := by decide +kernel
theorem dJ0_isLatin1_aae02_18 : decode cJ0_isLatin1_aae02 18 = .ok (.ireturn, 1) := by decide +kernel
theorem dJ0_checkBoundsBeginEnd_23922_0 : decode cJ0_checkBoundsBeginEnd_23922 0 = .ok (.iload_n 0, 1) := by decide +kernel
theorem dJ0_checkBoundsBeginEnd_23922_1 : decode cJ0_checkBoundsBeginEnd_23922 1 = .ok (.iload_n 1, 1) := by decide +kernel
theorem dJ0_checkBoundsBeginEnd_23922_2 : decode cJ0_checkBoundsBeginEnd_23922 2 = .ok (.iload_n 2, 1) := by decide +kernel
theorem dJ0_checkBoundsBeginEnd_23922_3 : decode cJ0_checkBoundsBeginEnd_23922 3 = .ok (.getstatic 1053, 3) := by decide +kernel
theorem dJ0_checkBoundsBeginEnd_23922_6 : decode cJ0_checkBoundsBeginEnd_23922 6 = .ok (.invokestatic 1062, 3) := by decide +kernel
theorem dJ0_checkBoundsBeginEnd_23922_9 : decode cJ0_checkBoundsBeginEnd_23922 9 = .ok (.pop, 1) := by decide +kernel
theorem dJ0_checkBoundsBeginEnd_23922_10 : decode cJ0_checkBoundsBeginEnd_23922 10 = .ok (.return_, 1) := by decide +kernel
theorem dJ1_canEncode_9a6ad_0 : decode cJ1_canEncode_9a6ad 0 = .ok (.iload_n 0, 1) := by decide +kernel
theorem dJ1_canEncode_9a6ad_1 : decode cJ1_canEncode_9a6ad 1 = .ok (.ifCond .lt 14, 3) := by decide +kernel
theorem dJ1_canEncode_9a6ad_4 : decode cJ1_canEncode_9a6ad 4 = .ok (.iload_n 0, 1) := by decide +kernel
theorem dJ1_canEncode_9a6ad_5 : decode cJ1_canEncode_9a6ad 5 = .ok (.sipush 255, 3) := by decide +kernel
theorem dJ1_canEncode_9a6ad_8 : decode cJ1_canEncode_9a6ad 8 = .ok (.if_icmp .gt 7, 3) := by decide +kernel
theorem dJ1_canEncode_9a6ad_11 : decode cJ1_canEncode_9a6ad 11 = .ok (.iconst 1, 1) := by decide +kernel
theorem dJ1_canEncode_9a6ad_12 : decode cJ1_canEncode_9a6ad 12 = .ok (.goto 4, 3) := by decide +kernel
theorem dJ1_canEncode_9a6ad_15 : decode cJ1_canEncode_9a6ad 15 = .ok (.iconst 0, 1) := by decide +kernel
theorem dJ1_canEncode_9a6ad_16 : decode cJ1_canEncode_9a6ad 16 = .ok (.ireturn, 1) := by decide +kernel
theorem dJ1_indexOf_4cfef_0 : decode cJ1_indexOf_4cfef 0 = .ok (.iload_n 1, 1) := by decide +kernel
theorem dJ1_indexOf_4cfef_1 : decode cJ1_indexOf_4cfef 1 = .ok (.invokestatic 88, 3) := by decide +kernel
theorem dJ1_indexOf_4cfef_4 : decode cJ1_indexOf_4cfef 4 = .ok (.ifCond .ne 5, 3) := by decide +kernel
theorem dJ1_indexOf_4cfef_7 : decode cJ1_indexOf_4cfef 7 = .ok (.iconst (-1), 1) := by decide +kernel
theorem dJ1_indexOf_4cfef_8 : decode cJ1_indexOf_4cfef 8 = .ok (.ireturn, 1) := by decide +kernel
theorem dJ1_indexOf_4cfef_9 : decode cJ1_indexOf_4cfef 9 = .ok (.iload_n 2, 1) := by decide +kernel
theorem dJ1_indexOf_4cfef_10 : decode cJ1_indexOf_4cfef 10 = .ok (.iconst 0, 1) := by decide +kernel
theorem dJ1_indexOf_4cfef_11 : decode cJ1_indexOf_4cfef 11 = .ok (.invokestatic 92, 3) := by decide +kernel
theorem dJ1_indexOf_4cfef_14 : decode cJ1_indexOf_4cfef 14 = .ok (.istore_n 2, 1) := by decide +kernel
theorem dJ1_indexOf_4cfef_15 : decode cJ1_indexOf_4cfef 15 = .ok (.iload_n 3, 1) := by decide +kernel
theorem dJ1_indexOf_4cfef_16 : decode cJ1_indexOf_4cfef 16 = .ok (.aload_n 0, 1) := by decide +kernel
theorem dJ1_indexOf_4cfef_17 : decode cJ1_indexOf_4cfef 17 = .ok (.arraylength, 1) := by decide +kernel
theorem dJ1_indexOf_4cfef_18 : decode cJ1_indexOf_4cfef 18 = .ok (.invokestatic 38, 3) := by decide +kernel
theorem dJ1_indexOf_4cfef_21 : decode cJ1_indexOf_4cfef 21 = .ok (.istore_n 3, 1) := by decide +kernel
theorem dJ1_indexOf_4cfef_22 : decode cJ1_indexOf_4cfef 22 = .ok (.iload_n 2, 1) := by decide +kernel
theorem dJ1_indexOf_4cfef_23 : decode cJ1_indexOf_4cfef 23 = .ok (.iload_n 3, 1) := by decide +kernel
theorem dJ1_indexOf_4cfef_24 : decode cJ1_indexOf_4cfef 24 = .ok (.if_icmp .lt 5, 3) := by decide +kernel
theorem dJ1_indexOf_4cfef_27 : decode cJ1_indexOf_4cfef 27 = .ok (.iconst (-1), 1) := by decide +kernel
theorem dJ1_indexOf_4cfef_28 : decode cJ1_indexOf_4cfef 28 = .ok (.ireturn, 1) := by decide +kernel
theorem dJ1_indexOf_4cfef_29 : decode cJ1_indexOf_4cfef 29 = .ok (.aload_n 0, 1) := by decide +kernel
theorem dJ1_indexOf_4cfef_30 : decode cJ1_indexOf_4cfef 30 = .ok (.iload_n 1, 1) := by decide +kernel
theorem dJ1_indexOf_4cfef_31 : decode cJ1_indexOf_4cfef 31 = .ok (.iload_n 2, 1) := by decide +kernel
theorem dJ1_indexOf_4cfef_32 : decode cJ1_indexOf_4cfef 32 = .ok (.iload_n 3, 1) := by decide +kernel
theorem dJ1_indexOf_4cfef_33 : decode cJ1_indexOf_4cfef 33 = .ok (.invokestatic 95, 3) := by decide +kernel
theorem dJ1_indexOf_4cfef_36 : decode cJ1_indexOf_4cfef 36 = .ok (.ireturn, 1) := by decide +kernel
theorem dJ1_indexOfChar_4cfef_0 : decode cJ1_indexOfChar_4cfef 0 = .ok (.iload_n 1, 1) := by decide +kernel
theorem dJ1_indexOfChar_4cfef_1 : decode cJ1_indexOfChar_4cfef 1 = .ok (.i2b, 1) := by decide +kernel
theorem dJ1_indexOfChar_4cfef_2 : decode cJ1_indexOfChar_4cfef 2 = .ok (.istore 4, 2) := by decide +kernel
theorem dJ1_indexOfChar_4cfef_4 : decode cJ1_indexOfChar_4cfef 4 = .ok (.iload_n 2, 1) := by decide +kernel
theorem dJ1_indexOfChar_4cfef_5 : decode cJ1_indexOfChar_4cfef 5 = .ok (.istore 5, 2) := by decide +kernel
theorem dJ1_indexOfChar_4cfef_7 : decode cJ1_indexOfChar_4cfef 7 = .ok (.iload 5, 2) := by decide +kernel
theorem dJ1_indexOfChar_4cfef_9 : decode cJ1_indexOfChar_4cfef 9 = .ok (.iload_n 3, 1) := by decide +kernel
theorem dJ1_indexOfChar_4cfef_10 : decode cJ1_indexOfChar_4cfef 10 = .ok (.if_icmp .ge 21, 3) := by decide +kernel
theorem dJ1_indexOfChar_4cfef_13 : decode cJ1_indexOfChar_4cfef 13 = .ok (.aload_n 0, 1) := by decide +kernel
theorem dJ1_indexOfChar_4cfef_14 : decode cJ1_indexOfChar_4cfef 14 = .ok (.iload 5, 2) := by decide +kernel
theorem dJ1_indexOfChar_4cfef_16 : decode cJ1_indexOfChar_4cfef 16 = .ok (.baload, 1) := by decide +kernel
theorem dJ1_indexOfChar_4cfef_17 : decode cJ1_indexOfChar_4cfef 17 = .ok (.iload 4, 2) := by decide +kernel
theorem dJ1_indexOfChar_4cfef_19 : decode cJ1_indexOfChar_4cfef 19 = .ok (.if_icmp .ne 6, 3) := by decide +kernel
theorem dJ1_indexOfChar_4cfef_22 : decode cJ1_indexOfChar_4cfef 22 = .ok (.iload 5, 2) := by decide +kernel
theorem dJ1_indexOfChar_4cfef_24 : decode cJ1_indexOfChar_4cfef 24 = .ok (.ireturn, 1) := by decide +kernel
theorem dJ1_indexOfChar_4cfef_25 : decode cJ1_indexOfChar_4cfef 25 = .ok (.iinc 5 1, 3) := by decide +kernel
theorem dJ1_indexOfChar_4cfef_28 : decode cJ1_indexOfChar_4cfef 28 = .ok (.goto (-21), 3) := by decide +kernel
theorem dJ1_indexOfChar_4cfef_31 : decode cJ1_indexOfChar_4cfef 31 = .ok (.iconst (-1), 1) := by decide +kernel
theorem dJ1_indexOfChar_4cfef_32 : decode cJ1_indexOfChar_4cfef 32 = .ok (.ireturn, 1) := by decide +kernel
theorem dJ2_getChar_3b067_0 : decode cJ2_getChar_3b067 0 = .ok (.getstatic 44, 3) := by decide +kernel
theorem dJ2_getChar_3b067_3 : decode cJ2_getChar_3b067 3 = .ok (.ifCond .ne 25, 3) := by decide +kernel
theorem dJ2_getChar_3b067_6 : decode cJ2_getChar_3b067 6 = .ok (.iload_n 1, 1) := by decide +kernel
theorem dJ2_getChar_3b067_7 : decode cJ2_getChar_3b067 7 = .ok (.ifCond .lt 11, 3) := by decide +kernel
theorem dJ2_getChar_3b067_10 : decode cJ2_getChar_3b067 10 = .ok (.iload_n 1, 1) := by decide +kernel
theorem dJ2_getChar_3b067_11 : decode cJ2_getChar_3b067 11 = .ok (.aload_n 0, 1) := by decide +kernel
theorem dJ2_getChar_3b067_12 : decode cJ2_getChar_3b067 12 = .ok (.invokestatic 48, 3) := by decide +kernel
theorem dJ2_getChar_3b067_15 : decode cJ2_getChar_3b067 15 = .ok (.if_icmp .lt 13, 3) := by decide +kernel
theorem dJ2_getChar_3b067_18 : decode cJ2_getChar_3b067 18 = .ok (.new 52, 3) := by decide +kernel
theorem dJ2_getChar_3b067_21 : decode cJ2_getChar_3b067 21 = .ok (.dup, 1) := by decide +kernel
theorem dJ2_getChar_3b067_22 : decode cJ2_getChar_3b067 22 = .ok (.ldc 54, 2) := by decide +kernel
theorem dJ2_getChar_3b067_24 : decode cJ2_getChar_3b067 24 = .ok (.invokespecial 56, 3) := by decide +kernel
theorem dJ2_getChar_3b067_27 : decode cJ2_getChar_3b067 27 = .ok (.athrow, 1) := by decide +kernel
theorem dJ2_getChar_3b067_28 : decode cJ2_getChar_3b067 28 = .ok (.iload_n 1, 1) := by decide +kernel
theorem dJ2_getChar_3b067_29 : decode cJ2_getChar_3b067 29 = .ok (.iconst 1, 1) := by decide +kernel
theorem dJ2_getChar_3b067_30 : decode cJ2_getChar_3b067 30 = .ok (.ishl, 1) := by decide +kernel
theorem dJ2_getChar_3b067_31 : decode cJ2_getChar_3b067 31 = .ok (.istore_n 1, 1) := by decide +kernel
theorem dJ2_getChar_3b067_32 : decode cJ2_getChar_3b067 32 = .ok (.aload_n 0, 1) := by decide +kernel
theorem dJ2_getChar_3b067_33 : decode cJ2_getChar_3b067 33 = .ok (.iload_n 1, 1) := by decide +kernel
theorem dJ2_getChar_3b067_34 : decode cJ2_getChar_3b067 34 = .ok (.iinc 1 1, 3) := by decide +kernel
theorem dJ2_getChar_3b067_37 : decode cJ2_getChar_3b067 37 = .ok (.baload, 1) := by decide +kernel
theorem dJ2_getChar_3b067_38 : decode cJ2_getChar_3b067 38 = .ok (.sipush 255, 3) := by decide +kernel
theorem dJ2_getChar_3b067_41 : decode cJ2_getChar_3b067 41 = .ok (.iand, 1) := by decide +kernel
theorem dJ2_getChar_3b067_42 : decode cJ2_getChar_3b067 42 = .ok (.getstatic 59, 3) := by decide +kernel
theorem dJ2_getChar_3b067_45 : decode cJ2_getChar_3b067 45 = .ok (.ishl, 1) := by decide +kernel
theorem dJ2_getChar_3b067_46 : decode cJ2_getChar_3b067 46 = .ok (.aload_n 0, 1) := by decide +kernel
theorem dJ2_getChar_3b067_47 : decode cJ2_getChar_3b067 47 = .ok (.iload_n 1, 1) := by decide +kernel
theorem dJ2_getChar_3b067_48 : decode cJ2_getChar_3b067 48 = .ok (.baload, 1) := by decide +kernel
theorem dJ2_getChar_3b067_49 : decode cJ2_getChar_3b067 49 = .ok (.sipush 255, 3) := by decide +kernel
theorem dJ2_getChar_3b067_52 : decode cJ2_getChar_3b067 52 = .ok (.iand, 1) := by decide +kernel
theorem dJ2_getChar_3b067_53 : decode cJ2_getChar_3b067 53 = .ok (.getstatic 63, 3) := by decide +kernel
theorem dJ2_getChar_3b067_56 : decode cJ2_getChar_3b067 56 = .ok (.ishl, 1) := by decide +kernel
theorem dJ2_getChar_3b067_57 : decode cJ2_getChar_3b067 57 = .ok (.ior, 1) := by decide +kernel
theorem dJ2_getChar_3b067_58 : decode cJ2_getChar_3b067 58 = .ok (.i2c, 1) := by decide +kernel
theorem dJ2_getChar_3b067_59 : decode cJ2_getChar_3b067 59 = .ok (.ireturn, 1) := by decide +kernel
theorem dJ2_length_9d52b_0 : decode cJ2_length_9d52b 0 = .ok (.aload_n 0, 1) := by decide +kernel
theorem dJ2_length_9d52b_1 : decode cJ2_length_9d52b 1 = .ok (.arraylength, 1) := by decide +kernel
theorem dJ2_length_9d52b_2 : decode cJ2_length_9d52b 2 = .ok (.iconst 1, 1) := by decide +kernel
theorem dJ2_length_9d52b_3 : decode cJ2_length_9d52b 3 = .ok (.ishr, 1) := by decide +kernel
theorem dJ2_length_9d52b_4 : decode cJ2_length_9d52b 4 = .ok (.ireturn, 1) := by decide +kernel
theorem dJ2_indexOf_4cfef_0 : decode cJ2_indexOf_4cfef 0 = .ok (.iload_n 2, 1) := by decide +kernel
theorem dJ2_indexOf_4cfef_1 : decode cJ2_indexOf_4cfef 1 = .ok (.iconst 0, 1) := by decide +kernel
theorem dJ2_indexOf_4cfef_2 : decode cJ2_indexOf_4cfef 2 = .ok (.invokestatic 224, 3) := by decide +kernel
theorem dJ2_indexOf_4cfef_5 : decode cJ2_indexOf_4cfef 5 = .ok (.istore_n 2, 1) := by decide +kernel
theorem dJ2_indexOf_4cfef_6 : decode cJ2_indexOf_4cfef 6 = .ok (.iload_n 3, 1) := by decide +kernel
theorem dJ2_indexOf_4cfef_7 : decode cJ2_indexOf_4cfef 7 = .ok (.aload_n 0, 1) := by decide +kernel
theorem dJ2_indexOf_4cfef_8 : decode cJ2_indexOf_4cfef 8 = .ok (.arraylength, 1) := by decide +kernel
theorem dJ2_indexOf_4cfef_9 : decode cJ2_indexOf_4cfef 9 = .ok (.iconst 1, 1) := by decide +kernel
theorem dJ2_indexOf_4cfef_10 : decode cJ2_indexOf_4cfef 10 = .ok (.ishr, 1) := by decide +kernel
theorem dJ2_indexOf_4cfef_11 : decode cJ2_indexOf_4cfef 11 = .ok (.invokestatic 183, 3) := by decide +kernel
theorem dJ2_indexOf_4cfef_14 : decode cJ2_indexOf_4cfef 14 = .ok (.istore_n 3, 1) := by decide +kernel
theorem dJ2_indexOf_4cfef_15 : decode cJ2_indexOf_4cfef 15 = .ok (.iload_n 2, 1) := by decide +kernel
theorem dJ2_indexOf_4cfef_16 : decode cJ2_indexOf_4cfef 16 = .ok (.iload_n 3, 1) := by decide +kernel
theorem dJ2_indexOf_4cfef_17 : decode cJ2_indexOf_4cfef 17 = .ok (.if_icmp .lt 5, 3) := by decide +kernel
theorem dJ2_indexOf_4cfef_20 : decode cJ2_indexOf_4cfef 20 = .ok (.iconst (-1), 1) := by decide +kernel
theorem dJ2_indexOf_4cfef_21 : decode cJ2_indexOf_4cfef 21 = .ok (.ireturn, 1) := by decide +kernel
theorem dJ2_indexOf_4cfef_22 : decode cJ2_indexOf_4cfef 22 = .ok (.iload_n 1, 1) := by decide +kernel
theorem dJ2_indexOf_4cfef_23 : decode cJ2_indexOf_4cfef 23 = .ok (.ldc 227, 2) := by decide +kernel
theorem dJ2_indexOf_4cfef_25 : decode cJ2_indexOf_4cfef 25 = .ok (.if_icmp .ge 11, 3) := by decide +kernel
theorem dJ2_indexOf_4cfef_28 : decode cJ2_indexOf_4cfef 28 = .ok (.aload_n 0, 1) := by decide +kernel
theorem dJ2_indexOf_4cfef_29 : decode cJ2_indexOf_4cfef 29 = .ok (.iload_n 1, 1) := by decide +kernel
theorem dJ2_indexOf_4cfef_30 : decode cJ2_indexOf_4cfef 30 = .ok (.iload_n 2, 1) := by decide +kernel
theorem dJ2_indexOf_4cfef_31 : decode cJ2_indexOf_4cfef 31 = .ok (.iload_n 3, 1) := by decide +kernel
theorem dJ2_indexOf_4cfef_32 : decode cJ2_indexOf_4cfef 32 = .ok (.invokestatic 228, 3) := by decide +kernel
theorem dJ2_indexOf_4cfef_35 : decode cJ2_indexOf_4cfef 35 = .ok (.ireturn, 1) := by decide +kernel
theorem dJ2_indexOf_4cfef_36 : decode cJ2_indexOf_4cfef 36 = .ok (.aload_n 0, 1) := by decide +kernel
theorem dJ2_indexOf_4cfef_37 : decode cJ2_indexOf_4cfef 37 = .ok (.iload_n 1, 1) := by decide +kernel
theorem dJ2_indexOf_4cfef_38 : decode cJ2_indexOf_4cfef 38 = .ok (.iload_n 2, 1) := by decide +kernel
theorem dJ2_indexOf_4cfef_39 : decode cJ2_indexOf_4cfef 39 = .ok (.iload_n 3, 1) := by decide +kernel
theorem dJ2_indexOf_4cfef_40 : decode cJ2_indexOf_4cfef 40 = .ok (.invokestatic 232, 3) := by decide +kernel
theorem dJ2_indexOf_4cfef_43 : decode cJ2_indexOf_4cfef 43 = .ok (.ireturn, 1) := by decide +kernel
theorem dJ2_indexOfChar_4cfef_0 : decode cJ2_indexOfChar_4cfef 0 = .ok (.iload_n 2, 1) := by decide +kernel
theorem dJ2_indexOfChar_4cfef_1 : decode cJ2_indexOfChar_4cfef 1 = .ok (.iload_n 3, 1) := by decide +kernel
theorem dJ2_indexOfChar_4cfef_2 : decode cJ2_indexOfChar_4cfef 2 = .ok (.aload_n 0, 1) := by decide +kernel
theorem dJ2_indexOfChar_4cfef_3 : decode cJ2_indexOfChar_4cfef 3 = .ok (.invokestatic 96, 3) := by decide +kernel
theorem dJ2_indexOfChar_4cfef_6 : decode cJ2_indexOfChar_4cfef 6 = .ok (.aload_n 0, 1) := by decide +kernel
theorem dJ2_indexOfChar_4cfef_7 : decode cJ2_indexOfChar_4cfef 7 = .ok (.iload_n 1, 1) := by decide +kernel
theorem dJ2_indexOfChar_4cfef_8 : decode cJ2_indexOfChar_4cfef 8 = .ok (.iload_n 2, 1) := by decide +kernel
theorem dJ2_indexOfChar_4cfef_9 : decode cJ2_indexOfChar_4cfef 9 = .ok (.iload_n 3, 1) := by decide +kernel
theorem dJ2_indexOfChar_4cfef_10 : decode cJ2_indexOfChar_4cfef 10 = .ok (.invokestatic 244, 3) := by decide +kernel
theorem dJ2_indexOfChar_4cfef_13 : decode cJ2_indexOfChar_4cfef 13 = .ok (.ireturn, 1) := by decide +kernel
theorem dJ2_indexOfCharUnsafe_4cfef_0 : decode cJ2_indexOfCharUnsafe_4cfef 0 = .ok (.iload_n 2, 1) := by decide +kernel
theorem dJ2_indexOfCharUnsafe_4cfef_1 : decode cJ2_indexOfCharUnsafe_4cfef 1 = .ok (.istore 4, 2) := by decide +kernel
theorem dJ2_indexOfCharUnsafe_4cfef_3 : decode cJ2_indexOfCharUnsafe_4cfef 3 = .ok (.iload 4, 2) := by decide +kernel
theorem dJ2_indexOfCharUnsafe_4cfef_5 : decode cJ2_indexOfCharUnsafe_4cfef 5 = .ok (.iload_n 3, 1) := by decide +kernel
theorem dJ2_indexOfCharUnsafe_4cfef_6 : decode cJ2_indexOfCharUnsafe_4cfef 6 = .ok (.if_icmp .ge 22, 3) := by decide +kernel
theorem dJ2_indexOfCharUnsafe_4cfef_9 : decode cJ2_indexOfCharUnsafe_4cfef 9 = .ok (.aload_n 0, 1) := by decide +kernel
theorem dJ2_indexOfCharUnsafe_4cfef_10 : decode cJ2_indexOfCharUnsafe_4cfef 10 = .ok (.iload 4, 2) := by decide +kernel
theorem dJ2_indexOfCharUnsafe_4cfef_12 : decode cJ2_indexOfCharUnsafe_4cfef 12 = .ok (.invokestatic 71, 3) := by decide +kernel
theorem dJ2_indexOfCharUnsafe_4cfef_15 : decode cJ2_indexOfCharUnsafe_4cfef 15 = .ok (.iload_n 1, 1) := by decide +kernel
theorem dJ2_indexOfCharUnsafe_4cfef_16 : decode cJ2_indexOfCharUnsafe_4cfef 16 = .ok (.if_icmp .ne 6, 3) := by decide +kernel
theorem dJ2_indexOfCharUnsafe_4cfef_19 : decode cJ2_indexOfCharUnsafe_4cfef 19 = .ok (.iload 4, 2) := by decide +kernel
theorem dJ2_indexOfCharUnsafe_4cfef_21 : decode cJ2_indexOfCharUnsafe_4cfef 21 = .ok (.ireturn, 1) := by decide +kernel
theorem dJ2_indexOfCharUnsafe_4cfef_22 : decode cJ2_indexOfCharUnsafe_4cfef 22 = .ok (.iinc 4 1, 3) := by decide +kernel
theorem dJ2_indexOfCharUnsafe_4cfef_25 : decode cJ2_indexOfCharUnsafe_4cfef 25 = .ok (.goto (-22), 3) := by decide +kernel
theorem dJ2_indexOfCharUnsafe_4cfef_28 : decode cJ2_indexOfCharUnsafe_4cfef 28 = .ok (.iconst (-1), 1) := by decide +kernel
theorem dJ2_indexOfCharUnsafe_4cfef_29 : decode cJ2_indexOfCharUnsafe_4cfef 29 = .ok (.ireturn, 1) := by decide +kernel
theorem dJ2_indexOfSupplementary_4cfef_0 : decode cJ2_indexOfSupplementary_4cfef 0 = .ok (.iload_n 1, 1) := by decide +kernel
theorem dJ2_indexOfSupplementary_4cfef_1 : decode cJ2_indexOfSupplementary_4cfef 1 = .ok (.invokestatic 164, 3) := by decide +kernel
theorem dJ2_indexOfSupplementary_4cfef_4 : decode cJ2_indexOfSupplementary_4cfef 4 = .ok (.ifCond .eq 65, 3) := by decide +kernel
theorem dJ2_indexOfSupplementary_4cfef_7 : decode cJ2_indexOfSupplementary_4cfef 7 = .ok (.iload_n 1, 1) := by decide +kernel
theorem dJ2_indexOfSupplementary_4cfef_8 : decode cJ2_indexOfSupplementary_4cfef 8 = .ok (.invokestatic 157, 3) := by decide +kernel
theorem dJ2_indexOfSupplementary_4cfef_11 : decode cJ2_indexOfSupplementary_4cfef 11 = .ok (.istore 4, 2) := by decide +kernel
theorem dJ2_indexOfSupplementary_4cfef_13 : decode cJ2_indexOfSupplementary_4cfef 13 = .ok (.iload_n 1, 1) := by decide +kernel
theorem dJ2_indexOfSupplementary_4cfef_14 : decode cJ2_indexOfSupplementary_4cfef 14 = .ok (.invokestatic 161, 3) := by decide +kernel
theorem dJ2_indexOfSupplementary_4cfef_17 : decode cJ2_indexOfSupplementary_4cfef 17 = .ok (.istore 5, 2) := by decide +kernel
theorem dJ2_indexOfSupplementary_4cfef_19 : decode cJ2_indexOfSupplementary_4cfef 19 = .ok (.iload_n 2, 1) := by decide +kernel
theorem dJ2_indexOfSupplementary_4cfef_20 : decode cJ2_indexOfSupplementary_4cfef 20 = .ok (.iload_n 3, 1) := by decide +kernel
theorem dJ2_indexOfSupplementary_4cfef_21 : decode cJ2_indexOfSupplementary_4cfef 21 = .ok (.aload_n 0, 1) := by decide +kernel
theorem dJ2_indexOfSupplementary_4cfef_22 : decode cJ2_indexOfSupplementary_4cfef 22 = .ok (.invokestatic 96, 3) := by decide +kernel
theorem dJ2_indexOfSupplementary_4cfef_25 : decode cJ2_indexOfSupplementary_4cfef 25 = .ok (.iload_n 2, 1) := by decide +kernel
theorem dJ2_indexOfSupplementary_4cfef_26 : decode cJ2_indexOfSupplementary_4cfef 26 = .ok (.istore 6, 2) := by decide +kernel
theorem dJ2_indexOfSupplementary_4cfef_28 : decode cJ2_indexOfSupplementary_4cfef 28 = .ok (.iload 6, 2) := by decide +kernel
theorem dJ2_indexOfSupplementary_4cfef_30 : decode cJ2_indexOfSupplementary_4cfef 30 = .ok (.iload_n 3, 1) := by decide +kernel
theorem dJ2_indexOfSupplementary_4cfef_31 : decode cJ2_indexOfSupplementary_4cfef 31 = .ok (.iconst 1, 1) := by decide +kernel
theorem dJ2_indexOfSupplementary_4cfef_32 : decode cJ2_indexOfSupplementary_4cfef 32 = .ok (.isub, 1) := by decide +kernel
theorem dJ2_indexOfSupplementary_4cfef_33 : decode cJ2_indexOfSupplementary_4cfef 33 = .ok (.if_icmp .ge 36, 3) := by decide +kernel
theorem dJ2_indexOfSupplementary_4cfef_36 : decode cJ2_indexOfSupplementary_4cfef 36 = .ok (.aload_n 0, 1) := by decide +kernel
theorem dJ2_indexOfSupplementary_4cfef_37 : decode cJ2_indexOfSupplementary_4cfef 37 = .ok (.iload 6, 2) := by decide +kernel
theorem dJ2_indexOfSupplementary_4cfef_39 : decode cJ2_indexOfSupplementary_4cfef 39 = .ok (.invokestatic 71, 3) := by decide +kernel
theorem dJ2_indexOfSupplementary_4cfef_42 : decode cJ2_indexOfSupplementary_4cfef 42 = .ok (.iload 4, 2) := by decide +kernel
theorem dJ2_indexOfSupplementary_4cfef_44 : decode cJ2_indexOfSupplementary_4cfef 44 = .ok (.if_icmp .ne 19, 3) := by decide +kernel
theorem dJ2_indexOfSupplementary_4cfef_47 : decode cJ2_indexOfSupplementary_4cfef 47 = .ok (.aload_n 0, 1) := by decide +kernel
theorem dJ2_indexOfSupplementary_4cfef_48 : decode cJ2_indexOfSupplementary_4cfef 48 = .ok (.iload 6, 2) := by decide +kernel
theorem dJ2_indexOfSupplementary_4cfef_50 : decode cJ2_indexOfSupplementary_4cfef 50 = .ok (.iconst 1, 1) := by decide +kernel
theorem dJ2_indexOfSupplementary_4cfef_51 : decode cJ2_indexOfSupplementary_4cfef 51 = .ok (.iadd, 1) := by decide +kernel
theorem dJ2_indexOfSupplementary_4cfef_52 : decode cJ2_indexOfSupplementary_4cfef 52 = .ok (.invokestatic 71, 3) := by decide +kernel
theorem dJ2_indexOfSupplementary_4cfef_55 : decode cJ2_indexOfSupplementary_4cfef 55 = .ok (.iload 5, 2) := by decide +kernel
theorem dJ2_indexOfSupplementary_4cfef_57 : decode cJ2_indexOfSupplementary_4cfef 57 = .ok (.if_icmp .ne 6, 3) := by decide +kernel
theorem dJ2_indexOfSupplementary_4cfef_60 : decode cJ2_indexOfSupplementary_4cfef 60 = .ok (.iload 6, 2) := by decide +kernel
theorem dJ2_indexOfSupplementary_4cfef_62 : decode cJ2_indexOfSupplementary_4cfef 62 = .ok (.ireturn, 1) := by decide +kernel
theorem dJ2_indexOfSupplementary_4cfef_63 : decode cJ2_indexOfSupplementary_4cfef 63 = .ok (.iinc 6 1, 3) := by decide +kernel
theorem dJ2_indexOfSupplementary_4cfef_66 : decode cJ2_indexOfSupplementary_4cfef 66 = .ok (.goto (-38), 3) := by decide +kernel
theorem dJ2_indexOfSupplementary_4cfef_69 : decode cJ2_indexOfSupplementary_4cfef 69 = .ok (.iconst (-1), 1) := by decide +kernel
theorem dJ2_indexOfSupplementary_4cfef_70 : decode cJ2_indexOfSupplementary_4cfef 70 = .ok (.ireturn, 1) := by decide +kernel
theorem dJ2_checkBoundsBeginEnd_d044e_0 : decode cJ2_checkBoundsBeginEnd_d044e 0 = .ok (.iload_n 0, 1) := by decide +kernel
theorem dJ2_checkBoundsBeginEnd_d044e_1 : decode cJ2_checkBoundsBeginEnd_d044e 1 = .ok (.iload_n 1, 1) := by decide +kernel
theorem dJ2_checkBoundsBeginEnd_d044e_2 : decode cJ2_checkBoundsBeginEnd_d044e 2 = .ok (.aload_n 2, 1) := by decide +kernel
theorem dJ2_checkBoundsBeginEnd_d044e_3 : decode cJ2_checkBoundsBeginEnd_d044e 3 = .ok (.invokestatic 48, 3) := by decide +kernel
theorem dJ2_checkBoundsBeginEnd_d044e_6 : decode cJ2_checkBoundsBeginEnd_d044e 6 = .ok (.invokestatic 241, 3) := by decide +kernel
theorem dJ2_checkBoundsBeginEnd_d044e_9 : decode cJ2_checkBoundsBeginEnd_d044e 9 = .ok (.return_, 1) := by decide +kernel
theorem dJ3_checkFromToIndex_8c36e_0 : decode cJ3_checkFromToIndex_8c36e 0 = .ok (.iload_n 0, 1) := by decide +kernel
theorem dJ3_checkFromToIndex_8c36e_1 : decode cJ3_checkFromToIndex_8c36e 1 = .ok (.ifCond .lt 13, 3) := by decide +kernel
theorem dJ3_checkFromToIndex_8c36e_4 : decode cJ3_checkFromToIndex_8c36e 4 = .ok (.iload_n 0, 1) := by decide +kernel
theorem dJ3_checkFromToIndex_8c36e_5 : decode cJ3_checkFromToIndex_8c36e 5 = .ok (.iload_n 1, 1) := by decide +kernel
theorem dJ3_checkFromToIndex_8c36e_6 : decode cJ3_checkFromToIndex_8c36e 6 = .ok (.if_icmp .gt 8, 3) := by decide +kernel
theorem dJ3_checkFromToIndex_8c36e_9 : decode cJ3_checkFromToIndex_8c36e 9 = .ok (.iload_n 1, 1) := by decide +kernel
theorem dJ3_checkFromToIndex_8c36e_10 : decode cJ3_checkFromToIndex_8c36e 10 = .ok (.iload_n 2, 1) := by decide +kernel
theorem dJ3_checkFromToIndex_8c36e_11 : decode cJ3_checkFromToIndex_8c36e 11 = .ok (.if_icmp .le 11, 3) := by decide +kernel
theorem dJ3_checkFromToIndex_8c36e_14 : decode cJ3_checkFromToIndex_8c36e 14 = .ok (.aload_n 3, 1) := by decide +kernel
theorem dJ3_checkFromToIndex_8c36e_15 : decode cJ3_checkFromToIndex_8c36e 15 = .ok (.iload_n 0, 1) := by decide +kernel
theorem dJ3_checkFromToIndex_8c36e_16 : decode cJ3_checkFromToIndex_8c36e 16 = .ok (.iload_n 1, 1) := by decide +kernel
theorem dJ3_checkFromToIndex_8c36e_17 : decode cJ3_checkFromToIndex_8c36e 17 = .ok (.iload_n 2, 1) := by decide +kernel
theorem dJ3_checkFromToIndex_8c36e_18 : decode cJ3_checkFromToIndex_8c36e 18 = .ok (.invokestatic 99, 3) := by decide +kernel
theorem dJ3_checkFromToIndex_8c36e_21 : decode cJ3_checkFromToIndex_8c36e 21 = .ok (.athrow, 1) := by decide +kernel
theorem dJ3_checkFromToIndex_8c36e_22 : decode cJ3_checkFromToIndex_8c36e 22 = .ok (.iload_n 0, 1) := by decide +kernel
theorem dJ3_checkFromToIndex_8c36e_23 : decode cJ3_checkFromToIndex_8c36e 23 = .ok (.ireturn, 1) := by decide +kernel
theorem dL_below_0 : decode cL_below 0 = .ok (.iload_n 0, 1) := by decide +kernel
theorem dL_below_1 : decode cL_below 1 = .ok (.ldc 7, 2) := by decide +kernel
theorem dL_below_3 : decode cL_below 3 = .ok (.iand, 1) := by decide +kernel
theorem dL_below_4 : decode cL_below 4 = .ok (.iload_n 1, 1) := by decide +kernel
theorem dL_below_5 : decode cL_below 5 = .ok (.irem, 1) := by decide +kernel
theorem dL_below_6 : decode cL_below 6 = .ok (.ireturn, 1) := by decide +kernel
theorem dL_cell_0 : decode cL_cell 0 = .ok (.iload_n 1, 1) := by decide +kernel
theorem dL_cell_1 : decode cL_cell 1 = .ok (.aload_n 0, 1) := by decide +kernel
theorem dL_cell_2 : decode cL_cell 2 = .ok (.arraylength, 1) := by decide +kernel
theorem dL_cell_3 : decode cL_cell 3 = .ok (.if_icmp .ge 9, 3) := by decide +kernel
theorem dL_cell_6 : decode cL_cell 6 = .ok (.aload_n 0, 1) := by decide +kernel
theorem dL_cell_7 : decode cL_cell 7 = .ok (.iload_n 1, 1) := by decide +kernel
theorem dL_cell_8 : decode cL_cell 8 = .ok (.iaload, 1) := by decide +kernel
theorem dL_cell_9 : decode cL_cell 9 = .ok (.goto 9, 3) := by decide +kernel
theorem dL_cell_12 : decode cL_cell 12 = .ok (.ldc 8, 2) := by decide +kernel
theorem dL_cell_14 : decode cL_cell 14 = .ok (.iload_n 1, 1) := by decide +kernel
theorem dL_cell_15 : decode cL_cell 15 = .ok (.iconst 3, 1) := by decide +kernel
theorem dL_cell_16 : decode cL_cell 16 = .ok (.iadd, 1) := by decide +kernel
theorem dL_cell_17 : decode cL_cell 17 = .ok (.imul, 1) := by decide +kernel
theorem dL_cell_18 : decode cL_cell 18 = .ok (.ireturn, 1) := by decide +kernel
theorem dL_build_0 : decode cL_build 0 = .ok (.new 9, 3) := by decide +kernel
theorem dL_build_3 : decode cL_build 3 = .ok (.dup, 1) := by decide +kernel
theorem dL_build_4 : decode cL_build 4 = .ok (.invokespecial 11, 3) := by decide +kernel
theorem dL_build_7 : decode cL_build 7 = .ok (.astore_n 3, 1) := by decide +kernel
theorem dL_build_8 : decode cL_build 8 = .ok (.aload_n 1, 1) := by decide +kernel
theorem dL_build_9 : decode cL_build 9 = .ok (.iconst 0, 1) := by decide +kernel
theorem dL_build_10 : decode cL_build 10 = .ok (.invokestatic 12, 3) := by decide +kernel
theorem dL_build_13 : decode cL_build 13 = .ok (.iconst 2, 1) := by decide +kernel
theorem dL_build_14 : decode cL_build 14 = .ok (.invokestatic 18, 3) := by decide +kernel
theorem dL_build_17 : decode cL_build 17 = .ok (.ifCond .ne 60, 3) := by decide +kernel
theorem dL_build_20 : decode cL_build 20 = .ok (.aload_n 3, 1) := by decide +kernel
theorem dL_build_21 : decode cL_build 21 = .ok (.iconst 1, 1) := by decide +kernel
theorem dL_build_22 : decode cL_build 22 = .ok (.aload_n 1, 1) := by decide +kernel
theorem dL_build_23 : decode cL_build 23 = .ok (.iconst 0, 1) := by decide +kernel
theorem dL_build_24 : decode cL_build 24 = .ok (.invokestatic 12, 3) := by decide +kernel
theorem dL_build_27 : decode cL_build 27 = .ok (.iconst 3, 1) := by decide +kernel
theorem dL_build_28 : decode cL_build 28 = .ok (.ishr, 1) := by decide +kernel
theorem dL_build_29 : decode cL_build 29 = .ok (.bipush 12, 2) := by decide +kernel
theorem dL_build_31 : decode cL_build 31 = .ok (.invokestatic 18, 3) := by decide +kernel
theorem dL_build_34 : decode cL_build 34 = .ok (.iadd, 1) := by decide +kernel
theorem dL_build_35 : decode cL_build 35 = .ok (.putfield 22, 3) := by decide +kernel
theorem dL_build_38 : decode cL_build 38 = .ok (.aload_n 3, 1) := by decide +kernel
theorem dL_build_39 : decode cL_build 39 = .ok (.iconst 2, 1) := by decide +kernel
theorem dL_build_40 : decode cL_build 40 = .ok (.aload_n 1, 1) := by decide +kernel
theorem dL_build_41 : decode cL_build 41 = .ok (.iconst 0, 1) := by decide +kernel
theorem dL_build_42 : decode cL_build 42 = .ok (.invokestatic 12, 3) := by decide +kernel
theorem dL_build_45 : decode cL_build 45 = .ok (.bipush 6, 2) := by decide +kernel
theorem dL_build_47 : decode cL_build 47 = .ok (.ishr, 1) := by decide +kernel
theorem dL_build_48 : decode cL_build 48 = .ok (.iconst 3, 1) := by decide +kernel
theorem dL_build_49 : decode cL_build 49 = .ok (.invokestatic 18, 3) := by decide +kernel
theorem dL_build_52 : decode cL_build 52 = .ok (.ishl, 1) := by decide +kernel
theorem dL_build_53 : decode cL_build 53 = .ok (.putfield 26, 3) := by decide +kernel
theorem dL_build_56 : decode cL_build 56 = .ok (.aload_n 0, 1) := by decide +kernel
theorem dL_build_57 : decode cL_build 57 = .ok (.aload_n 3, 1) := by decide +kernel
theorem dL_build_58 : decode cL_build 58 = .ok (.getfield 22, 3) := by decide +kernel
theorem dL_build_61 : decode cL_build 61 = .ok (.aload_n 3, 1) := by decide +kernel
theorem dL_build_62 : decode cL_build 62 = .ok (.getfield 26, 3) := by decide +kernel
theorem dL_build_65 : decode cL_build 65 = .ok (.invokevirtual 29, 3) := by decide +kernel
theorem dL_build_68 : decode cL_build 68 = .ok (.aload_n 3, 1) := by decide +kernel
theorem dL_build_69 : decode cL_build 69 = .ok (.invokevirtual 34, 3) := by decide +kernel
theorem dL_build_72 : decode cL_build 72 = .ok (.if_icmp .eq 5, 3) := by decide +kernel
theorem dL_build_75 : decode cL_build 75 = .ok (.aconst_null, 1) := by decide +kernel
theorem dL_build_76 : decode cL_build 76 = .ok (.areturn, 1) := by decide +kernel
theorem dL_build_77 : decode cL_build 77 = .ok (.aload_n 1, 1) := by decide +kernel
theorem dL_build_78 : decode cL_build 78 = .ok (.iconst 1, 1) := by decide +kernel
theorem dL_build_79 : decode cL_build 79 = .ok (.invokestatic 12, 3) := by decide +kernel
theorem dL_build_82 : decode cL_build 82 = .ok (.bipush 15, 2) := by decide +kernel
theorem dL_build_84 : decode cL_build 84 = .ok (.invokestatic 18, 3) := by decide +kernel
theorem dL_build_87 : decode cL_build 87 = .ok (.bipush 7, 2) := by decide +kernel
theorem dL_build_89 : decode cL_build 89 = .ok (.isub, 1) := by decide +kernel
theorem dL_build_90 : decode cL_build 90 = .ok (.istore 4, 2) := by decide +kernel
theorem dL_build_92 : decode cL_build 92 = .ok (.aload_n 0, 1) := by decide +kernel
theorem dL_build_93 : decode cL_build 93 = .ok (.iload 4, 2) := by decide +kernel
theorem dL_build_95 : decode cL_build 95 = .ok (.invokevirtual 38, 3) := by decide +kernel
theorem dL_build_98 : decode cL_build 98 = .ok (.ifCond .eq 5, 3) := by decide +kernel
theorem dL_build_101 : decode cL_build 101 = .ok (.aconst_null, 1) := by decide +kernel
theorem dL_build_102 : decode cL_build 102 = .ok (.areturn, 1) := by decide +kernel
theorem dL_build_103 : decode cL_build 103 = .ok (.aload_n 3, 1) := by decide +kernel
theorem dL_build_104 : decode cL_build 104 = .ok (.iload 4, 2) := by decide +kernel
theorem dL_build_106 : decode cL_build 106 = .ok (.putfield 42, 3) := by decide +kernel
theorem dL_build_109 : decode cL_build 109 = .ok (.iconst 1, 1) := by decide +kernel
theorem dL_build_110 : decode cL_build 110 = .ok (.aload_n 1, 1) := by decide +kernel
theorem dL_build_111 : decode cL_build 111 = .ok (.iconst 1, 1) := by decide +kernel
theorem dL_build_112 : decode cL_build 112 = .ok (.invokestatic 12, 3) := by decide +kernel
theorem dL_build_115 : decode cL_build 115 = .ok (.iconst 5, 1) := by decide +kernel
theorem dL_build_116 : decode cL_build 116 = .ok (.ishr, 1) := by decide +kernel
theorem dL_build_117 : decode cL_build 117 = .ok (.iconst 3, 1) := by decide +kernel
theorem dL_build_118 : decode cL_build 118 = .ok (.invokestatic 18, 3) := by decide +kernel
theorem dL_build_121 : decode cL_build 121 = .ok (.iadd, 1) := by decide +kernel
theorem dL_build_122 : decode cL_build 122 = .ok (.istore 5, 2) := by decide +kernel
theorem dL_build_124 : decode cL_build 124 = .ok (.iconst 0, 1) := by decide +kernel
theorem dL_build_125 : decode cL_build 125 = .ok (.istore 6, 2) := by decide +kernel
theorem dL_build_127 : decode cL_build 127 = .ok (.iload 6, 2) := by decide +kernel
theorem dL_build_129 : decode cL_build 129 = .ok (.iload 5, 2) := by decide +kernel
theorem dL_build_131 : decode cL_build 131 = .ok (.if_icmp .ge 24, 3) := by decide +kernel
theorem dL_build_134 : decode cL_build 134 = .ok (.aload_n 3, 1) := by decide +kernel
theorem dL_build_135 : decode cL_build 135 = .ok (.invokevirtual 45, 3) := by decide +kernel
theorem dL_build_138 : decode cL_build 138 = .ok (.aload_n 0, 1) := by decide +kernel
theorem dL_build_139 : decode cL_build 139 = .ok (.invokevirtual 48, 3) := by decide +kernel
theorem dL_build_142 : decode cL_build 142 = .ok (.iload 6, 2) := by decide +kernel
theorem dL_build_144 : decode cL_build 144 = .ok (.if_icmp .eq 5, 3) := by decide +kernel
theorem dL_build_147 : decode cL_build 147 = .ok (.aconst_null, 1) := by decide +kernel
theorem dL_build_148 : decode cL_build 148 = .ok (.areturn, 1) := by decide +kernel
theorem dL_build_149 : decode cL_build 149 = .ok (.iinc 6 1, 3) := by decide +kernel
theorem dL_build_152 : decode cL_build 152 = .ok (.goto (-25), 3) := by decide +kernel
theorem dL_build_155 : decode cL_build 155 = .ok (.iconst 0, 1) := by decide +kernel
theorem dL_build_156 : decode cL_build 156 = .ok (.istore 6, 2) := by decide +kernel
theorem dL_build_158 : decode cL_build 158 = .ok (.iload 6, 2) := by decide +kernel
theorem dL_build_160 : decode cL_build 160 = .ok (.iload_n 2, 1) := by decide +kernel
theorem dL_build_161 : decode cL_build 161 = .ok (.if_icmp .ge 378, 3) := by decide +kernel
theorem dL_build_164 : decode cL_build 164 = .ok (.aload_n 1, 1) := by decide +kernel
theorem dL_build_165 : decode cL_build 165 = .ok (.iload 6, 2) := by decide +kernel
theorem dL_build_167 : decode cL_build 167 = .ok (.bipush 16, 2) := by decide +kernel
theorem dL_build_169 : decode cL_build 169 = .ok (.irem, 1) := by decide +kernel
theorem dL_build_170 : decode cL_build 170 = .ok (.invokestatic 12, 3) := by decide +kernel
theorem dL_build_173 : decode cL_build 173 = .ok (.iload 6, 2) := by decide +kernel
theorem dL_build_175 : decode cL_build 175 = .ok (.bipush 16, 2) := by decide +kernel
theorem dL_build_177 : decode cL_build 177 = .ok (.idiv, 1) := by decide +kernel
theorem dL_build_178 : decode cL_build 178 = .ok (.iconst 4, 1) := by decide +kernel
theorem dL_build_179 : decode cL_build 179 = .ok (.imul, 1) := by decide +kernel
theorem dL_build_180 : decode cL_build 180 = .ok (.ishr, 1) := by decide +kernel
theorem dL_build_181 : decode cL_build 181 = .ok (.istore 7, 2) := by decide +kernel
theorem dL_build_183 : decode cL_build 183 = .ok (.iload 7, 2) := by decide +kernel
theorem dL_build_185 : decode cL_build 185 = .ok (.iload 5, 2) := by decide +kernel
theorem dL_build_187 : decode cL_build 187 = .ok (.invokestatic 18, 3) := by decide +kernel
theorem dL_build_190 : decode cL_build 190 = .ok (.istore 8, 2) := by decide +kernel
theorem dL_build_192 : decode cL_build 192 = .ok (.iconst 1, 1) := by decide +kernel
theorem dL_build_193 : decode cL_build 193 = .ok (.iload 7, 2) := by decide +kernel
theorem dL_build_195 : decode cL_build 195 = .ok (.iconst 2, 1) := by decide +kernel
theorem dL_build_196 : decode cL_build 196 = .ok (.ishr, 1) := by decide +kernel
theorem dL_build_197 : decode cL_build 197 = .ok (.bipush 6, 2) := by decide +kernel
theorem dL_build_199 : decode cL_build 199 = .ok (.invokestatic 18, 3) := by decide +kernel
theorem dL_build_202 : decode cL_build 202 = .ok (.ishl, 1) := by decide +kernel
theorem dL_build_203 : decode cL_build 203 = .ok (.istore 9, 2) := by decide +kernel
theorem dL_build_205 : decode cL_build 205 = .ok (.iload 9, 2) := by decide +kernel
theorem dL_build_207 : decode cL_build 207 = .ok (.bipush 32, 2) := by decide +kernel
theorem dL_build_209 : decode cL_build 209 = .ok (.if_icmp .ne 7, 3) := by decide +kernel
theorem dL_build_212 : decode cL_build 212 = .ok (.iconst 0, 1) := by decide +kernel
theorem dL_build_213 : decode cL_build 213 = .ok (.goto 22, 3) := by decide +kernel
theorem dL_build_216 : decode cL_build 216 = .ok (.iload 7, 2) := by decide +kernel
theorem dL_build_218 : decode cL_build 218 = .ok (.iconst 4, 1) := by decide +kernel
theorem dL_build_219 : decode cL_build 219 = .ok (.ishr, 1) := by decide +kernel
theorem dL_build_220 : decode cL_build 220 = .ok (.iload 9, 2) := by decide +kernel
theorem dL_build_222 : decode cL_build 222 = .ok (.bipush 16, 2) := by decide +kernel
theorem dL_build_224 : decode cL_build 224 = .ok (.if_icmp .ne 7, 3) := by decide +kernel
theorem dL_build_227 : decode cL_build 227 = .ok (.iconst 2, 1) := by decide +kernel
theorem dL_build_228 : decode cL_build 228 = .ok (.goto 4, 3) := by decide +kernel
theorem dL_build_231 : decode cL_build 231 = .ok (.iconst 3, 1) := by decide +kernel
theorem dL_build_232 : decode cL_build 232 = .ok (.invokestatic 18, 3) := by decide +kernel
theorem dL_build_235 : decode cL_build 235 = .ok (.istore 10, 2) := by decide +kernel
theorem dL_build_237 : decode cL_build 237 = .ok (.aload_n 3, 1) := by decide +kernel
theorem dL_build_238 : decode cL_build 238 = .ok (.iload 8, 2) := by decide +kernel
theorem dL_build_240 : decode cL_build 240 = .ok (.invokevirtual 50, 3) := by decide +kernel
theorem dL_build_243 : decode cL_build 243 = .ok (.iload 9, 2) := by decide +kernel
theorem dL_build_245 : decode cL_build 245 = .ok (.iload 10, 2) := by decide +kernel
theorem dL_build_247 : decode cL_build 247 = .ok (.invokestatic 53, 3) := by decide +kernel
theorem dL_build_250 : decode cL_build 250 = .ok (.iadd, 1) := by decide +kernel
theorem dL_build_251 : decode cL_build 251 = .ok (.bipush 100, 2) := by decide +kernel
theorem dL_build_253 : decode cL_build 253 = .ok (.aload_n 3, 1) := by decide +kernel
theorem dL_build_254 : decode cL_build 254 = .ok (.invokevirtual 34, 3) := by decide +kernel
theorem dL_build_257 : decode cL_build 257 = .ok (.imul, 1) := by decide +kernel
theorem dL_build_258 : decode cL_build 258 = .ok (.if_icmp .gt 275, 3) := by decide +kernel
theorem dL_build_261 : decode cL_build 261 = .ok (.aload_n 3, 1) := by decide +kernel
theorem dL_build_262 : decode cL_build 262 = .ok (.getfield 56, 3) := by decide +kernel
theorem dL_build_265 : decode cL_build 265 = .ok (.iload 8, 2) := by decide +kernel
theorem dL_build_267 : decode cL_build 267 = .ok (.aaload, 1) := by decide +kernel
theorem dL_build_268 : decode cL_build 268 = .ok (.arraylength, 1) := by decide +kernel
theorem dL_build_269 : decode cL_build 269 = .ok (.sipush 150, 3) := by decide +kernel
theorem dL_build_272 : decode cL_build 272 = .ok (.if_icmp .le 6, 3) := by decide +kernel
theorem dL_build_275 : decode cL_build 275 = .ok (.goto 258, 3) := by decide +kernel
theorem dL_build_278 : decode cL_build 278 = .ok (.iload 7, 2) := by decide +kernel
theorem dL_build_280 : decode cL_build 280 = .ok (.iconst 5, 1) := by decide +kernel
theorem dL_build_281 : decode cL_build 281 = .ok (.ishr, 1) := by decide +kernel
theorem dL_build_282 : decode cL_build 282 = .ok (.bipush 6, 2) := by decide +kernel
theorem dL_build_284 : decode cL_build 284 = .ok (.invokestatic 18, 3) := by decide +kernel
theorem dL_build_287 : decode cL_build 287 = .ok (.ifCond .ne 33, 3) := by decide +kernel
theorem dL_build_290 : decode cL_build 290 = .ok (.aload_n 0, 1) := by decide +kernel
theorem dL_build_291 : decode cL_build 291 = .ok (.iload 8, 2) := by decide +kernel
theorem dL_build_293 : decode cL_build 293 = .ok (.iload 9, 2) := by decide +kernel
theorem dL_build_295 : decode cL_build 295 = .ok (.iload 10, 2) := by decide +kernel
theorem dL_build_297 : decode cL_build 297 = .ok (.invokevirtual 60, 3) := by decide +kernel
theorem dL_build_300 : decode cL_build 300 = .ok (.aload_n 3, 1) := by decide +kernel
theorem dL_build_301 : decode cL_build 301 = .ok (.iload 8, 2) := by decide +kernel
theorem dL_build_303 : decode cL_build 303 = .ok (.iload 9, 2) := by decide +kernel
theorem dL_build_305 : decode cL_build 305 = .ok (.iload 10, 2) := by decide +kernel
theorem dL_build_307 : decode cL_build 307 = .ok (.iconst 0, 1) := by decide +kernel
theorem dL_build_308 : decode cL_build 308 = .ok (.iconst 0, 1) := by decide +kernel
theorem dL_build_309 : decode cL_build 309 = .ok (.iconst 0, 1) := by decide +kernel
theorem dL_build_310 : decode cL_build 310 = .ok (.iconst 0, 1) := by decide +kernel
theorem dL_build_311 : decode cL_build 311 = .ok (.iconst 0, 1) := by decide +kernel
theorem dL_build_312 : decode cL_build 312 = .ok (.invokevirtual 64, 3) := by decide +kernel
theorem dL_build_315 : decode cL_build 315 = .ok (.if_icmp .eq 218, 3) := by decide +kernel
theorem dL_build_318 : decode cL_build 318 = .ok (.aconst_null, 1) := by decide +kernel
theorem dL_build_319 : decode cL_build 319 = .ok (.areturn, 1) := by decide +kernel
theorem dL_build_320 : decode cL_build 320 = .ok (.iload 7, 2) := by decide +kernel
theorem dL_build_322 : decode cL_build 322 = .ok (.iconst 3, 1) := by decide +kernel
theorem dL_build_323 : decode cL_build 323 = .ok (.ishr, 1) := by decide +kernel
theorem dL_build_324 : decode cL_build 324 = .ok (.bipush 7, 2) := by decide +kernel
theorem dL_build_326 : decode cL_build 326 = .ok (.invokestatic 18, 3) := by decide +kernel
theorem dL_build_329 : decode cL_build 329 = .ok (.istore 11, 2) := by decide +kernel
theorem dL_build_331 : decode cL_build 331 = .ok (.iload 7, 2) := by decide +kernel
theorem dL_build_333 : decode cL_build 333 = .ok (.bipush 7, 2) := by decide +kernel
theorem dL_build_335 : decode cL_build 335 = .ok (.ishr, 1) := by decide +kernel
theorem dL_build_336 : decode cL_build 336 = .ok (.iconst 3, 1) := by decide +kernel
theorem dL_build_337 : decode cL_build 337 = .ok (.invokestatic 18, 3) := by decide +kernel
theorem dL_build_340 : decode cL_build 340 = .ok (.ifCond .ne 17, 3) := by decide +kernel
theorem dL_build_343 : decode cL_build 343 = .ok (.iload 7, 2) := by decide +kernel
theorem dL_build_345 : decode cL_build 345 = .ok (.bipush 8, 2) := by decide +kernel
theorem dL_build_347 : decode cL_build 347 = .ok (.ishr, 1) := by decide +kernel
theorem dL_build_348 : decode cL_build 348 = .ok (.iconst 5, 1) := by decide +kernel
theorem dL_build_349 : decode cL_build 349 = .ok (.invokestatic 18, 3) := by decide +kernel
theorem dL_build_352 : decode cL_build 352 = .ok (.iconst 2, 1) := by decide +kernel
theorem dL_build_353 : decode cL_build 353 = .ok (.isub, 1) := by decide +kernel
theorem dL_build_354 : decode cL_build 354 = .ok (.goto 9, 3) := by decide +kernel
theorem dL_build_357 : decode cL_build 357 = .ok (.aload_n 3, 1) := by decide +kernel
theorem dL_build_358 : decode cL_build 358 = .ok (.iload 11, 2) := by decide +kernel
theorem dL_build_360 : decode cL_build 360 = .ok (.invokevirtual 68, 3) := by decide +kernel
theorem dL_build_363 : decode cL_build 363 = .ok (.istore 12, 2) := by decide +kernel
theorem dL_build_365 : decode cL_build 365 = .ok (.iconst 4, 1) := by decide +kernel
theorem dL_build_366 : decode cL_build 366 = .ok (.iload 7, 2) := by decide +kernel
theorem dL_build_368 : decode cL_build 368 = .ok (.bipush 6, 2) := by decide +kernel
theorem dL_build_370 : decode cL_build 370 = .ok (.ishr, 1) := by decide +kernel
theorem dL_build_371 : decode cL_build 371 = .ok (.iconst 2, 1) := by decide +kernel
theorem dL_build_372 : decode cL_build 372 = .ok (.invokestatic 18, 3) := by decide +kernel
theorem dL_build_375 : decode cL_build 375 = .ok (.iadd, 1) := by decide +kernel
theorem dL_build_376 : decode cL_build 376 = .ok (.istore 13, 2) := by decide +kernel
theorem dL_build_378 : decode cL_build 378 = .ok (.iload 7, 2) := by decide +kernel
theorem dL_build_380 : decode cL_build 380 = .ok (.bipush 9, 2) := by decide +kernel
theorem dL_build_382 : decode cL_build 382 = .ok (.ishr, 1) := by decide +kernel
theorem dL_build_383 : decode cL_build 383 = .ok (.iconst 4, 1) := by decide +kernel
theorem dL_build_384 : decode cL_build 384 = .ok (.invokestatic 18, 3) := by decide +kernel
theorem dL_build_387 : decode cL_build 387 = .ok (.ifCond .ne 7, 3) := by decide +kernel
theorem dL_build_390 : decode cL_build 390 = .ok (.iconst 1, 1) := by decide +kernel
theorem dL_build_391 : decode cL_build 391 = .ok (.goto 4, 3) := by decide +kernel
theorem dL_build_394 : decode cL_build 394 = .ok (.iconst 0, 1) := by decide +kernel
theorem dL_build_395 : decode cL_build 395 = .ok (.istore 14, 2) := by decide +kernel
theorem dL_build_397 : decode cL_build 397 = .ok (.iload 7, 2) := by decide +kernel
theorem dL_build_399 : decode cL_build 399 = .ok (.bipush 8, 2) := by decide +kernel
theorem dL_build_401 : decode cL_build 401 = .ok (.ishr, 1) := by decide +kernel
theorem dL_build_402 : decode cL_build 402 = .ok (.iconst 3, 1) := by decide +kernel
theorem dL_build_403 : decode cL_build 403 = .ok (.invokestatic 18, 3) := by decide +kernel
theorem dL_build_406 : decode cL_build 406 = .ok (.ifCond .ne 76, 3) := by decide +kernel
theorem dL_build_409 : decode cL_build 409 = .ok (.aload_n 3, 1) := by decide +kernel
theorem dL_build_410 : decode cL_build 410 = .ok (.getfield 56, 3) := by decide +kernel
theorem dL_build_413 : decode cL_build 413 = .ok (.iload 8, 2) := by decide +kernel
theorem dL_build_415 : decode cL_build 415 = .ok (.aaload, 1) := by decide +kernel
theorem dL_build_416 : decode cL_build 416 = .ok (.arraylength, 1) := by decide +kernel
theorem dL_build_417 : decode cL_build 417 = .ok (.ifCond .le 65, 3) := by decide +kernel
theorem dL_build_420 : decode cL_build 420 = .ok (.aload_n 3, 1) := by decide +kernel
theorem dL_build_421 : decode cL_build 421 = .ok (.getfield 56, 3) := by decide +kernel
theorem dL_build_424 : decode cL_build 424 = .ok (.iload 8, 2) := by decide +kernel
theorem dL_build_426 : decode cL_build 426 = .ok (.aaload, 1) := by decide +kernel
theorem dL_build_427 : decode cL_build 427 = .ok (.aload_n 3, 1) := by decide +kernel
theorem dL_build_428 : decode cL_build 428 = .ok (.getfield 56, 3) := by decide +kernel
theorem dL_build_431 : decode cL_build 431 = .ok (.iload 8, 2) := by decide +kernel
theorem dL_build_433 : decode cL_build 433 = .ok (.aaload, 1) := by decide +kernel
theorem dL_build_434 : decode cL_build 434 = .ok (.arraylength, 1) := by decide +kernel
theorem dL_build_435 : decode cL_build 435 = .ok (.iconst 1, 1) := by decide +kernel
theorem dL_build_436 : decode cL_build 436 = .ok (.isub, 1) := by decide +kernel
theorem dL_build_437 : decode cL_build 437 = .ok (.aaload, 1) := by decide +kernel
theorem dL_build_438 : decode cL_build 438 = .ok (.iconst 2, 1) := by decide +kernel
theorem dL_build_439 : decode cL_build 439 = .ok (.iaload, 1) := by decide +kernel
theorem dL_build_440 : decode cL_build 440 = .ok (.iconst 1, 1) := by decide +kernel
theorem dL_build_441 : decode cL_build 441 = .ok (.if_icmp .ne 41, 3) := by decide +kernel
theorem dL_build_444 : decode cL_build 444 = .ok (.aload_n 3, 1) := by decide +kernel
theorem dL_build_445 : decode cL_build 445 = .ok (.getfield 56, 3) := by decide +kernel
theorem dL_build_448 : decode cL_build 448 = .ok (.iload 8, 2) := by decide +kernel
theorem dL_build_450 : decode cL_build 450 = .ok (.aaload, 1) := by decide +kernel
theorem dL_build_451 : decode cL_build 451 = .ok (.aload_n 3, 1) := by decide +kernel
theorem dL_build_452 : decode cL_build 452 = .ok (.getfield 56, 3) := by decide +kernel
theorem dL_build_455 : decode cL_build 455 = .ok (.iload 8, 2) := by decide +kernel
theorem dL_build_457 : decode cL_build 457 = .ok (.aaload, 1) := by decide +kernel
theorem dL_build_458 : decode cL_build 458 = .ok (.arraylength, 1) := by decide +kernel
theorem dL_build_459 : decode cL_build 459 = .ok (.iconst 1, 1) := by decide +kernel
theorem dL_build_460 : decode cL_build 460 = .ok (.isub, 1) := by decide +kernel
theorem dL_build_461 : decode cL_build 461 = .ok (.aaload, 1) := by decide +kernel
theorem dL_build_462 : decode cL_build 462 = .ok (.astore 15, 2) := by decide +kernel
theorem dL_build_464 : decode cL_build 464 = .ok (.aload 15, 2) := by decide +kernel
theorem dL_build_466 : decode cL_build 466 = .ok (.iconst 3, 1) := by decide +kernel
theorem dL_build_467 : decode cL_build 467 = .ok (.iaload, 1) := by decide +kernel
theorem dL_build_468 : decode cL_build 468 = .ok (.istore 11, 2) := by decide +kernel
theorem dL_build_470 : decode cL_build 470 = .ok (.aload 15, 2) := by decide +kernel
theorem dL_build_472 : decode cL_build 472 = .ok (.iconst 4, 1) := by decide +kernel
theorem dL_build_473 : decode cL_build 473 = .ok (.iaload, 1) := by decide +kernel
theorem dL_build_474 : decode cL_build 474 = .ok (.istore 12, 2) := by decide +kernel
theorem dL_build_476 : decode cL_build 476 = .ok (.aload 15, 2) := by decide +kernel
theorem dL_build_478 : decode cL_build 478 = .ok (.iconst 5, 1) := by decide +kernel
theorem dL_build_479 : decode cL_build 479 = .ok (.iaload, 1) := by decide +kernel
theorem dL_build_480 : decode cL_build 480 = .ok (.istore 13, 2) := by decide +kernel
theorem dL_build_482 : decode cL_build 482 = .ok (.aload_n 0, 1) := by decide +kernel
theorem dL_build_483 : decode cL_build 483 = .ok (.iload 8, 2) := by decide +kernel
theorem dL_build_485 : decode cL_build 485 = .ok (.iload 9, 2) := by decide +kernel
theorem dL_build_487 : decode cL_build 487 = .ok (.iload 10, 2) := by decide +kernel
theorem dL_build_489 : decode cL_build 489 = .ok (.iload 11, 2) := by decide +kernel
theorem dL_build_491 : decode cL_build 491 = .ok (.iload 12, 2) := by decide +kernel
theorem dL_build_493 : decode cL_build 493 = .ok (.iload 13, 2) := by decide +kernel
theorem dL_build_495 : decode cL_build 495 = .ok (.iload 14, 2) := by decide +kernel
theorem dL_build_497 : decode cL_build 497 = .ok (.iconst 1, 1) := by decide +kernel
theorem dL_build_498 : decode cL_build 498 = .ok (.if_icmp .ne 7, 3) := by decide +kernel
theorem dL_build_501 : decode cL_build 501 = .ok (.iconst 1, 1) := by decide +kernel
theorem dL_build_502 : decode cL_build 502 = .ok (.goto 4, 3) := by decide +kernel
theorem dL_build_505 : decode cL_build 505 = .ok (.iconst 0, 1) := by decide +kernel
theorem dL_build_506 : decode cL_build 506 = .ok (.invokevirtual 71, 3) := by decide +kernel
theorem dL_build_509 : decode cL_build 509 = .ok (.aload_n 3, 1) := by decide +kernel
theorem dL_build_510 : decode cL_build 510 = .ok (.iload 8, 2) := by decide +kernel
theorem dL_build_512 : decode cL_build 512 = .ok (.iload 9, 2) := by decide +kernel
theorem dL_build_514 : decode cL_build 514 = .ok (.iload 10, 2) := by decide +kernel
theorem dL_build_516 : decode cL_build 516 = .ok (.iconst 1, 1) := by decide +kernel
theorem dL_build_517 : decode cL_build 517 = .ok (.iload 11, 2) := by decide +kernel
theorem dL_build_519 : decode cL_build 519 = .ok (.iload 12, 2) := by decide +kernel
theorem dL_build_521 : decode cL_build 521 = .ok (.iload 13, 2) := by decide +kernel
theorem dL_build_523 : decode cL_build 523 = .ok (.iload 14, 2) := by decide +kernel
theorem dL_build_525 : decode cL_build 525 = .ok (.invokevirtual 64, 3) := by decide +kernel
theorem dL_build_528 : decode cL_build 528 = .ok (.if_icmp .eq 5, 3) := by decide +kernel
theorem dL_build_531 : decode cL_build 531 = .ok (.aconst_null, 1) := by decide +kernel
theorem dL_build_532 : decode cL_build 532 = .ok (.areturn, 1) := by decide +kernel
theorem dL_build_533 : decode cL_build 533 = .ok (.iinc 6 1, 3) := by decide +kernel
theorem dL_build_536 : decode cL_build 536 = .ok (.goto (-378), 3) := by decide +kernel
theorem dL_build_539 : decode cL_build 539 = .ok (.aload_n 3, 1) := by decide +kernel
theorem dL_build_540 : decode cL_build 540 = .ok (.areturn, 1) := by decide +kernel
theorem dL_law_0 : decode cL_law 0 = .ok (.new 30, 3) := by decide +kernel
theorem dL_law_3 : decode cL_law 3 = .ok (.dup, 1) := by decide +kernel
theorem dL_law_4 : decode cL_law 4 = .ok (.invokespecial 75, 3) := by decide +kernel
theorem dL_law_7 : decode cL_law 7 = .ok (.astore_n 1, 1) := by decide +kernel
theorem dL_law_8 : decode cL_law 8 = .ok (.aload_n 1, 1) := by decide +kernel
theorem dL_law_9 : decode cL_law 9 = .ok (.aload_n 0, 1) := by decide +kernel
theorem dL_law_10 : decode cL_law 10 = .ok (.bipush 40, 2) := by decide +kernel
theorem dL_law_12 : decode cL_law 12 = .ok (.invokestatic 76, 3) := by decide +kernel
theorem dL_law_15 : decode cL_law 15 = .ok (.astore_n 2, 1) := by decide +kernel
theorem dL_law_16 : decode cL_law 16 = .ok (.aload_n 2, 1) := by decide +kernel
theorem dL_law_17 : decode cL_law 17 = .ok (.ifnonnull 5, 3) := by decide +kernel
theorem dL_law_20 : decode cL_law 20 = .ok (.iconst 0, 1) := by decide +kernel
theorem dL_law_21 : decode cL_law 21 = .ok (.ireturn, 1) := by decide +kernel
theorem dL_law_22 : decode cL_law 22 = .ok (.new 30, 3) := by decide +kernel
theorem dL_law_25 : decode cL_law 25 = .ok (.dup, 1) := by decide +kernel
theorem dL_law_26 : decode cL_law 26 = .ok (.invokespecial 75, 3) := by decide +kernel
theorem dL_law_29 : decode cL_law 29 = .ok (.astore_n 3, 1) := by decide +kernel
theorem dL_law_30 : decode cL_law 30 = .ok (.aload_n 3, 1) := by decide +kernel
theorem dL_law_31 : decode cL_law 31 = .ok (.aload_n 2, 1) := by decide +kernel
theorem dL_law_32 : decode cL_law 32 = .ok (.getfield 22, 3) := by decide +kernel
theorem dL_law_35 : decode cL_law 35 = .ok (.aload_n 2, 1) := by decide +kernel
theorem dL_law_36 : decode cL_law 36 = .ok (.getfield 26, 3) := by decide +kernel
theorem dL_law_39 : decode cL_law 39 = .ok (.invokevirtual 29, 3) := by decide +kernel
theorem dL_law_42 : decode cL_law 42 = .ok (.pop, 1) := by decide +kernel
theorem dL_law_43 : decode cL_law 43 = .ok (.aload_n 3, 1) := by decide +kernel
theorem dL_law_44 : decode cL_law 44 = .ok (.aload_n 1, 1) := by decide +kernel
theorem dL_law_45 : decode cL_law 45 = .ok (.iconst 2, 1) := by decide +kernel
theorem dL_law_46 : decode cL_law 46 = .ok (.invokevirtual 80, 3) := by decide +kernel
theorem dL_law_49 : decode cL_law 49 = .ok (.invokevirtual 38, 3) := by decide +kernel
theorem dL_law_52 : decode cL_law 52 = .ok (.pop, 1) := by decide +kernel
theorem dL_law_53 : decode cL_law 53 = .ok (.aload_n 1, 1) := by decide +kernel
theorem dL_law_54 : decode cL_law 54 = .ok (.iconst 1, 1) := by decide +kernel
theorem dL_law_55 : decode cL_law 55 = .ok (.invokevirtual 80, 3) := by decide +kernel
theorem dL_law_58 : decode cL_law 58 = .ok (.istore 4, 2) := by decide +kernel
theorem dL_law_60 : decode cL_law 60 = .ok (.iconst 0, 1) := by decide +kernel
theorem dL_law_61 : decode cL_law 61 = .ok (.istore 5, 2) := by decide +kernel
theorem dL_law_63 : decode cL_law 63 = .ok (.lconst 0, 1) := by decide +kernel
theorem dL_law_64 : decode cL_law 64 = .ok (.lstore 6, 2) := by decide +kernel
theorem dL_law_66 : decode cL_law 66 = .ok (.iconst 0, 1) := by decide +kernel
theorem dL_law_67 : decode cL_law 67 = .ok (.istore 8, 2) := by decide +kernel
theorem dL_law_69 : decode cL_law 69 = .ok (.iload 8, 2) := by decide +kernel
theorem dL_law_71 : decode cL_law 71 = .ok (.aload_n 1, 1) := by decide +kernel
theorem dL_law_72 : decode cL_law 72 = .ok (.iconst 0, 1) := by decide +kernel
theorem dL_law_73 : decode cL_law 73 = .ok (.invokevirtual 80, 3) := by decide +kernel
theorem dL_law_76 : decode cL_law 76 = .ok (.if_icmp .ge 409, 3) := by decide +kernel
theorem dL_law_79 : decode cL_law 79 = .ok (.aload_n 3, 1) := by decide +kernel
theorem dL_law_80 : decode cL_law 80 = .ok (.invokevirtual 48, 3) := by decide +kernel
theorem dL_law_83 : decode cL_law 83 = .ok (.pop, 1) := by decide +kernel
theorem dL_law_84 : decode cL_law 84 = .ok (.iconst 0, 1) := by decide +kernel
theorem dL_law_85 : decode cL_law 85 = .ok (.istore 9, 2) := by decide +kernel
theorem dL_law_87 : decode cL_law 87 = .ok (.iconst (-1), 1) := by decide +kernel
theorem dL_law_88 : decode cL_law 88 = .ok (.istore 10, 2) := by decide +kernel
theorem dL_law_90 : decode cL_law 90 = .ok (.iload 5, 2) := by decide +kernel
theorem dL_law_92 : decode cL_law 92 = .ok (.aload_n 1, 1) := by decide +kernel
theorem dL_law_93 : decode cL_law 93 = .ok (.iload 8, 2) := by decide +kernel
theorem dL_law_95 : decode cL_law 95 = .ok (.iconst 2, 1) := by decide +kernel
theorem dL_law_96 : decode cL_law 96 = .ok (.invokevirtual 83, 3) := by decide +kernel
theorem dL_law_99 : decode cL_law 99 = .ok (.iadd, 1) := by decide +kernel
theorem dL_law_100 : decode cL_law 100 = .ok (.istore 5, 2) := by decide +kernel
theorem dL_law_102 : decode cL_law 102 = .ok (.iconst 0, 1) := by decide +kernel
theorem dL_law_103 : decode cL_law 103 = .ok (.istore 11, 2) := by decide +kernel
theorem dL_law_105 : decode cL_law 105 = .ok (.iload 11, 2) := by decide +kernel
theorem dL_law_107 : decode cL_law 107 = .ok (.aload_n 1, 1) := by decide +kernel
theorem dL_law_108 : decode cL_law 108 = .ok (.iload 8, 2) := by decide +kernel
theorem dL_law_110 : decode cL_law 110 = .ok (.iconst 0, 1) := by decide +kernel
theorem dL_law_111 : decode cL_law 111 = .ok (.invokevirtual 83, 3) := by decide +kernel
theorem dL_law_114 : decode cL_law 114 = .ok (.if_icmp .ge 337, 3) := by decide +kernel
theorem dL_law_117 : decode cL_law 117 = .ok (.aload_n 1, 1) := by decide +kernel
theorem dL_law_118 : decode cL_law 118 = .ok (.iload 8, 2) := by decide +kernel
theorem dL_law_120 : decode cL_law 120 = .ok (.iload 11, 2) := by decide +kernel
theorem dL_law_122 : decode cL_law 122 = .ok (.iconst 1, 1) := by decide +kernel
theorem dL_law_123 : decode cL_law 123 = .ok (.invokevirtual 86, 3) := by decide +kernel
theorem dL_law_126 : decode cL_law 126 = .ok (.istore 12, 2) := by decide +kernel
theorem dL_law_128 : decode cL_law 128 = .ok (.aload_n 1, 1) := by decide +kernel
theorem dL_law_129 : decode cL_law 129 = .ok (.iload 8, 2) := by decide +kernel
theorem dL_law_131 : decode cL_law 131 = .ok (.iload 11, 2) := by decide +kernel
theorem dL_law_133 : decode cL_law 133 = .ok (.iconst 2, 1) := by decide +kernel
theorem dL_law_134 : decode cL_law 134 = .ok (.invokevirtual 86, 3) := by decide +kernel
theorem dL_law_137 : decode cL_law 137 = .ok (.istore 13, 2) := by decide +kernel
theorem dL_law_139 : decode cL_law 139 = .ok (.aload_n 1, 1) := by decide +kernel
theorem dL_law_140 : decode cL_law 140 = .ok (.iload 8, 2) := by decide +kernel
theorem dL_law_142 : decode cL_law 142 = .ok (.iload 11, 2) := by decide +kernel
theorem dL_law_144 : decode cL_law 144 = .ok (.iconst 3, 1) := by decide +kernel
theorem dL_law_145 : decode cL_law 145 = .ok (.invokevirtual 86, 3) := by decide +kernel
theorem dL_law_148 : decode cL_law 148 = .ok (.istore 14, 2) := by decide +kernel
theorem dL_law_150 : decode cL_law 150 = .ok (.aload_n 1, 1) := by decide +kernel
theorem dL_law_151 : decode cL_law 151 = .ok (.iload 8, 2) := by decide +kernel
theorem dL_law_153 : decode cL_law 153 = .ok (.iload 11, 2) := by decide +kernel
theorem dL_law_155 : decode cL_law 155 = .ok (.iconst 4, 1) := by decide +kernel
theorem dL_law_156 : decode cL_law 156 = .ok (.invokevirtual 86, 3) := by decide +kernel
theorem dL_law_159 : decode cL_law 159 = .ok (.istore 15, 2) := by decide +kernel
theorem dL_law_161 : decode cL_law 161 = .ok (.aload_n 1, 1) := by decide +kernel
theorem dL_law_162 : decode cL_law 162 = .ok (.iload 8, 2) := by decide +kernel
theorem dL_law_164 : decode cL_law 164 = .ok (.iload 11, 2) := by decide +kernel
theorem dL_law_166 : decode cL_law 166 = .ok (.iconst 5, 1) := by decide +kernel
theorem dL_law_167 : decode cL_law 167 = .ok (.invokevirtual 86, 3) := by decide +kernel
theorem dL_law_170 : decode cL_law 170 = .ok (.iconst 1, 1) := by decide +kernel
theorem dL_law_171 : decode cL_law 171 = .ok (.if_icmp .ne 7, 3) := by decide +kernel
theorem dL_law_174 : decode cL_law 174 = .ok (.iconst 1, 1) := by decide +kernel
theorem dL_law_175 : decode cL_law 175 = .ok (.goto 4, 3) := by decide +kernel
theorem dL_law_178 : decode cL_law 178 = .ok (.iconst 0, 1) := by decide +kernel
theorem dL_law_179 : decode cL_law 179 = .ok (.istore 16, 2) := by decide +kernel
theorem dL_law_181 : decode cL_law 181 = .ok (.aload_n 1, 1) := by decide +kernel
theorem dL_law_182 : decode cL_law 182 = .ok (.iload 8, 2) := by decide +kernel
theorem dL_law_184 : decode cL_law 184 = .ok (.iload 11, 2) := by decide +kernel
theorem dL_law_186 : decode cL_law 186 = .ok (.iconst 0, 1) := by decide +kernel
theorem dL_law_187 : decode cL_law 187 = .ok (.invokevirtual 86, 3) := by decide +kernel
theorem dL_law_190 : decode cL_law 190 = .ok (.iload 9, 2) := by decide +kernel
theorem dL_law_192 : decode cL_law 192 = .ok (.if_icmp .ne 44, 3) := by decide +kernel
theorem dL_law_195 : decode cL_law 195 = .ok (.iload 12, 2) := by decide +kernel
theorem dL_law_197 : decode cL_law 197 = .ok (.aload_n 1, 1) := by decide +kernel
theorem dL_law_198 : decode cL_law 198 = .ok (.iload 13, 2) := by decide +kernel
theorem dL_law_200 : decode cL_law 200 = .ok (.iload 14, 2) := by decide +kernel
theorem dL_law_202 : decode cL_law 202 = .ok (.invokevirtual 89, 3) := by decide +kernel
theorem dL_law_205 : decode cL_law 205 = .ok (.if_icmp .ne 31, 3) := by decide +kernel
theorem dL_law_208 : decode cL_law 208 = .ok (.iload 9, 2) := by decide +kernel
theorem dL_law_210 : decode cL_law 210 = .ok (.iload 12, 2) := by decide +kernel
theorem dL_law_212 : decode cL_law 212 = .ok (.iadd, 1) := by decide +kernel
theorem dL_law_213 : decode cL_law 213 = .ok (.iconst 1, 1) := by decide +kernel
theorem dL_law_214 : decode cL_law 214 = .ok (.isub, 1) := by decide +kernel
theorem dL_law_215 : decode cL_law 215 = .ok (.iload 4, 2) := by decide +kernel
theorem dL_law_217 : decode cL_law 217 = .ok (.idiv, 1) := by decide +kernel
theorem dL_law_218 : decode cL_law 218 = .ok (.iload 9, 2) := by decide +kernel
theorem dL_law_220 : decode cL_law 220 = .ok (.iload 4, 2) := by decide +kernel
theorem dL_law_222 : decode cL_law 222 = .ok (.idiv, 1) := by decide +kernel
theorem dL_law_223 : decode cL_law 223 = .ok (.if_icmp .ne 13, 3) := by decide +kernel
theorem dL_law_226 : decode cL_law 226 = .ok (.iload 16, 2) := by decide +kernel
theorem dL_law_228 : decode cL_law 228 = .ok (.ifCond .eq 10, 3) := by decide +kernel
theorem dL_law_231 : decode cL_law 231 = .ok (.iload 15, 2) := by decide +kernel
theorem dL_law_233 : decode cL_law 233 = .ok (.ifCond .ge 5, 3) := by decide +kernel
theorem dL_law_236 : decode cL_law 236 = .ok (.iconst 0, 1) := by decide +kernel
theorem dL_law_237 : decode cL_law 237 = .ok (.ireturn, 1) := by decide +kernel
theorem dL_law_238 : decode cL_law 238 = .ok (.aload_n 1, 1) := by decide +kernel
theorem dL_law_239 : decode cL_law 239 = .ok (.iload 8, 2) := by decide +kernel
theorem dL_law_241 : decode cL_law 241 = .ok (.iload 11, 2) := by decide +kernel
theorem dL_law_243 : decode cL_law 243 = .ok (.bipush 8, 2) := by decide +kernel
theorem dL_law_245 : decode cL_law 245 = .ok (.invokevirtual 86, 3) := by decide +kernel
theorem dL_law_248 : decode cL_law 248 = .ok (.istore 17, 2) := by decide +kernel
theorem dL_law_250 : decode cL_law 250 = .ok (.iload 17, 2) := by decide +kernel
theorem dL_law_252 : decode cL_law 252 = .ok (.ifCond .lt 102, 3) := by decide +kernel
theorem dL_law_255 : decode cL_law 255 = .ok (.iload 15, 2) := by decide +kernel
theorem dL_law_257 : decode cL_law 257 = .ok (.ifCond .lt 26, 3) := by decide +kernel
theorem dL_law_260 : decode cL_law 260 = .ok (.iload 13, 2) := by decide +kernel
theorem dL_law_262 : decode cL_law 262 = .ok (.bipush 8, 2) := by decide +kernel
theorem dL_law_264 : decode cL_law 264 = .ok (.if_icmp .lt 19, 3) := by decide +kernel
theorem dL_law_267 : decode cL_law 267 = .ok (.iload 17, 2) := by decide +kernel
theorem dL_law_269 : decode cL_law 269 = .ok (.iload 10, 2) := by decide +kernel
theorem dL_law_271 : decode cL_law 271 = .ok (.if_icmp .eq 14, 3) := by decide +kernel
theorem dL_law_274 : decode cL_law 274 = .ok (.iload 17, 2) := by decide +kernel
theorem dL_law_276 : decode cL_law 276 = .ok (.iload 10, 2) := by decide +kernel
theorem dL_law_278 : decode cL_law 278 = .ok (.iconst 1, 1) := by decide +kernel
theorem dL_law_279 : decode cL_law 279 = .ok (.iadd, 1) := by decide +kernel
theorem dL_law_280 : decode cL_law 280 = .ok (.if_icmp .eq 5, 3) := by decide +kernel
theorem dL_law_283 : decode cL_law 283 = .ok (.iconst 0, 1) := by decide +kernel
theorem dL_law_284 : decode cL_law 284 = .ok (.ireturn, 1) := by decide +kernel
theorem dL_law_285 : decode cL_law 285 = .ok (.iload 17, 2) := by decide +kernel
theorem dL_law_287 : decode cL_law 287 = .ok (.iload 10, 2) := by decide +kernel
theorem dL_law_289 : decode cL_law 289 = .ok (.if_icmp .ne 61, 3) := by decide +kernel
theorem dL_law_292 : decode cL_law 292 = .ok (.iload 11, 2) := by decide +kernel
theorem dL_law_294 : decode cL_law 294 = .ok (.ifCond .le 56, 3) := by decide +kernel
theorem dL_law_297 : decode cL_law 297 = .ok (.aload_n 1, 1) := by decide +kernel
theorem dL_law_298 : decode cL_law 298 = .ok (.iload 8, 2) := by decide +kernel
theorem dL_law_300 : decode cL_law 300 = .ok (.iload 11, 2) := by decide +kernel
theorem dL_law_302 : decode cL_law 302 = .ok (.iconst 1, 1) := by decide +kernel
theorem dL_law_303 : decode cL_law 303 = .ok (.isub, 1) := by decide +kernel
theorem dL_law_304 : decode cL_law 304 = .ok (.bipush 8, 2) := by decide +kernel
theorem dL_law_306 : decode cL_law 306 = .ok (.invokevirtual 86, 3) := by decide +kernel
theorem dL_law_309 : decode cL_law 309 = .ok (.iload 17, 2) := by decide +kernel
theorem dL_law_311 : decode cL_law 311 = .ok (.if_icmp .ne 39, 3) := by decide +kernel
theorem dL_law_314 : decode cL_law 314 = .ok (.iload 9, 2) := by decide +kernel
theorem dL_law_316 : decode cL_law 316 = .ok (.sipush 384, 3) := by decide +kernel
theorem dL_law_319 : decode cL_law 319 = .ok (.aload_n 2, 1) := by decide +kernel
theorem dL_law_320 : decode cL_law 320 = .ok (.getfield 26, 3) := by decide +kernel
theorem dL_law_323 : decode cL_law 323 = .ok (.idiv, 1) := by decide +kernel
theorem dL_law_324 : decode cL_law 324 = .ok (.idiv, 1) := by decide +kernel
theorem dL_law_325 : decode cL_law 325 = .ok (.aload_n 1, 1) := by decide +kernel
theorem dL_law_326 : decode cL_law 326 = .ok (.iload 8, 2) := by decide +kernel
theorem dL_law_328 : decode cL_law 328 = .ok (.iload 11, 2) := by decide +kernel
theorem dL_law_330 : decode cL_law 330 = .ok (.iconst 1, 1) := by decide +kernel
theorem dL_law_331 : decode cL_law 331 = .ok (.isub, 1) := by decide +kernel
theorem dL_law_332 : decode cL_law 332 = .ok (.iconst 0, 1) := by decide +kernel
theorem dL_law_333 : decode cL_law 333 = .ok (.invokevirtual 86, 3) := by decide +kernel
theorem dL_law_336 : decode cL_law 336 = .ok (.sipush 384, 3) := by decide +kernel
theorem dL_law_339 : decode cL_law 339 = .ok (.aload_n 2, 1) := by decide +kernel
theorem dL_law_340 : decode cL_law 340 = .ok (.getfield 26, 3) := by decide +kernel
theorem dL_law_343 : decode cL_law 343 = .ok (.idiv, 1) := by decide +kernel
theorem dL_law_344 : decode cL_law 344 = .ok (.idiv, 1) := by decide +kernel
theorem dL_law_345 : decode cL_law 345 = .ok (.if_icmp .eq 5, 3) := by decide +kernel
theorem dL_law_348 : decode cL_law 348 = .ok (.iconst 0, 1) := by decide +kernel
theorem dL_law_349 : decode cL_law 349 = .ok (.ireturn, 1) := by decide +kernel
theorem dL_law_350 : decode cL_law 350 = .ok (.iload 17, 2) := by decide +kernel
theorem dL_law_352 : decode cL_law 352 = .ok (.istore 10, 2) := by decide +kernel
theorem dL_law_354 : decode cL_law 354 = .ok (.iload 9, 2) := by decide +kernel
theorem dL_law_356 : decode cL_law 356 = .ok (.iload 12, 2) := by decide +kernel
theorem dL_law_358 : decode cL_law 358 = .ok (.iadd, 1) := by decide +kernel
theorem dL_law_359 : decode cL_law 359 = .ok (.istore 9, 2) := by decide +kernel
theorem dL_law_361 : decode cL_law 361 = .ok (.lload 6, 2) := by decide +kernel
theorem dL_law_363 : decode cL_law 363 = .ok (.iload 15, 2) := by decide +kernel
theorem dL_law_365 : decode cL_law 365 = .ok (.ifCond .ge 7, 3) := by decide +kernel
theorem dL_law_368 : decode cL_law 368 = .ok (.lconst 0, 1) := by decide +kernel
theorem dL_law_369 : decode cL_law 369 = .ok (.goto 6, 3) := by decide +kernel
theorem dL_law_372 : decode cL_law 372 = .ok (.iload 12, 2) := by decide +kernel
theorem dL_law_374 : decode cL_law 374 = .ok (.i2l, 1) := by decide +kernel
theorem dL_law_375 : decode cL_law 375 = .ok (.ladd, 1) := by decide +kernel
theorem dL_law_376 : decode cL_law 376 = .ok (.lstore 6, 2) := by decide +kernel
theorem dL_law_378 : decode cL_law 378 = .ok (.iload 15, 2) := by decide +kernel
theorem dL_law_380 : decode cL_law 380 = .ok (.ifCond .ge 16, 3) := by decide +kernel
theorem dL_law_383 : decode cL_law 383 = .ok (.aload_n 3, 1) := by decide +kernel
theorem dL_law_384 : decode cL_law 384 = .ok (.iload 8, 2) := by decide +kernel
theorem dL_law_386 : decode cL_law 386 = .ok (.iload 13, 2) := by decide +kernel
theorem dL_law_388 : decode cL_law 388 = .ok (.iload 14, 2) := by decide +kernel
theorem dL_law_390 : decode cL_law 390 = .ok (.invokevirtual 60, 3) := by decide +kernel
theorem dL_law_393 : decode cL_law 393 = .ok (.goto 42, 3) := by decide +kernel
theorem dL_law_396 : decode cL_law 396 = .ok (.aload_n 3, 1) := by decide +kernel
theorem dL_law_397 : decode cL_law 397 = .ok (.iload 8, 2) := by decide +kernel
theorem dL_law_399 : decode cL_law 399 = .ok (.iload 13, 2) := by decide +kernel
theorem dL_law_401 : decode cL_law 401 = .ok (.iload 14, 2) := by decide +kernel
theorem dL_law_403 : decode cL_law 403 = .ok (.aload_n 1, 1) := by decide +kernel
theorem dL_law_404 : decode cL_law 404 = .ok (.iload 8, 2) := by decide +kernel
theorem dL_law_406 : decode cL_law 406 = .ok (.iload 11, 2) := by decide +kernel
theorem dL_law_408 : decode cL_law 408 = .ok (.iconst 0, 1) := by decide +kernel
theorem dL_law_409 : decode cL_law 409 = .ok (.invokevirtual 90, 3) := by decide +kernel
theorem dL_law_412 : decode cL_law 412 = .ok (.aload_n 1, 1) := by decide +kernel
theorem dL_law_413 : decode cL_law 413 = .ok (.iload 8, 2) := by decide +kernel
theorem dL_law_415 : decode cL_law 415 = .ok (.iload 11, 2) := by decide +kernel
theorem dL_law_417 : decode cL_law 417 = .ok (.iconst 1, 1) := by decide +kernel
theorem dL_law_418 : decode cL_law 418 = .ok (.invokevirtual 90, 3) := by decide +kernel
theorem dL_law_421 : decode cL_law 421 = .ok (.aload_n 1, 1) := by decide +kernel
theorem dL_law_422 : decode cL_law 422 = .ok (.iload 8, 2) := by decide +kernel
theorem dL_law_424 : decode cL_law 424 = .ok (.iload 11, 2) := by decide +kernel
theorem dL_law_426 : decode cL_law 426 = .ok (.iconst 2, 1) := by decide +kernel
theorem dL_law_427 : decode cL_law 427 = .ok (.invokevirtual 90, 3) := by decide +kernel
theorem dL_law_430 : decode cL_law 430 = .ok (.iload 16, 2) := by decide +kernel
theorem dL_law_432 : decode cL_law 432 = .ok (.invokevirtual 71, 3) := by decide +kernel
theorem dL_law_435 : decode cL_law 435 = .ok (.istore 18, 2) := by decide +kernel
theorem dL_law_437 : decode cL_law 437 = .ok (.iload 18, 2) := by decide +kernel
theorem dL_law_439 : decode cL_law 439 = .ok (.iconst 1, 1) := by decide +kernel
theorem dL_law_440 : decode cL_law 440 = .ok (.if_icmp .eq 5, 3) := by decide +kernel
theorem dL_law_443 : decode cL_law 443 = .ok (.iconst 0, 1) := by decide +kernel
theorem dL_law_444 : decode cL_law 444 = .ok (.ireturn, 1) := by decide +kernel
theorem dL_law_445 : decode cL_law 445 = .ok (.iinc 11 1, 3) := by decide +kernel
theorem dL_law_448 : decode cL_law 448 = .ok (.goto (-343), 3) := by decide +kernel
theorem dL_law_451 : decode cL_law 451 = .ok (.iload 9, 2) := by decide +kernel
theorem dL_law_453 : decode cL_law 453 = .ok (.aload_n 1, 1) := by decide +kernel
theorem dL_law_454 : decode cL_law 454 = .ok (.iload 8, 2) := by decide +kernel
theorem dL_law_456 : decode cL_law 456 = .ok (.iconst 1, 1) := by decide +kernel
theorem dL_law_457 : decode cL_law 457 = .ok (.invokevirtual 83, 3) := by decide +kernel
theorem dL_law_460 : decode cL_law 460 = .ok (.if_icmp .ne 17, 3) := by decide +kernel
theorem dL_law_463 : decode cL_law 463 = .ok (.iload 10, 2) := by decide +kernel
theorem dL_law_465 : decode cL_law 465 = .ok (.iconst 1, 1) := by decide +kernel
theorem dL_law_466 : decode cL_law 466 = .ok (.iadd, 1) := by decide +kernel
theorem dL_law_467 : decode cL_law 467 = .ok (.aload_n 1, 1) := by decide +kernel
theorem dL_law_468 : decode cL_law 468 = .ok (.iload 8, 2) := by decide +kernel
theorem dL_law_470 : decode cL_law 470 = .ok (.iconst 3, 1) := by decide +kernel
theorem dL_law_471 : decode cL_law 471 = .ok (.invokevirtual 83, 3) := by decide +kernel
theorem dL_law_474 : decode cL_law 474 = .ok (.if_icmp .eq 5, 3) := by decide +kernel
theorem dL_law_477 : decode cL_law 477 = .ok (.iconst 0, 1) := by decide +kernel
theorem dL_law_478 : decode cL_law 478 = .ok (.ireturn, 1) := by decide +kernel
theorem dL_law_479 : decode cL_law 479 = .ok (.iinc 8 1, 3) := by decide +kernel
theorem dL_law_482 : decode cL_law 482 = .ok (.goto (-413), 3) := by decide +kernel
theorem dL_law_485 : decode cL_law 485 = .ok (.aload_n 3, 1) := by decide +kernel
theorem dL_law_486 : decode cL_law 486 = .ok (.invokevirtual 93, 3) := by decide +kernel
theorem dL_law_489 : decode cL_law 489 = .ok (.aload_n 1, 1) := by decide +kernel
theorem dL_law_490 : decode cL_law 490 = .ok (.invokevirtual 93, 3) := by decide +kernel
theorem dL_law_493 : decode cL_law 493 = .ok (.lcmp, 1) := by decide +kernel
theorem dL_law_494 : decode cL_law 494 = .ok (.ifCond .ne 14, 3) := by decide +kernel
theorem dL_law_497 : decode cL_law 497 = .ok (.aload_n 1, 1) := by decide +kernel
theorem dL_law_498 : decode cL_law 498 = .ok (.invokevirtual 97, 3) := by decide +kernel
theorem dL_law_501 : decode cL_law 501 = .ok (.iconst 2, 1) := by decide +kernel
theorem dL_law_502 : decode cL_law 502 = .ok (.iload 5, 2) := by decide +kernel
theorem dL_law_504 : decode cL_law 504 = .ok (.imul, 1) := by decide +kernel
theorem dL_law_505 : decode cL_law 505 = .ok (.if_icmp .eq 5, 3) := by decide +kernel
theorem dL_law_508 : decode cL_law 508 = .ok (.iconst 0, 1) := by decide +kernel
theorem dL_law_509 : decode cL_law 509 = .ok (.ireturn, 1) := by decide +kernel
theorem dL_law_510 : decode cL_law 510 = .ok (.iconst 0, 1) := by decide +kernel
theorem dL_law_511 : decode cL_law 511 = .ok (.istore 8, 2) := by decide +kernel
theorem dL_law_513 : decode cL_law 513 = .ok (.iconst 0, 1) := by decide +kernel
theorem dL_law_514 : decode cL_law 514 = .ok (.istore 9, 2) := by decide +kernel
theorem dL_law_516 : decode cL_law 516 = .ok (.iconst 0, 1) := by decide +kernel
theorem dL_law_517 : decode cL_law 517 = .ok (.istore 10, 2) := by decide +kernel
theorem dL_law_519 : decode cL_law 519 = .ok (.iload 10, 2) := by decide +kernel
theorem dL_law_521 : decode cL_law 521 = .ok (.aload_n 1, 1) := by decide +kernel
theorem dL_law_522 : decode cL_law 522 = .ok (.invokevirtual 97, 3) := by decide +kernel
theorem dL_law_525 : decode cL_law 525 = .ok (.if_icmp .ge 95, 3) := by decide +kernel
theorem dL_law_528 : decode cL_law 528 = .ok (.aload_n 1, 1) := by decide +kernel
theorem dL_law_529 : decode cL_law 529 = .ok (.iload 10, 2) := by decide +kernel
theorem dL_law_531 : decode cL_law 531 = .ok (.iconst 0, 1) := by decide +kernel
theorem dL_law_532 : decode cL_law 532 = .ok (.invokevirtual 100, 3) := by decide +kernel
theorem dL_law_535 : decode cL_law 535 = .ok (.istore 11, 2) := by decide +kernel
theorem dL_law_537 : decode cL_law 537 = .ok (.iload 11, 2) := by decide +kernel
theorem dL_law_539 : decode cL_law 539 = .ok (.iload 9, 2) := by decide +kernel
theorem dL_law_541 : decode cL_law 541 = .ok (.if_icmp .ge 5, 3) := by decide +kernel
theorem dL_law_544 : decode cL_law 544 = .ok (.iconst 0, 1) := by decide +kernel
theorem dL_law_545 : decode cL_law 545 = .ok (.ireturn, 1) := by decide +kernel
theorem dL_law_546 : decode cL_law 546 = .ok (.iload 11, 2) := by decide +kernel
theorem dL_law_548 : decode cL_law 548 = .ok (.istore 9, 2) := by decide +kernel
theorem dL_law_550 : decode cL_law 550 = .ok (.iload 8, 2) := by decide +kernel
theorem dL_law_552 : decode cL_law 552 = .ok (.aload_n 1, 1) := by decide +kernel
theorem dL_law_553 : decode cL_law 553 = .ok (.iload 10, 2) := by decide +kernel
theorem dL_law_555 : decode cL_law 555 = .ok (.iconst 3, 1) := by decide +kernel
theorem dL_law_556 : decode cL_law 556 = .ok (.invokevirtual 100, 3) := by decide +kernel
theorem dL_law_559 : decode cL_law 559 = .ok (.iconst 1, 1) := by decide +kernel
theorem dL_law_560 : decode cL_law 560 = .ok (.if_icmp .ne 7, 3) := by decide +kernel
theorem dL_law_563 : decode cL_law 563 = .ok (.iconst 1, 1) := by decide +kernel
theorem dL_law_564 : decode cL_law 564 = .ok (.goto 4, 3) := by decide +kernel
theorem dL_law_567 : decode cL_law 567 = .ok (.iconst (-1), 1) := by decide +kernel
theorem dL_law_568 : decode cL_law 568 = .ok (.iadd, 1) := by decide +kernel
theorem dL_law_569 : decode cL_law 569 = .ok (.istore 8, 2) := by decide +kernel
theorem dL_law_571 : decode cL_law 571 = .ok (.lload 6, 2) := by decide +kernel
theorem dL_law_573 : decode cL_law 573 = .ok (.aload_n 1, 1) := by decide +kernel
theorem dL_law_574 : decode cL_law 574 = .ok (.iload 10, 2) := by decide +kernel
theorem dL_law_576 : decode cL_law 576 = .ok (.iconst 3, 1) := by decide +kernel
theorem dL_law_577 : decode cL_law 577 = .ok (.invokevirtual 100, 3) := by decide +kernel
theorem dL_law_580 : decode cL_law 580 = .ok (.iconst 1, 1) := by decide +kernel
theorem dL_law_581 : decode cL_law 581 = .ok (.if_icmp .ne 10, 3) := by decide +kernel
theorem dL_law_584 : decode cL_law 584 = .ok (.iload 11, 2) := by decide +kernel
theorem dL_law_586 : decode cL_law 586 = .ok (.ineg, 1) := by decide +kernel
theorem dL_law_587 : decode cL_law 587 = .ok (.i2l, 1) := by decide +kernel
theorem dL_law_588 : decode cL_law 588 = .ok (.goto 6, 3) := by decide +kernel
theorem dL_law_591 : decode cL_law 591 = .ok (.iload 11, 2) := by decide +kernel
theorem dL_law_593 : decode cL_law 593 = .ok (.i2l, 1) := by decide +kernel
theorem dL_law_594 : decode cL_law 594 = .ok (.lsub, 1) := by decide +kernel
theorem dL_law_595 : decode cL_law 595 = .ok (.lstore 6, 2) := by decide +kernel
theorem dL_law_597 : decode cL_law 597 = .ok (.iload 8, 2) := by decide +kernel
theorem dL_law_599 : decode cL_law 599 = .ok (.ifCond .lt 13, 3) := by decide +kernel
theorem dL_law_602 : decode cL_law 602 = .ok (.iload 8, 2) := by decide +kernel
theorem dL_law_604 : decode cL_law 604 = .ok (.aload_n 1, 1) := by decide +kernel
theorem dL_law_605 : decode cL_law 605 = .ok (.iconst 0, 1) := by decide +kernel
theorem dL_law_606 : decode cL_law 606 = .ok (.invokevirtual 80, 3) := by decide +kernel
theorem dL_law_609 : decode cL_law 609 = .ok (.if_icmp .le 5, 3) := by decide +kernel
theorem dL_law_612 : decode cL_law 612 = .ok (.iconst 0, 1) := by decide +kernel
theorem dL_law_613 : decode cL_law 613 = .ok (.ireturn, 1) := by decide +kernel
theorem dL_law_614 : decode cL_law 614 = .ok (.iinc 10 1, 3) := by decide +kernel
theorem dL_law_617 : decode cL_law 617 = .ok (.goto (-98), 3) := by decide +kernel
theorem dL_law_620 : decode cL_law 620 = .ok (.iload 8, 2) := by decide +kernel
theorem dL_law_622 : decode cL_law 622 = .ok (.ifCond .ne 14, 3) := by decide +kernel
theorem dL_law_625 : decode cL_law 625 = .ok (.lload 6, 2) := by decide +kernel
theorem dL_law_627 : decode cL_law 627 = .ok (.lconst 0, 1) := by decide +kernel
theorem dL_law_628 : decode cL_law 628 = .ok (.lcmp, 1) := by decide +kernel
theorem dL_law_629 : decode cL_law 629 = .ok (.ifCond .ne 7, 3) := by decide +kernel
theorem dL_law_632 : decode cL_law 632 = .ok (.iconst 1, 1) := by decide +kernel
theorem dL_law_633 : decode cL_law 633 = .ok (.goto 4, 3) := by decide +kernel
theorem dL_law_636 : decode cL_law 636 = .ok (.iconst 0, 1) := by decide +kernel
theorem dL_law_637 : decode cL_law 637 = .ok (.ireturn, 1) := by decide +kernel
