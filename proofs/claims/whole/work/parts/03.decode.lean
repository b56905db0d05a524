theorem dX0_init_0 : decode cX0_init 0 = .ok (.aload_n 0, 1) := by decide +kernel
theorem dX0_init_1 : decode cX0_init 1 = .ok (.invokespecial 3, 3) := by decide +kernel
theorem dX0_init_4 : decode cX0_init 4 = .ok (.aload_n 0, 1) := by decide +kernel
theorem dX0_init_5 : decode cX0_init 5 = .ok (.iconst 4, 1) := by decide +kernel
theorem dX0_init_6 : decode cX0_init 6 = .ok (.sipush 1600, 3) := by decide +kernel
theorem dX0_init_9 : decode cX0_init 9 = .ok (.multianewarray 9 2, 4) := by decide +kernel
theorem dX0_init_13 : decode cX0_init 13 = .ok (.putfield 11, 3) := by decide +kernel
theorem dX0_init_16 : decode cX0_init 16 = .ok (.aload_n 0, 1) := by decide +kernel
theorem dX0_init_17 : decode cX0_init 17 = .ok (.iconst 4, 1) := by decide +kernel
theorem dX0_init_18 : decode cX0_init 18 = .ok (.newarray .int, 2) := by decide +kernel
theorem dX0_init_20 : decode cX0_init 20 = .ok (.putfield 16, 3) := by decide +kernel
theorem dX0_init_23 : decode cX0_init 23 = .ok (.return_, 1) := by decide +kernel
theorem dX0_merge_0 : decode cX0_merge 0 = .ok (.iconst 0, 1) := by decide +kernel
theorem dX0_merge_1 : decode cX0_merge 1 = .ok (.istore 4, 2) := by decide +kernel
theorem dX0_merge_3 : decode cX0_merge 3 = .ok (.iload 4, 2) := by decide +kernel
theorem dX0_merge_5 : decode cX0_merge 5 = .ok (.iload_n 2, 1) := by decide +kernel
theorem dX0_merge_6 : decode cX0_merge 6 = .ok (.if_icmp .ge 17, 3) := by decide +kernel
theorem dX0_merge_9 : decode cX0_merge 9 = .ok (.aload_n 0, 1) := by decide +kernel
theorem dX0_merge_10 : decode cX0_merge 10 = .ok (.getfield 16, 3) := by decide +kernel
theorem dX0_merge_13 : decode cX0_merge 13 = .ok (.iload 4, 2) := by decide +kernel
theorem dX0_merge_15 : decode cX0_merge 15 = .ok (.iconst 0, 1) := by decide +kernel
theorem dX0_merge_16 : decode cX0_merge 16 = .ok (.iastore, 1) := by decide +kernel
theorem dX0_merge_17 : decode cX0_merge 17 = .ok (.iinc 4 1, 3) := by decide +kernel
theorem dX0_merge_20 : decode cX0_merge 20 = .ok (.goto (-17), 3) := by decide +kernel
theorem dX0_merge_23 : decode cX0_merge 23 = .ok (.iconst 0, 1) := by decide +kernel
theorem dX0_merge_24 : decode cX0_merge 24 = .ok (.istore 4, 2) := by decide +kernel
theorem dX0_merge_26 : decode cX0_merge 26 = .ok (.iload 4, 2) := by decide +kernel
theorem dX0_merge_28 : decode cX0_merge 28 = .ok (.iload_n 3, 1) := by decide +kernel
theorem dX0_merge_29 : decode cX0_merge 29 = .ok (.if_icmp .ge 45, 3) := by decide +kernel
theorem dX0_merge_32 : decode cX0_merge 32 = .ok (.aload_n 0, 1) := by decide +kernel
theorem dX0_merge_33 : decode cX0_merge 33 = .ok (.aload_n 1, 1) := by decide +kernel
theorem dX0_merge_34 : decode cX0_merge 34 = .ok (.iload_n 2, 1) := by decide +kernel
theorem dX0_merge_35 : decode cX0_merge 35 = .ok (.invokevirtual 20, 3) := by decide +kernel
theorem dX0_merge_38 : decode cX0_merge 38 = .ok (.istore 5, 2) := by decide +kernel
theorem dX0_merge_40 : decode cX0_merge 40 = .ok (.iload 5, 2) := by decide +kernel
theorem dX0_merge_42 : decode cX0_merge 42 = .ok (.ifCond .lt 26, 3) := by decide +kernel
theorem dX0_merge_45 : decode cX0_merge 45 = .ok (.aload_n 0, 1) := by decide +kernel
theorem dX0_merge_46 : decode cX0_merge 46 = .ok (.iload 4, 2) := by decide +kernel
theorem dX0_merge_48 : decode cX0_merge 48 = .ok (.iload 5, 2) := by decide +kernel
theorem dX0_merge_50 : decode cX0_merge 50 = .ok (.aload_n 1, 1) := by decide +kernel
theorem dX0_merge_51 : decode cX0_merge 51 = .ok (.iload 5, 2) := by decide +kernel
theorem dX0_merge_53 : decode cX0_merge 53 = .ok (.aaload, 1) := by decide +kernel
theorem dX0_merge_54 : decode cX0_merge 54 = .ok (.invokevirtual 24, 3) := by decide +kernel
theorem dX0_merge_57 : decode cX0_merge 57 = .ok (.aload_n 0, 1) := by decide +kernel
theorem dX0_merge_58 : decode cX0_merge 58 = .ok (.getfield 16, 3) := by decide +kernel
theorem dX0_merge_61 : decode cX0_merge 61 = .ok (.iload 5, 2) := by decide +kernel
theorem dX0_merge_63 : decode cX0_merge 63 = .ok (.dup2, 1) := by decide +kernel
theorem dX0_merge_64 : decode cX0_merge 64 = .ok (.iaload, 1) := by decide +kernel
theorem dX0_merge_65 : decode cX0_merge 65 = .ok (.iconst 1, 1) := by decide +kernel
theorem dX0_merge_66 : decode cX0_merge 66 = .ok (.iadd, 1) := by decide +kernel
theorem dX0_merge_67 : decode cX0_merge 67 = .ok (.iastore, 1) := by decide +kernel
theorem dX0_merge_68 : decode cX0_merge 68 = .ok (.iinc 4 1, 3) := by decide +kernel
theorem dX0_merge_71 : decode cX0_merge 71 = .ok (.goto (-45), 3) := by decide +kernel
theorem dX0_merge_74 : decode cX0_merge 74 = .ok (.return_, 1) := by decide +kernel
theorem dX0_findEarliest_0 : decode cX0_findEarliest 0 = .ok (.iconst (-1), 1) := by decide +kernel
theorem dX0_findEarliest_1 : decode cX0_findEarliest 1 = .ok (.istore_n 3, 1) := by decide +kernel
theorem dX0_findEarliest_2 : decode cX0_findEarliest 2 = .ok (.iconst 0, 1) := by decide +kernel
theorem dX0_findEarliest_3 : decode cX0_findEarliest 3 = .ok (.istore 4, 2) := by decide +kernel
theorem dX0_findEarliest_5 : decode cX0_findEarliest 5 = .ok (.iconst 0, 1) := by decide +kernel
theorem dX0_findEarliest_6 : decode cX0_findEarliest 6 = .ok (.istore 5, 2) := by decide +kernel
theorem dX0_findEarliest_8 : decode cX0_findEarliest 8 = .ok (.iload 5, 2) := by decide +kernel
theorem dX0_findEarliest_10 : decode cX0_findEarliest 10 = .ok (.iload_n 2, 1) := by decide +kernel
theorem dX0_findEarliest_11 : decode cX0_findEarliest 11 = .ok (.if_icmp .ge 62, 3) := by decide +kernel
theorem dX0_findEarliest_14 : decode cX0_findEarliest 14 = .ok (.aload_n 0, 1) := by decide +kernel
theorem dX0_findEarliest_15 : decode cX0_findEarliest 15 = .ok (.getfield 16, 3) := by decide +kernel
theorem dX0_findEarliest_18 : decode cX0_findEarliest 18 = .ok (.iload 5, 2) := by decide +kernel
theorem dX0_findEarliest_20 : decode cX0_findEarliest 20 = .ok (.iaload, 1) := by decide +kernel
theorem dX0_findEarliest_21 : decode cX0_findEarliest 21 = .ok (.iconst 2, 1) := by decide +kernel
theorem dX0_findEarliest_22 : decode cX0_findEarliest 22 = .ok (.aload_n 1, 1) := by decide +kernel
theorem dX0_findEarliest_23 : decode cX0_findEarliest 23 = .ok (.iload 5, 2) := by decide +kernel
theorem dX0_findEarliest_25 : decode cX0_findEarliest 25 = .ok (.aaload, 1) := by decide +kernel
theorem dX0_findEarliest_26 : decode cX0_findEarliest 26 = .ok (.getfield 28, 3) := by decide +kernel
theorem dX0_findEarliest_29 : decode cX0_findEarliest 29 = .ok (.imul, 1) := by decide +kernel
theorem dX0_findEarliest_30 : decode cX0_findEarliest 30 = .ok (.if_icmp .ge 37, 3) := by decide +kernel
theorem dX0_findEarliest_33 : decode cX0_findEarliest 33 = .ok (.aload_n 1, 1) := by decide +kernel
theorem dX0_findEarliest_34 : decode cX0_findEarliest 34 = .ok (.iload 5, 2) := by decide +kernel
theorem dX0_findEarliest_36 : decode cX0_findEarliest 36 = .ok (.aaload, 1) := by decide +kernel
theorem dX0_findEarliest_37 : decode cX0_findEarliest 37 = .ok (.aload_n 0, 1) := by decide +kernel
theorem dX0_findEarliest_38 : decode cX0_findEarliest 38 = .ok (.getfield 16, 3) := by decide +kernel
theorem dX0_findEarliest_41 : decode cX0_findEarliest 41 = .ok (.iload 5, 2) := by decide +kernel
theorem dX0_findEarliest_43 : decode cX0_findEarliest 43 = .ok (.iaload, 1) := by decide +kernel
theorem dX0_findEarliest_44 : decode cX0_findEarliest 44 = .ok (.invokestatic 34, 3) := by decide +kernel
theorem dX0_findEarliest_47 : decode cX0_findEarliest 47 = .ok (.istore 6, 2) := by decide +kernel
theorem dX0_findEarliest_49 : decode cX0_findEarliest 49 = .ok (.iload_n 3, 1) := by decide +kernel
theorem dX0_findEarliest_50 : decode cX0_findEarliest 50 = .ok (.ifCond .lt 10, 3) := by decide +kernel
theorem dX0_findEarliest_53 : decode cX0_findEarliest 53 = .ok (.iload 6, 2) := by decide +kernel
theorem dX0_findEarliest_55 : decode cX0_findEarliest 55 = .ok (.iload 4, 2) := by decide +kernel
theorem dX0_findEarliest_57 : decode cX0_findEarliest 57 = .ok (.if_icmp .ge 10, 3) := by decide +kernel
theorem dX0_findEarliest_60 : decode cX0_findEarliest 60 = .ok (.iload 5, 2) := by decide +kernel
theorem dX0_findEarliest_62 : decode cX0_findEarliest 62 = .ok (.istore_n 3, 1) := by decide +kernel
theorem dX0_findEarliest_63 : decode cX0_findEarliest 63 = .ok (.iload 6, 2) := by decide +kernel
theorem dX0_findEarliest_65 : decode cX0_findEarliest 65 = .ok (.istore 4, 2) := by decide +kernel
theorem dX0_findEarliest_67 : decode cX0_findEarliest 67 = .ok (.iinc 5 1, 3) := by decide +kernel
theorem dX0_findEarliest_70 : decode cX0_findEarliest 70 = .ok (.goto (-62), 3) := by decide +kernel
theorem dX0_findEarliest_73 : decode cX0_findEarliest 73 = .ok (.iload_n 3, 1) := by decide +kernel
theorem dX0_findEarliest_74 : decode cX0_findEarliest 74 = .ok (.ireturn, 1) := by decide +kernel
theorem dX0_rankOf_0 : decode cX0_rankOf 0 = .ok (.iconst 2, 1) := by decide +kernel
theorem dX0_rankOf_1 : decode cX0_rankOf 1 = .ok (.aload_n 0, 1) := by decide +kernel
theorem dX0_rankOf_2 : decode cX0_rankOf 2 = .ok (.iload_n 1, 1) := by decide +kernel
theorem dX0_rankOf_3 : decode cX0_rankOf 3 = .ok (.invokestatic 38, 3) := by decide +kernel
theorem dX0_rankOf_6 : decode cX0_rankOf 6 = .ok (.imul, 1) := by decide +kernel
theorem dX0_rankOf_7 : decode cX0_rankOf 7 = .ok (.iload_n 1, 1) := by decide +kernel
theorem dX0_rankOf_8 : decode cX0_rankOf 8 = .ok (.invokestatic 41, 3) := by decide +kernel
theorem dX0_rankOf_11 : decode cX0_rankOf 11 = .ok (.ifCond .eq 7, 3) := by decide +kernel
theorem dX0_rankOf_14 : decode cX0_rankOf 14 = .ok (.iconst 1, 1) := by decide +kernel
theorem dX0_rankOf_15 : decode cX0_rankOf 15 = .ok (.goto 4, 3) := by decide +kernel
theorem dX0_rankOf_18 : decode cX0_rankOf 18 = .ok (.iconst 0, 1) := by decide +kernel
theorem dX0_rankOf_19 : decode cX0_rankOf 19 = .ok (.iadd, 1) := by decide +kernel
theorem dX0_rankOf_20 : decode cX0_rankOf 20 = .ok (.ireturn, 1) := by decide +kernel
theorem dX0_isBeginning_0 : decode cX0_isBeginning 0 = .ok (.iload_n 0, 1) := by decide +kernel
theorem dX0_isBeginning_1 : decode cX0_isBeginning 1 = .ok (.iconst 1, 1) := by decide +kernel
theorem dX0_isBeginning_2 : decode cX0_isBeginning 2 = .ok (.iand, 1) := by decide +kernel
theorem dX0_isBeginning_3 : decode cX0_isBeginning 3 = .ok (.ifCond .ne 7, 3) := by decide +kernel
theorem dX0_isBeginning_6 : decode cX0_isBeginning 6 = .ok (.iconst 1, 1) := by decide +kernel
theorem dX0_isBeginning_7 : decode cX0_isBeginning 7 = .ok (.goto 4, 3) := by decide +kernel
theorem dX0_isBeginning_10 : decode cX0_isBeginning 10 = .ok (.iconst 0, 1) := by decide +kernel
theorem dX0_isBeginning_11 : decode cX0_isBeginning 11 = .ok (.ireturn, 1) := by decide +kernel
theorem dX0_tickOf_0 : decode cX0_tickOf 0 = .ok (.aload_n 0, 1) := by decide +kernel
theorem dX0_tickOf_1 : decode cX0_tickOf 1 = .ok (.getfield 45, 3) := by decide +kernel
theorem dX0_tickOf_4 : decode cX0_tickOf 4 = .ok (.iload_n 1, 1) := by decide +kernel
theorem dX0_tickOf_5 : decode cX0_tickOf 5 = .ok (.invokestatic 41, 3) := by decide +kernel
theorem dX0_tickOf_8 : decode cX0_tickOf 8 = .ok (.ifCond .eq 7, 3) := by decide +kernel
theorem dX0_tickOf_11 : decode cX0_tickOf 11 = .ok (.iconst 0, 1) := by decide +kernel
theorem dX0_tickOf_12 : decode cX0_tickOf 12 = .ok (.goto 4, 3) := by decide +kernel
theorem dX0_tickOf_15 : decode cX0_tickOf 15 = .ok (.iconst 1, 1) := by decide +kernel
theorem dX0_tickOf_16 : decode cX0_tickOf 16 = .ok (.aaload, 1) := by decide +kernel
theorem dX0_tickOf_17 : decode cX0_tickOf 17 = .ok (.iload_n 1, 1) := by decide +kernel
theorem dX0_tickOf_18 : decode cX0_tickOf 18 = .ok (.iconst 1, 1) := by decide +kernel
theorem dX0_tickOf_19 : decode cX0_tickOf 19 = .ok (.ishr, 1) := by decide +kernel
theorem dX0_tickOf_20 : decode cX0_tickOf 20 = .ok (.iaload, 1) := by decide +kernel
theorem dX0_tickOf_21 : decode cX0_tickOf 21 = .ok (.ireturn, 1) := by decide +kernel
theorem dX0_put_0 : decode cX0_put 0 = .ok (.aload_n 0, 1) := by decide +kernel
theorem dX0_put_1 : decode cX0_put 1 = .ok (.getfield 16, 3) := by decide +kernel
theorem dX0_put_4 : decode cX0_put 4 = .ok (.iload_n 2, 1) := by decide +kernel
theorem dX0_put_5 : decode cX0_put 5 = .ok (.iaload, 1) := by decide +kernel
theorem dX0_put_6 : decode cX0_put 6 = .ok (.istore 4, 2) := by decide +kernel
theorem dX0_put_8 : decode cX0_put 8 = .ok (.aload_n 0, 1) := by decide +kernel
theorem dX0_put_9 : decode cX0_put 9 = .ok (.getfield 11, 3) := by decide +kernel
theorem dX0_put_12 : decode cX0_put 12 = .ok (.iconst 0, 1) := by decide +kernel
theorem dX0_put_13 : decode cX0_put 13 = .ok (.aaload, 1) := by decide +kernel
theorem dX0_put_14 : decode cX0_put 14 = .ok (.iload_n 1, 1) := by decide +kernel
theorem dX0_put_15 : decode cX0_put 15 = .ok (.aload_n 3, 1) := by decide +kernel
theorem dX0_put_16 : decode cX0_put 16 = .ok (.iload 4, 2) := by decide +kernel
theorem dX0_put_18 : decode cX0_put 18 = .ok (.invokestatic 38, 3) := by decide +kernel
theorem dX0_put_21 : decode cX0_put 21 = .ok (.iastore, 1) := by decide +kernel
theorem dX0_put_22 : decode cX0_put 22 = .ok (.aload_n 0, 1) := by decide +kernel
theorem dX0_put_23 : decode cX0_put 23 = .ok (.getfield 11, 3) := by decide +kernel
theorem dX0_put_26 : decode cX0_put 26 = .ok (.iconst 1, 1) := by decide +kernel
theorem dX0_put_27 : decode cX0_put 27 = .ok (.aaload, 1) := by decide +kernel
theorem dX0_put_28 : decode cX0_put 28 = .ok (.iload_n 1, 1) := by decide +kernel
theorem dX0_put_29 : decode cX0_put 29 = .ok (.iload_n 2, 1) := by decide +kernel
theorem dX0_put_30 : decode cX0_put 30 = .ok (.iastore, 1) := by decide +kernel
theorem dX0_put_31 : decode cX0_put 31 = .ok (.aload_n 0, 1) := by decide +kernel
theorem dX0_put_32 : decode cX0_put 32 = .ok (.getfield 11, 3) := by decide +kernel
theorem dX0_put_35 : decode cX0_put 35 = .ok (.iconst 2, 1) := by decide +kernel
theorem dX0_put_36 : decode cX0_put 36 = .ok (.aaload, 1) := by decide +kernel
theorem dX0_put_37 : decode cX0_put 37 = .ok (.iload_n 1, 1) := by decide +kernel
theorem dX0_put_38 : decode cX0_put 38 = .ok (.aload_n 3, 1) := by decide +kernel
theorem dX0_put_39 : decode cX0_put 39 = .ok (.getfield 45, 3) := by decide +kernel
theorem dX0_put_42 : decode cX0_put 42 = .ok (.iconst 2, 1) := by decide +kernel
theorem dX0_put_43 : decode cX0_put 43 = .ok (.aaload, 1) := by decide +kernel
theorem dX0_put_44 : decode cX0_put 44 = .ok (.iload 4, 2) := by decide +kernel
theorem dX0_put_46 : decode cX0_put 46 = .ok (.iconst 1, 1) := by decide +kernel
theorem dX0_put_47 : decode cX0_put 47 = .ok (.ishr, 1) := by decide +kernel
theorem dX0_put_48 : decode cX0_put 48 = .ok (.iaload, 1) := by decide +kernel
theorem dX0_put_49 : decode cX0_put 49 = .ok (.iastore, 1) := by decide +kernel
theorem dX0_put_50 : decode cX0_put 50 = .ok (.aload_n 0, 1) := by decide +kernel
theorem dX0_put_51 : decode cX0_put 51 = .ok (.getfield 11, 3) := by decide +kernel
theorem dX0_put_54 : decode cX0_put 54 = .ok (.iconst 3, 1) := by decide +kernel
theorem dX0_put_55 : decode cX0_put 55 = .ok (.aaload, 1) := by decide +kernel
theorem dX0_put_56 : decode cX0_put 56 = .ok (.iload_n 1, 1) := by decide +kernel
theorem dX0_put_57 : decode cX0_put 57 = .ok (.iload 4, 2) := by decide +kernel
theorem dX0_put_59 : decode cX0_put 59 = .ok (.invokestatic 41, 3) := by decide +kernel
theorem dX0_put_62 : decode cX0_put 62 = .ok (.ifCond .eq 7, 3) := by decide +kernel
theorem dX0_put_65 : decode cX0_put 65 = .ok (.iconst 1, 1) := by decide +kernel
theorem dX0_put_66 : decode cX0_put 66 = .ok (.goto 4, 3) := by decide +kernel
theorem dX0_put_69 : decode cX0_put 69 = .ok (.iconst 0, 1) := by decide +kernel
theorem dX0_put_70 : decode cX0_put 70 = .ok (.iastore, 1) := by decide +kernel
theorem dX0_put_71 : decode cX0_put 71 = .ok (.return_, 1) := by decide +kernel
theorem dX1_init_0 : decode cX1_init 0 = .ok (.aload_n 0, 1) := by decide +kernel
theorem dX1_init_1 : decode cX1_init 1 = .ok (.invokespecial 3, 3) := by decide +kernel
theorem dX1_init_4 : decode cX1_init 4 = .ok (.aload_n 0, 1) := by decide +kernel
theorem dX1_init_5 : decode cX1_init 5 = .ok (.bipush 9, 2) := by decide +kernel
theorem dX1_init_7 : decode cX1_init 7 = .ok (.sipush 200, 3) := by decide +kernel
theorem dX1_init_10 : decode cX1_init 10 = .ok (.multianewarray 9 2, 4) := by decide +kernel
theorem dX1_init_14 : decode cX1_init 14 = .ok (.putfield 11, 3) := by decide +kernel
theorem dX1_init_17 : decode cX1_init 17 = .ok (.aload_n 0, 1) := by decide +kernel
theorem dX1_init_18 : decode cX1_init 18 = .ok (.iconst 3, 1) := by decide +kernel
theorem dX1_init_19 : decode cX1_init 19 = .ok (.sipush 200, 3) := by decide +kernel
theorem dX1_init_22 : decode cX1_init 22 = .ok (.multianewarray 9 2, 4) := by decide +kernel
theorem dX1_init_26 : decode cX1_init 26 = .ok (.putfield 16, 3) := by decide +kernel
theorem dX1_init_29 : decode cX1_init 29 = .ok (.aload_n 0, 1) := by decide +kernel
theorem dX1_init_30 : decode cX1_init 30 = .ok (.iconst 3, 1) := by decide +kernel
theorem dX1_init_31 : decode cX1_init 31 = .ok (.sipush 200, 3) := by decide +kernel
theorem dX1_init_34 : decode cX1_init 34 = .ok (.multianewarray 9 2, 4) := by decide +kernel
theorem dX1_init_38 : decode cX1_init 38 = .ok (.putfield 19, 3) := by decide +kernel
theorem dX1_init_41 : decode cX1_init 41 = .ok (.aload_n 0, 1) := by decide +kernel
theorem dX1_init_42 : decode cX1_init 42 = .ok (.bipush 63, 2) := by decide +kernel
theorem dX1_init_44 : decode cX1_init 44 = .ok (.newarray .int, 2) := by decide +kernel
theorem dX1_init_46 : decode cX1_init 46 = .ok (.putfield 22, 3) := by decide +kernel
theorem dX1_init_49 : decode cX1_init 49 = .ok (.aload_n 0, 1) := by decide +kernel
theorem dX1_init_50 : decode cX1_init 50 = .ok (.bipush 63, 2) := by decide +kernel
theorem dX1_init_52 : decode cX1_init 52 = .ok (.newarray .int, 2) := by decide +kernel
theorem dX1_init_54 : decode cX1_init 54 = .ok (.putfield 26, 3) := by decide +kernel
theorem dX1_init_57 : decode cX1_init 57 = .ok (.aload_n 0, 1) := by decide +kernel
theorem dX1_init_58 : decode cX1_init 58 = .ok (.iconst 0, 1) := by decide +kernel
theorem dX1_init_59 : decode cX1_init 59 = .ok (.putfield 29, 3) := by decide +kernel
theorem dX1_init_62 : decode cX1_init 62 = .ok (.aload_n 0, 1) := by decide +kernel
theorem dX1_init_63 : decode cX1_init 63 = .ok (.iconst 0, 1) := by decide +kernel
theorem dX1_init_64 : decode cX1_init 64 = .ok (.putfield 33, 3) := by decide +kernel
theorem dX1_init_67 : decode cX1_init 67 = .ok (.aload_n 0, 1) := by decide +kernel
theorem dX1_init_68 : decode cX1_init 68 = .ok (.iconst 0, 1) := by decide +kernel
theorem dX1_init_69 : decode cX1_init 69 = .ok (.putfield 36, 3) := by decide +kernel
theorem dX1_init_72 : decode cX1_init 72 = .ok (.aload_n 0, 1) := by decide +kernel
theorem dX1_init_73 : decode cX1_init 73 = .ok (.iconst 0, 1) := by decide +kernel
theorem dX1_init_74 : decode cX1_init 74 = .ok (.putfield 39, 3) := by decide +kernel
theorem dX1_init_77 : decode cX1_init 77 = .ok (.aload_n 0, 1) := by decide +kernel
theorem dX1_init_78 : decode cX1_init 78 = .ok (.iconst 0, 1) := by decide +kernel
theorem dX1_init_79 : decode cX1_init 79 = .ok (.putfield 42, 3) := by decide +kernel
theorem dX1_init_82 : decode cX1_init 82 = .ok (.aload_n 0, 1) := by decide +kernel
theorem dX1_init_83 : decode cX1_init 83 = .ok (.iconst (-1), 1) := by decide +kernel
theorem dX1_init_84 : decode cX1_init 84 = .ok (.putfield 45, 3) := by decide +kernel
theorem dX1_init_87 : decode cX1_init 87 = .ok (.aload_n 0, 1) := by decide +kernel
theorem dX1_init_88 : decode cX1_init 88 = .ok (.iconst (-1), 1) := by decide +kernel
theorem dX1_init_89 : decode cX1_init 89 = .ok (.putfield 48, 3) := by decide +kernel
theorem dX1_init_92 : decode cX1_init 92 = .ok (.return_, 1) := by decide +kernel
theorem dX1_tell_0 : decode cX1_tell 0 = .ok (.iload_n 1, 1) := by decide +kernel
theorem dX1_tell_1 : decode cX1_tell 1 = .ok (.tableswitch 69 0 5 #[39, 44, 49, 54, 59, 64], 39) := by decide +kernel
theorem dX1_tell_40 : decode cX1_tell 40 = .ok (.aload_n 0, 1) := by decide +kernel
theorem dX1_tell_41 : decode cX1_tell 41 = .ok (.getfield 29, 3) := by decide +kernel
theorem dX1_tell_44 : decode cX1_tell 44 = .ok (.ireturn, 1) := by decide +kernel
theorem dX1_tell_45 : decode cX1_tell 45 = .ok (.aload_n 0, 1) := by decide +kernel
theorem dX1_tell_46 : decode cX1_tell 46 = .ok (.getfield 33, 3) := by decide +kernel
theorem dX1_tell_49 : decode cX1_tell 49 = .ok (.ireturn, 1) := by decide +kernel
theorem dX1_tell_50 : decode cX1_tell 50 = .ok (.aload_n 0, 1) := by decide +kernel
theorem dX1_tell_51 : decode cX1_tell 51 = .ok (.getfield 36, 3) := by decide +kernel
theorem dX1_tell_54 : decode cX1_tell 54 = .ok (.ireturn, 1) := by decide +kernel
theorem dX1_tell_55 : decode cX1_tell 55 = .ok (.aload_n 0, 1) := by decide +kernel
theorem dX1_tell_56 : decode cX1_tell 56 = .ok (.getfield 39, 3) := by decide +kernel
theorem dX1_tell_59 : decode cX1_tell 59 = .ok (.ireturn, 1) := by decide +kernel
theorem dX1_tell_60 : decode cX1_tell 60 = .ok (.aload_n 0, 1) := by decide +kernel
theorem dX1_tell_61 : decode cX1_tell 61 = .ok (.getfield 42, 3) := by decide +kernel
theorem dX1_tell_64 : decode cX1_tell 64 = .ok (.ireturn, 1) := by decide +kernel
theorem dX1_tell_65 : decode cX1_tell 65 = .ok (.aload_n 0, 1) := by decide +kernel
theorem dX1_tell_66 : decode cX1_tell 66 = .ok (.getfield 45, 3) := by decide +kernel
theorem dX1_tell_69 : decode cX1_tell 69 = .ok (.ireturn, 1) := by decide +kernel
theorem dX1_tell_70 : decode cX1_tell 70 = .ok (.aload_n 0, 1) := by decide +kernel
theorem dX1_tell_71 : decode cX1_tell 71 = .ok (.getfield 48, 3) := by decide +kernel
theorem dX1_tell_74 : decode cX1_tell 74 = .ok (.ireturn, 1) := by decide +kernel
theorem dX1_isNote_0 : decode cX1_isNote 0 = .ok (.aload_n 0, 1) := by decide +kernel
theorem dX1_isNote_1 : decode cX1_isNote 1 = .ok (.getfield 11, 3) := by decide +kernel
theorem dX1_isNote_4 : decode cX1_isNote 4 = .ok (.iconst 4, 1) := by decide +kernel
theorem dX1_isNote_5 : decode cX1_isNote 5 = .ok (.aaload, 1) := by decide +kernel
theorem dX1_isNote_6 : decode cX1_isNote 6 = .ok (.iload_n 1, 1) := by decide +kernel
theorem dX1_isNote_7 : decode cX1_isNote 7 = .ok (.iaload, 1) := by decide +kernel
theorem dX1_isNote_8 : decode cX1_isNote 8 = .ok (.iconst (-1), 1) := by decide +kernel
theorem dX1_isNote_9 : decode cX1_isNote 9 = .ok (.if_icmp .eq 7, 3) := by decide +kernel
theorem dX1_isNote_12 : decode cX1_isNote 12 = .ok (.iconst 1, 1) := by decide +kernel
theorem dX1_isNote_13 : decode cX1_isNote 13 = .ok (.goto 4, 3) := by decide +kernel
theorem dX1_isNote_16 : decode cX1_isNote 16 = .ok (.iconst 0, 1) := by decide +kernel
theorem dX1_isNote_17 : decode cX1_isNote 17 = .ok (.ireturn, 1) := by decide +kernel
theorem dX1_isTied_0 : decode cX1_isTied 0 = .ok (.aload_n 0, 1) := by decide +kernel
theorem dX1_isTied_1 : decode cX1_isTied 1 = .ok (.getfield 11, 3) := by decide +kernel
theorem dX1_isTied_4 : decode cX1_isTied 4 = .ok (.iconst 5, 1) := by decide +kernel
theorem dX1_isTied_5 : decode cX1_isTied 5 = .ok (.aaload, 1) := by decide +kernel
theorem dX1_isTied_6 : decode cX1_isTied 6 = .ok (.iload_n 1, 1) := by decide +kernel
theorem dX1_isTied_7 : decode cX1_isTied 7 = .ok (.iaload, 1) := by decide +kernel
theorem dX1_isTied_8 : decode cX1_isTied 8 = .ok (.iconst 1, 1) := by decide +kernel
theorem dX1_isTied_9 : decode cX1_isTied 9 = .ok (.if_icmp .ne 7, 3) := by decide +kernel
theorem dX1_isTied_12 : decode cX1_isTied 12 = .ok (.iconst 1, 1) := by decide +kernel
theorem dX1_isTied_13 : decode cX1_isTied 13 = .ok (.goto 4, 3) := by decide +kernel
theorem dX1_isTied_16 : decode cX1_isTied 16 = .ok (.iconst 0, 1) := by decide +kernel
theorem dX1_isTied_17 : decode cX1_isTied 17 = .ok (.ireturn, 1) := by decide +kernel
theorem dX1_isJoinedToNext_0 : decode cX1_isJoinedToNext 0 = .ok (.iload_n 1, 1) := by decide +kernel
theorem dX1_isJoinedToNext_1 : decode cX1_isJoinedToNext 1 = .ok (.ifCond .lt 13, 3) := by decide +kernel
theorem dX1_isJoinedToNext_4 : decode cX1_isJoinedToNext 4 = .ok (.iload_n 1, 1) := by decide +kernel
theorem dX1_isJoinedToNext_5 : decode cX1_isJoinedToNext 5 = .ok (.iconst 1, 1) := by decide +kernel
theorem dX1_isJoinedToNext_6 : decode cX1_isJoinedToNext 6 = .ok (.iadd, 1) := by decide +kernel
theorem dX1_isJoinedToNext_7 : decode cX1_isJoinedToNext 7 = .ok (.aload_n 0, 1) := by decide +kernel
theorem dX1_isJoinedToNext_8 : decode cX1_isJoinedToNext 8 = .ok (.getfield 29, 3) := by decide +kernel
theorem dX1_isJoinedToNext_11 : decode cX1_isJoinedToNext 11 = .ok (.if_icmp .lt 5, 3) := by decide +kernel
theorem dX1_isJoinedToNext_14 : decode cX1_isJoinedToNext 14 = .ok (.iconst 0, 1) := by decide +kernel
theorem dX1_isJoinedToNext_15 : decode cX1_isJoinedToNext 15 = .ok (.ireturn, 1) := by decide +kernel
theorem dX1_isJoinedToNext_16 : decode cX1_isJoinedToNext 16 = .ok (.aload_n 0, 1) := by decide +kernel
theorem dX1_isJoinedToNext_17 : decode cX1_isJoinedToNext 17 = .ok (.iload_n 1, 1) := by decide +kernel
theorem dX1_isJoinedToNext_18 : decode cX1_isJoinedToNext 18 = .ok (.invokevirtual 51, 3) := by decide +kernel
theorem dX1_isJoinedToNext_21 : decode cX1_isJoinedToNext 21 = .ok (.ifCond .eq 28, 3) := by decide +kernel
theorem dX1_isJoinedToNext_24 : decode cX1_isJoinedToNext 24 = .ok (.aload_n 0, 1) := by decide +kernel
theorem dX1_isJoinedToNext_25 : decode cX1_isJoinedToNext 25 = .ok (.getfield 11, 3) := by decide +kernel
theorem dX1_isJoinedToNext_28 : decode cX1_isJoinedToNext 28 = .ok (.iconst 4, 1) := by decide +kernel
theorem dX1_isJoinedToNext_29 : decode cX1_isJoinedToNext 29 = .ok (.aaload, 1) := by decide +kernel
theorem dX1_isJoinedToNext_30 : decode cX1_isJoinedToNext 30 = .ok (.iload_n 1, 1) := by decide +kernel
theorem dX1_isJoinedToNext_31 : decode cX1_isJoinedToNext 31 = .ok (.iaload, 1) := by decide +kernel
theorem dX1_isJoinedToNext_32 : decode cX1_isJoinedToNext 32 = .ok (.aload_n 0, 1) := by decide +kernel
theorem dX1_isJoinedToNext_33 : decode cX1_isJoinedToNext 33 = .ok (.getfield 11, 3) := by decide +kernel
theorem dX1_isJoinedToNext_36 : decode cX1_isJoinedToNext 36 = .ok (.iconst 4, 1) := by decide +kernel
theorem dX1_isJoinedToNext_37 : decode cX1_isJoinedToNext 37 = .ok (.aaload, 1) := by decide +kernel
theorem dX1_isJoinedToNext_38 : decode cX1_isJoinedToNext 38 = .ok (.iload_n 1, 1) := by decide +kernel
theorem dX1_isJoinedToNext_39 : decode cX1_isJoinedToNext 39 = .ok (.iconst 1, 1) := by decide +kernel
theorem dX1_isJoinedToNext_40 : decode cX1_isJoinedToNext 40 = .ok (.iadd, 1) := by decide +kernel
theorem dX1_isJoinedToNext_41 : decode cX1_isJoinedToNext 41 = .ok (.iaload, 1) := by decide +kernel
theorem dX1_isJoinedToNext_42 : decode cX1_isJoinedToNext 42 = .ok (.if_icmp .ne 7, 3) := by decide +kernel
theorem dX1_isJoinedToNext_45 : decode cX1_isJoinedToNext 45 = .ok (.iconst 1, 1) := by decide +kernel
theorem dX1_isJoinedToNext_46 : decode cX1_isJoinedToNext 46 = .ok (.goto 4, 3) := by decide +kernel
theorem dX1_isJoinedToNext_49 : decode cX1_isJoinedToNext 49 = .ok (.iconst 0, 1) := by decide +kernel
theorem dX1_isJoinedToNext_50 : decode cX1_isJoinedToNext 50 = .ok (.ireturn, 1) := by decide +kernel
theorem dX1_placeOf_0 : decode cX1_placeOf 0 = .ok (.bipush 7, 2) := by decide +kernel
theorem dX1_placeOf_2 : decode cX1_placeOf 2 = .ok (.aload_n 0, 1) := by decide +kernel
theorem dX1_placeOf_3 : decode cX1_placeOf 3 = .ok (.getfield 16, 3) := by decide +kernel
theorem dX1_placeOf_6 : decode cX1_placeOf 6 = .ok (.iconst 2, 1) := by decide +kernel
theorem dX1_placeOf_7 : decode cX1_placeOf 7 = .ok (.aaload, 1) := by decide +kernel
theorem dX1_placeOf_8 : decode cX1_placeOf 8 = .ok (.iload_n 1, 1) := by decide +kernel
theorem dX1_placeOf_9 : decode cX1_placeOf 9 = .ok (.iaload, 1) := by decide +kernel
theorem dX1_placeOf_10 : decode cX1_placeOf 10 = .ok (.imul, 1) := by decide +kernel
theorem dX1_placeOf_11 : decode cX1_placeOf 11 = .ok (.aload_n 0, 1) := by decide +kernel
theorem dX1_placeOf_12 : decode cX1_placeOf 12 = .ok (.getfield 16, 3) := by decide +kernel
theorem dX1_placeOf_15 : decode cX1_placeOf 15 = .ok (.iconst 0, 1) := by decide +kernel
theorem dX1_placeOf_16 : decode cX1_placeOf 16 = .ok (.aaload, 1) := by decide +kernel
theorem dX1_placeOf_17 : decode cX1_placeOf 17 = .ok (.iload_n 1, 1) := by decide +kernel
theorem dX1_placeOf_18 : decode cX1_placeOf 18 = .ok (.iaload, 1) := by decide +kernel
theorem dX1_placeOf_19 : decode cX1_placeOf 19 = .ok (.iadd, 1) := by decide +kernel
theorem dX1_placeOf_20 : decode cX1_placeOf 20 = .ok (.ireturn, 1) := by decide +kernel
theorem dX1_append_0 : decode cX1_append 0 = .ok (.aload_n 0, 1) := by decide +kernel
theorem dX1_append_1 : decode cX1_append 1 = .ok (.getfield 11, 3) := by decide +kernel
theorem dX1_append_4 : decode cX1_append 4 = .ok (.iconst 0, 1) := by decide +kernel
theorem dX1_append_5 : decode cX1_append 5 = .ok (.aaload, 1) := by decide +kernel
theorem dX1_append_6 : decode cX1_append 6 = .ok (.aload_n 0, 1) := by decide +kernel
theorem dX1_append_7 : decode cX1_append 7 = .ok (.getfield 29, 3) := by decide +kernel
theorem dX1_append_10 : decode cX1_append 10 = .ok (.aload_n 0, 1) := by decide +kernel
theorem dX1_append_11 : decode cX1_append 11 = .ok (.getfield 33, 3) := by decide +kernel
theorem dX1_append_14 : decode cX1_append 14 = .ok (.iastore, 1) := by decide +kernel
theorem dX1_append_15 : decode cX1_append 15 = .ok (.aload_n 0, 1) := by decide +kernel
theorem dX1_append_16 : decode cX1_append 16 = .ok (.getfield 11, 3) := by decide +kernel
theorem dX1_append_19 : decode cX1_append 19 = .ok (.iconst 1, 1) := by decide +kernel
theorem dX1_append_20 : decode cX1_append 20 = .ok (.aaload, 1) := by decide +kernel
theorem dX1_append_21 : decode cX1_append 21 = .ok (.aload_n 0, 1) := by decide +kernel
theorem dX1_append_22 : decode cX1_append 22 = .ok (.getfield 29, 3) := by decide +kernel
theorem dX1_append_25 : decode cX1_append 25 = .ok (.getstatic 55, 3) := by decide +kernel
theorem dX1_append_28 : decode cX1_append 28 = .ok (.iload_n 1, 1) := by decide +kernel
theorem dX1_append_29 : decode cX1_append 29 = .ok (.iaload, 1) := by decide +kernel
theorem dX1_append_30 : decode cX1_append 30 = .ok (.iastore, 1) := by decide +kernel
theorem dX1_append_31 : decode cX1_append 31 = .ok (.aload_n 0, 1) := by decide +kernel
theorem dX1_append_32 : decode cX1_append 32 = .ok (.getfield 11, 3) := by decide +kernel
theorem dX1_append_35 : decode cX1_append 35 = .ok (.iconst 2, 1) := by decide +kernel
theorem dX1_append_36 : decode cX1_append 36 = .ok (.aaload, 1) := by decide +kernel
theorem dX1_append_37 : decode cX1_append 37 = .ok (.aload_n 0, 1) := by decide +kernel
theorem dX1_append_38 : decode cX1_append 38 = .ok (.getfield 29, 3) := by decide +kernel
theorem dX1_append_41 : decode cX1_append 41 = .ok (.getstatic 58, 3) := by decide +kernel
theorem dX1_append_44 : decode cX1_append 44 = .ok (.iload_n 1, 1) := by decide +kernel
theorem dX1_append_45 : decode cX1_append 45 = .ok (.iaload, 1) := by decide +kernel
theorem dX1_append_46 : decode cX1_append 46 = .ok (.iastore, 1) := by decide +kernel
theorem dX1_append_47 : decode cX1_append 47 = .ok (.aload_n 0, 1) := by decide +kernel
theorem dX1_append_48 : decode cX1_append 48 = .ok (.getfield 11, 3) := by decide +kernel
theorem dX1_append_51 : decode cX1_append 51 = .ok (.iconst 3, 1) := by decide +kernel
theorem dX1_append_52 : decode cX1_append 52 = .ok (.aaload, 1) := by decide +kernel
theorem dX1_append_53 : decode cX1_append 53 = .ok (.aload_n 0, 1) := by decide +kernel
theorem dX1_append_54 : decode cX1_append 54 = .ok (.getfield 29, 3) := by decide +kernel
theorem dX1_append_57 : decode cX1_append 57 = .ok (.getstatic 61, 3) := by decide +kernel
theorem dX1_append_60 : decode cX1_append 60 = .ok (.iload_n 1, 1) := by decide +kernel
theorem dX1_append_61 : decode cX1_append 61 = .ok (.iaload, 1) := by decide +kernel
theorem dX1_append_62 : decode cX1_append 62 = .ok (.iastore, 1) := by decide +kernel
theorem dX1_append_63 : decode cX1_append 63 = .ok (.aload_n 0, 1) := by decide +kernel
theorem dX1_append_64 : decode cX1_append 64 = .ok (.getfield 11, 3) := by decide +kernel
theorem dX1_append_67 : decode cX1_append 67 = .ok (.iconst 4, 1) := by decide +kernel
theorem dX1_append_68 : decode cX1_append 68 = .ok (.aaload, 1) := by decide +kernel
theorem dX1_append_69 : decode cX1_append 69 = .ok (.aload_n 0, 1) := by decide +kernel
theorem dX1_append_70 : decode cX1_append 70 = .ok (.getfield 29, 3) := by decide +kernel
theorem dX1_append_73 : decode cX1_append 73 = .ok (.iconst (-1), 1) := by decide +kernel
theorem dX1_append_74 : decode cX1_append 74 = .ok (.iastore, 1) := by decide +kernel
theorem dX1_append_75 : decode cX1_append 75 = .ok (.aload_n 0, 1) := by decide +kernel
theorem dX1_append_76 : decode cX1_append 76 = .ok (.getfield 11, 3) := by decide +kernel
theorem dX1_append_79 : decode cX1_append 79 = .ok (.iconst 5, 1) := by decide +kernel
theorem dX1_append_80 : decode cX1_append 80 = .ok (.aaload, 1) := by decide +kernel
theorem dX1_append_81 : decode cX1_append 81 = .ok (.aload_n 0, 1) := by decide +kernel
theorem dX1_append_82 : decode cX1_append 82 = .ok (.getfield 29, 3) := by decide +kernel
theorem dX1_append_85 : decode cX1_append 85 = .ok (.iconst 0, 1) := by decide +kernel
theorem dX1_append_86 : decode cX1_append 86 = .ok (.iastore, 1) := by decide +kernel
theorem dX1_append_87 : decode cX1_append 87 = .ok (.aload_n 0, 1) := by decide +kernel
theorem dX1_append_88 : decode cX1_append 88 = .ok (.getfield 11, 3) := by decide +kernel
theorem dX1_append_91 : decode cX1_append 91 = .ok (.bipush 6, 2) := by decide +kernel
theorem dX1_append_93 : decode cX1_append 93 = .ok (.aaload, 1) := by decide +kernel
theorem dX1_append_94 : decode cX1_append 94 = .ok (.aload_n 0, 1) := by decide +kernel
theorem dX1_append_95 : decode cX1_append 95 = .ok (.getfield 29, 3) := by decide +kernel
theorem dX1_append_98 : decode cX1_append 98 = .ok (.iload_n 2, 1) := by decide +kernel
theorem dX1_append_99 : decode cX1_append 99 = .ok (.iastore, 1) := by decide +kernel
theorem dX1_append_100 : decode cX1_append 100 = .ok (.aload_n 0, 1) := by decide +kernel
theorem dX1_append_101 : decode cX1_append 101 = .ok (.dup, 1) := by decide +kernel
theorem dX1_append_102 : decode cX1_append 102 = .ok (.getfield 33, 3) := by decide +kernel
theorem dX1_append_105 : decode cX1_append 105 = .ok (.getstatic 55, 3) := by decide +kernel
theorem dX1_append_108 : decode cX1_append 108 = .ok (.iload_n 1, 1) := by decide +kernel
theorem dX1_append_109 : decode cX1_append 109 = .ok (.iaload, 1) := by decide +kernel
theorem dX1_append_110 : decode cX1_append 110 = .ok (.iadd, 1) := by decide +kernel
theorem dX1_append_111 : decode cX1_append 111 = .ok (.putfield 33, 3) := by decide +kernel
theorem dX1_append_114 : decode cX1_append 114 = .ok (.aload_n 0, 1) := by decide +kernel
theorem dX1_append_115 : decode cX1_append 115 = .ok (.dup, 1) := by decide +kernel
theorem dX1_append_116 : decode cX1_append 116 = .ok (.getfield 29, 3) := by decide +kernel
theorem dX1_append_119 : decode cX1_append 119 = .ok (.iconst 1, 1) := by decide +kernel
theorem dX1_append_120 : decode cX1_append 120 = .ok (.iadd, 1) := by decide +kernel
theorem dX1_append_121 : decode cX1_append 121 = .ok (.putfield 29, 3) := by decide +kernel
theorem dX1_append_124 : decode cX1_append 124 = .ok (.return_, 1) := by decide +kernel
theorem dX1_dropLast_0 : decode cX1_dropLast 0 = .ok (.aload_n 0, 1) := by decide +kernel
theorem dX1_dropLast_1 : decode cX1_dropLast 1 = .ok (.dup, 1) := by decide +kernel
theorem dX1_dropLast_2 : decode cX1_dropLast 2 = .ok (.getfield 29, 3) := by decide +kernel
theorem dX1_dropLast_5 : decode cX1_dropLast 5 = .ok (.iconst 1, 1) := by decide +kernel
theorem dX1_dropLast_6 : decode cX1_dropLast 6 = .ok (.isub, 1) := by decide +kernel
theorem dX1_dropLast_7 : decode cX1_dropLast 7 = .ok (.putfield 29, 3) := by decide +kernel
theorem dX1_dropLast_10 : decode cX1_dropLast 10 = .ok (.aload_n 0, 1) := by decide +kernel
theorem dX1_dropLast_11 : decode cX1_dropLast 11 = .ok (.aload_n 0, 1) := by decide +kernel
theorem dX1_dropLast_12 : decode cX1_dropLast 12 = .ok (.getfield 11, 3) := by decide +kernel
theorem dX1_dropLast_15 : decode cX1_dropLast 15 = .ok (.iconst 0, 1) := by decide +kernel
theorem dX1_dropLast_16 : decode cX1_dropLast 16 = .ok (.aaload, 1) := by decide +kernel
theorem dX1_dropLast_17 : decode cX1_dropLast 17 = .ok (.aload_n 0, 1) := by decide +kernel
theorem dX1_dropLast_18 : decode cX1_dropLast 18 = .ok (.getfield 29, 3) := by decide +kernel
theorem dX1_dropLast_21 : decode cX1_dropLast 21 = .ok (.iaload, 1) := by decide +kernel
theorem dX1_dropLast_22 : decode cX1_dropLast 22 = .ok (.putfield 33, 3) := by decide +kernel
theorem dX1_dropLast_25 : decode cX1_dropLast 25 = .ok (.return_, 1) := by decide +kernel
theorem dX1_putPitch_0 : decode cX1_putPitch 0 = .ok (.aload_n 0, 1) := by decide +kernel
theorem dX1_putPitch_1 : decode cX1_putPitch 1 = .ok (.getfield 16, 3) := by decide +kernel
theorem dX1_putPitch_4 : decode cX1_putPitch 4 = .ok (.iconst 0, 1) := by decide +kernel
theorem dX1_putPitch_5 : decode cX1_putPitch 5 = .ok (.aaload, 1) := by decide +kernel
theorem dX1_putPitch_6 : decode cX1_putPitch 6 = .ok (.iload_n 1, 1) := by decide +kernel
theorem dX1_putPitch_7 : decode cX1_putPitch 7 = .ok (.iload_n 2, 1) := by decide +kernel
theorem dX1_putPitch_8 : decode cX1_putPitch 8 = .ok (.iastore, 1) := by decide +kernel
theorem dX1_putPitch_9 : decode cX1_putPitch 9 = .ok (.aload_n 0, 1) := by decide +kernel
theorem dX1_putPitch_10 : decode cX1_putPitch 10 = .ok (.getfield 16, 3) := by decide +kernel
theorem dX1_putPitch_13 : decode cX1_putPitch 13 = .ok (.iconst 1, 1) := by decide +kernel
theorem dX1_putPitch_14 : decode cX1_putPitch 14 = .ok (.aaload, 1) := by decide +kernel
theorem dX1_putPitch_15 : decode cX1_putPitch 15 = .ok (.iload_n 1, 1) := by decide +kernel
theorem dX1_putPitch_16 : decode cX1_putPitch 16 = .ok (.iload_n 3, 1) := by decide +kernel
theorem dX1_putPitch_17 : decode cX1_putPitch 17 = .ok (.iastore, 1) := by decide +kernel
theorem dX1_putPitch_18 : decode cX1_putPitch 18 = .ok (.aload_n 0, 1) := by decide +kernel
theorem dX1_putPitch_19 : decode cX1_putPitch 19 = .ok (.getfield 16, 3) := by decide +kernel
theorem dX1_putPitch_22 : decode cX1_putPitch 22 = .ok (.iconst 2, 1) := by decide +kernel
theorem dX1_putPitch_23 : decode cX1_putPitch 23 = .ok (.aaload, 1) := by decide +kernel
theorem dX1_putPitch_24 : decode cX1_putPitch 24 = .ok (.iload_n 1, 1) := by decide +kernel
theorem dX1_putPitch_25 : decode cX1_putPitch 25 = .ok (.iload 4, 2) := by decide +kernel
theorem dX1_putPitch_27 : decode cX1_putPitch 27 = .ok (.iastore, 1) := by decide +kernel
theorem dX1_putPitch_28 : decode cX1_putPitch 28 = .ok (.aload_n 0, 1) := by decide +kernel
theorem dX1_putPitch_29 : decode cX1_putPitch 29 = .ok (.getfield 11, 3) := by decide +kernel
theorem dX1_putPitch_32 : decode cX1_putPitch 32 = .ok (.iconst 4, 1) := by decide +kernel
theorem dX1_putPitch_33 : decode cX1_putPitch 33 = .ok (.aaload, 1) := by decide +kernel
theorem dX1_putPitch_34 : decode cX1_putPitch 34 = .ok (.iload_n 1, 1) := by decide +kernel
theorem dX1_putPitch_35 : decode cX1_putPitch 35 = .ok (.iload_n 2, 1) := by decide +kernel
theorem dX1_putPitch_36 : decode cX1_putPitch 36 = .ok (.iload_n 3, 1) := by decide +kernel
theorem dX1_putPitch_37 : decode cX1_putPitch 37 = .ok (.iload 4, 2) := by decide +kernel
theorem dX1_putPitch_39 : decode cX1_putPitch 39 = .ok (.invokestatic 64, 3) := by decide +kernel
theorem dX1_putPitch_42 : decode cX1_putPitch 42 = .ok (.iastore, 1) := by decide +kernel
theorem dX1_putPitch_43 : decode cX1_putPitch 43 = .ok (.return_, 1) := by decide +kernel
theorem dX1_canTranspose_0 : decode cX1_canTranspose 0 = .ok (.iconst 0, 1) := by decide +kernel
theorem dX1_canTranspose_1 : decode cX1_canTranspose 1 = .ok (.istore_n 3, 1) := by decide +kernel
theorem dX1_canTranspose_2 : decode cX1_canTranspose 2 = .ok (.iload_n 3, 1) := by decide +kernel
theorem dX1_canTranspose_3 : decode cX1_canTranspose 3 = .ok (.aload_n 0, 1) := by decide +kernel
theorem dX1_canTranspose_4 : decode cX1_canTranspose 4 = .ok (.getfield 29, 3) := by decide +kernel
theorem dX1_canTranspose_7 : decode cX1_canTranspose 7 = .ok (.if_icmp .ge 63, 3) := by decide +kernel
theorem dX1_canTranspose_10 : decode cX1_canTranspose 10 = .ok (.aload_n 0, 1) := by decide +kernel
theorem dX1_canTranspose_11 : decode cX1_canTranspose 11 = .ok (.iload_n 3, 1) := by decide +kernel
theorem dX1_canTranspose_12 : decode cX1_canTranspose 12 = .ok (.invokevirtual 68, 3) := by decide +kernel
theorem dX1_canTranspose_15 : decode cX1_canTranspose 15 = .ok (.iload_n 1, 1) := by decide +kernel
theorem dX1_canTranspose_16 : decode cX1_canTranspose 16 = .ok (.iadd, 1) := by decide +kernel
theorem dX1_canTranspose_17 : decode cX1_canTranspose 17 = .ok (.istore 4, 2) := by decide +kernel
theorem dX1_canTranspose_19 : decode cX1_canTranspose 19 = .ok (.iload 4, 2) := by decide +kernel
theorem dX1_canTranspose_21 : decode cX1_canTranspose 21 = .ok (.aload_n 0, 1) := by decide +kernel
theorem dX1_canTranspose_22 : decode cX1_canTranspose 22 = .ok (.getfield 11, 3) := by decide +kernel
theorem dX1_canTranspose_25 : decode cX1_canTranspose 25 = .ok (.iconst 4, 1) := by decide +kernel
theorem dX1_canTranspose_26 : decode cX1_canTranspose 26 = .ok (.aaload, 1) := by decide +kernel
theorem dX1_canTranspose_27 : decode cX1_canTranspose 27 = .ok (.iload_n 3, 1) := by decide +kernel
theorem dX1_canTranspose_28 : decode cX1_canTranspose 28 = .ok (.iaload, 1) := by decide +kernel
theorem dX1_canTranspose_29 : decode cX1_canTranspose 29 = .ok (.iload_n 2, 1) := by decide +kernel
theorem dX1_canTranspose_30 : decode cX1_canTranspose 30 = .ok (.iadd, 1) := by decide +kernel
theorem dX1_canTranspose_31 : decode cX1_canTranspose 31 = .ok (.invokestatic 72, 3) := by decide +kernel
theorem dX1_canTranspose_34 : decode cX1_canTranspose 34 = .ok (.istore 5, 2) := by decide +kernel
theorem dX1_canTranspose_36 : decode cX1_canTranspose 36 = .ok (.aload_n 0, 1) := by decide +kernel
theorem dX1_canTranspose_37 : decode cX1_canTranspose 37 = .ok (.iload_n 3, 1) := by decide +kernel
theorem dX1_canTranspose_38 : decode cX1_canTranspose 38 = .ok (.invokevirtual 76, 3) := by decide +kernel
theorem dX1_canTranspose_41 : decode cX1_canTranspose 41 = .ok (.ifCond .eq 23, 3) := by decide +kernel
theorem dX1_canTranspose_44 : decode cX1_canTranspose 44 = .ok (.iload 4, 2) := by decide +kernel
theorem dX1_canTranspose_46 : decode cX1_canTranspose 46 = .ok (.invokestatic 79, 3) := by decide +kernel
theorem dX1_canTranspose_49 : decode cX1_canTranspose 49 = .ok (.iload 5, 2) := by decide +kernel
theorem dX1_canTranspose_51 : decode cX1_canTranspose 51 = .ok (.iload 4, 2) := by decide +kernel
theorem dX1_canTranspose_53 : decode cX1_canTranspose 53 = .ok (.invokestatic 82, 3) := by decide +kernel
theorem dX1_canTranspose_56 : decode cX1_canTranspose 56 = .ok (.invokestatic 85, 3) := by decide +kernel
theorem dX1_canTranspose_59 : decode cX1_canTranspose 59 = .ok (.ifCond .ne 5, 3) := by decide +kernel
theorem dX1_canTranspose_62 : decode cX1_canTranspose 62 = .ok (.iconst 0, 1) := by decide +kernel
theorem dX1_canTranspose_63 : decode cX1_canTranspose 63 = .ok (.ireturn, 1) := by decide +kernel
theorem dX1_canTranspose_64 : decode cX1_canTranspose 64 = .ok (.iinc 3 1, 3) := by decide +kernel
theorem dX1_canTranspose_67 : decode cX1_canTranspose 67 = .ok (.goto (-65), 3) := by decide +kernel
theorem dX1_canTranspose_70 : decode cX1_canTranspose 70 = .ok (.iconst 1, 1) := by decide +kernel
theorem dX1_canTranspose_71 : decode cX1_canTranspose 71 = .ok (.ireturn, 1) := by decide +kernel
theorem dX1_moveNotes_0 : decode cX1_moveNotes 0 = .ok (.iconst 0, 1) := by decide +kernel
theorem dX1_moveNotes_1 : decode cX1_moveNotes 1 = .ok (.istore_n 3, 1) := by decide +kernel
theorem dX1_moveNotes_2 : decode cX1_moveNotes 2 = .ok (.iload_n 3, 1) := by decide +kernel
theorem dX1_moveNotes_3 : decode cX1_moveNotes 3 = .ok (.aload_n 0, 1) := by decide +kernel
theorem dX1_moveNotes_4 : decode cX1_moveNotes 4 = .ok (.getfield 29, 3) := by decide +kernel
theorem dX1_moveNotes_7 : decode cX1_moveNotes 7 = .ok (.if_icmp .ge 60, 3) := by decide +kernel
theorem dX1_moveNotes_10 : decode cX1_moveNotes 10 = .ok (.aload_n 0, 1) := by decide +kernel
theorem dX1_moveNotes_11 : decode cX1_moveNotes 11 = .ok (.iload_n 3, 1) := by decide +kernel
theorem dX1_moveNotes_12 : decode cX1_moveNotes 12 = .ok (.invokevirtual 68, 3) := by decide +kernel
theorem dX1_moveNotes_15 : decode cX1_moveNotes 15 = .ok (.iload_n 1, 1) := by decide +kernel
theorem dX1_moveNotes_16 : decode cX1_moveNotes 16 = .ok (.iadd, 1) := by decide +kernel
theorem dX1_moveNotes_17 : decode cX1_moveNotes 17 = .ok (.istore 4, 2) := by decide +kernel
theorem dX1_moveNotes_19 : decode cX1_moveNotes 19 = .ok (.iload 4, 2) := by decide +kernel
theorem dX1_moveNotes_21 : decode cX1_moveNotes 21 = .ok (.aload_n 0, 1) := by decide +kernel
theorem dX1_moveNotes_22 : decode cX1_moveNotes 22 = .ok (.getfield 11, 3) := by decide +kernel
theorem dX1_moveNotes_25 : decode cX1_moveNotes 25 = .ok (.iconst 4, 1) := by decide +kernel
theorem dX1_moveNotes_26 : decode cX1_moveNotes 26 = .ok (.aaload, 1) := by decide +kernel
theorem dX1_moveNotes_27 : decode cX1_moveNotes 27 = .ok (.iload_n 3, 1) := by decide +kernel
theorem dX1_moveNotes_28 : decode cX1_moveNotes 28 = .ok (.iaload, 1) := by decide +kernel
theorem dX1_moveNotes_29 : decode cX1_moveNotes 29 = .ok (.iload_n 2, 1) := by decide +kernel
theorem dX1_moveNotes_30 : decode cX1_moveNotes 30 = .ok (.iadd, 1) := by decide +kernel
theorem dX1_moveNotes_31 : decode cX1_moveNotes 31 = .ok (.invokestatic 72, 3) := by decide +kernel
theorem dX1_moveNotes_34 : decode cX1_moveNotes 34 = .ok (.istore 5, 2) := by decide +kernel
theorem dX1_moveNotes_36 : decode cX1_moveNotes 36 = .ok (.aload_n 0, 1) := by decide +kernel
theorem dX1_moveNotes_37 : decode cX1_moveNotes 37 = .ok (.iload_n 3, 1) := by decide +kernel
theorem dX1_moveNotes_38 : decode cX1_moveNotes 38 = .ok (.invokevirtual 76, 3) := by decide +kernel
theorem dX1_moveNotes_41 : decode cX1_moveNotes 41 = .ok (.ifCond .eq 20, 3) := by decide +kernel
theorem dX1_moveNotes_44 : decode cX1_moveNotes 44 = .ok (.aload_n 0, 1) := by decide +kernel
theorem dX1_moveNotes_45 : decode cX1_moveNotes 45 = .ok (.iload_n 3, 1) := by decide +kernel
theorem dX1_moveNotes_46 : decode cX1_moveNotes 46 = .ok (.iload 4, 2) := by decide +kernel
theorem dX1_moveNotes_48 : decode cX1_moveNotes 48 = .ok (.invokestatic 79, 3) := by decide +kernel
theorem dX1_moveNotes_51 : decode cX1_moveNotes 51 = .ok (.iload 5, 2) := by decide +kernel
theorem dX1_moveNotes_53 : decode cX1_moveNotes 53 = .ok (.iload 4, 2) := by decide +kernel
theorem dX1_moveNotes_55 : decode cX1_moveNotes 55 = .ok (.invokestatic 82, 3) := by decide +kernel
theorem dX1_moveNotes_58 : decode cX1_moveNotes 58 = .ok (.invokevirtual 89, 3) := by decide +kernel
theorem dX1_moveNotes_61 : decode cX1_moveNotes 61 = .ok (.iinc 3 1, 3) := by decide +kernel
theorem dX1_moveNotes_64 : decode cX1_moveNotes 64 = .ok (.goto (-62), 3) := by decide +kernel
theorem dX1_moveNotes_67 : decode cX1_moveNotes 67 = .ok (.return_, 1) := by decide +kernel
theorem dX1_countLooseTies_0 : decode cX1_countLooseTies 0 = .ok (.iconst 0, 1) := by decide +kernel
theorem dX1_countLooseTies_1 : decode cX1_countLooseTies 1 = .ok (.istore_n 1, 1) := by decide +kernel
theorem dX1_countLooseTies_2 : decode cX1_countLooseTies 2 = .ok (.iconst 0, 1) := by decide +kernel
theorem dX1_countLooseTies_3 : decode cX1_countLooseTies 3 = .ok (.istore_n 2, 1) := by decide +kernel
theorem dX1_countLooseTies_4 : decode cX1_countLooseTies 4 = .ok (.iload_n 2, 1) := by decide +kernel
theorem dX1_countLooseTies_5 : decode cX1_countLooseTies 5 = .ok (.aload_n 0, 1) := by decide +kernel
theorem dX1_countLooseTies_6 : decode cX1_countLooseTies 6 = .ok (.getfield 29, 3) := by decide +kernel
theorem dX1_countLooseTies_9 : decode cX1_countLooseTies 9 = .ok (.if_icmp .ge 28, 3) := by decide +kernel
theorem dX1_countLooseTies_12 : decode cX1_countLooseTies 12 = .ok (.aload_n 0, 1) := by decide +kernel
theorem dX1_countLooseTies_13 : decode cX1_countLooseTies 13 = .ok (.iload_n 2, 1) := by decide +kernel
theorem dX1_countLooseTies_14 : decode cX1_countLooseTies 14 = .ok (.invokevirtual 51, 3) := by decide +kernel
theorem dX1_countLooseTies_17 : decode cX1_countLooseTies 17 = .ok (.ifCond .eq 14, 3) := by decide +kernel
theorem dX1_countLooseTies_20 : decode cX1_countLooseTies 20 = .ok (.aload_n 0, 1) := by decide +kernel
theorem dX1_countLooseTies_21 : decode cX1_countLooseTies 21 = .ok (.iload_n 2, 1) := by decide +kernel
theorem dX1_countLooseTies_22 : decode cX1_countLooseTies 22 = .ok (.invokevirtual 93, 3) := by decide +kernel
theorem dX1_countLooseTies_25 : decode cX1_countLooseTies 25 = .ok (.ifCond .ne 6, 3) := by decide +kernel
theorem dX1_countLooseTies_28 : decode cX1_countLooseTies 28 = .ok (.iinc 1 1, 3) := by decide +kernel
theorem dX1_countLooseTies_31 : decode cX1_countLooseTies 31 = .ok (.iinc 2 1, 3) := by decide +kernel
theorem dX1_countLooseTies_34 : decode cX1_countLooseTies 34 = .ok (.goto (-30), 3) := by decide +kernel
theorem dX1_countLooseTies_37 : decode cX1_countLooseTies 37 = .ok (.iload_n 1, 1) := by decide +kernel
theorem dX1_countLooseTies_38 : decode cX1_countLooseTies 38 = .ok (.ireturn, 1) := by decide +kernel
theorem dX1_toneAt_0 : decode cX1_toneAt 0 = .ok (.iconst 0, 1) := by decide +kernel
theorem dX1_toneAt_1 : decode cX1_toneAt 1 = .ok (.istore_n 2, 1) := by decide +kernel
theorem dX1_toneAt_2 : decode cX1_toneAt 2 = .ok (.iload_n 2, 1) := by decide +kernel
theorem dX1_toneAt_3 : decode cX1_toneAt 3 = .ok (.aload_n 0, 1) := by decide +kernel
theorem dX1_toneAt_4 : decode cX1_toneAt 4 = .ok (.getfield 29, 3) := by decide +kernel
theorem dX1_toneAt_7 : decode cX1_toneAt 7 = .ok (.if_icmp .ge 46, 3) := by decide +kernel
theorem dX1_toneAt_10 : decode cX1_toneAt 10 = .ok (.aload_n 0, 1) := by decide +kernel
theorem dX1_toneAt_11 : decode cX1_toneAt 11 = .ok (.getfield 11, 3) := by decide +kernel
theorem dX1_toneAt_14 : decode cX1_toneAt 14 = .ok (.iconst 0, 1) := by decide +kernel
theorem dX1_toneAt_15 : decode cX1_toneAt 15 = .ok (.aaload, 1) := by decide +kernel
theorem dX1_toneAt_16 : decode cX1_toneAt 16 = .ok (.iload_n 2, 1) := by decide +kernel
theorem dX1_toneAt_17 : decode cX1_toneAt 17 = .ok (.iaload, 1) := by decide +kernel
theorem dX1_toneAt_18 : decode cX1_toneAt 18 = .ok (.istore_n 3, 1) := by decide +kernel
theorem dX1_toneAt_19 : decode cX1_toneAt 19 = .ok (.iload_n 3, 1) := by decide +kernel
theorem dX1_toneAt_20 : decode cX1_toneAt 20 = .ok (.iload_n 1, 1) := by decide +kernel
theorem dX1_toneAt_21 : decode cX1_toneAt 21 = .ok (.if_icmp .gt 26, 3) := by decide +kernel
theorem dX1_toneAt_24 : decode cX1_toneAt 24 = .ok (.iload_n 1, 1) := by decide +kernel
theorem dX1_toneAt_25 : decode cX1_toneAt 25 = .ok (.iload_n 3, 1) := by decide +kernel
theorem dX1_toneAt_26 : decode cX1_toneAt 26 = .ok (.aload_n 0, 1) := by decide +kernel
theorem dX1_toneAt_27 : decode cX1_toneAt 27 = .ok (.getfield 11, 3) := by decide +kernel
theorem dX1_toneAt_30 : decode cX1_toneAt 30 = .ok (.iconst 1, 1) := by decide +kernel
theorem dX1_toneAt_31 : decode cX1_toneAt 31 = .ok (.aaload, 1) := by decide +kernel
theorem dX1_toneAt_32 : decode cX1_toneAt 32 = .ok (.iload_n 2, 1) := by decide +kernel
theorem dX1_toneAt_33 : decode cX1_toneAt 33 = .ok (.iaload, 1) := by decide +kernel
theorem dX1_toneAt_34 : decode cX1_toneAt 34 = .ok (.iadd, 1) := by decide +kernel
theorem dX1_toneAt_35 : decode cX1_toneAt 35 = .ok (.if_icmp .ge 12, 3) := by decide +kernel
theorem dX1_toneAt_38 : decode cX1_toneAt 38 = .ok (.aload_n 0, 1) := by decide +kernel
theorem dX1_toneAt_39 : decode cX1_toneAt 39 = .ok (.getfield 11, 3) := by decide +kernel
theorem dX1_toneAt_42 : decode cX1_toneAt 42 = .ok (.iconst 4, 1) := by decide +kernel
theorem dX1_toneAt_43 : decode cX1_toneAt 43 = .ok (.aaload, 1) := by decide +kernel
theorem dX1_toneAt_44 : decode cX1_toneAt 44 = .ok (.iload_n 2, 1) := by decide +kernel
theorem dX1_toneAt_45 : decode cX1_toneAt 45 = .ok (.iaload, 1) := by decide +kernel
theorem dX1_toneAt_46 : decode cX1_toneAt 46 = .ok (.ireturn, 1) := by decide +kernel
theorem dX1_toneAt_47 : decode cX1_toneAt 47 = .ok (.iinc 2 1, 3) := by decide +kernel
theorem dX1_toneAt_50 : decode cX1_toneAt 50 = .ok (.goto (-48), 3) := by decide +kernel
theorem dX1_toneAt_53 : decode cX1_toneAt 53 = .ok (.iconst (-1), 1) := by decide +kernel
theorem dX1_toneAt_54 : decode cX1_toneAt 54 = .ok (.ireturn, 1) := by decide +kernel
theorem dX1_arrange_0 : decode cX1_arrange 0 = .ok (.aload_n 0, 1) := by decide +kernel
theorem dX1_arrange_1 : decode cX1_arrange 1 = .ok (.invokevirtual 96, 3) := by decide +kernel
theorem dX1_arrange_4 : decode cX1_arrange 4 = .ok (.aload_n 0, 1) := by decide +kernel
theorem dX1_arrange_5 : decode cX1_arrange 5 = .ok (.invokevirtual 99, 3) := by decide +kernel
theorem dX1_arrange_8 : decode cX1_arrange 8 = .ok (.aload_n 0, 1) := by decide +kernel
theorem dX1_arrange_9 : decode cX1_arrange 9 = .ok (.iload_n 1, 1) := by decide +kernel
theorem dX1_arrange_10 : decode cX1_arrange 10 = .ok (.invokevirtual 102, 3) := by decide +kernel
theorem dX1_arrange_13 : decode cX1_arrange 13 = .ok (.aload_n 0, 1) := by decide +kernel
theorem dX1_arrange_14 : decode cX1_arrange 14 = .ok (.iload_n 2, 1) := by decide +kernel
theorem dX1_arrange_15 : decode cX1_arrange 15 = .ok (.invokevirtual 106, 3) := by decide +kernel
theorem dX1_arrange_18 : decode cX1_arrange 18 = .ok (.return_, 1) := by decide +kernel
theorem dX1_arrangeTones_0 : decode cX1_arrangeTones 0 = .ok (.aload_n 0, 1) := by decide +kernel
theorem dX1_arrangeTones_1 : decode cX1_arrangeTones 1 = .ok (.iconst (-1), 1) := by decide +kernel
theorem dX1_arrangeTones_2 : decode cX1_arrangeTones 2 = .ok (.putfield 45, 3) := by decide +kernel
theorem dX1_arrangeTones_5 : decode cX1_arrangeTones 5 = .ok (.aload_n 0, 1) := by decide +kernel
theorem dX1_arrangeTones_6 : decode cX1_arrangeTones 6 = .ok (.iconst (-1), 1) := by decide +kernel
theorem dX1_arrangeTones_7 : decode cX1_arrangeTones 7 = .ok (.putfield 48, 3) := by decide +kernel
theorem dX1_arrangeTones_10 : decode cX1_arrangeTones 10 = .ok (.iconst 0, 1) := by decide +kernel
theorem dX1_arrangeTones_11 : decode cX1_arrangeTones 11 = .ok (.istore_n 1, 1) := by decide +kernel
theorem dX1_arrangeTones_12 : decode cX1_arrangeTones 12 = .ok (.iload_n 1, 1) := by decide +kernel
theorem dX1_arrangeTones_13 : decode cX1_arrangeTones 13 = .ok (.aload_n 0, 1) := by decide +kernel
theorem dX1_arrangeTones_14 : decode cX1_arrangeTones 14 = .ok (.getfield 29, 3) := by decide +kernel
theorem dX1_arrangeTones_17 : decode cX1_arrangeTones 17 = .ok (.if_icmp .ge 62, 3) := by decide +kernel
theorem dX1_arrangeTones_20 : decode cX1_arrangeTones 20 = .ok (.aload_n 0, 1) := by decide +kernel
theorem dX1_arrangeTones_21 : decode cX1_arrangeTones 21 = .ok (.iload_n 1, 1) := by decide +kernel
theorem dX1_arrangeTones_22 : decode cX1_arrangeTones 22 = .ok (.invokevirtual 76, 3) := by decide +kernel
theorem dX1_arrangeTones_25 : decode cX1_arrangeTones 25 = .ok (.ifCond .eq 48, 3) := by decide +kernel
theorem dX1_arrangeTones_28 : decode cX1_arrangeTones 28 = .ok (.aload_n 0, 1) := by decide +kernel
theorem dX1_arrangeTones_29 : decode cX1_arrangeTones 29 = .ok (.getfield 11, 3) := by decide +kernel
theorem dX1_arrangeTones_32 : decode cX1_arrangeTones 32 = .ok (.iconst 4, 1) := by decide +kernel
theorem dX1_arrangeTones_33 : decode cX1_arrangeTones 33 = .ok (.aaload, 1) := by decide +kernel
theorem dX1_arrangeTones_34 : decode cX1_arrangeTones 34 = .ok (.iload_n 1, 1) := by decide +kernel
theorem dX1_arrangeTones_35 : decode cX1_arrangeTones 35 = .ok (.iaload, 1) := by decide +kernel
theorem dX1_arrangeTones_36 : decode cX1_arrangeTones 36 = .ok (.istore_n 2, 1) := by decide +kernel
theorem dX1_arrangeTones_37 : decode cX1_arrangeTones 37 = .ok (.aload_n 0, 1) := by decide +kernel
theorem dX1_arrangeTones_38 : decode cX1_arrangeTones 38 = .ok (.aload_n 0, 1) := by decide +kernel
theorem dX1_arrangeTones_39 : decode cX1_arrangeTones 39 = .ok (.getfield 45, 3) := by decide +kernel
theorem dX1_arrangeTones_42 : decode cX1_arrangeTones 42 = .ok (.iload_n 2, 1) := by decide +kernel
theorem dX1_arrangeTones_43 : decode cX1_arrangeTones 43 = .ok (.invokestatic 109, 3) := by decide +kernel
theorem dX1_arrangeTones_46 : decode cX1_arrangeTones 46 = .ok (.putfield 45, 3) := by decide +kernel
theorem dX1_arrangeTones_49 : decode cX1_arrangeTones 49 = .ok (.aload_n 0, 1) := by decide +kernel
theorem dX1_arrangeTones_50 : decode cX1_arrangeTones 50 = .ok (.aload_n 0, 1) := by decide +kernel
theorem dX1_arrangeTones_51 : decode cX1_arrangeTones 51 = .ok (.getfield 48, 3) := by decide +kernel
theorem dX1_arrangeTones_54 : decode cX1_arrangeTones 54 = .ok (.iconst (-1), 1) := by decide +kernel
theorem dX1_arrangeTones_55 : decode cX1_arrangeTones 55 = .ok (.if_icmp .ne 7, 3) := by decide +kernel
theorem dX1_arrangeTones_58 : decode cX1_arrangeTones 58 = .ok (.iload_n 2, 1) := by decide +kernel
theorem dX1_arrangeTones_59 : decode cX1_arrangeTones 59 = .ok (.goto 11, 3) := by decide +kernel
theorem dX1_arrangeTones_62 : decode cX1_arrangeTones 62 = .ok (.aload_n 0, 1) := by decide +kernel
theorem dX1_arrangeTones_63 : decode cX1_arrangeTones 63 = .ok (.getfield 48, 3) := by decide +kernel
theorem dX1_arrangeTones_66 : decode cX1_arrangeTones 66 = .ok (.iload_n 2, 1) := by decide +kernel
theorem dX1_arrangeTones_67 : decode cX1_arrangeTones 67 = .ok (.invokestatic 114, 3) := by decide +kernel
theorem dX1_arrangeTones_70 : decode cX1_arrangeTones 70 = .ok (.putfield 48, 3) := by decide +kernel
theorem dX1_arrangeTones_73 : decode cX1_arrangeTones 73 = .ok (.iinc 1 1, 3) := by decide +kernel
theorem dX1_arrangeTones_76 : decode cX1_arrangeTones 76 = .ok (.goto (-64), 3) := by decide +kernel
theorem dX1_arrangeTones_79 : decode cX1_arrangeTones 79 = .ok (.return_, 1) := by decide +kernel
theorem dX1_arrangeSounds_0 : decode cX1_arrangeSounds 0 = .ok (.aload_n 0, 1) := by decide +kernel
theorem dX1_arrangeSounds_1 : decode cX1_arrangeSounds 1 = .ok (.iconst 0, 1) := by decide +kernel
theorem dX1_arrangeSounds_2 : decode cX1_arrangeSounds 2 = .ok (.putfield 36, 3) := by decide +kernel
theorem dX1_arrangeSounds_5 : decode cX1_arrangeSounds 5 = .ok (.iconst 0, 1) := by decide +kernel
theorem dX1_arrangeSounds_6 : decode cX1_arrangeSounds 6 = .ok (.istore_n 1, 1) := by decide +kernel
theorem dX1_arrangeSounds_7 : decode cX1_arrangeSounds 7 = .ok (.iload_n 1, 1) := by decide +kernel
theorem dX1_arrangeSounds_8 : decode cX1_arrangeSounds 8 = .ok (.aload_n 0, 1) := by decide +kernel
theorem dX1_arrangeSounds_9 : decode cX1_arrangeSounds 9 = .ok (.getfield 29, 3) := by decide +kernel
theorem dX1_arrangeSounds_12 : decode cX1_arrangeSounds 12 = .ok (.if_icmp .ge 125, 3) := by decide +kernel
theorem dX1_arrangeSounds_15 : decode cX1_arrangeSounds 15 = .ok (.aload_n 0, 1) := by decide +kernel
theorem dX1_arrangeSounds_16 : decode cX1_arrangeSounds 16 = .ok (.iload_n 1, 1) := by decide +kernel
theorem dX1_arrangeSounds_17 : decode cX1_arrangeSounds 17 = .ok (.invokevirtual 76, 3) := by decide +kernel
theorem dX1_arrangeSounds_20 : decode cX1_arrangeSounds 20 = .ok (.ifCond .eq 111, 3) := by decide +kernel
theorem dX1_arrangeSounds_23 : decode cX1_arrangeSounds 23 = .ok (.aload_n 0, 1) := by decide +kernel
theorem dX1_arrangeSounds_24 : decode cX1_arrangeSounds 24 = .ok (.iload_n 1, 1) := by decide +kernel
theorem dX1_arrangeSounds_25 : decode cX1_arrangeSounds 25 = .ok (.iconst 1, 1) := by decide +kernel
theorem dX1_arrangeSounds_26 : decode cX1_arrangeSounds 26 = .ok (.isub, 1) := by decide +kernel
theorem dX1_arrangeSounds_27 : decode cX1_arrangeSounds 27 = .ok (.invokevirtual 93, 3) := by decide +kernel
theorem dX1_arrangeSounds_30 : decode cX1_arrangeSounds 30 = .ok (.istore_n 2, 1) := by decide +kernel
theorem dX1_arrangeSounds_31 : decode cX1_arrangeSounds 31 = .ok (.iload_n 2, 1) := by decide +kernel
theorem dX1_arrangeSounds_32 : decode cX1_arrangeSounds 32 = .ok (.ifCond .eq 19, 3) := by decide +kernel
theorem dX1_arrangeSounds_35 : decode cX1_arrangeSounds 35 = .ok (.aload_n 0, 1) := by decide +kernel
theorem dX1_arrangeSounds_36 : decode cX1_arrangeSounds 36 = .ok (.getfield 36, 3) := by decide +kernel
theorem dX1_arrangeSounds_39 : decode cX1_arrangeSounds 39 = .ok (.ifCond .le 12, 3) := by decide +kernel
theorem dX1_arrangeSounds_42 : decode cX1_arrangeSounds 42 = .ok (.aload_n 0, 1) := by decide +kernel
theorem dX1_arrangeSounds_43 : decode cX1_arrangeSounds 43 = .ok (.getfield 36, 3) := by decide +kernel
theorem dX1_arrangeSounds_46 : decode cX1_arrangeSounds 46 = .ok (.iconst 1, 1) := by decide +kernel
theorem dX1_arrangeSounds_47 : decode cX1_arrangeSounds 47 = .ok (.isub, 1) := by decide +kernel
theorem dX1_arrangeSounds_48 : decode cX1_arrangeSounds 48 = .ok (.goto 7, 3) := by decide +kernel
theorem dX1_arrangeSounds_51 : decode cX1_arrangeSounds 51 = .ok (.aload_n 0, 1) := by decide +kernel
theorem dX1_arrangeSounds_52 : decode cX1_arrangeSounds 52 = .ok (.getfield 36, 3) := by decide +kernel
theorem dX1_arrangeSounds_55 : decode cX1_arrangeSounds 55 = .ok (.istore_n 3, 1) := by decide +kernel
theorem dX1_arrangeSounds_56 : decode cX1_arrangeSounds 56 = .ok (.iload_n 3, 1) := by decide +kernel
theorem dX1_arrangeSounds_57 : decode cX1_arrangeSounds 57 = .ok (.aload_n 0, 1) := by decide +kernel
theorem dX1_arrangeSounds_58 : decode cX1_arrangeSounds 58 = .ok (.getfield 36, 3) := by decide +kernel
theorem dX1_arrangeSounds_61 : decode cX1_arrangeSounds 61 = .ok (.if_icmp .ne 45, 3) := by decide +kernel
theorem dX1_arrangeSounds_64 : decode cX1_arrangeSounds 64 = .ok (.aload_n 0, 1) := by decide +kernel
theorem dX1_arrangeSounds_65 : decode cX1_arrangeSounds 65 = .ok (.getfield 19, 3) := by decide +kernel
theorem dX1_arrangeSounds_68 : decode cX1_arrangeSounds 68 = .ok (.iconst 0, 1) := by decide +kernel
theorem dX1_arrangeSounds_69 : decode cX1_arrangeSounds 69 = .ok (.aaload, 1) := by decide +kernel
theorem dX1_arrangeSounds_70 : decode cX1_arrangeSounds 70 = .ok (.iload_n 3, 1) := by decide +kernel
theorem dX1_arrangeSounds_71 : decode cX1_arrangeSounds 71 = .ok (.aload_n 0, 1) := by decide +kernel
theorem dX1_arrangeSounds_72 : decode cX1_arrangeSounds 72 = .ok (.getfield 11, 3) := by decide +kernel
theorem dX1_arrangeSounds_75 : decode cX1_arrangeSounds 75 = .ok (.iconst 0, 1) := by decide +kernel
theorem dX1_arrangeSounds_76 : decode cX1_arrangeSounds 76 = .ok (.aaload, 1) := by decide +kernel
theorem dX1_arrangeSounds_77 : decode cX1_arrangeSounds 77 = .ok (.iload_n 1, 1) := by decide +kernel
theorem dX1_arrangeSounds_78 : decode cX1_arrangeSounds 78 = .ok (.iaload, 1) := by decide +kernel
theorem dX1_arrangeSounds_79 : decode cX1_arrangeSounds 79 = .ok (.iastore, 1) := by decide +kernel
theorem dX1_arrangeSounds_80 : decode cX1_arrangeSounds 80 = .ok (.aload_n 0, 1) := by decide +kernel
theorem dX1_arrangeSounds_81 : decode cX1_arrangeSounds 81 = .ok (.getfield 19, 3) := by decide +kernel
theorem dX1_arrangeSounds_84 : decode cX1_arrangeSounds 84 = .ok (.iconst 2, 1) := by decide +kernel
theorem dX1_arrangeSounds_85 : decode cX1_arrangeSounds 85 = .ok (.aaload, 1) := by decide +kernel
theorem dX1_arrangeSounds_86 : decode cX1_arrangeSounds 86 = .ok (.iload_n 3, 1) := by decide +kernel
theorem dX1_arrangeSounds_87 : decode cX1_arrangeSounds 87 = .ok (.aload_n 0, 1) := by decide +kernel
theorem dX1_arrangeSounds_88 : decode cX1_arrangeSounds 88 = .ok (.getfield 11, 3) := by decide +kernel
theorem dX1_arrangeSounds_91 : decode cX1_arrangeSounds 91 = .ok (.iconst 4, 1) := by decide +kernel
theorem dX1_arrangeSounds_92 : decode cX1_arrangeSounds 92 = .ok (.aaload, 1) := by decide +kernel
theorem dX1_arrangeSounds_93 : decode cX1_arrangeSounds 93 = .ok (.iload_n 1, 1) := by decide +kernel
theorem dX1_arrangeSounds_94 : decode cX1_arrangeSounds 94 = .ok (.iaload, 1) := by decide +kernel
theorem dX1_arrangeSounds_95 : decode cX1_arrangeSounds 95 = .ok (.iastore, 1) := by decide +kernel
theorem dX1_arrangeSounds_96 : decode cX1_arrangeSounds 96 = .ok (.aload_n 0, 1) := by decide +kernel
theorem dX1_arrangeSounds_97 : decode cX1_arrangeSounds 97 = .ok (.dup, 1) := by decide +kernel
theorem dX1_arrangeSounds_98 : decode cX1_arrangeSounds 98 = .ok (.getfield 36, 3) := by decide +kernel
theorem dX1_arrangeSounds_101 : decode cX1_arrangeSounds 101 = .ok (.iconst 1, 1) := by decide +kernel
theorem dX1_arrangeSounds_102 : decode cX1_arrangeSounds 102 = .ok (.iadd, 1) := by decide +kernel
theorem dX1_arrangeSounds_103 : decode cX1_arrangeSounds 103 = .ok (.putfield 36, 3) := by decide +kernel
theorem dX1_arrangeSounds_106 : decode cX1_arrangeSounds 106 = .ok (.aload_n 0, 1) := by decide +kernel
theorem dX1_arrangeSounds_107 : decode cX1_arrangeSounds 107 = .ok (.getfield 19, 3) := by decide +kernel
theorem dX1_arrangeSounds_110 : decode cX1_arrangeSounds 110 = .ok (.iconst 1, 1) := by decide +kernel
theorem dX1_arrangeSounds_111 : decode cX1_arrangeSounds 111 = .ok (.aaload, 1) := by decide +kernel
theorem dX1_arrangeSounds_112 : decode cX1_arrangeSounds 112 = .ok (.iload_n 3, 1) := by decide +kernel
theorem dX1_arrangeSounds_113 : decode cX1_arrangeSounds 113 = .ok (.aload_n 0, 1) := by decide +kernel
theorem dX1_arrangeSounds_114 : decode cX1_arrangeSounds 114 = .ok (.getfield 11, 3) := by decide +kernel
theorem dX1_arrangeSounds_117 : decode cX1_arrangeSounds 117 = .ok (.iconst 0, 1) := by decide +kernel
theorem dX1_arrangeSounds_118 : decode cX1_arrangeSounds 118 = .ok (.aaload, 1) := by decide +kernel
theorem dX1_arrangeSounds_119 : decode cX1_arrangeSounds 119 = .ok (.iload_n 1, 1) := by decide +kernel
theorem dX1_arrangeSounds_120 : decode cX1_arrangeSounds 120 = .ok (.iaload, 1) := by decide +kernel
theorem dX1_arrangeSounds_121 : decode cX1_arrangeSounds 121 = .ok (.aload_n 0, 1) := by decide +kernel
theorem dX1_arrangeSounds_122 : decode cX1_arrangeSounds 122 = .ok (.getfield 11, 3) := by decide +kernel
theorem dX1_arrangeSounds_125 : decode cX1_arrangeSounds 125 = .ok (.iconst 1, 1) := by decide +kernel
theorem dX1_arrangeSounds_126 : decode cX1_arrangeSounds 126 = .ok (.aaload, 1) := by decide +kernel
theorem dX1_arrangeSounds_127 : decode cX1_arrangeSounds 127 = .ok (.iload_n 1, 1) := by decide +kernel
theorem dX1_arrangeSounds_128 : decode cX1_arrangeSounds 128 = .ok (.iaload, 1) := by decide +kernel
theorem dX1_arrangeSounds_129 : decode cX1_arrangeSounds 129 = .ok (.iadd, 1) := by decide +kernel
theorem dX1_arrangeSounds_130 : decode cX1_arrangeSounds 130 = .ok (.iastore, 1) := by decide +kernel
theorem dX1_arrangeSounds_131 : decode cX1_arrangeSounds 131 = .ok (.iinc 1 1, 3) := by decide +kernel
theorem dX1_arrangeSounds_134 : decode cX1_arrangeSounds 134 = .ok (.goto (-127), 3) := by decide +kernel
theorem dX1_arrangeSounds_137 : decode cX1_arrangeSounds 137 = .ok (.return_, 1) := by decide +kernel
theorem dX1_arrangeSigns_0 : decode cX1_arrangeSigns 0 = .ok (.aload_n 0, 1) := by decide +kernel
theorem dX1_arrangeSigns_1 : decode cX1_arrangeSigns 1 = .ok (.iconst 0, 1) := by decide +kernel
theorem dX1_arrangeSigns_2 : decode cX1_arrangeSigns 2 = .ok (.putfield 42, 3) := by decide +kernel
theorem dX1_arrangeSigns_5 : decode cX1_arrangeSigns 5 = .ok (.iconst 0, 1) := by decide +kernel
theorem dX1_arrangeSigns_6 : decode cX1_arrangeSigns 6 = .ok (.istore_n 2, 1) := by decide +kernel
theorem dX1_arrangeSigns_7 : decode cX1_arrangeSigns 7 = .ok (.iload_n 2, 1) := by decide +kernel
theorem dX1_arrangeSigns_8 : decode cX1_arrangeSigns 8 = .ok (.aload_n 0, 1) := by decide +kernel
theorem dX1_arrangeSigns_9 : decode cX1_arrangeSigns 9 = .ok (.getfield 22, 3) := by decide +kernel
theorem dX1_arrangeSigns_12 : decode cX1_arrangeSigns 12 = .ok (.arraylength, 1) := by decide +kernel
theorem dX1_arrangeSigns_13 : decode cX1_arrangeSigns 13 = .ok (.if_icmp .ge 16, 3) := by decide +kernel
theorem dX1_arrangeSigns_16 : decode cX1_arrangeSigns 16 = .ok (.aload_n 0, 1) := by decide +kernel
theorem dX1_arrangeSigns_17 : decode cX1_arrangeSigns 17 = .ok (.getfield 22, 3) := by decide +kernel
theorem dX1_arrangeSigns_20 : decode cX1_arrangeSigns 20 = .ok (.iload_n 2, 1) := by decide +kernel
theorem dX1_arrangeSigns_21 : decode cX1_arrangeSigns 21 = .ok (.iconst (-1), 1) := by decide +kernel
theorem dX1_arrangeSigns_22 : decode cX1_arrangeSigns 22 = .ok (.iastore, 1) := by decide +kernel
theorem dX1_arrangeSigns_23 : decode cX1_arrangeSigns 23 = .ok (.iinc 2 1, 3) := by decide +kernel
theorem dX1_arrangeSigns_26 : decode cX1_arrangeSigns 26 = .ok (.goto (-19), 3) := by decide +kernel
theorem dX1_arrangeSigns_29 : decode cX1_arrangeSigns 29 = .ok (.iconst 0, 1) := by decide +kernel
theorem dX1_arrangeSigns_30 : decode cX1_arrangeSigns 30 = .ok (.istore_n 2, 1) := by decide +kernel
theorem dX1_arrangeSigns_31 : decode cX1_arrangeSigns 31 = .ok (.iload_n 2, 1) := by decide +kernel
theorem dX1_arrangeSigns_32 : decode cX1_arrangeSigns 32 = .ok (.aload_n 0, 1) := by decide +kernel
theorem dX1_arrangeSigns_33 : decode cX1_arrangeSigns 33 = .ok (.getfield 29, 3) := by decide +kernel
theorem dX1_arrangeSigns_36 : decode cX1_arrangeSigns 36 = .ok (.if_icmp .ge 146, 3) := by decide +kernel
theorem dX1_arrangeSigns_39 : decode cX1_arrangeSigns 39 = .ok (.aload_n 0, 1) := by decide +kernel
theorem dX1_arrangeSigns_40 : decode cX1_arrangeSigns 40 = .ok (.getfield 11, 3) := by decide +kernel
theorem dX1_arrangeSigns_43 : decode cX1_arrangeSigns 43 = .ok (.bipush 7, 2) := by decide +kernel
theorem dX1_arrangeSigns_45 : decode cX1_arrangeSigns 45 = .ok (.aaload, 1) := by decide +kernel
theorem dX1_arrangeSigns_46 : decode cX1_arrangeSigns 46 = .ok (.iload_n 2, 1) := by decide +kernel
theorem dX1_arrangeSigns_47 : decode cX1_arrangeSigns 47 = .ok (.iconst 0, 1) := by decide +kernel
theorem dX1_arrangeSigns_48 : decode cX1_arrangeSigns 48 = .ok (.iastore, 1) := by decide +kernel
theorem dX1_arrangeSigns_49 : decode cX1_arrangeSigns 49 = .ok (.aload_n 0, 1) := by decide +kernel
theorem dX1_arrangeSigns_50 : decode cX1_arrangeSigns 50 = .ok (.iload_n 2, 1) := by decide +kernel
theorem dX1_arrangeSigns_51 : decode cX1_arrangeSigns 51 = .ok (.invokevirtual 76, 3) := by decide +kernel
theorem dX1_arrangeSigns_54 : decode cX1_arrangeSigns 54 = .ok (.ifCond .eq 122, 3) := by decide +kernel
theorem dX1_arrangeSigns_57 : decode cX1_arrangeSigns 57 = .ok (.aload_n 0, 1) := by decide +kernel
theorem dX1_arrangeSigns_58 : decode cX1_arrangeSigns 58 = .ok (.iload_n 2, 1) := by decide +kernel
theorem dX1_arrangeSigns_59 : decode cX1_arrangeSigns 59 = .ok (.invokevirtual 68, 3) := by decide +kernel
theorem dX1_arrangeSigns_62 : decode cX1_arrangeSigns 62 = .ok (.istore_n 3, 1) := by decide +kernel
theorem dX1_arrangeSigns_63 : decode cX1_arrangeSigns 63 = .ok (.aload_n 0, 1) := by decide +kernel
theorem dX1_arrangeSigns_64 : decode cX1_arrangeSigns 64 = .ok (.getfield 22, 3) := by decide +kernel
theorem dX1_arrangeSigns_67 : decode cX1_arrangeSigns 67 = .ok (.iload_n 3, 1) := by decide +kernel
theorem dX1_arrangeSigns_68 : decode cX1_arrangeSigns 68 = .ok (.iaload, 1) := by decide +kernel
theorem dX1_arrangeSigns_69 : decode cX1_arrangeSigns 69 = .ok (.aload_n 0, 1) := by decide +kernel
theorem dX1_arrangeSigns_70 : decode cX1_arrangeSigns 70 = .ok (.getfield 11, 3) := by decide +kernel
theorem dX1_arrangeSigns_73 : decode cX1_arrangeSigns 73 = .ok (.bipush 6, 2) := by decide +kernel
theorem dX1_arrangeSigns_75 : decode cX1_arrangeSigns 75 = .ok (.aaload, 1) := by decide +kernel
theorem dX1_arrangeSigns_76 : decode cX1_arrangeSigns 76 = .ok (.iload_n 2, 1) := by decide +kernel
theorem dX1_arrangeSigns_77 : decode cX1_arrangeSigns 77 = .ok (.iaload, 1) := by decide +kernel
theorem dX1_arrangeSigns_78 : decode cX1_arrangeSigns 78 = .ok (.if_icmp .ne 12, 3) := by decide +kernel
theorem dX1_arrangeSigns_81 : decode cX1_arrangeSigns 81 = .ok (.aload_n 0, 1) := by decide +kernel
theorem dX1_arrangeSigns_82 : decode cX1_arrangeSigns 82 = .ok (.getfield 26, 3) := by decide +kernel
theorem dX1_arrangeSigns_85 : decode cX1_arrangeSigns 85 = .ok (.iload_n 3, 1) := by decide +kernel
theorem dX1_arrangeSigns_86 : decode cX1_arrangeSigns 86 = .ok (.iaload, 1) := by decide +kernel
theorem dX1_arrangeSigns_87 : decode cX1_arrangeSigns 87 = .ok (.goto 15, 3) := by decide +kernel
theorem dX1_arrangeSigns_90 : decode cX1_arrangeSigns 90 = .ok (.iload_n 1, 1) := by decide +kernel
theorem dX1_arrangeSigns_91 : decode cX1_arrangeSigns 91 = .ok (.aload_n 0, 1) := by decide +kernel
theorem dX1_arrangeSigns_92 : decode cX1_arrangeSigns 92 = .ok (.getfield 16, 3) := by decide +kernel
theorem dX1_arrangeSigns_95 : decode cX1_arrangeSigns 95 = .ok (.iconst 0, 1) := by decide +kernel
theorem dX1_arrangeSigns_96 : decode cX1_arrangeSigns 96 = .ok (.aaload, 1) := by decide +kernel
theorem dX1_arrangeSigns_97 : decode cX1_arrangeSigns 97 = .ok (.iload_n 2, 1) := by decide +kernel
theorem dX1_arrangeSigns_98 : decode cX1_arrangeSigns 98 = .ok (.iaload, 1) := by decide +kernel
theorem dX1_arrangeSigns_99 : decode cX1_arrangeSigns 99 = .ok (.invokestatic 117, 3) := by decide +kernel
theorem dX1_arrangeSigns_102 : decode cX1_arrangeSigns 102 = .ok (.istore 4, 2) := by decide +kernel
theorem dX1_arrangeSigns_104 : decode cX1_arrangeSigns 104 = .ok (.iload 4, 2) := by decide +kernel
theorem dX1_arrangeSigns_106 : decode cX1_arrangeSigns 106 = .ok (.aload_n 0, 1) := by decide +kernel
theorem dX1_arrangeSigns_107 : decode cX1_arrangeSigns 107 = .ok (.getfield 16, 3) := by decide +kernel
theorem dX1_arrangeSigns_110 : decode cX1_arrangeSigns 110 = .ok (.iconst 1, 1) := by decide +kernel
theorem dX1_arrangeSigns_111 : decode cX1_arrangeSigns 111 = .ok (.aaload, 1) := by decide +kernel
theorem dX1_arrangeSigns_112 : decode cX1_arrangeSigns 112 = .ok (.iload_n 2, 1) := by decide +kernel
theorem dX1_arrangeSigns_113 : decode cX1_arrangeSigns 113 = .ok (.iaload, 1) := by decide +kernel
theorem dX1_arrangeSigns_114 : decode cX1_arrangeSigns 114 = .ok (.if_icmp .eq 33, 3) := by decide +kernel
theorem dX1_arrangeSigns_117 : decode cX1_arrangeSigns 117 = .ok (.aload_n 0, 1) := by decide +kernel
theorem dX1_arrangeSigns_118 : decode cX1_arrangeSigns 118 = .ok (.iload_n 2, 1) := by decide +kernel
theorem dX1_arrangeSigns_119 : decode cX1_arrangeSigns 119 = .ok (.iconst 1, 1) := by decide +kernel
theorem dX1_arrangeSigns_120 : decode cX1_arrangeSigns 120 = .ok (.isub, 1) := by decide +kernel
theorem dX1_arrangeSigns_121 : decode cX1_arrangeSigns 121 = .ok (.invokevirtual 93, 3) := by decide +kernel
theorem dX1_arrangeSigns_124 : decode cX1_arrangeSigns 124 = .ok (.ifCond .ne 23, 3) := by decide +kernel
theorem dX1_arrangeSigns_127 : decode cX1_arrangeSigns 127 = .ok (.aload_n 0, 1) := by decide +kernel
theorem dX1_arrangeSigns_128 : decode cX1_arrangeSigns 128 = .ok (.getfield 11, 3) := by decide +kernel
theorem dX1_arrangeSigns_131 : decode cX1_arrangeSigns 131 = .ok (.bipush 7, 2) := by decide +kernel
theorem dX1_arrangeSigns_133 : decode cX1_arrangeSigns 133 = .ok (.aaload, 1) := by decide +kernel
theorem dX1_arrangeSigns_134 : decode cX1_arrangeSigns 134 = .ok (.iload_n 2, 1) := by decide +kernel
theorem dX1_arrangeSigns_135 : decode cX1_arrangeSigns 135 = .ok (.iconst 1, 1) := by decide +kernel
theorem dX1_arrangeSigns_136 : decode cX1_arrangeSigns 136 = .ok (.iastore, 1) := by decide +kernel
theorem dX1_arrangeSigns_137 : decode cX1_arrangeSigns 137 = .ok (.aload_n 0, 1) := by decide +kernel
theorem dX1_arrangeSigns_138 : decode cX1_arrangeSigns 138 = .ok (.dup, 1) := by decide +kernel
theorem dX1_arrangeSigns_139 : decode cX1_arrangeSigns 139 = .ok (.getfield 42, 3) := by decide +kernel
theorem dX1_arrangeSigns_142 : decode cX1_arrangeSigns 142 = .ok (.iconst 1, 1) := by decide +kernel
theorem dX1_arrangeSigns_143 : decode cX1_arrangeSigns 143 = .ok (.iadd, 1) := by decide +kernel
theorem dX1_arrangeSigns_144 : decode cX1_arrangeSigns 144 = .ok (.putfield 42, 3) := by decide +kernel
theorem dX1_arrangeSigns_147 : decode cX1_arrangeSigns 147 = .ok (.aload_n 0, 1) := by decide +kernel
theorem dX1_arrangeSigns_148 : decode cX1_arrangeSigns 148 = .ok (.getfield 22, 3) := by decide +kernel
theorem dX1_arrangeSigns_151 : decode cX1_arrangeSigns 151 = .ok (.iload_n 3, 1) := by decide +kernel
theorem dX1_arrangeSigns_152 : decode cX1_arrangeSigns 152 = .ok (.aload_n 0, 1) := by decide +kernel
theorem dX1_arrangeSigns_153 : decode cX1_arrangeSigns 153 = .ok (.getfield 11, 3) := by decide +kernel
theorem dX1_arrangeSigns_156 : decode cX1_arrangeSigns 156 = .ok (.bipush 6, 2) := by decide +kernel
theorem dX1_arrangeSigns_158 : decode cX1_arrangeSigns 158 = .ok (.aaload, 1) := by decide +kernel
theorem dX1_arrangeSigns_159 : decode cX1_arrangeSigns 159 = .ok (.iload_n 2, 1) := by decide +kernel
theorem dX1_arrangeSigns_160 : decode cX1_arrangeSigns 160 = .ok (.iaload, 1) := by decide +kernel
theorem dX1_arrangeSigns_161 : decode cX1_arrangeSigns 161 = .ok (.iastore, 1) := by decide +kernel
theorem dX1_arrangeSigns_162 : decode cX1_arrangeSigns 162 = .ok (.aload_n 0, 1) := by decide +kernel
theorem dX1_arrangeSigns_163 : decode cX1_arrangeSigns 163 = .ok (.getfield 26, 3) := by decide +kernel
theorem dX1_arrangeSigns_166 : decode cX1_arrangeSigns 166 = .ok (.iload_n 3, 1) := by decide +kernel
theorem dX1_arrangeSigns_167 : decode cX1_arrangeSigns 167 = .ok (.aload_n 0, 1) := by decide +kernel
theorem dX1_arrangeSigns_168 : decode cX1_arrangeSigns 168 = .ok (.getfield 16, 3) := by decide +kernel
theorem dX1_arrangeSigns_171 : decode cX1_arrangeSigns 171 = .ok (.iconst 1, 1) := by decide +kernel
theorem dX1_arrangeSigns_172 : decode cX1_arrangeSigns 172 = .ok (.aaload, 1) := by decide +kernel
theorem dX1_arrangeSigns_173 : decode cX1_arrangeSigns 173 = .ok (.iload_n 2, 1) := by decide +kernel
theorem dX1_arrangeSigns_174 : decode cX1_arrangeSigns 174 = .ok (.iaload, 1) := by decide +kernel
theorem dX1_arrangeSigns_175 : decode cX1_arrangeSigns 175 = .ok (.iastore, 1) := by decide +kernel
theorem dX1_arrangeSigns_176 : decode cX1_arrangeSigns 176 = .ok (.iinc 2 1, 3) := by decide +kernel
theorem dX1_arrangeSigns_179 : decode cX1_arrangeSigns 179 = .ok (.goto (-148), 3) := by decide +kernel
theorem dX1_arrangeSigns_182 : decode cX1_arrangeSigns 182 = .ok (.return_, 1) := by decide +kernel
theorem dX1_arrangeBeams_0 : decode cX1_arrangeBeams 0 = .ok (.aload_n 0, 1) := by decide +kernel
theorem dX1_arrangeBeams_1 : decode cX1_arrangeBeams 1 = .ok (.iconst 0, 1) := by decide +kernel
theorem dX1_arrangeBeams_2 : decode cX1_arrangeBeams 2 = .ok (.putfield 39, 3) := by decide +kernel
theorem dX1_arrangeBeams_5 : decode cX1_arrangeBeams 5 = .ok (.iconst 0, 1) := by decide +kernel
theorem dX1_arrangeBeams_6 : decode cX1_arrangeBeams 6 = .ok (.istore_n 2, 1) := by decide +kernel
theorem dX1_arrangeBeams_7 : decode cX1_arrangeBeams 7 = .ok (.iload_n 2, 1) := by decide +kernel
theorem dX1_arrangeBeams_8 : decode cX1_arrangeBeams 8 = .ok (.aload_n 0, 1) := by decide +kernel
theorem dX1_arrangeBeams_9 : decode cX1_arrangeBeams 9 = .ok (.getfield 29, 3) := by decide +kernel
theorem dX1_arrangeBeams_12 : decode cX1_arrangeBeams 12 = .ok (.if_icmp .ge 90, 3) := by decide +kernel
theorem dX1_arrangeBeams_15 : decode cX1_arrangeBeams 15 = .ok (.aload_n 0, 1) := by decide +kernel
theorem dX1_arrangeBeams_16 : decode cX1_arrangeBeams 16 = .ok (.getfield 11, 3) := by decide +kernel
theorem dX1_arrangeBeams_19 : decode cX1_arrangeBeams 19 = .ok (.bipush 8, 2) := by decide +kernel
theorem dX1_arrangeBeams_21 : decode cX1_arrangeBeams 21 = .ok (.aaload, 1) := by decide +kernel
theorem dX1_arrangeBeams_22 : decode cX1_arrangeBeams 22 = .ok (.iload_n 2, 1) := by decide +kernel
theorem dX1_arrangeBeams_23 : decode cX1_arrangeBeams 23 = .ok (.iconst (-1), 1) := by decide +kernel
theorem dX1_arrangeBeams_24 : decode cX1_arrangeBeams 24 = .ok (.iastore, 1) := by decide +kernel
theorem dX1_arrangeBeams_25 : decode cX1_arrangeBeams 25 = .ok (.aload_n 0, 1) := by decide +kernel
theorem dX1_arrangeBeams_26 : decode cX1_arrangeBeams 26 = .ok (.iload_n 2, 1) := by decide +kernel
theorem dX1_arrangeBeams_27 : decode cX1_arrangeBeams 27 = .ok (.iconst 1, 1) := by decide +kernel
theorem dX1_arrangeBeams_28 : decode cX1_arrangeBeams 28 = .ok (.isub, 1) := by decide +kernel
theorem dX1_arrangeBeams_29 : decode cX1_arrangeBeams 29 = .ok (.iload_n 1, 1) := by decide +kernel
theorem dX1_arrangeBeams_30 : decode cX1_arrangeBeams 30 = .ok (.invokevirtual 120, 3) := by decide +kernel
theorem dX1_arrangeBeams_33 : decode cX1_arrangeBeams 33 = .ok (.ifCond .eq 63, 3) := by decide +kernel
theorem dX1_arrangeBeams_36 : decode cX1_arrangeBeams 36 = .ok (.aload_n 0, 1) := by decide +kernel
theorem dX1_arrangeBeams_37 : decode cX1_arrangeBeams 37 = .ok (.getfield 11, 3) := by decide +kernel
theorem dX1_arrangeBeams_40 : decode cX1_arrangeBeams 40 = .ok (.bipush 8, 2) := by decide +kernel
theorem dX1_arrangeBeams_42 : decode cX1_arrangeBeams 42 = .ok (.aaload, 1) := by decide +kernel
theorem dX1_arrangeBeams_43 : decode cX1_arrangeBeams 43 = .ok (.iload_n 2, 1) := by decide +kernel
theorem dX1_arrangeBeams_44 : decode cX1_arrangeBeams 44 = .ok (.iconst 1, 1) := by decide +kernel
theorem dX1_arrangeBeams_45 : decode cX1_arrangeBeams 45 = .ok (.isub, 1) := by decide +kernel
theorem dX1_arrangeBeams_46 : decode cX1_arrangeBeams 46 = .ok (.iaload, 1) := by decide +kernel
theorem dX1_arrangeBeams_47 : decode cX1_arrangeBeams 47 = .ok (.iconst (-1), 1) := by decide +kernel
theorem dX1_arrangeBeams_48 : decode cX1_arrangeBeams 48 = .ok (.if_icmp .ne 28, 3) := by decide +kernel
theorem dX1_arrangeBeams_51 : decode cX1_arrangeBeams 51 = .ok (.aload_n 0, 1) := by decide +kernel
theorem dX1_arrangeBeams_52 : decode cX1_arrangeBeams 52 = .ok (.getfield 11, 3) := by decide +kernel
theorem dX1_arrangeBeams_55 : decode cX1_arrangeBeams 55 = .ok (.bipush 8, 2) := by decide +kernel
theorem dX1_arrangeBeams_57 : decode cX1_arrangeBeams 57 = .ok (.aaload, 1) := by decide +kernel
theorem dX1_arrangeBeams_58 : decode cX1_arrangeBeams 58 = .ok (.iload_n 2, 1) := by decide +kernel
theorem dX1_arrangeBeams_59 : decode cX1_arrangeBeams 59 = .ok (.iconst 1, 1) := by decide +kernel
theorem dX1_arrangeBeams_60 : decode cX1_arrangeBeams 60 = .ok (.isub, 1) := by decide +kernel
theorem dX1_arrangeBeams_61 : decode cX1_arrangeBeams 61 = .ok (.aload_n 0, 1) := by decide +kernel
theorem dX1_arrangeBeams_62 : decode cX1_arrangeBeams 62 = .ok (.getfield 39, 3) := by decide +kernel
theorem dX1_arrangeBeams_65 : decode cX1_arrangeBeams 65 = .ok (.iastore, 1) := by decide +kernel
theorem dX1_arrangeBeams_66 : decode cX1_arrangeBeams 66 = .ok (.aload_n 0, 1) := by decide +kernel
theorem dX1_arrangeBeams_67 : decode cX1_arrangeBeams 67 = .ok (.dup, 1) := by decide +kernel
theorem dX1_arrangeBeams_68 : decode cX1_arrangeBeams 68 = .ok (.getfield 39, 3) := by decide +kernel
theorem dX1_arrangeBeams_71 : decode cX1_arrangeBeams 71 = .ok (.iconst 1, 1) := by decide +kernel
theorem dX1_arrangeBeams_72 : decode cX1_arrangeBeams 72 = .ok (.iadd, 1) := by decide +kernel
theorem dX1_arrangeBeams_73 : decode cX1_arrangeBeams 73 = .ok (.putfield 39, 3) := by decide +kernel
theorem dX1_arrangeBeams_76 : decode cX1_arrangeBeams 76 = .ok (.aload_n 0, 1) := by decide +kernel
theorem dX1_arrangeBeams_77 : decode cX1_arrangeBeams 77 = .ok (.getfield 11, 3) := by decide +kernel
theorem dX1_arrangeBeams_80 : decode cX1_arrangeBeams 80 = .ok (.bipush 8, 2) := by decide +kernel
theorem dX1_arrangeBeams_82 : decode cX1_arrangeBeams 82 = .ok (.aaload, 1) := by decide +kernel
theorem dX1_arrangeBeams_83 : decode cX1_arrangeBeams 83 = .ok (.iload_n 2, 1) := by decide +kernel
theorem dX1_arrangeBeams_84 : decode cX1_arrangeBeams 84 = .ok (.aload_n 0, 1) := by decide +kernel
theorem dX1_arrangeBeams_85 : decode cX1_arrangeBeams 85 = .ok (.getfield 11, 3) := by decide +kernel
theorem dX1_arrangeBeams_88 : decode cX1_arrangeBeams 88 = .ok (.bipush 8, 2) := by decide +kernel
theorem dX1_arrangeBeams_90 : decode cX1_arrangeBeams 90 = .ok (.aaload, 1) := by decide +kernel
theorem dX1_arrangeBeams_91 : decode cX1_arrangeBeams 91 = .ok (.iload_n 2, 1) := by decide +kernel
theorem dX1_arrangeBeams_92 : decode cX1_arrangeBeams 92 = .ok (.iconst 1, 1) := by decide +kernel
theorem dX1_arrangeBeams_93 : decode cX1_arrangeBeams 93 = .ok (.isub, 1) := by decide +kernel
theorem dX1_arrangeBeams_94 : decode cX1_arrangeBeams 94 = .ok (.iaload, 1) := by decide +kernel
theorem dX1_arrangeBeams_95 : decode cX1_arrangeBeams 95 = .ok (.iastore, 1) := by decide +kernel
theorem dX1_arrangeBeams_96 : decode cX1_arrangeBeams 96 = .ok (.iinc 2 1, 3) := by decide +kernel
theorem dX1_arrangeBeams_99 : decode cX1_arrangeBeams 99 = .ok (.goto (-92), 3) := by decide +kernel
theorem dX1_arrangeBeams_102 : decode cX1_arrangeBeams 102 = .ok (.return_, 1) := by decide +kernel
theorem dX1_isGrouped_0 : decode cX1_isGrouped 0 = .ok (.iload_n 1, 1) := by decide +kernel
theorem dX1_isGrouped_1 : decode cX1_isGrouped 1 = .ok (.ifCond .lt 31, 3) := by decide +kernel
theorem dX1_isGrouped_4 : decode cX1_isGrouped 4 = .ok (.iload_n 1, 1) := by decide +kernel
theorem dX1_isGrouped_5 : decode cX1_isGrouped 5 = .ok (.iconst 1, 1) := by decide +kernel
theorem dX1_isGrouped_6 : decode cX1_isGrouped 6 = .ok (.iadd, 1) := by decide +kernel
theorem dX1_isGrouped_7 : decode cX1_isGrouped 7 = .ok (.aload_n 0, 1) := by decide +kernel
theorem dX1_isGrouped_8 : decode cX1_isGrouped 8 = .ok (.getfield 29, 3) := by decide +kernel
theorem dX1_isGrouped_11 : decode cX1_isGrouped 11 = .ok (.if_icmp .ge 21, 3) := by decide +kernel
theorem dX1_isGrouped_14 : decode cX1_isGrouped 14 = .ok (.aload_n 0, 1) := by decide +kernel
theorem dX1_isGrouped_15 : decode cX1_isGrouped 15 = .ok (.iload_n 1, 1) := by decide +kernel
theorem dX1_isGrouped_16 : decode cX1_isGrouped 16 = .ok (.invokevirtual 124, 3) := by decide +kernel
theorem dX1_isGrouped_19 : decode cX1_isGrouped 19 = .ok (.ifCond .eq 13, 3) := by decide +kernel
theorem dX1_isGrouped_22 : decode cX1_isGrouped 22 = .ok (.aload_n 0, 1) := by decide +kernel
theorem dX1_isGrouped_23 : decode cX1_isGrouped 23 = .ok (.iload_n 1, 1) := by decide +kernel
theorem dX1_isGrouped_24 : decode cX1_isGrouped 24 = .ok (.iconst 1, 1) := by decide +kernel
theorem dX1_isGrouped_25 : decode cX1_isGrouped 25 = .ok (.iadd, 1) := by decide +kernel
theorem dX1_isGrouped_26 : decode cX1_isGrouped 26 = .ok (.invokevirtual 124, 3) := by decide +kernel
theorem dX1_isGrouped_29 : decode cX1_isGrouped 29 = .ok (.ifCond .ne 5, 3) := by decide +kernel
theorem dX1_isGrouped_32 : decode cX1_isGrouped 32 = .ok (.iconst 0, 1) := by decide +kernel
theorem dX1_isGrouped_33 : decode cX1_isGrouped 33 = .ok (.ireturn, 1) := by decide +kernel
theorem dX1_isGrouped_34 : decode cX1_isGrouped 34 = .ok (.aload_n 0, 1) := by decide +kernel
theorem dX1_isGrouped_35 : decode cX1_isGrouped 35 = .ok (.getfield 11, 3) := by decide +kernel
theorem dX1_isGrouped_38 : decode cX1_isGrouped 38 = .ok (.iconst 0, 1) := by decide +kernel
theorem dX1_isGrouped_39 : decode cX1_isGrouped 39 = .ok (.aaload, 1) := by decide +kernel
theorem dX1_isGrouped_40 : decode cX1_isGrouped 40 = .ok (.iload_n 1, 1) := by decide +kernel
theorem dX1_isGrouped_41 : decode cX1_isGrouped 41 = .ok (.iaload, 1) := by decide +kernel
theorem dX1_isGrouped_42 : decode cX1_isGrouped 42 = .ok (.iload_n 2, 1) := by decide +kernel
theorem dX1_isGrouped_43 : decode cX1_isGrouped 43 = .ok (.invokestatic 127, 3) := by decide +kernel
theorem dX1_isGrouped_46 : decode cX1_isGrouped 46 = .ok (.istore_n 3, 1) := by decide +kernel
theorem dX1_isGrouped_47 : decode cX1_isGrouped 47 = .ok (.iload_n 3, 1) := by decide +kernel
theorem dX1_isGrouped_48 : decode cX1_isGrouped 48 = .ok (.aload_n 0, 1) := by decide +kernel
theorem dX1_isGrouped_49 : decode cX1_isGrouped 49 = .ok (.getfield 11, 3) := by decide +kernel
theorem dX1_isGrouped_52 : decode cX1_isGrouped 52 = .ok (.iconst 0, 1) := by decide +kernel
theorem dX1_isGrouped_53 : decode cX1_isGrouped 53 = .ok (.aaload, 1) := by decide +kernel
theorem dX1_isGrouped_54 : decode cX1_isGrouped 54 = .ok (.iload_n 1, 1) := by decide +kernel
theorem dX1_isGrouped_55 : decode cX1_isGrouped 55 = .ok (.iconst 1, 1) := by decide +kernel
theorem dX1_isGrouped_56 : decode cX1_isGrouped 56 = .ok (.iadd, 1) := by decide +kernel
theorem dX1_isGrouped_57 : decode cX1_isGrouped 57 = .ok (.iaload, 1) := by decide +kernel
theorem dX1_isGrouped_58 : decode cX1_isGrouped 58 = .ok (.iload_n 2, 1) := by decide +kernel
theorem dX1_isGrouped_59 : decode cX1_isGrouped 59 = .ok (.invokestatic 127, 3) := by decide +kernel
theorem dX1_isGrouped_62 : decode cX1_isGrouped 62 = .ok (.if_icmp .ne 7, 3) := by decide +kernel
theorem dX1_isGrouped_65 : decode cX1_isGrouped 65 = .ok (.iconst 1, 1) := by decide +kernel
theorem dX1_isGrouped_66 : decode cX1_isGrouped 66 = .ok (.goto 4, 3) := by decide +kernel
theorem dX1_isGrouped_69 : decode cX1_isGrouped 69 = .ok (.iconst 0, 1) := by decide +kernel
theorem dX1_isGrouped_70 : decode cX1_isGrouped 70 = .ok (.ireturn, 1) := by decide +kernel
theorem dX1_isShortNote_0 : decode cX1_isShortNote 0 = .ok (.aload_n 0, 1) := by decide +kernel
theorem dX1_isShortNote_1 : decode cX1_isShortNote 1 = .ok (.iload_n 1, 1) := by decide +kernel
theorem dX1_isShortNote_2 : decode cX1_isShortNote 2 = .ok (.invokevirtual 76, 3) := by decide +kernel
theorem dX1_isShortNote_5 : decode cX1_isShortNote 5 = .ok (.ifCond .eq 20, 3) := by decide +kernel
theorem dX1_isShortNote_8 : decode cX1_isShortNote 8 = .ok (.aload_n 0, 1) := by decide +kernel
theorem dX1_isShortNote_9 : decode cX1_isShortNote 9 = .ok (.getfield 11, 3) := by decide +kernel
theorem dX1_isShortNote_12 : decode cX1_isShortNote 12 = .ok (.iconst 2, 1) := by decide +kernel
theorem dX1_isShortNote_13 : decode cX1_isShortNote 13 = .ok (.aaload, 1) := by decide +kernel
theorem dX1_isShortNote_14 : decode cX1_isShortNote 14 = .ok (.iload_n 1, 1) := by decide +kernel
theorem dX1_isShortNote_15 : decode cX1_isShortNote 15 = .ok (.iaload, 1) := by decide +kernel
theorem dX1_isShortNote_16 : decode cX1_isShortNote 16 = .ok (.bipush 8, 2) := by decide +kernel
theorem dX1_isShortNote_18 : decode cX1_isShortNote 18 = .ok (.if_icmp .lt 7, 3) := by decide +kernel
theorem dX1_isShortNote_21 : decode cX1_isShortNote 21 = .ok (.iconst 1, 1) := by decide +kernel
theorem dX1_isShortNote_22 : decode cX1_isShortNote 22 = .ok (.goto 4, 3) := by decide +kernel
theorem dX1_isShortNote_25 : decode cX1_isShortNote 25 = .ok (.iconst 0, 1) := by decide +kernel
theorem dX1_isShortNote_26 : decode cX1_isShortNote 26 = .ok (.ireturn, 1) := by decide +kernel
theorem dX2_init_0 : decode cX2_init 0 = .ok (.aload_n 0, 1) := by decide +kernel
theorem dX2_init_1 : decode cX2_init 1 = .ok (.invokespecial 1, 3) := by decide +kernel
theorem dX2_init_4 : decode cX2_init 4 = .ok (.aload_n 0, 1) := by decide +kernel
theorem dX2_init_5 : decode cX2_init 5 = .ok (.iconst 4, 1) := by decide +kernel
theorem dX2_init_6 : decode cX2_init 6 = .ok (.anewarray 9, 3) := by decide +kernel
theorem dX2_init_9 : decode cX2_init 9 = .ok (.putfield 11, 3) := by decide +kernel
theorem dX2_init_12 : decode cX2_init 12 = .ok (.aload_n 0, 1) := by decide +kernel
theorem dX2_init_13 : decode cX2_init 13 = .ok (.new 15, 3) := by decide +kernel
theorem dX2_init_16 : decode cX2_init 16 = .ok (.dup, 1) := by decide +kernel
theorem dX2_init_17 : decode cX2_init 17 = .ok (.invokespecial 17, 3) := by decide +kernel
theorem dX2_init_20 : decode cX2_init 20 = .ok (.putfield 18, 3) := by decide +kernel
theorem dX2_init_23 : decode cX2_init 23 = .ok (.aload_n 0, 1) := by decide +kernel
theorem dX2_init_24 : decode cX2_init 24 = .ok (.bipush 56, 2) := by decide +kernel
theorem dX2_init_26 : decode cX2_init 26 = .ok (.newarray .int, 2) := by decide +kernel
theorem dX2_init_28 : decode cX2_init 28 = .ok (.putfield 22, 3) := by decide +kernel
theorem dX2_init_31 : decode cX2_init 31 = .ok (.aload_n 0, 1) := by decide +kernel
theorem dX2_init_32 : decode cX2_init 32 = .ok (.iconst 0, 1) := by decide +kernel
theorem dX2_init_33 : decode cX2_init 33 = .ok (.putfield 26, 3) := by decide +kernel
theorem dX2_init_36 : decode cX2_init 36 = .ok (.aload_n 0, 1) := by decide +kernel
theorem dX2_init_37 : decode cX2_init 37 = .ok (.bipush 96, 2) := by decide +kernel
theorem dX2_init_39 : decode cX2_init 39 = .ok (.putfield 30, 3) := by decide +kernel
theorem dX2_init_42 : decode cX2_init 42 = .ok (.aload_n 0, 1) := by decide +kernel
theorem dX2_init_43 : decode cX2_init 43 = .ok (.sipush 384, 3) := by decide +kernel
theorem dX2_init_46 : decode cX2_init 46 = .ok (.putfield 33, 3) := by decide +kernel
theorem dX2_init_49 : decode cX2_init 49 = .ok (.aload_n 0, 1) := by decide +kernel
theorem dX2_init_50 : decode cX2_init 50 = .ok (.iconst 0, 1) := by decide +kernel
theorem dX2_init_51 : decode cX2_init 51 = .ok (.putfield 36, 3) := by decide +kernel
theorem dX2_init_54 : decode cX2_init 54 = .ok (.aload_n 0, 1) := by decide +kernel
theorem dX2_init_55 : decode cX2_init 55 = .ok (.iconst 0, 1) := by decide +kernel
theorem dX2_init_56 : decode cX2_init 56 = .ok (.putfield 39, 3) := by decide +kernel
theorem dX2_init_59 : decode cX2_init 59 = .ok (.iconst 0, 1) := by decide +kernel
theorem dX2_init_60 : decode cX2_init 60 = .ok (.istore_n 1, 1) := by decide +kernel
theorem dX2_init_61 : decode cX2_init 61 = .ok (.iload_n 1, 1) := by decide +kernel
theorem dX2_init_62 : decode cX2_init 62 = .ok (.iconst 4, 1) := by decide +kernel
theorem dX2_init_63 : decode cX2_init 63 = .ok (.if_icmp .ge 22, 3) := by decide +kernel
theorem dX2_init_66 : decode cX2_init 66 = .ok (.aload_n 0, 1) := by decide +kernel
theorem dX2_init_67 : decode cX2_init 67 = .ok (.getfield 11, 3) := by decide +kernel
theorem dX2_init_70 : decode cX2_init 70 = .ok (.iload_n 1, 1) := by decide +kernel
theorem dX2_init_71 : decode cX2_init 71 = .ok (.new 9, 3) := by decide +kernel
theorem dX2_init_74 : decode cX2_init 74 = .ok (.dup, 1) := by decide +kernel
theorem dX2_init_75 : decode cX2_init 75 = .ok (.invokespecial 43, 3) := by decide +kernel
theorem dX2_init_78 : decode cX2_init 78 = .ok (.aastore, 1) := by decide +kernel
theorem dX2_init_79 : decode cX2_init 79 = .ok (.iinc 1 1, 3) := by decide +kernel
theorem dX2_init_82 : decode cX2_init 82 = .ok (.goto (-21), 3) := by decide +kernel
theorem dX2_init_85 : decode cX2_init 85 = .ok (.return_, 1) := by decide +kernel
theorem dX2_setBars_0 : decode cX2_setBars 0 = .ok (.iload_n 1, 1) := by decide +kernel
theorem dX2_setBars_1 : decode cX2_setBars 1 = .ok (.iconst 1, 1) := by decide +kernel
theorem dX2_setBars_2 : decode cX2_setBars 2 = .ok (.if_icmp .lt 25, 3) := by decide +kernel
theorem dX2_setBars_5 : decode cX2_setBars 5 = .ok (.iload_n 1, 1) := by decide +kernel
theorem dX2_setBars_6 : decode cX2_setBars 6 = .ok (.bipush 12, 2) := by decide +kernel
theorem dX2_setBars_8 : decode cX2_setBars 8 = .ok (.if_icmp .gt 19, 3) := by decide +kernel
theorem dX2_setBars_11 : decode cX2_setBars 11 = .ok (.iload_n 2, 1) := by decide +kernel
theorem dX2_setBars_12 : decode cX2_setBars 12 = .ok (.iconst 2, 1) := by decide +kernel
theorem dX2_setBars_13 : decode cX2_setBars 13 = .ok (.if_icmp .eq 24, 3) := by decide +kernel
theorem dX2_setBars_16 : decode cX2_setBars 16 = .ok (.iload_n 2, 1) := by decide +kernel
theorem dX2_setBars_17 : decode cX2_setBars 17 = .ok (.iconst 4, 1) := by decide +kernel
theorem dX2_setBars_18 : decode cX2_setBars 18 = .ok (.if_icmp .eq 19, 3) := by decide +kernel
theorem dX2_setBars_21 : decode cX2_setBars 21 = .ok (.iload_n 2, 1) := by decide +kernel
theorem dX2_setBars_22 : decode cX2_setBars 22 = .ok (.bipush 8, 2) := by decide +kernel
theorem dX2_setBars_24 : decode cX2_setBars 24 = .ok (.if_icmp .eq 13, 3) := by decide +kernel
theorem dX2_setBars_27 : decode cX2_setBars 27 = .ok (.new 44, 3) := by decide +kernel
theorem dX2_setBars_30 : decode cX2_setBars 30 = .ok (.dup, 1) := by decide +kernel
theorem dX2_setBars_31 : decode cX2_setBars 31 = .ok (.ldc 46, 2) := by decide +kernel
theorem dX2_setBars_33 : decode cX2_setBars 33 = .ok (.invokespecial 48, 3) := by decide +kernel
theorem dX2_setBars_36 : decode cX2_setBars 36 = .ok (.athrow, 1) := by decide +kernel
theorem dX2_setBars_37 : decode cX2_setBars 37 = .ok (.aload_n 0, 1) := by decide +kernel
theorem dX2_setBars_38 : decode cX2_setBars 38 = .ok (.invokevirtual 51, 3) := by decide +kernel
theorem dX2_setBars_41 : decode cX2_setBars 41 = .ok (.ifCond .le 13, 3) := by decide +kernel
theorem dX2_setBars_44 : decode cX2_setBars 44 = .ok (.new 55, 3) := by decide +kernel
theorem dX2_setBars_47 : decode cX2_setBars 47 = .ok (.dup, 1) := by decide +kernel
theorem dX2_setBars_48 : decode cX2_setBars 48 = .ok (.ldc 57, 2) := by decide +kernel
theorem dX2_setBars_50 : decode cX2_setBars 50 = .ok (.invokespecial 59, 3) := by decide +kernel
theorem dX2_setBars_53 : decode cX2_setBars 53 = .ok (.athrow, 1) := by decide +kernel
theorem dX2_setBars_54 : decode cX2_setBars 54 = .ok (.aload_n 0, 1) := by decide +kernel
theorem dX2_setBars_55 : decode cX2_setBars 55 = .ok (.sipush 384, 3) := by decide +kernel
theorem dX2_setBars_58 : decode cX2_setBars 58 = .ok (.iload_n 2, 1) := by decide +kernel
theorem dX2_setBars_59 : decode cX2_setBars 59 = .ok (.idiv, 1) := by decide +kernel
theorem dX2_setBars_60 : decode cX2_setBars 60 = .ok (.putfield 30, 3) := by decide +kernel
theorem dX2_setBars_63 : decode cX2_setBars 63 = .ok (.aload_n 0, 1) := by decide +kernel
theorem dX2_setBars_64 : decode cX2_setBars 64 = .ok (.iload_n 1, 1) := by decide +kernel
theorem dX2_setBars_65 : decode cX2_setBars 65 = .ok (.aload_n 0, 1) := by decide +kernel
theorem dX2_setBars_66 : decode cX2_setBars 66 = .ok (.getfield 30, 3) := by decide +kernel
theorem dX2_setBars_69 : decode cX2_setBars 69 = .ok (.imul, 1) := by decide +kernel
theorem dX2_setBars_70 : decode cX2_setBars 70 = .ok (.putfield 33, 3) := by decide +kernel
theorem dX2_setBars_73 : decode cX2_setBars 73 = .ok (.aload_n 0, 1) := by decide +kernel
theorem dX2_setBars_74 : decode cX2_setBars 74 = .ok (.getfield 33, 3) := by decide +kernel
theorem dX2_setBars_77 : decode cX2_setBars 77 = .ok (.ireturn, 1) := by decide +kernel
theorem dX2_setKey_0 : decode cX2_setKey 0 = .ok (.iload_n 1, 1) := by decide +kernel
theorem dX2_setKey_1 : decode cX2_setKey 1 = .ok (.invokestatic 60, 3) := by decide +kernel
theorem dX2_setKey_4 : decode cX2_setKey 4 = .ok (.ifCond .ne 13, 3) := by decide +kernel
theorem dX2_setKey_7 : decode cX2_setKey 7 = .ok (.new 44, 3) := by decide +kernel
theorem dX2_setKey_10 : decode cX2_setKey 10 = .ok (.dup, 1) := by decide +kernel
theorem dX2_setKey_11 : decode cX2_setKey 11 = .ok (.ldc 64, 2) := by decide +kernel
theorem dX2_setKey_13 : decode cX2_setKey 13 = .ok (.invokespecial 48, 3) := by decide +kernel
theorem dX2_setKey_16 : decode cX2_setKey 16 = .ok (.athrow, 1) := by decide +kernel
theorem dX2_setKey_17 : decode cX2_setKey 17 = .ok (.aload_n 0, 1) := by decide +kernel
theorem dX2_setKey_18 : decode cX2_setKey 18 = .ok (.getfield 36, 3) := by decide +kernel
theorem dX2_setKey_21 : decode cX2_setKey 21 = .ok (.istore_n 2, 1) := by decide +kernel
theorem dX2_setKey_22 : decode cX2_setKey 22 = .ok (.aload_n 0, 1) := by decide +kernel
theorem dX2_setKey_23 : decode cX2_setKey 23 = .ok (.iload_n 1, 1) := by decide +kernel
theorem dX2_setKey_24 : decode cX2_setKey 24 = .ok (.putfield 36, 3) := by decide +kernel
theorem dX2_setKey_27 : decode cX2_setKey 27 = .ok (.aload_n 0, 1) := by decide +kernel
theorem dX2_setKey_28 : decode cX2_setKey 28 = .ok (.invokevirtual 66, 3) := by decide +kernel
theorem dX2_setKey_31 : decode cX2_setKey 31 = .ok (.iload_n 2, 1) := by decide +kernel
theorem dX2_setKey_32 : decode cX2_setKey 32 = .ok (.ireturn, 1) := by decide +kernel
theorem dX2_addVoice_0 : decode cX2_addVoice 0 = .ok (.aload_n 0, 1) := by decide +kernel
theorem dX2_addVoice_1 : decode cX2_addVoice 1 = .ok (.getfield 26, 3) := by decide +kernel
theorem dX2_addVoice_4 : decode cX2_addVoice 4 = .ok (.iconst 4, 1) := by decide +kernel
theorem dX2_addVoice_5 : decode cX2_addVoice 5 = .ok (.if_icmp .lt 13, 3) := by decide +kernel
theorem dX2_addVoice_8 : decode cX2_addVoice 8 = .ok (.new 55, 3) := by decide +kernel
theorem dX2_addVoice_11 : decode cX2_addVoice 11 = .ok (.dup, 1) := by decide +kernel
theorem dX2_addVoice_12 : decode cX2_addVoice 12 = .ok (.ldc 69, 2) := by decide +kernel
theorem dX2_addVoice_14 : decode cX2_addVoice 14 = .ok (.invokespecial 59, 3) := by decide +kernel
theorem dX2_addVoice_17 : decode cX2_addVoice 17 = .ok (.athrow, 1) := by decide +kernel
theorem dX2_addVoice_18 : decode cX2_addVoice 18 = .ok (.aload_n 0, 1) := by decide +kernel
theorem dX2_addVoice_19 : decode cX2_addVoice 19 = .ok (.dup, 1) := by decide +kernel
theorem dX2_addVoice_20 : decode cX2_addVoice 20 = .ok (.getfield 26, 3) := by decide +kernel
theorem dX2_addVoice_23 : decode cX2_addVoice 23 = .ok (.iconst 1, 1) := by decide +kernel
theorem dX2_addVoice_24 : decode cX2_addVoice 24 = .ok (.iadd, 1) := by decide +kernel
theorem dX2_addVoice_25 : decode cX2_addVoice 25 = .ok (.putfield 26, 3) := by decide +kernel
theorem dX2_addVoice_28 : decode cX2_addVoice 28 = .ok (.aload_n 0, 1) := by decide +kernel
theorem dX2_addVoice_29 : decode cX2_addVoice 29 = .ok (.getfield 26, 3) := by decide +kernel
theorem dX2_addVoice_32 : decode cX2_addVoice 32 = .ok (.iconst 1, 1) := by decide +kernel
theorem dX2_addVoice_33 : decode cX2_addVoice 33 = .ok (.isub, 1) := by decide +kernel
theorem dX2_addVoice_34 : decode cX2_addVoice 34 = .ok (.ireturn, 1) := by decide +kernel
theorem dX2_score_0 : decode cX2_score 0 = .ok (.iload_n 1, 1) := by decide +kernel
theorem dX2_score_1 : decode cX2_score 1 = .ok (.ifCond .lt 8, 3) := by decide +kernel
theorem dX2_score_4 : decode cX2_score 4 = .ok (.iload_n 1, 1) := by decide +kernel
theorem dX2_score_5 : decode cX2_score 5 = .ok (.iconst 5, 1) := by decide +kernel
theorem dX2_score_6 : decode cX2_score 6 = .ok (.if_icmp .lt 13, 3) := by decide +kernel
theorem dX2_score_9 : decode cX2_score 9 = .ok (.new 71, 3) := by decide +kernel
theorem dX2_score_12 : decode cX2_score 12 = .ok (.dup, 1) := by decide +kernel
theorem dX2_score_13 : decode cX2_score 13 = .ok (.ldc 73, 2) := by decide +kernel
theorem dX2_score_15 : decode cX2_score 15 = .ok (.invokespecial 75, 3) := by decide +kernel
theorem dX2_score_18 : decode cX2_score 18 = .ok (.athrow, 1) := by decide +kernel
theorem dX2_score_19 : decode cX2_score 19 = .ok (.iload_n 1, 1) := by decide +kernel
theorem dX2_score_20 : decode cX2_score 20 = .ok (.tableswitch 52 0 3 #[32, 37, 42, 47], 32) := by decide +kernel
theorem dX2_score_52 : decode cX2_score 52 = .ok (.aload_n 0, 1) := by decide +kernel
theorem dX2_score_53 : decode cX2_score 53 = .ok (.getfield 26, 3) := by decide +kernel
theorem dX2_score_56 : decode cX2_score 56 = .ok (.ireturn, 1) := by decide +kernel
theorem dX2_score_57 : decode cX2_score 57 = .ok (.aload_n 0, 1) := by decide +kernel
theorem dX2_score_58 : decode cX2_score 58 = .ok (.getfield 33, 3) := by decide +kernel
theorem dX2_score_61 : decode cX2_score 61 = .ok (.ireturn, 1) := by decide +kernel
theorem dX2_score_62 : decode cX2_score 62 = .ok (.aload_n 0, 1) := by decide +kernel
theorem dX2_score_63 : decode cX2_score 63 = .ok (.getfield 36, 3) := by decide +kernel
theorem dX2_score_66 : decode cX2_score 66 = .ok (.ireturn, 1) := by decide +kernel
theorem dX2_score_67 : decode cX2_score 67 = .ok (.aload_n 0, 1) := by decide +kernel
theorem dX2_score_68 : decode cX2_score 68 = .ok (.invokevirtual 76, 3) := by decide +kernel
theorem dX2_score_71 : decode cX2_score 71 = .ok (.ireturn, 1) := by decide +kernel
theorem dX2_score_72 : decode cX2_score 72 = .ok (.aload_n 0, 1) := by decide +kernel
theorem dX2_score_73 : decode cX2_score 73 = .ok (.invokevirtual 51, 3) := by decide +kernel
theorem dX2_score_76 : decode cX2_score 76 = .ok (.ireturn, 1) := by decide +kernel
theorem dX2_sign_0 : decode cX2_sign 0 = .ok (.iload_n 1, 1) := by decide +kernel
theorem dX2_sign_1 : decode cX2_sign 1 = .ok (.ifCond .lt 9, 3) := by decide +kernel
theorem dX2_sign_4 : decode cX2_sign 4 = .ok (.iload_n 1, 1) := by decide +kernel
theorem dX2_sign_5 : decode cX2_sign 5 = .ok (.bipush 7, 2) := by decide +kernel
theorem dX2_sign_7 : decode cX2_sign 7 = .ok (.if_icmp .lt 13, 3) := by decide +kernel
theorem dX2_sign_10 : decode cX2_sign 10 = .ok (.new 44, 3) := by decide +kernel
theorem dX2_sign_13 : decode cX2_sign 13 = .ok (.dup, 1) := by decide +kernel
theorem dX2_sign_14 : decode cX2_sign 14 = .ok (.ldc 79, 2) := by decide +kernel
theorem dX2_sign_16 : decode cX2_sign 16 = .ok (.invokespecial 48, 3) := by decide +kernel
theorem dX2_sign_19 : decode cX2_sign 19 = .ok (.athrow, 1) := by decide +kernel
theorem dX2_sign_20 : decode cX2_sign 20 = .ok (.aload_n 0, 1) := by decide +kernel
theorem dX2_sign_21 : decode cX2_sign 21 = .ok (.getfield 36, 3) := by decide +kernel
theorem dX2_sign_24 : decode cX2_sign 24 = .ok (.iload_n 1, 1) := by decide +kernel
theorem dX2_sign_25 : decode cX2_sign 25 = .ok (.invokestatic 81, 3) := by decide +kernel
theorem dX2_sign_28 : decode cX2_sign 28 = .ok (.ireturn, 1) := by decide +kernel
theorem dX2_ticks_0 : decode cX2_ticks 0 = .ok (.iload_n 1, 1) := by decide +kernel
theorem dX2_ticks_1 : decode cX2_ticks 1 = .ok (.iload_n 2, 1) := by decide +kernel
theorem dX2_ticks_2 : decode cX2_ticks 2 = .ok (.invokestatic 85, 3) := by decide +kernel
theorem dX2_ticks_5 : decode cX2_ticks 5 = .ok (.istore_n 3, 1) := by decide +kernel
theorem dX2_ticks_6 : decode cX2_ticks 6 = .ok (.iload_n 3, 1) := by decide +kernel
theorem dX2_ticks_7 : decode cX2_ticks 7 = .ok (.ifCond .ge 13, 3) := by decide +kernel
theorem dX2_ticks_10 : decode cX2_ticks 10 = .ok (.new 44, 3) := by decide +kernel
theorem dX2_ticks_13 : decode cX2_ticks 13 = .ok (.dup, 1) := by decide +kernel
theorem dX2_ticks_14 : decode cX2_ticks 14 = .ok (.ldc 88, 2) := by decide +kernel
theorem dX2_ticks_16 : decode cX2_ticks 16 = .ok (.invokespecial 48, 3) := by decide +kernel
theorem dX2_ticks_19 : decode cX2_ticks 19 = .ok (.athrow, 1) := by decide +kernel
theorem dX2_ticks_20 : decode cX2_ticks 20 = .ok (.getstatic 90, 3) := by decide +kernel
theorem dX2_ticks_23 : decode cX2_ticks 23 = .ok (.iload_n 3, 1) := by decide +kernel
theorem dX2_ticks_24 : decode cX2_ticks 24 = .ok (.iaload, 1) := by decide +kernel
theorem dX2_ticks_25 : decode cX2_ticks 25 = .ok (.ireturn, 1) := by decide +kernel
theorem dX2_addNote_0 : decode cX2_addNote 0 = .ok (.aload_n 0, 1) := by decide +kernel
theorem dX2_addNote_1 : decode cX2_addNote 1 = .ok (.iload_n 1, 1) := by decide +kernel
theorem dX2_addNote_2 : decode cX2_addNote 2 = .ok (.invokevirtual 93, 3) := by decide +kernel
theorem dX2_addNote_5 : decode cX2_addNote 5 = .ok (.iload_n 2, 1) := by decide +kernel
theorem dX2_addNote_6 : decode cX2_addNote 6 = .ok (.iload_n 3, 1) := by decide +kernel
theorem dX2_addNote_7 : decode cX2_addNote 7 = .ok (.invokestatic 85, 3) := by decide +kernel
theorem dX2_addNote_10 : decode cX2_addNote 10 = .ok (.istore 8, 2) := by decide +kernel
theorem dX2_addNote_12 : decode cX2_addNote 12 = .ok (.iload 8, 2) := by decide +kernel
theorem dX2_addNote_14 : decode cX2_addNote 14 = .ok (.ifCond .lt 15, 3) := by decide +kernel
theorem dX2_addNote_17 : decode cX2_addNote 17 = .ok (.iload 4, 2) := by decide +kernel
theorem dX2_addNote_19 : decode cX2_addNote 19 = .ok (.iload 5, 2) := by decide +kernel
theorem dX2_addNote_21 : decode cX2_addNote 21 = .ok (.iload 6, 2) := by decide +kernel
theorem dX2_addNote_23 : decode cX2_addNote 23 = .ok (.invokestatic 97, 3) := by decide +kernel
theorem dX2_addNote_26 : decode cX2_addNote 26 = .ok (.ifCond .ne 13, 3) := by decide +kernel
theorem dX2_addNote_29 : decode cX2_addNote 29 = .ok (.new 44, 3) := by decide +kernel
theorem dX2_addNote_32 : decode cX2_addNote 32 = .ok (.dup, 1) := by decide +kernel
theorem dX2_addNote_33 : decode cX2_addNote 33 = .ok (.ldc 101, 2) := by decide +kernel
theorem dX2_addNote_35 : decode cX2_addNote 35 = .ok (.invokespecial 48, 3) := by decide +kernel
theorem dX2_addNote_38 : decode cX2_addNote 38 = .ok (.athrow, 1) := by decide +kernel
theorem dX2_addNote_39 : decode cX2_addNote 39 = .ok (.aload_n 0, 1) := by decide +kernel
theorem dX2_addNote_40 : decode cX2_addNote 40 = .ok (.getfield 11, 3) := by decide +kernel
theorem dX2_addNote_43 : decode cX2_addNote 43 = .ok (.iload_n 1, 1) := by decide +kernel
theorem dX2_addNote_44 : decode cX2_addNote 44 = .ok (.aaload, 1) := by decide +kernel
theorem dX2_addNote_45 : decode cX2_addNote 45 = .ok (.astore 9, 2) := by decide +kernel
theorem dX2_addNote_47 : decode cX2_addNote 47 = .ok (.aload 9, 2) := by decide +kernel
theorem dX2_addNote_49 : decode cX2_addNote 49 = .ok (.getfield 103, 3) := by decide +kernel
theorem dX2_addNote_52 : decode cX2_addNote 52 = .ok (.istore 10, 2) := by decide +kernel
theorem dX2_addNote_54 : decode cX2_addNote 54 = .ok (.aload_n 0, 1) := by decide +kernel
theorem dX2_addNote_55 : decode cX2_addNote 55 = .ok (.aload 9, 2) := by decide +kernel
theorem dX2_addNote_57 : decode cX2_addNote 57 = .ok (.iload 8, 2) := by decide +kernel
theorem dX2_addNote_59 : decode cX2_addNote 59 = .ok (.invokevirtual 106, 3) := by decide +kernel
theorem dX2_addNote_62 : decode cX2_addNote 62 = .ok (.istore 11, 2) := by decide +kernel
theorem dX2_addNote_64 : decode cX2_addNote 64 = .ok (.iload 10, 2) := by decide +kernel
theorem dX2_addNote_66 : decode cX2_addNote 66 = .ok (.istore 12, 2) := by decide +kernel
theorem dX2_addNote_68 : decode cX2_addNote 68 = .ok (.iload 12, 2) := by decide +kernel
theorem dX2_addNote_70 : decode cX2_addNote 70 = .ok (.aload 9, 2) := by decide +kernel
theorem dX2_addNote_72 : decode cX2_addNote 72 = .ok (.getfield 103, 3) := by decide +kernel
theorem dX2_addNote_75 : decode cX2_addNote 75 = .ok (.if_icmp .ge 66, 3) := by decide +kernel
theorem dX2_addNote_78 : decode cX2_addNote 78 = .ok (.aload 9, 2) := by decide +kernel
theorem dX2_addNote_80 : decode cX2_addNote 80 = .ok (.iload 12, 2) := by decide +kernel
theorem dX2_addNote_82 : decode cX2_addNote 82 = .ok (.iload 4, 2) := by decide +kernel
theorem dX2_addNote_84 : decode cX2_addNote 84 = .ok (.iload 5, 2) := by decide +kernel
theorem dX2_addNote_86 : decode cX2_addNote 86 = .ok (.iload 6, 2) := by decide +kernel
theorem dX2_addNote_88 : decode cX2_addNote 88 = .ok (.invokevirtual 110, 3) := by decide +kernel
theorem dX2_addNote_91 : decode cX2_addNote 91 = .ok (.iload 12, 2) := by decide +kernel
theorem dX2_addNote_93 : decode cX2_addNote 93 = .ok (.aload 9, 2) := by decide +kernel
theorem dX2_addNote_95 : decode cX2_addNote 95 = .ok (.getfield 103, 3) := by decide +kernel
theorem dX2_addNote_98 : decode cX2_addNote 98 = .ok (.iconst 1, 1) := by decide +kernel
theorem dX2_addNote_99 : decode cX2_addNote 99 = .ok (.isub, 1) := by decide +kernel
theorem dX2_addNote_100 : decode cX2_addNote 100 = .ok (.if_icmp .ne 7, 3) := by decide +kernel
theorem dX2_addNote_103 : decode cX2_addNote 103 = .ok (.iconst 1, 1) := by decide +kernel
theorem dX2_addNote_104 : decode cX2_addNote 104 = .ok (.goto 4, 3) := by decide +kernel
theorem dX2_addNote_107 : decode cX2_addNote 107 = .ok (.iconst 0, 1) := by decide +kernel
theorem dX2_addNote_108 : decode cX2_addNote 108 = .ok (.istore 13, 2) := by decide +kernel
theorem dX2_addNote_110 : decode cX2_addNote 110 = .ok (.aload 9, 2) := by decide +kernel
theorem dX2_addNote_112 : decode cX2_addNote 112 = .ok (.getfield 114, 3) := by decide +kernel
theorem dX2_addNote_115 : decode cX2_addNote 115 = .ok (.iconst 5, 1) := by decide +kernel
theorem dX2_addNote_116 : decode cX2_addNote 116 = .ok (.aaload, 1) := by decide +kernel
theorem dX2_addNote_117 : decode cX2_addNote 117 = .ok (.iload 12, 2) := by decide +kernel
theorem dX2_addNote_119 : decode cX2_addNote 119 = .ok (.iload 7, 2) := by decide +kernel
theorem dX2_addNote_121 : decode cX2_addNote 121 = .ok (.ifCond .ne 8, 3) := by decide +kernel
theorem dX2_addNote_124 : decode cX2_addNote 124 = .ok (.iload 13, 2) := by decide +kernel
theorem dX2_addNote_126 : decode cX2_addNote 126 = .ok (.ifCond .ne 7, 3) := by decide +kernel
theorem dX2_addNote_129 : decode cX2_addNote 129 = .ok (.iconst 1, 1) := by decide +kernel
theorem dX2_addNote_130 : decode cX2_addNote 130 = .ok (.goto 4, 3) := by decide +kernel
theorem dX2_addNote_133 : decode cX2_addNote 133 = .ok (.iconst 0, 1) := by decide +kernel
theorem dX2_addNote_134 : decode cX2_addNote 134 = .ok (.iastore, 1) := by decide +kernel
theorem dX2_addNote_135 : decode cX2_addNote 135 = .ok (.iinc 12 1, 3) := by decide +kernel
theorem dX2_addNote_138 : decode cX2_addNote 138 = .ok (.goto (-70), 3) := by decide +kernel
theorem dX2_addNote_141 : decode cX2_addNote 141 = .ok (.aload_n 0, 1) := by decide +kernel
theorem dX2_addNote_142 : decode cX2_addNote 142 = .ok (.aload 9, 2) := by decide +kernel
theorem dX2_addNote_144 : decode cX2_addNote 144 = .ok (.invokevirtual 118, 3) := by decide +kernel
theorem dX2_addNote_147 : decode cX2_addNote 147 = .ok (.iload 11, 2) := by decide +kernel
theorem dX2_addNote_149 : decode cX2_addNote 149 = .ok (.ireturn, 1) := by decide +kernel
theorem dX2_addRest_0 : decode cX2_addRest 0 = .ok (.aload_n 0, 1) := by decide +kernel
theorem dX2_addRest_1 : decode cX2_addRest 1 = .ok (.iload_n 1, 1) := by decide +kernel
theorem dX2_addRest_2 : decode cX2_addRest 2 = .ok (.invokevirtual 93, 3) := by decide +kernel
theorem dX2_addRest_5 : decode cX2_addRest 5 = .ok (.iload_n 2, 1) := by decide +kernel
theorem dX2_addRest_6 : decode cX2_addRest 6 = .ok (.iload_n 3, 1) := by decide +kernel
theorem dX2_addRest_7 : decode cX2_addRest 7 = .ok (.invokestatic 85, 3) := by decide +kernel
theorem dX2_addRest_10 : decode cX2_addRest 10 = .ok (.istore 4, 2) := by decide +kernel
theorem dX2_addRest_12 : decode cX2_addRest 12 = .ok (.iload 4, 2) := by decide +kernel
theorem dX2_addRest_14 : decode cX2_addRest 14 = .ok (.ifCond .ge 13, 3) := by decide +kernel
theorem dX2_addRest_17 : decode cX2_addRest 17 = .ok (.new 44, 3) := by decide +kernel
theorem dX2_addRest_20 : decode cX2_addRest 20 = .ok (.dup, 1) := by decide +kernel
theorem dX2_addRest_21 : decode cX2_addRest 21 = .ok (.ldc 88, 2) := by decide +kernel
theorem dX2_addRest_23 : decode cX2_addRest 23 = .ok (.invokespecial 48, 3) := by decide +kernel
theorem dX2_addRest_26 : decode cX2_addRest 26 = .ok (.athrow, 1) := by decide +kernel
theorem dX2_addRest_27 : decode cX2_addRest 27 = .ok (.aload_n 0, 1) := by decide +kernel
theorem dX2_addRest_28 : decode cX2_addRest 28 = .ok (.aload_n 0, 1) := by decide +kernel
theorem dX2_addRest_29 : decode cX2_addRest 29 = .ok (.getfield 11, 3) := by decide +kernel
theorem dX2_addRest_32 : decode cX2_addRest 32 = .ok (.iload_n 1, 1) := by decide +kernel
theorem dX2_addRest_33 : decode cX2_addRest 33 = .ok (.aaload, 1) := by decide +kernel
theorem dX2_addRest_34 : decode cX2_addRest 34 = .ok (.iload 4, 2) := by decide +kernel
theorem dX2_addRest_36 : decode cX2_addRest 36 = .ok (.invokevirtual 106, 3) := by decide +kernel
theorem dX2_addRest_39 : decode cX2_addRest 39 = .ok (.istore 5, 2) := by decide +kernel
theorem dX2_addRest_41 : decode cX2_addRest 41 = .ok (.aload_n 0, 1) := by decide +kernel
theorem dX2_addRest_42 : decode cX2_addRest 42 = .ok (.aload_n 0, 1) := by decide +kernel
theorem dX2_addRest_43 : decode cX2_addRest 43 = .ok (.getfield 11, 3) := by decide +kernel
theorem dX2_addRest_46 : decode cX2_addRest 46 = .ok (.iload_n 1, 1) := by decide +kernel
theorem dX2_addRest_47 : decode cX2_addRest 47 = .ok (.aaload, 1) := by decide +kernel
theorem dX2_addRest_48 : decode cX2_addRest 48 = .ok (.invokevirtual 118, 3) := by decide +kernel
theorem dX2_addRest_51 : decode cX2_addRest 51 = .ok (.iload 5, 2) := by decide +kernel
theorem dX2_addRest_53 : decode cX2_addRest 53 = .ok (.ireturn, 1) := by decide +kernel
theorem dX2_removeLast_0 : decode cX2_removeLast 0 = .ok (.aload_n 0, 1) := by decide +kernel
theorem dX2_removeLast_1 : decode cX2_removeLast 1 = .ok (.iload_n 1, 1) := by decide +kernel
theorem dX2_removeLast_2 : decode cX2_removeLast 2 = .ok (.invokevirtual 93, 3) := by decide +kernel
theorem dX2_removeLast_5 : decode cX2_removeLast 5 = .ok (.aload_n 0, 1) := by decide +kernel
theorem dX2_removeLast_6 : decode cX2_removeLast 6 = .ok (.getfield 11, 3) := by decide +kernel
theorem dX2_removeLast_9 : decode cX2_removeLast 9 = .ok (.iload_n 1, 1) := by decide +kernel
theorem dX2_removeLast_10 : decode cX2_removeLast 10 = .ok (.aaload, 1) := by decide +kernel
theorem dX2_removeLast_11 : decode cX2_removeLast 11 = .ok (.astore_n 2, 1) := by decide +kernel
theorem dX2_removeLast_12 : decode cX2_removeLast 12 = .ok (.aload_n 2, 1) := by decide +kernel
theorem dX2_removeLast_13 : decode cX2_removeLast 13 = .ok (.getfield 103, 3) := by decide +kernel
theorem dX2_removeLast_16 : decode cX2_removeLast 16 = .ok (.ifCond .ne 13, 3) := by decide +kernel
theorem dX2_removeLast_19 : decode cX2_removeLast 19 = .ok (.new 55, 3) := by decide +kernel
theorem dX2_removeLast_22 : decode cX2_removeLast 22 = .ok (.dup, 1) := by decide +kernel
theorem dX2_removeLast_23 : decode cX2_removeLast 23 = .ok (.ldc 122, 2) := by decide +kernel
theorem dX2_removeLast_25 : decode cX2_removeLast 25 = .ok (.invokespecial 59, 3) := by decide +kernel
theorem dX2_removeLast_28 : decode cX2_removeLast 28 = .ok (.athrow, 1) := by decide +kernel
theorem dX2_removeLast_29 : decode cX2_removeLast 29 = .ok (.aload_n 2, 1) := by decide +kernel
theorem dX2_removeLast_30 : decode cX2_removeLast 30 = .ok (.invokevirtual 124, 3) := by decide +kernel
theorem dX2_removeLast_33 : decode cX2_removeLast 33 = .ok (.aload_n 0, 1) := by decide +kernel
theorem dX2_removeLast_34 : decode cX2_removeLast 34 = .ok (.aload_n 2, 1) := by decide +kernel
theorem dX2_removeLast_35 : decode cX2_removeLast 35 = .ok (.invokevirtual 118, 3) := by decide +kernel
theorem dX2_removeLast_38 : decode cX2_removeLast 38 = .ok (.aload_n 2, 1) := by decide +kernel
theorem dX2_removeLast_39 : decode cX2_removeLast 39 = .ok (.getfield 103, 3) := by decide +kernel
theorem dX2_removeLast_42 : decode cX2_removeLast 42 = .ok (.ireturn, 1) := by decide +kernel
theorem dX2_tie_0 : decode cX2_tie 0 = .ok (.aload_n 0, 1) := by decide +kernel
theorem dX2_tie_1 : decode cX2_tie 1 = .ok (.iload_n 1, 1) := by decide +kernel
theorem dX2_tie_2 : decode cX2_tie 2 = .ok (.iload_n 2, 1) := by decide +kernel
theorem dX2_tie_3 : decode cX2_tie 3 = .ok (.invokevirtual 127, 3) := by decide +kernel
theorem dX2_tie_6 : decode cX2_tie 6 = .ok (.aload_n 0, 1) := by decide +kernel
theorem dX2_tie_7 : decode cX2_tie 7 = .ok (.getfield 11, 3) := by decide +kernel
theorem dX2_tie_10 : decode cX2_tie 10 = .ok (.iload_n 1, 1) := by decide +kernel
theorem dX2_tie_11 : decode cX2_tie 11 = .ok (.aaload, 1) := by decide +kernel
theorem dX2_tie_12 : decode cX2_tie 12 = .ok (.astore 4, 2) := by decide +kernel
theorem dX2_tie_14 : decode cX2_tie 14 = .ok (.aload 4, 2) := by decide +kernel
theorem dX2_tie_16 : decode cX2_tie 16 = .ok (.iload_n 2, 1) := by decide +kernel
theorem dX2_tie_17 : decode cX2_tie 17 = .ok (.invokevirtual 131, 3) := by decide +kernel
theorem dX2_tie_20 : decode cX2_tie 20 = .ok (.ifCond .ne 13, 3) := by decide +kernel
theorem dX2_tie_23 : decode cX2_tie 23 = .ok (.new 55, 3) := by decide +kernel
theorem dX2_tie_26 : decode cX2_tie 26 = .ok (.dup, 1) := by decide +kernel
theorem dX2_tie_27 : decode cX2_tie 27 = .ok (.ldc 134, 2) := by decide +kernel
theorem dX2_tie_29 : decode cX2_tie 29 = .ok (.invokespecial 59, 3) := by decide +kernel
theorem dX2_tie_32 : decode cX2_tie 32 = .ok (.athrow, 1) := by decide +kernel
theorem dX2_tie_33 : decode cX2_tie 33 = .ok (.aload 4, 2) := by decide +kernel
theorem dX2_tie_35 : decode cX2_tie 35 = .ok (.iload_n 2, 1) := by decide +kernel
theorem dX2_tie_36 : decode cX2_tie 36 = .ok (.invokevirtual 136, 3) := by decide +kernel
theorem dX2_tie_39 : decode cX2_tie 39 = .ok (.istore 5, 2) := by decide +kernel
theorem dX2_tie_41 : decode cX2_tie 41 = .ok (.aload 4, 2) := by decide +kernel
theorem dX2_tie_43 : decode cX2_tie 43 = .ok (.getfield 114, 3) := by decide +kernel
theorem dX2_tie_46 : decode cX2_tie 46 = .ok (.iconst 5, 1) := by decide +kernel
theorem dX2_tie_47 : decode cX2_tie 47 = .ok (.aaload, 1) := by decide +kernel
theorem dX2_tie_48 : decode cX2_tie 48 = .ok (.iload_n 2, 1) := by decide +kernel
theorem dX2_tie_49 : decode cX2_tie 49 = .ok (.iload_n 3, 1) := by decide +kernel
theorem dX2_tie_50 : decode cX2_tie 50 = .ok (.ifCond .eq 7, 3) := by decide +kernel
theorem dX2_tie_53 : decode cX2_tie 53 = .ok (.iconst 1, 1) := by decide +kernel
theorem dX2_tie_54 : decode cX2_tie 54 = .ok (.goto 4, 3) := by decide +kernel
theorem dX2_tie_57 : decode cX2_tie 57 = .ok (.iconst 0, 1) := by decide +kernel
theorem dX2_tie_58 : decode cX2_tie 58 = .ok (.iastore, 1) := by decide +kernel
theorem dX2_tie_59 : decode cX2_tie 59 = .ok (.aload_n 0, 1) := by decide +kernel
theorem dX2_tie_60 : decode cX2_tie 60 = .ok (.aload 4, 2) := by decide +kernel
theorem dX2_tie_62 : decode cX2_tie 62 = .ok (.invokevirtual 118, 3) := by decide +kernel
theorem dX2_tie_65 : decode cX2_tie 65 = .ok (.iload 5, 2) := by decide +kernel
theorem dX2_tie_67 : decode cX2_tie 67 = .ok (.ireturn, 1) := by decide +kernel
theorem dX2_element_0 : decode cX2_element 0 = .ok (.aload_n 0, 1) := by decide +kernel
theorem dX2_element_1 : decode cX2_element 1 = .ok (.iload_n 1, 1) := by decide +kernel
theorem dX2_element_2 : decode cX2_element 2 = .ok (.iload_n 2, 1) := by decide +kernel
theorem dX2_element_3 : decode cX2_element 3 = .ok (.invokevirtual 127, 3) := by decide +kernel
theorem dX2_element_6 : decode cX2_element 6 = .ok (.iload_n 3, 1) := by decide +kernel
theorem dX2_element_7 : decode cX2_element 7 = .ok (.ifCond .lt 9, 3) := by decide +kernel
theorem dX2_element_10 : decode cX2_element 10 = .ok (.iload_n 3, 1) := by decide +kernel
theorem dX2_element_11 : decode cX2_element 11 = .ok (.bipush 9, 2) := by decide +kernel
theorem dX2_element_13 : decode cX2_element 13 = .ok (.if_icmp .lt 13, 3) := by decide +kernel
theorem dX2_element_16 : decode cX2_element 16 = .ok (.new 71, 3) := by decide +kernel
theorem dX2_element_19 : decode cX2_element 19 = .ok (.dup, 1) := by decide +kernel
theorem dX2_element_20 : decode cX2_element 20 = .ok (.ldc 139, 2) := by decide +kernel
theorem dX2_element_22 : decode cX2_element 22 = .ok (.invokespecial 75, 3) := by decide +kernel
theorem dX2_element_25 : decode cX2_element 25 = .ok (.athrow, 1) := by decide +kernel
theorem dX2_element_26 : decode cX2_element 26 = .ok (.aload_n 0, 1) := by decide +kernel
theorem dX2_element_27 : decode cX2_element 27 = .ok (.getfield 11, 3) := by decide +kernel
theorem dX2_element_30 : decode cX2_element 30 = .ok (.iload_n 1, 1) := by decide +kernel
theorem dX2_element_31 : decode cX2_element 31 = .ok (.aaload, 1) := by decide +kernel
theorem dX2_element_32 : decode cX2_element 32 = .ok (.getfield 114, 3) := by decide +kernel
theorem dX2_element_35 : decode cX2_element 35 = .ok (.iload_n 3, 1) := by decide +kernel
theorem dX2_element_36 : decode cX2_element 36 = .ok (.aaload, 1) := by decide +kernel
theorem dX2_element_37 : decode cX2_element 37 = .ok (.iload_n 2, 1) := by decide +kernel
theorem dX2_element_38 : decode cX2_element 38 = .ok (.iaload, 1) := by decide +kernel
theorem dX2_element_39 : decode cX2_element 39 = .ok (.ireturn, 1) := by decide +kernel
theorem dX2_pitch_0 : decode cX2_pitch 0 = .ok (.aload_n 0, 1) := by decide +kernel
theorem dX2_pitch_1 : decode cX2_pitch 1 = .ok (.iload_n 1, 1) := by decide +kernel
theorem dX2_pitch_2 : decode cX2_pitch 2 = .ok (.iload_n 2, 1) := by decide +kernel
theorem dX2_pitch_3 : decode cX2_pitch 3 = .ok (.invokevirtual 127, 3) := by decide +kernel
theorem dX2_pitch_6 : decode cX2_pitch 6 = .ok (.iload_n 3, 1) := by decide +kernel
theorem dX2_pitch_7 : decode cX2_pitch 7 = .ok (.ifCond .lt 8, 3) := by decide +kernel
theorem dX2_pitch_10 : decode cX2_pitch 10 = .ok (.iload_n 3, 1) := by decide +kernel
theorem dX2_pitch_11 : decode cX2_pitch 11 = .ok (.iconst 3, 1) := by decide +kernel
theorem dX2_pitch_12 : decode cX2_pitch 12 = .ok (.if_icmp .lt 13, 3) := by decide +kernel
theorem dX2_pitch_15 : decode cX2_pitch 15 = .ok (.new 71, 3) := by decide +kernel
theorem dX2_pitch_18 : decode cX2_pitch 18 = .ok (.dup, 1) := by decide +kernel
theorem dX2_pitch_19 : decode cX2_pitch 19 = .ok (.ldc 141, 2) := by decide +kernel
theorem dX2_pitch_21 : decode cX2_pitch 21 = .ok (.invokespecial 75, 3) := by decide +kernel
theorem dX2_pitch_24 : decode cX2_pitch 24 = .ok (.athrow, 1) := by decide +kernel
theorem dX2_pitch_25 : decode cX2_pitch 25 = .ok (.aload_n 0, 1) := by decide +kernel
theorem dX2_pitch_26 : decode cX2_pitch 26 = .ok (.getfield 11, 3) := by decide +kernel
theorem dX2_pitch_29 : decode cX2_pitch 29 = .ok (.iload_n 1, 1) := by decide +kernel
theorem dX2_pitch_30 : decode cX2_pitch 30 = .ok (.aaload, 1) := by decide +kernel
theorem dX2_pitch_31 : decode cX2_pitch 31 = .ok (.iload_n 2, 1) := by decide +kernel
theorem dX2_pitch_32 : decode cX2_pitch 32 = .ok (.invokevirtual 131, 3) := by decide +kernel
theorem dX2_pitch_35 : decode cX2_pitch 35 = .ok (.ifCond .ne 13, 3) := by decide +kernel
theorem dX2_pitch_38 : decode cX2_pitch 38 = .ok (.new 55, 3) := by decide +kernel
theorem dX2_pitch_41 : decode cX2_pitch 41 = .ok (.dup, 1) := by decide +kernel
theorem dX2_pitch_42 : decode cX2_pitch 42 = .ok (.ldc 134, 2) := by decide +kernel
theorem dX2_pitch_44 : decode cX2_pitch 44 = .ok (.invokespecial 59, 3) := by decide +kernel
theorem dX2_pitch_47 : decode cX2_pitch 47 = .ok (.athrow, 1) := by decide +kernel
theorem dX2_pitch_48 : decode cX2_pitch 48 = .ok (.aload_n 0, 1) := by decide +kernel
theorem dX2_pitch_49 : decode cX2_pitch 49 = .ok (.getfield 11, 3) := by decide +kernel
theorem dX2_pitch_52 : decode cX2_pitch 52 = .ok (.iload_n 1, 1) := by decide +kernel
theorem dX2_pitch_53 : decode cX2_pitch 53 = .ok (.aaload, 1) := by decide +kernel
theorem dX2_pitch_54 : decode cX2_pitch 54 = .ok (.getfield 143, 3) := by decide +kernel
theorem dX2_pitch_57 : decode cX2_pitch 57 = .ok (.iload_n 3, 1) := by decide +kernel
theorem dX2_pitch_58 : decode cX2_pitch 58 = .ok (.aaload, 1) := by decide +kernel
theorem dX2_pitch_59 : decode cX2_pitch 59 = .ok (.iload_n 2, 1) := by decide +kernel
theorem dX2_pitch_60 : decode cX2_pitch 60 = .ok (.iaload, 1) := by decide +kernel
theorem dX2_pitch_61 : decode cX2_pitch 61 = .ok (.ireturn, 1) := by decide +kernel
theorem dX2_voice_0 : decode cX2_voice 0 = .ok (.aload_n 0, 1) := by decide +kernel
theorem dX2_voice_1 : decode cX2_voice 1 = .ok (.iload_n 1, 1) := by decide +kernel
theorem dX2_voice_2 : decode cX2_voice 2 = .ok (.invokevirtual 93, 3) := by decide +kernel
theorem dX2_voice_5 : decode cX2_voice 5 = .ok (.iload_n 2, 1) := by decide +kernel
theorem dX2_voice_6 : decode cX2_voice 6 = .ok (.ifCond .lt 9, 3) := by decide +kernel
theorem dX2_voice_9 : decode cX2_voice 9 = .ok (.iload_n 2, 1) := by decide +kernel
theorem dX2_voice_10 : decode cX2_voice 10 = .ok (.bipush 7, 2) := by decide +kernel
theorem dX2_voice_12 : decode cX2_voice 12 = .ok (.if_icmp .lt 13, 3) := by decide +kernel
theorem dX2_voice_15 : decode cX2_voice 15 = .ok (.new 71, 3) := by decide +kernel
theorem dX2_voice_18 : decode cX2_voice 18 = .ok (.dup, 1) := by decide +kernel
theorem dX2_voice_19 : decode cX2_voice 19 = .ok (.ldc 146, 2) := by decide +kernel
theorem dX2_voice_21 : decode cX2_voice 21 = .ok (.invokespecial 75, 3) := by decide +kernel
theorem dX2_voice_24 : decode cX2_voice 24 = .ok (.athrow, 1) := by decide +kernel
theorem dX2_voice_25 : decode cX2_voice 25 = .ok (.aload_n 0, 1) := by decide +kernel
theorem dX2_voice_26 : decode cX2_voice 26 = .ok (.getfield 11, 3) := by decide +kernel
theorem dX2_voice_29 : decode cX2_voice 29 = .ok (.iload_n 1, 1) := by decide +kernel
theorem dX2_voice_30 : decode cX2_voice 30 = .ok (.aaload, 1) := by decide +kernel
theorem dX2_voice_31 : decode cX2_voice 31 = .ok (.iload_n 2, 1) := by decide +kernel
theorem dX2_voice_32 : decode cX2_voice 32 = .ok (.invokevirtual 148, 3) := by decide +kernel
theorem dX2_voice_35 : decode cX2_voice 35 = .ok (.ireturn, 1) := by decide +kernel
theorem dX2_transpose_0 : decode cX2_transpose 0 = .ok (.iload_n 1, 1) := by decide +kernel
theorem dX2_transpose_1 : decode cX2_transpose 1 = .ok (.bipush (-14), 2) := by decide +kernel
theorem dX2_transpose_3 : decode cX2_transpose 3 = .ok (.if_icmp .lt 21, 3) := by decide +kernel
theorem dX2_transpose_6 : decode cX2_transpose 6 = .ok (.iload_n 1, 1) := by decide +kernel
theorem dX2_transpose_7 : decode cX2_transpose 7 = .ok (.bipush 14, 2) := by decide +kernel
theorem dX2_transpose_9 : decode cX2_transpose 9 = .ok (.if_icmp .gt 15, 3) := by decide +kernel
theorem dX2_transpose_12 : decode cX2_transpose 12 = .ok (.iload_n 2, 1) := by decide +kernel
theorem dX2_transpose_13 : decode cX2_transpose 13 = .ok (.bipush (-24), 2) := by decide +kernel
theorem dX2_transpose_15 : decode cX2_transpose 15 = .ok (.if_icmp .lt 9, 3) := by decide +kernel
theorem dX2_transpose_18 : decode cX2_transpose 18 = .ok (.iload_n 2, 1) := by decide +kernel
theorem dX2_transpose_19 : decode cX2_transpose 19 = .ok (.bipush 24, 2) := by decide +kernel
theorem dX2_transpose_21 : decode cX2_transpose 21 = .ok (.if_icmp .le 13, 3) := by decide +kernel
theorem dX2_transpose_24 : decode cX2_transpose 24 = .ok (.new 44, 3) := by decide +kernel
theorem dX2_transpose_27 : decode cX2_transpose 27 = .ok (.dup, 1) := by decide +kernel
theorem dX2_transpose_28 : decode cX2_transpose 28 = .ok (.ldc 152, 2) := by decide +kernel
theorem dX2_transpose_30 : decode cX2_transpose 30 = .ok (.invokespecial 48, 3) := by decide +kernel
theorem dX2_transpose_33 : decode cX2_transpose 33 = .ok (.athrow, 1) := by decide +kernel
theorem dX2_transpose_34 : decode cX2_transpose 34 = .ok (.aload_n 0, 1) := by decide +kernel
theorem dX2_transpose_35 : decode cX2_transpose 35 = .ok (.getfield 36, 3) := by decide +kernel
theorem dX2_transpose_38 : decode cX2_transpose 38 = .ok (.bipush 7, 2) := by decide +kernel
theorem dX2_transpose_40 : decode cX2_transpose 40 = .ok (.iload_n 2, 1) := by decide +kernel
theorem dX2_transpose_41 : decode cX2_transpose 41 = .ok (.imul, 1) := by decide +kernel
theorem dX2_transpose_42 : decode cX2_transpose 42 = .ok (.iadd, 1) := by decide +kernel
theorem dX2_transpose_43 : decode cX2_transpose 43 = .ok (.bipush 12, 2) := by decide +kernel
theorem dX2_transpose_45 : decode cX2_transpose 45 = .ok (.iload_n 1, 1) := by decide +kernel
theorem dX2_transpose_46 : decode cX2_transpose 46 = .ok (.imul, 1) := by decide +kernel
theorem dX2_transpose_47 : decode cX2_transpose 47 = .ok (.isub, 1) := by decide +kernel
theorem dX2_transpose_48 : decode cX2_transpose 48 = .ok (.istore_n 3, 1) := by decide +kernel
theorem dX2_transpose_49 : decode cX2_transpose 49 = .ok (.iload_n 3, 1) := by decide +kernel
theorem dX2_transpose_50 : decode cX2_transpose 50 = .ok (.invokestatic 60, 3) := by decide +kernel
theorem dX2_transpose_53 : decode cX2_transpose 53 = .ok (.ifCond .ne 13, 3) := by decide +kernel
theorem dX2_transpose_56 : decode cX2_transpose 56 = .ok (.new 55, 3) := by decide +kernel
theorem dX2_transpose_59 : decode cX2_transpose 59 = .ok (.dup, 1) := by decide +kernel
theorem dX2_transpose_60 : decode cX2_transpose 60 = .ok (.ldc 154, 2) := by decide +kernel
theorem dX2_transpose_62 : decode cX2_transpose 62 = .ok (.invokespecial 59, 3) := by decide +kernel
theorem dX2_transpose_65 : decode cX2_transpose 65 = .ok (.athrow, 1) := by decide +kernel
theorem dX2_transpose_66 : decode cX2_transpose 66 = .ok (.iconst 0, 1) := by decide +kernel
theorem dX2_transpose_67 : decode cX2_transpose 67 = .ok (.istore 4, 2) := by decide +kernel
theorem dX2_transpose_69 : decode cX2_transpose 69 = .ok (.iload 4, 2) := by decide +kernel
theorem dX2_transpose_71 : decode cX2_transpose 71 = .ok (.aload_n 0, 1) := by decide +kernel
theorem dX2_transpose_72 : decode cX2_transpose 72 = .ok (.getfield 26, 3) := by decide +kernel
theorem dX2_transpose_75 : decode cX2_transpose 75 = .ok (.if_icmp .ge 34, 3) := by decide +kernel
theorem dX2_transpose_78 : decode cX2_transpose 78 = .ok (.aload_n 0, 1) := by decide +kernel
theorem dX2_transpose_79 : decode cX2_transpose 79 = .ok (.getfield 11, 3) := by decide +kernel
theorem dX2_transpose_82 : decode cX2_transpose 82 = .ok (.iload 4, 2) := by decide +kernel
theorem dX2_transpose_84 : decode cX2_transpose 84 = .ok (.aaload, 1) := by decide +kernel
theorem dX2_transpose_85 : decode cX2_transpose 85 = .ok (.iload_n 1, 1) := by decide +kernel
theorem dX2_transpose_86 : decode cX2_transpose 86 = .ok (.iload_n 2, 1) := by decide +kernel
theorem dX2_transpose_87 : decode cX2_transpose 87 = .ok (.invokevirtual 156, 3) := by decide +kernel
theorem dX2_transpose_90 : decode cX2_transpose 90 = .ok (.ifCond .ne 13, 3) := by decide +kernel
theorem dX2_transpose_93 : decode cX2_transpose 93 = .ok (.new 55, 3) := by decide +kernel
theorem dX2_transpose_96 : decode cX2_transpose 96 = .ok (.dup, 1) := by decide +kernel
theorem dX2_transpose_97 : decode cX2_transpose 97 = .ok (.ldc 160, 2) := by decide +kernel
theorem dX2_transpose_99 : decode cX2_transpose 99 = .ok (.invokespecial 59, 3) := by decide +kernel
theorem dX2_transpose_102 : decode cX2_transpose 102 = .ok (.athrow, 1) := by decide +kernel
theorem dX2_transpose_103 : decode cX2_transpose 103 = .ok (.iinc 4 1, 3) := by decide +kernel
theorem dX2_transpose_106 : decode cX2_transpose 106 = .ok (.goto (-37), 3) := by decide +kernel
theorem dX2_transpose_109 : decode cX2_transpose 109 = .ok (.iconst 0, 1) := by decide +kernel
theorem dX2_transpose_110 : decode cX2_transpose 110 = .ok (.istore 4, 2) := by decide +kernel
theorem dX2_transpose_112 : decode cX2_transpose 112 = .ok (.iload 4, 2) := by decide +kernel
theorem dX2_transpose_114 : decode cX2_transpose 114 = .ok (.aload_n 0, 1) := by decide +kernel
theorem dX2_transpose_115 : decode cX2_transpose 115 = .ok (.getfield 26, 3) := by decide +kernel
theorem dX2_transpose_118 : decode cX2_transpose 118 = .ok (.if_icmp .ge 21, 3) := by decide +kernel
theorem dX2_transpose_121 : decode cX2_transpose 121 = .ok (.aload_n 0, 1) := by decide +kernel
theorem dX2_transpose_122 : decode cX2_transpose 122 = .ok (.getfield 11, 3) := by decide +kernel
theorem dX2_transpose_125 : decode cX2_transpose 125 = .ok (.iload 4, 2) := by decide +kernel
theorem dX2_transpose_127 : decode cX2_transpose 127 = .ok (.aaload, 1) := by decide +kernel
theorem dX2_transpose_128 : decode cX2_transpose 128 = .ok (.iload_n 1, 1) := by decide +kernel
theorem dX2_transpose_129 : decode cX2_transpose 129 = .ok (.iload_n 2, 1) := by decide +kernel
theorem dX2_transpose_130 : decode cX2_transpose 130 = .ok (.invokevirtual 162, 3) := by decide +kernel
theorem dX2_transpose_133 : decode cX2_transpose 133 = .ok (.iinc 4 1, 3) := by decide +kernel
theorem dX2_transpose_136 : decode cX2_transpose 136 = .ok (.goto (-24), 3) := by decide +kernel
theorem dX2_transpose_139 : decode cX2_transpose 139 = .ok (.aload_n 0, 1) := by decide +kernel
theorem dX2_transpose_140 : decode cX2_transpose 140 = .ok (.iload_n 3, 1) := by decide +kernel
theorem dX2_transpose_141 : decode cX2_transpose 141 = .ok (.putfield 36, 3) := by decide +kernel
theorem dX2_transpose_144 : decode cX2_transpose 144 = .ok (.aload_n 0, 1) := by decide +kernel
theorem dX2_transpose_145 : decode cX2_transpose 145 = .ok (.invokevirtual 66, 3) := by decide +kernel
theorem dX2_transpose_148 : decode cX2_transpose 148 = .ok (.aload_n 0, 1) := by decide +kernel
theorem dX2_transpose_149 : decode cX2_transpose 149 = .ok (.getfield 36, 3) := by decide +kernel
theorem dX2_transpose_152 : decode cX2_transpose 152 = .ok (.ireturn, 1) := by decide +kernel
theorem dX2_faults_0 : decode cX2_faults 0 = .ok (.aload_n 0, 1) := by decide +kernel
theorem dX2_faults_1 : decode cX2_faults 1 = .ok (.invokevirtual 76, 3) := by decide +kernel
theorem dX2_faults_4 : decode cX2_faults 4 = .ok (.istore_n 1, 1) := by decide +kernel
theorem dX2_faults_5 : decode cX2_faults 5 = .ok (.iconst 0, 1) := by decide +kernel
theorem dX2_faults_6 : decode cX2_faults 6 = .ok (.istore_n 2, 1) := by decide +kernel
theorem dX2_faults_7 : decode cX2_faults 7 = .ok (.iconst 0, 1) := by decide +kernel
theorem dX2_faults_8 : decode cX2_faults 8 = .ok (.istore_n 3, 1) := by decide +kernel
theorem dX2_faults_9 : decode cX2_faults 9 = .ok (.iload_n 3, 1) := by decide +kernel
theorem dX2_faults_10 : decode cX2_faults 10 = .ok (.aload_n 0, 1) := by decide +kernel
theorem dX2_faults_11 : decode cX2_faults 11 = .ok (.getfield 26, 3) := by decide +kernel
theorem dX2_faults_14 : decode cX2_faults 14 = .ok (.if_icmp .ge 81, 3) := by decide +kernel
theorem dX2_faults_17 : decode cX2_faults 17 = .ok (.iload_n 2, 1) := by decide +kernel
theorem dX2_faults_18 : decode cX2_faults 18 = .ok (.iload_n 1, 1) := by decide +kernel
theorem dX2_faults_19 : decode cX2_faults 19 = .ok (.aload_n 0, 1) := by decide +kernel
theorem dX2_faults_20 : decode cX2_faults 20 = .ok (.getfield 11, 3) := by decide +kernel
theorem dX2_faults_23 : decode cX2_faults 23 = .ok (.iload_n 3, 1) := by decide +kernel
theorem dX2_faults_24 : decode cX2_faults 24 = .ok (.aaload, 1) := by decide +kernel
theorem dX2_faults_25 : decode cX2_faults 25 = .ok (.getfield 165, 3) := by decide +kernel
theorem dX2_faults_28 : decode cX2_faults 28 = .ok (.aload_n 0, 1) := by decide +kernel
theorem dX2_faults_29 : decode cX2_faults 29 = .ok (.getfield 33, 3) := by decide +kernel
theorem dX2_faults_32 : decode cX2_faults 32 = .ok (.invokestatic 168, 3) := by decide +kernel
theorem dX2_faults_35 : decode cX2_faults 35 = .ok (.isub, 1) := by decide +kernel
theorem dX2_faults_36 : decode cX2_faults 36 = .ok (.iadd, 1) := by decide +kernel
theorem dX2_faults_37 : decode cX2_faults 37 = .ok (.istore_n 2, 1) := by decide +kernel
theorem dX2_faults_38 : decode cX2_faults 38 = .ok (.iload_n 2, 1) := by decide +kernel
theorem dX2_faults_39 : decode cX2_faults 39 = .ok (.aload_n 0, 1) := by decide +kernel
theorem dX2_faults_40 : decode cX2_faults 40 = .ok (.getfield 11, 3) := by decide +kernel
theorem dX2_faults_43 : decode cX2_faults 43 = .ok (.iload_n 3, 1) := by decide +kernel
theorem dX2_faults_44 : decode cX2_faults 44 = .ok (.aaload, 1) := by decide +kernel
theorem dX2_faults_45 : decode cX2_faults 45 = .ok (.invokevirtual 171, 3) := by decide +kernel
theorem dX2_faults_48 : decode cX2_faults 48 = .ok (.iadd, 1) := by decide +kernel
theorem dX2_faults_49 : decode cX2_faults 49 = .ok (.istore_n 2, 1) := by decide +kernel
theorem dX2_faults_50 : decode cX2_faults 50 = .ok (.iload_n 3, 1) := by decide +kernel
theorem dX2_faults_51 : decode cX2_faults 51 = .ok (.iconst 1, 1) := by decide +kernel
theorem dX2_faults_52 : decode cX2_faults 52 = .ok (.iadd, 1) := by decide +kernel
theorem dX2_faults_53 : decode cX2_faults 53 = .ok (.istore 4, 2) := by decide +kernel
theorem dX2_faults_55 : decode cX2_faults 55 = .ok (.iload 4, 2) := by decide +kernel
theorem dX2_faults_57 : decode cX2_faults 57 = .ok (.aload_n 0, 1) := by decide +kernel
theorem dX2_faults_58 : decode cX2_faults 58 = .ok (.getfield 26, 3) := by decide +kernel
theorem dX2_faults_61 : decode cX2_faults 61 = .ok (.if_icmp .ge 28, 3) := by decide +kernel
theorem dX2_faults_64 : decode cX2_faults 64 = .ok (.iload_n 2, 1) := by decide +kernel
theorem dX2_faults_65 : decode cX2_faults 65 = .ok (.aload_n 0, 1) := by decide +kernel
theorem dX2_faults_66 : decode cX2_faults 66 = .ok (.getfield 11, 3) := by decide +kernel
theorem dX2_faults_69 : decode cX2_faults 69 = .ok (.iload_n 3, 1) := by decide +kernel
theorem dX2_faults_70 : decode cX2_faults 70 = .ok (.aaload, 1) := by decide +kernel
theorem dX2_faults_71 : decode cX2_faults 71 = .ok (.aload_n 0, 1) := by decide +kernel
theorem dX2_faults_72 : decode cX2_faults 72 = .ok (.getfield 11, 3) := by decide +kernel
theorem dX2_faults_75 : decode cX2_faults 75 = .ok (.iload 4, 2) := by decide +kernel
theorem dX2_faults_77 : decode cX2_faults 77 = .ok (.aaload, 1) := by decide +kernel
theorem dX2_faults_78 : decode cX2_faults 78 = .ok (.invokestatic 174, 3) := by decide +kernel
theorem dX2_faults_81 : decode cX2_faults 81 = .ok (.iadd, 1) := by decide +kernel
theorem dX2_faults_82 : decode cX2_faults 82 = .ok (.istore_n 2, 1) := by decide +kernel
theorem dX2_faults_83 : decode cX2_faults 83 = .ok (.iinc 4 1, 3) := by decide +kernel
theorem dX2_faults_86 : decode cX2_faults 86 = .ok (.goto (-31), 3) := by decide +kernel
theorem dX2_faults_89 : decode cX2_faults 89 = .ok (.iinc 3 1, 3) := by decide +kernel
theorem dX2_faults_92 : decode cX2_faults 92 = .ok (.goto (-83), 3) := by decide +kernel
theorem dX2_faults_95 : decode cX2_faults 95 = .ok (.iload_n 2, 1) := by decide +kernel
theorem dX2_faults_96 : decode cX2_faults 96 = .ok (.ireturn, 1) := by decide +kernel
theorem dX2_interval_0 : decode cX2_interval 0 = .ok (.aload_n 0, 1) := by decide +kernel
theorem dX2_interval_1 : decode cX2_interval 1 = .ok (.iload_n 1, 1) := by decide +kernel
theorem dX2_interval_2 : decode cX2_interval 2 = .ok (.invokevirtual 93, 3) := by decide +kernel
theorem dX2_interval_5 : decode cX2_interval 5 = .ok (.aload_n 0, 1) := by decide +kernel
theorem dX2_interval_6 : decode cX2_interval 6 = .ok (.iload_n 2, 1) := by decide +kernel
theorem dX2_interval_7 : decode cX2_interval 7 = .ok (.invokevirtual 93, 3) := by decide +kernel
theorem dX2_interval_10 : decode cX2_interval 10 = .ok (.iload_n 3, 1) := by decide +kernel
theorem dX2_interval_11 : decode cX2_interval 11 = .ok (.ifCond .ge 13, 3) := by decide +kernel
theorem dX2_interval_14 : decode cX2_interval 14 = .ok (.new 44, 3) := by decide +kernel
theorem dX2_interval_17 : decode cX2_interval 17 = .ok (.dup, 1) := by decide +kernel
theorem dX2_interval_18 : decode cX2_interval 18 = .ok (.ldc 178, 2) := by decide +kernel
theorem dX2_interval_20 : decode cX2_interval 20 = .ok (.invokespecial 48, 3) := by decide +kernel
theorem dX2_interval_23 : decode cX2_interval 23 = .ok (.athrow, 1) := by decide +kernel
theorem dX2_interval_24 : decode cX2_interval 24 = .ok (.aload_n 0, 1) := by decide +kernel
theorem dX2_interval_25 : decode cX2_interval 25 = .ok (.getfield 11, 3) := by decide +kernel
theorem dX2_interval_28 : decode cX2_interval 28 = .ok (.iload_n 1, 1) := by decide +kernel
theorem dX2_interval_29 : decode cX2_interval 29 = .ok (.aaload, 1) := by decide +kernel
theorem dX2_interval_30 : decode cX2_interval 30 = .ok (.iload_n 3, 1) := by decide +kernel
theorem dX2_interval_31 : decode cX2_interval 31 = .ok (.invokevirtual 180, 3) := by decide +kernel
theorem dX2_interval_34 : decode cX2_interval 34 = .ok (.istore 4, 2) := by decide +kernel
theorem dX2_interval_36 : decode cX2_interval 36 = .ok (.aload_n 0, 1) := by decide +kernel
theorem dX2_interval_37 : decode cX2_interval 37 = .ok (.getfield 11, 3) := by decide +kernel
theorem dX2_interval_40 : decode cX2_interval 40 = .ok (.iload_n 2, 1) := by decide +kernel
theorem dX2_interval_41 : decode cX2_interval 41 = .ok (.aaload, 1) := by decide +kernel
theorem dX2_interval_42 : decode cX2_interval 42 = .ok (.iload_n 3, 1) := by decide +kernel
theorem dX2_interval_43 : decode cX2_interval 43 = .ok (.invokevirtual 180, 3) := by decide +kernel
theorem dX2_interval_46 : decode cX2_interval 46 = .ok (.istore 5, 2) := by decide +kernel
theorem dX2_interval_48 : decode cX2_interval 48 = .ok (.iload 4, 2) := by decide +kernel
theorem dX2_interval_50 : decode cX2_interval 50 = .ok (.iconst (-1), 1) := by decide +kernel
theorem dX2_interval_51 : decode cX2_interval 51 = .ok (.if_icmp .eq 9, 3) := by decide +kernel
theorem dX2_interval_54 : decode cX2_interval 54 = .ok (.iload 5, 2) := by decide +kernel
theorem dX2_interval_56 : decode cX2_interval 56 = .ok (.iconst (-1), 1) := by decide +kernel
theorem dX2_interval_57 : decode cX2_interval 57 = .ok (.if_icmp .ne 8, 3) := by decide +kernel
theorem dX2_interval_60 : decode cX2_interval 60 = .ok (.bipush (-100), 2) := by decide +kernel
theorem dX2_interval_62 : decode cX2_interval 62 = .ok (.goto 8, 3) := by decide +kernel
theorem dX2_interval_65 : decode cX2_interval 65 = .ok (.iload 5, 2) := by decide +kernel
theorem dX2_interval_67 : decode cX2_interval 67 = .ok (.iload 4, 2) := by decide +kernel
theorem dX2_interval_69 : decode cX2_interval 69 = .ok (.isub, 1) := by decide +kernel
theorem dX2_interval_70 : decode cX2_interval 70 = .ok (.ireturn, 1) := by decide +kernel
theorem dX2_event_0 : decode cX2_event 0 = .ok (.iload_n 1, 1) := by decide +kernel
theorem dX2_event_1 : decode cX2_event 1 = .ok (.ifCond .lt 11, 3) := by decide +kernel
theorem dX2_event_4 : decode cX2_event 4 = .ok (.iload_n 1, 1) := by decide +kernel
theorem dX2_event_5 : decode cX2_event 5 = .ok (.aload_n 0, 1) := by decide +kernel
theorem dX2_event_6 : decode cX2_event 6 = .ok (.invokevirtual 183, 3) := by decide +kernel
theorem dX2_event_9 : decode cX2_event 9 = .ok (.if_icmp .lt 13, 3) := by decide +kernel
theorem dX2_event_12 : decode cX2_event 12 = .ok (.new 71, 3) := by decide +kernel
theorem dX2_event_15 : decode cX2_event 15 = .ok (.dup, 1) := by decide +kernel
theorem dX2_event_16 : decode cX2_event 16 = .ok (.ldc 186, 2) := by decide +kernel
theorem dX2_event_18 : decode cX2_event 18 = .ok (.invokespecial 75, 3) := by decide +kernel
theorem dX2_event_21 : decode cX2_event 21 = .ok (.athrow, 1) := by decide +kernel
theorem dX2_event_22 : decode cX2_event 22 = .ok (.iload_n 2, 1) := by decide +kernel
theorem dX2_event_23 : decode cX2_event 23 = .ok (.ifCond .lt 8, 3) := by decide +kernel
theorem dX2_event_26 : decode cX2_event 26 = .ok (.iload_n 2, 1) := by decide +kernel
theorem dX2_event_27 : decode cX2_event 27 = .ok (.iconst 4, 1) := by decide +kernel
theorem dX2_event_28 : decode cX2_event 28 = .ok (.if_icmp .lt 13, 3) := by decide +kernel
theorem dX2_event_31 : decode cX2_event 31 = .ok (.new 71, 3) := by decide +kernel
theorem dX2_event_34 : decode cX2_event 34 = .ok (.dup, 1) := by decide +kernel
theorem dX2_event_35 : decode cX2_event 35 = .ok (.ldc 188, 2) := by decide +kernel
theorem dX2_event_37 : decode cX2_event 37 = .ok (.invokespecial 75, 3) := by decide +kernel
theorem dX2_event_40 : decode cX2_event 40 = .ok (.athrow, 1) := by decide +kernel
theorem dX2_event_41 : decode cX2_event 41 = .ok (.aload_n 0, 1) := by decide +kernel
theorem dX2_event_42 : decode cX2_event 42 = .ok (.invokevirtual 190, 3) := by decide +kernel
theorem dX2_event_45 : decode cX2_event 45 = .ok (.aload_n 0, 1) := by decide +kernel
theorem dX2_event_46 : decode cX2_event 46 = .ok (.getfield 18, 3) := by decide +kernel
theorem dX2_event_49 : decode cX2_event 49 = .ok (.getfield 193, 3) := by decide +kernel
theorem dX2_event_52 : decode cX2_event 52 = .ok (.iload_n 2, 1) := by decide +kernel
theorem dX2_event_53 : decode cX2_event 53 = .ok (.aaload, 1) := by decide +kernel
theorem dX2_event_54 : decode cX2_event 54 = .ok (.iload_n 1, 1) := by decide +kernel
theorem dX2_event_55 : decode cX2_event 55 = .ok (.iaload, 1) := by decide +kernel
theorem dX2_event_56 : decode cX2_event 56 = .ok (.ireturn, 1) := by decide +kernel
theorem dX2_events_0 : decode cX2_events 0 = .ok (.aload_n 0, 1) := by decide +kernel
theorem dX2_events_1 : decode cX2_events 1 = .ok (.invokevirtual 183, 3) := by decide +kernel
theorem dX2_events_4 : decode cX2_events 4 = .ok (.ireturn, 1) := by decide +kernel
theorem dX2_time_0 : decode cX2_time 0 = .ok (.iload_n 1, 1) := by decide +kernel
theorem dX2_time_1 : decode cX2_time 1 = .ok (.ifCond .lt 22, 3) := by decide +kernel
theorem dX2_time_4 : decode cX2_time 4 = .ok (.iload_n 1, 1) := by decide +kernel
theorem dX2_time_5 : decode cX2_time 5 = .ok (.ldc 194, 2) := by decide +kernel
theorem dX2_time_7 : decode cX2_time 7 = .ok (.if_icmp .gt 16, 3) := by decide +kernel
theorem dX2_time_10 : decode cX2_time 10 = .ok (.iload_n 2, 1) := by decide +kernel
theorem dX2_time_11 : decode cX2_time 11 = .ok (.bipush 10, 2) := by decide +kernel
theorem dX2_time_13 : decode cX2_time 13 = .ok (.if_icmp .lt 10, 3) := by decide +kernel
theorem dX2_time_16 : decode cX2_time 16 = .ok (.iload_n 2, 1) := by decide +kernel
theorem dX2_time_17 : decode cX2_time 17 = .ok (.sipush 400, 3) := by decide +kernel
theorem dX2_time_20 : decode cX2_time 20 = .ok (.if_icmp .le 13, 3) := by decide +kernel
theorem dX2_time_23 : decode cX2_time 23 = .ok (.new 44, 3) := by decide +kernel
theorem dX2_time_26 : decode cX2_time 26 = .ok (.dup, 1) := by decide +kernel
theorem dX2_time_27 : decode cX2_time 27 = .ok (.ldc 195, 2) := by decide +kernel
theorem dX2_time_29 : decode cX2_time 29 = .ok (.invokespecial 48, 3) := by decide +kernel
theorem dX2_time_32 : decode cX2_time 32 = .ok (.athrow, 1) := by decide +kernel
theorem dX2_time_33 : decode cX2_time 33 = .ok (.iload_n 1, 1) := by decide +kernel
theorem dX2_time_34 : decode cX2_time 34 = .ok (.i2l, 1) := by decide +kernel
theorem dX2_time_35 : decode cX2_time 35 = .ok (.ldc2_w 197, 3) := by decide +kernel
theorem dX2_time_38 : decode cX2_time 38 = .ok (.lmul, 1) := by decide +kernel
theorem dX2_time_39 : decode cX2_time 39 = .ok (.iload_n 2, 1) := by decide +kernel
theorem dX2_time_40 : decode cX2_time 40 = .ok (.i2l, 1) := by decide +kernel
theorem dX2_time_41 : decode cX2_time 41 = .ok (.ldiv, 1) := by decide +kernel
theorem dX2_time_42 : decode cX2_time 42 = .ok (.lreturn, 1) := by decide +kernel
theorem dX2_meanTone_0 : decode cX2_meanTone 0 = .ok (.lconst 0, 1) := by decide +kernel
theorem dX2_meanTone_1 : decode cX2_meanTone 1 = .ok (.lstore_n 1, 1) := by decide +kernel
theorem dX2_meanTone_2 : decode cX2_meanTone 2 = .ok (.lconst 0, 1) := by decide +kernel
theorem dX2_meanTone_3 : decode cX2_meanTone 3 = .ok (.lstore_n 3, 1) := by decide +kernel
theorem dX2_meanTone_4 : decode cX2_meanTone 4 = .ok (.iconst 0, 1) := by decide +kernel
theorem dX2_meanTone_5 : decode cX2_meanTone 5 = .ok (.istore 5, 2) := by decide +kernel
theorem dX2_meanTone_7 : decode cX2_meanTone 7 = .ok (.iload 5, 2) := by decide +kernel
theorem dX2_meanTone_9 : decode cX2_meanTone 9 = .ok (.aload_n 0, 1) := by decide +kernel
theorem dX2_meanTone_10 : decode cX2_meanTone 10 = .ok (.getfield 26, 3) := by decide +kernel
theorem dX2_meanTone_13 : decode cX2_meanTone 13 = .ok (.if_icmp .ge 87, 3) := by decide +kernel
theorem dX2_meanTone_16 : decode cX2_meanTone 16 = .ok (.aload_n 0, 1) := by decide +kernel
theorem dX2_meanTone_17 : decode cX2_meanTone 17 = .ok (.getfield 11, 3) := by decide +kernel
theorem dX2_meanTone_20 : decode cX2_meanTone 20 = .ok (.iload 5, 2) := by decide +kernel
theorem dX2_meanTone_22 : decode cX2_meanTone 22 = .ok (.aaload, 1) := by decide +kernel
theorem dX2_meanTone_23 : decode cX2_meanTone 23 = .ok (.astore 6, 2) := by decide +kernel
theorem dX2_meanTone_25 : decode cX2_meanTone 25 = .ok (.iconst 0, 1) := by decide +kernel
theorem dX2_meanTone_26 : decode cX2_meanTone 26 = .ok (.istore 7, 2) := by decide +kernel
theorem dX2_meanTone_28 : decode cX2_meanTone 28 = .ok (.iload 7, 2) := by decide +kernel
theorem dX2_meanTone_30 : decode cX2_meanTone 30 = .ok (.aload 6, 2) := by decide +kernel
theorem dX2_meanTone_32 : decode cX2_meanTone 32 = .ok (.getfield 103, 3) := by decide +kernel
theorem dX2_meanTone_35 : decode cX2_meanTone 35 = .ok (.if_icmp .ge 59, 3) := by decide +kernel
theorem dX2_meanTone_38 : decode cX2_meanTone 38 = .ok (.aload 6, 2) := by decide +kernel
theorem dX2_meanTone_40 : decode cX2_meanTone 40 = .ok (.iload 7, 2) := by decide +kernel
theorem dX2_meanTone_42 : decode cX2_meanTone 42 = .ok (.invokevirtual 131, 3) := by decide +kernel
theorem dX2_meanTone_45 : decode cX2_meanTone 45 = .ok (.ifCond .eq 43, 3) := by decide +kernel
theorem dX2_meanTone_48 : decode cX2_meanTone 48 = .ok (.lload_n 1, 1) := by decide +kernel
theorem dX2_meanTone_49 : decode cX2_meanTone 49 = .ok (.aload 6, 2) := by decide +kernel
theorem dX2_meanTone_51 : decode cX2_meanTone 51 = .ok (.getfield 114, 3) := by decide +kernel
theorem dX2_meanTone_54 : decode cX2_meanTone 54 = .ok (.iconst 4, 1) := by decide +kernel
theorem dX2_meanTone_55 : decode cX2_meanTone 55 = .ok (.aaload, 1) := by decide +kernel
theorem dX2_meanTone_56 : decode cX2_meanTone 56 = .ok (.iload 7, 2) := by decide +kernel
theorem dX2_meanTone_58 : decode cX2_meanTone 58 = .ok (.iaload, 1) := by decide +kernel
theorem dX2_meanTone_59 : decode cX2_meanTone 59 = .ok (.i2l, 1) := by decide +kernel
theorem dX2_meanTone_60 : decode cX2_meanTone 60 = .ok (.aload 6, 2) := by decide +kernel
theorem dX2_meanTone_62 : decode cX2_meanTone 62 = .ok (.getfield 114, 3) := by decide +kernel
theorem dX2_meanTone_65 : decode cX2_meanTone 65 = .ok (.iconst 1, 1) := by decide +kernel
theorem dX2_meanTone_66 : decode cX2_meanTone 66 = .ok (.aaload, 1) := by decide +kernel
theorem dX2_meanTone_67 : decode cX2_meanTone 67 = .ok (.iload 7, 2) := by decide +kernel
theorem dX2_meanTone_69 : decode cX2_meanTone 69 = .ok (.iaload, 1) := by decide +kernel
theorem dX2_meanTone_70 : decode cX2_meanTone 70 = .ok (.i2l, 1) := by decide +kernel
theorem dX2_meanTone_71 : decode cX2_meanTone 71 = .ok (.lmul, 1) := by decide +kernel
theorem dX2_meanTone_72 : decode cX2_meanTone 72 = .ok (.ladd, 1) := by decide +kernel
theorem dX2_meanTone_73 : decode cX2_meanTone 73 = .ok (.lstore_n 1, 1) := by decide +kernel
theorem dX2_meanTone_74 : decode cX2_meanTone 74 = .ok (.lload_n 3, 1) := by decide +kernel
theorem dX2_meanTone_75 : decode cX2_meanTone 75 = .ok (.aload 6, 2) := by decide +kernel
theorem dX2_meanTone_77 : decode cX2_meanTone 77 = .ok (.getfield 114, 3) := by decide +kernel
theorem dX2_meanTone_80 : decode cX2_meanTone 80 = .ok (.iconst 1, 1) := by decide +kernel
theorem dX2_meanTone_81 : decode cX2_meanTone 81 = .ok (.aaload, 1) := by decide +kernel
theorem dX2_meanTone_82 : decode cX2_meanTone 82 = .ok (.iload 7, 2) := by decide +kernel
theorem dX2_meanTone_84 : decode cX2_meanTone 84 = .ok (.iaload, 1) := by decide +kernel
theorem dX2_meanTone_85 : decode cX2_meanTone 85 = .ok (.i2l, 1) := by decide +kernel
theorem dX2_meanTone_86 : decode cX2_meanTone 86 = .ok (.ladd, 1) := by decide +kernel
theorem dX2_meanTone_87 : decode cX2_meanTone 87 = .ok (.lstore_n 3, 1) := by decide +kernel
theorem dX2_meanTone_88 : decode cX2_meanTone 88 = .ok (.iinc 7 1, 3) := by decide +kernel
theorem dX2_meanTone_91 : decode cX2_meanTone 91 = .ok (.goto (-63), 3) := by decide +kernel
theorem dX2_meanTone_94 : decode cX2_meanTone 94 = .ok (.iinc 5 1, 3) := by decide +kernel
theorem dX2_meanTone_97 : decode cX2_meanTone 97 = .ok (.goto (-90), 3) := by decide +kernel
theorem dX2_meanTone_100 : decode cX2_meanTone 100 = .ok (.lload_n 3, 1) := by decide +kernel
theorem dX2_meanTone_101 : decode cX2_meanTone 101 = .ok (.lconst 0, 1) := by decide +kernel
theorem dX2_meanTone_102 : decode cX2_meanTone 102 = .ok (.lcmp, 1) := by decide +kernel
theorem dX2_meanTone_103 : decode cX2_meanTone 103 = .ok (.ifCond .le 11, 3) := by decide +kernel
theorem dX2_meanTone_106 : decode cX2_meanTone 106 = .ok (.lload_n 1, 1) := by decide +kernel
theorem dX2_meanTone_107 : decode cX2_meanTone 107 = .ok (.l2d, 1) := by decide +kernel
theorem dX2_meanTone_108 : decode cX2_meanTone 108 = .ok (.lload_n 3, 1) := by decide +kernel
theorem dX2_meanTone_109 : decode cX2_meanTone 109 = .ok (.l2d, 1) := by decide +kernel
theorem dX2_meanTone_110 : decode cX2_meanTone 110 = .ok (.ddiv, 1) := by decide +kernel
theorem dX2_meanTone_111 : decode cX2_meanTone 111 = .ok (.goto 4, 3) := by decide +kernel
theorem dX2_meanTone_114 : decode cX2_meanTone 114 = .ok (.dconst 0, 1) := by decide +kernel
theorem dX2_meanTone_115 : decode cX2_meanTone 115 = .ok (.dreturn, 1) := by decide +kernel
theorem dX2_digest_0 : decode cX2_digest 0 = .ok (.ldc2_w 199, 3) := by decide +kernel
theorem dX2_digest_3 : decode cX2_digest 3 = .ok (.lstore_n 1, 1) := by decide +kernel
theorem dX2_digest_4 : decode cX2_digest 4 = .ok (.iconst 0, 1) := by decide +kernel
theorem dX2_digest_5 : decode cX2_digest 5 = .ok (.istore_n 3, 1) := by decide +kernel
theorem dX2_digest_6 : decode cX2_digest 6 = .ok (.iload_n 3, 1) := by decide +kernel
theorem dX2_digest_7 : decode cX2_digest 7 = .ok (.iconst 5, 1) := by decide +kernel
theorem dX2_digest_8 : decode cX2_digest 8 = .ok (.if_icmp .ge 22, 3) := by decide +kernel
theorem dX2_digest_11 : decode cX2_digest 11 = .ok (.lload_n 1, 1) := by decide +kernel
theorem dX2_digest_12 : decode cX2_digest 12 = .ok (.ldc2_w 201, 3) := by decide +kernel
theorem dX2_digest_15 : decode cX2_digest 15 = .ok (.lmul, 1) := by decide +kernel
theorem dX2_digest_16 : decode cX2_digest 16 = .ok (.aload_n 0, 1) := by decide +kernel
theorem dX2_digest_17 : decode cX2_digest 17 = .ok (.iload_n 3, 1) := by decide +kernel
theorem dX2_digest_18 : decode cX2_digest 18 = .ok (.invokevirtual 203, 3) := by decide +kernel
theorem dX2_digest_21 : decode cX2_digest 21 = .ok (.i2l, 1) := by decide +kernel
theorem dX2_digest_22 : decode cX2_digest 22 = .ok (.ladd, 1) := by decide +kernel
theorem dX2_digest_23 : decode cX2_digest 23 = .ok (.lstore_n 1, 1) := by decide +kernel
theorem dX2_digest_24 : decode cX2_digest 24 = .ok (.iinc 3 1, 3) := by decide +kernel
theorem dX2_digest_27 : decode cX2_digest 27 = .ok (.goto (-21), 3) := by decide +kernel
theorem dX2_digest_30 : decode cX2_digest 30 = .ok (.iconst 0, 1) := by decide +kernel
theorem dX2_digest_31 : decode cX2_digest 31 = .ok (.istore_n 3, 1) := by decide +kernel
theorem dX2_digest_32 : decode cX2_digest 32 = .ok (.iload_n 3, 1) := by decide +kernel
theorem dX2_digest_33 : decode cX2_digest 33 = .ok (.aload_n 0, 1) := by decide +kernel
theorem dX2_digest_34 : decode cX2_digest 34 = .ok (.getfield 26, 3) := by decide +kernel
theorem dX2_digest_37 : decode cX2_digest 37 = .ok (.if_icmp .ge 20, 3) := by decide +kernel
theorem dX2_digest_40 : decode cX2_digest 40 = .ok (.lload_n 1, 1) := by decide +kernel
theorem dX2_digest_41 : decode cX2_digest 41 = .ok (.aload_n 0, 1) := by decide +kernel
theorem dX2_digest_42 : decode cX2_digest 42 = .ok (.getfield 11, 3) := by decide +kernel
theorem dX2_digest_45 : decode cX2_digest 45 = .ok (.iload_n 3, 1) := by decide +kernel
theorem dX2_digest_46 : decode cX2_digest 46 = .ok (.aaload, 1) := by decide +kernel
theorem dX2_digest_47 : decode cX2_digest 47 = .ok (.invokestatic 206, 3) := by decide +kernel
theorem dX2_digest_50 : decode cX2_digest 50 = .ok (.lstore_n 1, 1) := by decide +kernel
theorem dX2_digest_51 : decode cX2_digest 51 = .ok (.iinc 3 1, 3) := by decide +kernel
theorem dX2_digest_54 : decode cX2_digest 54 = .ok (.goto (-22), 3) := by decide +kernel
theorem dX2_digest_57 : decode cX2_digest 57 = .ok (.lload_n 1, 1) := by decide +kernel
theorem dX2_digest_58 : decode cX2_digest 58 = .ok (.ldc2_w 201, 3) := by decide +kernel
theorem dX2_digest_61 : decode cX2_digest 61 = .ok (.lmul, 1) := by decide +kernel
theorem dX2_digest_62 : decode cX2_digest 62 = .ok (.aload_n 0, 1) := by decide +kernel
theorem dX2_digest_63 : decode cX2_digest 63 = .ok (.invokevirtual 210, 3) := by decide +kernel
theorem dX2_digest_66 : decode cX2_digest 66 = .ok (.i2l, 1) := by decide +kernel
theorem dX2_digest_67 : decode cX2_digest 67 = .ok (.ladd, 1) := by decide +kernel
theorem dX2_digest_68 : decode cX2_digest 68 = .ok (.lstore_n 1, 1) := by decide +kernel
theorem dX2_digest_69 : decode cX2_digest 69 = .ok (.lload_n 1, 1) := by decide +kernel
theorem dX2_digest_70 : decode cX2_digest 70 = .ok (.ldc2_w 201, 3) := by decide +kernel
theorem dX2_digest_73 : decode cX2_digest 73 = .ok (.lmul, 1) := by decide +kernel
theorem dX2_digest_74 : decode cX2_digest 74 = .ok (.aload_n 0, 1) := by decide +kernel
theorem dX2_digest_75 : decode cX2_digest 75 = .ok (.invokevirtual 183, 3) := by decide +kernel
theorem dX2_digest_78 : decode cX2_digest 78 = .ok (.i2l, 1) := by decide +kernel
theorem dX2_digest_79 : decode cX2_digest 79 = .ok (.ladd, 1) := by decide +kernel
theorem dX2_digest_80 : decode cX2_digest 80 = .ok (.lstore_n 1, 1) := by decide +kernel
theorem dX2_digest_81 : decode cX2_digest 81 = .ok (.aload_n 0, 1) := by decide +kernel
theorem dX2_digest_82 : decode cX2_digest 82 = .ok (.invokevirtual 190, 3) := by decide +kernel
theorem dX2_digest_85 : decode cX2_digest 85 = .ok (.aload_n 0, 1) := by decide +kernel
theorem dX2_digest_86 : decode cX2_digest 86 = .ok (.lload_n 1, 1) := by decide +kernel
theorem dX2_digest_87 : decode cX2_digest 87 = .ok (.invokevirtual 213, 3) := by decide +kernel
theorem dX2_digest_90 : decode cX2_digest 90 = .ok (.lreturn, 1) := by decide +kernel
theorem dX2_requireVoice_0 : decode cX2_requireVoice 0 = .ok (.iload_n 1, 1) := by decide +kernel
theorem dX2_requireVoice_1 : decode cX2_requireVoice 1 = .ok (.ifCond .lt 11, 3) := by decide +kernel
theorem dX2_requireVoice_4 : decode cX2_requireVoice 4 = .ok (.iload_n 1, 1) := by decide +kernel
theorem dX2_requireVoice_5 : decode cX2_requireVoice 5 = .ok (.aload_n 0, 1) := by decide +kernel
theorem dX2_requireVoice_6 : decode cX2_requireVoice 6 = .ok (.getfield 26, 3) := by decide +kernel
theorem dX2_requireVoice_9 : decode cX2_requireVoice 9 = .ok (.if_icmp .lt 13, 3) := by decide +kernel
theorem dX2_requireVoice_12 : decode cX2_requireVoice 12 = .ok (.new 71, 3) := by decide +kernel
theorem dX2_requireVoice_15 : decode cX2_requireVoice 15 = .ok (.dup, 1) := by decide +kernel
theorem dX2_requireVoice_16 : decode cX2_requireVoice 16 = .ok (.ldc 217, 2) := by decide +kernel
theorem dX2_requireVoice_18 : decode cX2_requireVoice 18 = .ok (.invokespecial 75, 3) := by decide +kernel
theorem dX2_requireVoice_21 : decode cX2_requireVoice 21 = .ok (.athrow, 1) := by decide +kernel
theorem dX2_requireVoice_22 : decode cX2_requireVoice 22 = .ok (.return_, 1) := by decide +kernel
theorem dX2_requireElement_0 : decode cX2_requireElement 0 = .ok (.aload_n 0, 1) := by decide +kernel
theorem dX2_requireElement_1 : decode cX2_requireElement 1 = .ok (.iload_n 1, 1) := by decide +kernel
theorem dX2_requireElement_2 : decode cX2_requireElement 2 = .ok (.invokevirtual 93, 3) := by decide +kernel
theorem dX2_requireElement_5 : decode cX2_requireElement 5 = .ok (.iload_n 2, 1) := by decide +kernel
theorem dX2_requireElement_6 : decode cX2_requireElement 6 = .ok (.ifCond .lt 16, 3) := by decide +kernel
theorem dX2_requireElement_9 : decode cX2_requireElement 9 = .ok (.iload_n 2, 1) := by decide +kernel
theorem dX2_requireElement_10 : decode cX2_requireElement 10 = .ok (.aload_n 0, 1) := by decide +kernel
theorem dX2_requireElement_11 : decode cX2_requireElement 11 = .ok (.getfield 11, 3) := by decide +kernel
theorem dX2_requireElement_14 : decode cX2_requireElement 14 = .ok (.iload_n 1, 1) := by decide +kernel
theorem dX2_requireElement_15 : decode cX2_requireElement 15 = .ok (.aaload, 1) := by decide +kernel
theorem dX2_requireElement_16 : decode cX2_requireElement 16 = .ok (.getfield 103, 3) := by decide +kernel
theorem dX2_requireElement_19 : decode cX2_requireElement 19 = .ok (.if_icmp .lt 13, 3) := by decide +kernel
theorem dX2_requireElement_22 : decode cX2_requireElement 22 = .ok (.new 71, 3) := by decide +kernel
theorem dX2_requireElement_25 : decode cX2_requireElement 25 = .ok (.dup, 1) := by decide +kernel
theorem dX2_requireElement_26 : decode cX2_requireElement 26 = .ok (.ldc 219, 2) := by decide +kernel
theorem dX2_requireElement_28 : decode cX2_requireElement 28 = .ok (.invokespecial 75, 3) := by decide +kernel
theorem dX2_requireElement_31 : decode cX2_requireElement 31 = .ok (.athrow, 1) := by decide +kernel
theorem dX2_requireElement_32 : decode cX2_requireElement 32 = .ok (.return_, 1) := by decide +kernel
theorem dX2_greatestEnd_0 : decode cX2_greatestEnd 0 = .ok (.iconst 0, 1) := by decide +kernel
theorem dX2_greatestEnd_1 : decode cX2_greatestEnd 1 = .ok (.istore_n 1, 1) := by decide +kernel
theorem dX2_greatestEnd_2 : decode cX2_greatestEnd 2 = .ok (.iconst 0, 1) := by decide +kernel
theorem dX2_greatestEnd_3 : decode cX2_greatestEnd 3 = .ok (.istore_n 2, 1) := by decide +kernel
theorem dX2_greatestEnd_4 : decode cX2_greatestEnd 4 = .ok (.iload_n 2, 1) := by decide +kernel
theorem dX2_greatestEnd_5 : decode cX2_greatestEnd 5 = .ok (.aload_n 0, 1) := by decide +kernel
theorem dX2_greatestEnd_6 : decode cX2_greatestEnd 6 = .ok (.getfield 26, 3) := by decide +kernel
theorem dX2_greatestEnd_9 : decode cX2_greatestEnd 9 = .ok (.if_icmp .ge 23, 3) := by decide +kernel
theorem dX2_greatestEnd_12 : decode cX2_greatestEnd 12 = .ok (.iload_n 1, 1) := by decide +kernel
theorem dX2_greatestEnd_13 : decode cX2_greatestEnd 13 = .ok (.aload_n 0, 1) := by decide +kernel
theorem dX2_greatestEnd_14 : decode cX2_greatestEnd 14 = .ok (.getfield 11, 3) := by decide +kernel
theorem dX2_greatestEnd_17 : decode cX2_greatestEnd 17 = .ok (.iload_n 2, 1) := by decide +kernel
theorem dX2_greatestEnd_18 : decode cX2_greatestEnd 18 = .ok (.aaload, 1) := by decide +kernel
theorem dX2_greatestEnd_19 : decode cX2_greatestEnd 19 = .ok (.getfield 165, 3) := by decide +kernel
theorem dX2_greatestEnd_22 : decode cX2_greatestEnd 22 = .ok (.invokestatic 221, 3) := by decide +kernel
theorem dX2_greatestEnd_25 : decode cX2_greatestEnd 25 = .ok (.istore_n 1, 1) := by decide +kernel
theorem dX2_greatestEnd_26 : decode cX2_greatestEnd 26 = .ok (.iinc 2 1, 3) := by decide +kernel
theorem dX2_greatestEnd_29 : decode cX2_greatestEnd 29 = .ok (.goto (-25), 3) := by decide +kernel
theorem dX2_greatestEnd_32 : decode cX2_greatestEnd 32 = .ok (.iload_n 1, 1) := by decide +kernel
theorem dX2_greatestEnd_33 : decode cX2_greatestEnd 33 = .ok (.ireturn, 1) := by decide +kernel
theorem dX2_barsBegun_0 : decode cX2_barsBegun 0 = .ok (.iconst 0, 1) := by decide +kernel
theorem dX2_barsBegun_1 : decode cX2_barsBegun 1 = .ok (.istore_n 1, 1) := by decide +kernel
theorem dX2_barsBegun_2 : decode cX2_barsBegun 2 = .ok (.iconst 0, 1) := by decide +kernel
theorem dX2_barsBegun_3 : decode cX2_barsBegun 3 = .ok (.istore_n 2, 1) := by decide +kernel
theorem dX2_barsBegun_4 : decode cX2_barsBegun 4 = .ok (.iload_n 2, 1) := by decide +kernel
theorem dX2_barsBegun_5 : decode cX2_barsBegun 5 = .ok (.aload_n 0, 1) := by decide +kernel
theorem dX2_barsBegun_6 : decode cX2_barsBegun 6 = .ok (.getfield 26, 3) := by decide +kernel
theorem dX2_barsBegun_9 : decode cX2_barsBegun 9 = .ok (.if_icmp .ge 44, 3) := by decide +kernel
theorem dX2_barsBegun_12 : decode cX2_barsBegun 12 = .ok (.aload_n 0, 1) := by decide +kernel
theorem dX2_barsBegun_13 : decode cX2_barsBegun 13 = .ok (.getfield 11, 3) := by decide +kernel
theorem dX2_barsBegun_16 : decode cX2_barsBegun 16 = .ok (.iload_n 2, 1) := by decide +kernel
theorem dX2_barsBegun_17 : decode cX2_barsBegun 17 = .ok (.aaload, 1) := by decide +kernel
theorem dX2_barsBegun_18 : decode cX2_barsBegun 18 = .ok (.astore_n 3, 1) := by decide +kernel
theorem dX2_barsBegun_19 : decode cX2_barsBegun 19 = .ok (.aload_n 3, 1) := by decide +kernel
theorem dX2_barsBegun_20 : decode cX2_barsBegun 20 = .ok (.getfield 103, 3) := by decide +kernel
theorem dX2_barsBegun_23 : decode cX2_barsBegun 23 = .ok (.ifCond .le 24, 3) := by decide +kernel
theorem dX2_barsBegun_26 : decode cX2_barsBegun 26 = .ok (.iload_n 1, 1) := by decide +kernel
theorem dX2_barsBegun_27 : decode cX2_barsBegun 27 = .ok (.aload_n 3, 1) := by decide +kernel
theorem dX2_barsBegun_28 : decode cX2_barsBegun 28 = .ok (.getfield 114, 3) := by decide +kernel
theorem dX2_barsBegun_31 : decode cX2_barsBegun 31 = .ok (.bipush 6, 2) := by decide +kernel
theorem dX2_barsBegun_33 : decode cX2_barsBegun 33 = .ok (.aaload, 1) := by decide +kernel
theorem dX2_barsBegun_34 : decode cX2_barsBegun 34 = .ok (.aload_n 3, 1) := by decide +kernel
theorem dX2_barsBegun_35 : decode cX2_barsBegun 35 = .ok (.getfield 103, 3) := by decide +kernel
theorem dX2_barsBegun_38 : decode cX2_barsBegun 38 = .ok (.iconst 1, 1) := by decide +kernel
theorem dX2_barsBegun_39 : decode cX2_barsBegun 39 = .ok (.isub, 1) := by decide +kernel
theorem dX2_barsBegun_40 : decode cX2_barsBegun 40 = .ok (.iaload, 1) := by decide +kernel
theorem dX2_barsBegun_41 : decode cX2_barsBegun 41 = .ok (.iconst 1, 1) := by decide +kernel
theorem dX2_barsBegun_42 : decode cX2_barsBegun 42 = .ok (.iadd, 1) := by decide +kernel
theorem dX2_barsBegun_43 : decode cX2_barsBegun 43 = .ok (.invokestatic 221, 3) := by decide +kernel
theorem dX2_barsBegun_46 : decode cX2_barsBegun 46 = .ok (.istore_n 1, 1) := by decide +kernel
theorem dX2_barsBegun_47 : decode cX2_barsBegun 47 = .ok (.iinc 2 1, 3) := by decide +kernel
theorem dX2_barsBegun_50 : decode cX2_barsBegun 50 = .ok (.goto (-46), 3) := by decide +kernel
theorem dX2_barsBegun_53 : decode cX2_barsBegun 53 = .ok (.iload_n 1, 1) := by decide +kernel
theorem dX2_barsBegun_54 : decode cX2_barsBegun 54 = .ok (.ireturn, 1) := by decide +kernel
theorem dX2_arrangeOne_0 : decode cX2_arrangeOne 0 = .ok (.aload_n 1, 1) := by decide +kernel
theorem dX2_arrangeOne_1 : decode cX2_arrangeOne 1 = .ok (.aload_n 0, 1) := by decide +kernel
theorem dX2_arrangeOne_2 : decode cX2_arrangeOne 2 = .ok (.getfield 36, 3) := by decide +kernel
theorem dX2_arrangeOne_5 : decode cX2_arrangeOne 5 = .ok (.aload_n 0, 1) := by decide +kernel
theorem dX2_arrangeOne_6 : decode cX2_arrangeOne 6 = .ok (.getfield 30, 3) := by decide +kernel
theorem dX2_arrangeOne_9 : decode cX2_arrangeOne 9 = .ok (.invokevirtual 226, 3) := by decide +kernel
theorem dX2_arrangeOne_12 : decode cX2_arrangeOne 12 = .ok (.aload_n 0, 1) := by decide +kernel
theorem dX2_arrangeOne_13 : decode cX2_arrangeOne 13 = .ok (.iconst 0, 1) := by decide +kernel
theorem dX2_arrangeOne_14 : decode cX2_arrangeOne 14 = .ok (.putfield 39, 3) := by decide +kernel
theorem dX2_arrangeOne_17 : decode cX2_arrangeOne 17 = .ok (.return_, 1) := by decide +kernel
theorem dX2_arrangeAll_0 : decode cX2_arrangeAll 0 = .ok (.iconst 0, 1) := by decide +kernel
theorem dX2_arrangeAll_1 : decode cX2_arrangeAll 1 = .ok (.istore_n 1, 1) := by decide +kernel
theorem dX2_arrangeAll_2 : decode cX2_arrangeAll 2 = .ok (.iload_n 1, 1) := by decide +kernel
theorem dX2_arrangeAll_3 : decode cX2_arrangeAll 3 = .ok (.aload_n 0, 1) := by decide +kernel
theorem dX2_arrangeAll_4 : decode cX2_arrangeAll 4 = .ok (.getfield 26, 3) := by decide +kernel
theorem dX2_arrangeAll_7 : decode cX2_arrangeAll 7 = .ok (.if_icmp .ge 26, 3) := by decide +kernel
theorem dX2_arrangeAll_10 : decode cX2_arrangeAll 10 = .ok (.aload_n 0, 1) := by decide +kernel
theorem dX2_arrangeAll_11 : decode cX2_arrangeAll 11 = .ok (.getfield 11, 3) := by decide +kernel
theorem dX2_arrangeAll_14 : decode cX2_arrangeAll 14 = .ok (.iload_n 1, 1) := by decide +kernel
theorem dX2_arrangeAll_15 : decode cX2_arrangeAll 15 = .ok (.aaload, 1) := by decide +kernel
theorem dX2_arrangeAll_16 : decode cX2_arrangeAll 16 = .ok (.aload_n 0, 1) := by decide +kernel
theorem dX2_arrangeAll_17 : decode cX2_arrangeAll 17 = .ok (.getfield 36, 3) := by decide +kernel
theorem dX2_arrangeAll_20 : decode cX2_arrangeAll 20 = .ok (.aload_n 0, 1) := by decide +kernel
theorem dX2_arrangeAll_21 : decode cX2_arrangeAll 21 = .ok (.getfield 30, 3) := by decide +kernel
theorem dX2_arrangeAll_24 : decode cX2_arrangeAll 24 = .ok (.invokevirtual 226, 3) := by decide +kernel
theorem dX2_arrangeAll_27 : decode cX2_arrangeAll 27 = .ok (.iinc 1 1, 3) := by decide +kernel
theorem dX2_arrangeAll_30 : decode cX2_arrangeAll 30 = .ok (.goto (-28), 3) := by decide +kernel
theorem dX2_arrangeAll_33 : decode cX2_arrangeAll 33 = .ok (.aload_n 0, 1) := by decide +kernel
theorem dX2_arrangeAll_34 : decode cX2_arrangeAll 34 = .ok (.iconst 0, 1) := by decide +kernel
theorem dX2_arrangeAll_35 : decode cX2_arrangeAll 35 = .ok (.putfield 39, 3) := by decide +kernel
theorem dX2_arrangeAll_38 : decode cX2_arrangeAll 38 = .ok (.return_, 1) := by decide +kernel
theorem dX2_addPieces_0 : decode cX2_addPieces 0 = .ok (.aload_n 0, 1) := by decide +kernel
theorem dX2_addPieces_1 : decode cX2_addPieces 1 = .ok (.aload_n 1, 1) := by decide +kernel
theorem dX2_addPieces_2 : decode cX2_addPieces 2 = .ok (.getfield 165, 3) := by decide +kernel
theorem dX2_addPieces_5 : decode cX2_addPieces 5 = .ok (.getstatic 90, 3) := by decide +kernel
theorem dX2_addPieces_8 : decode cX2_addPieces 8 = .ok (.iload_n 2, 1) := by decide +kernel
theorem dX2_addPieces_9 : decode cX2_addPieces 9 = .ok (.iaload, 1) := by decide +kernel
theorem dX2_addPieces_10 : decode cX2_addPieces 10 = .ok (.invokevirtual 229, 3) := by decide +kernel
theorem dX2_addPieces_13 : decode cX2_addPieces 13 = .ok (.istore_n 3, 1) := by decide +kernel
theorem dX2_addPieces_14 : decode cX2_addPieces 14 = .ok (.aload_n 1, 1) := by decide +kernel
theorem dX2_addPieces_15 : decode cX2_addPieces 15 = .ok (.getfield 103, 3) := by decide +kernel
theorem dX2_addPieces_18 : decode cX2_addPieces 18 = .ok (.iload_n 3, 1) := by decide +kernel
theorem dX2_addPieces_19 : decode cX2_addPieces 19 = .ok (.iadd, 1) := by decide +kernel
theorem dX2_addPieces_20 : decode cX2_addPieces 20 = .ok (.sipush 200, 3) := by decide +kernel
theorem dX2_addPieces_23 : decode cX2_addPieces 23 = .ok (.if_icmp .le 13, 3) := by decide +kernel
theorem dX2_addPieces_26 : decode cX2_addPieces 26 = .ok (.new 55, 3) := by decide +kernel
theorem dX2_addPieces_29 : decode cX2_addPieces 29 = .ok (.dup, 1) := by decide +kernel
theorem dX2_addPieces_30 : decode cX2_addPieces 30 = .ok (.ldc 232, 2) := by decide +kernel
theorem dX2_addPieces_32 : decode cX2_addPieces 32 = .ok (.invokespecial 59, 3) := by decide +kernel
theorem dX2_addPieces_35 : decode cX2_addPieces 35 = .ok (.athrow, 1) := by decide +kernel
theorem dX2_addPieces_36 : decode cX2_addPieces 36 = .ok (.aload_n 1, 1) := by decide +kernel
theorem dX2_addPieces_37 : decode cX2_addPieces 37 = .ok (.getfield 165, 3) := by decide +kernel
theorem dX2_addPieces_40 : decode cX2_addPieces 40 = .ok (.getstatic 90, 3) := by decide +kernel
theorem dX2_addPieces_43 : decode cX2_addPieces 43 = .ok (.iload_n 2, 1) := by decide +kernel
theorem dX2_addPieces_44 : decode cX2_addPieces 44 = .ok (.iaload, 1) := by decide +kernel
theorem dX2_addPieces_45 : decode cX2_addPieces 45 = .ok (.iadd, 1) := by decide +kernel
theorem dX2_addPieces_46 : decode cX2_addPieces 46 = .ok (.bipush 100, 2) := by decide +kernel
theorem dX2_addPieces_48 : decode cX2_addPieces 48 = .ok (.aload_n 0, 1) := by decide +kernel
theorem dX2_addPieces_49 : decode cX2_addPieces 49 = .ok (.getfield 33, 3) := by decide +kernel
theorem dX2_addPieces_52 : decode cX2_addPieces 52 = .ok (.imul, 1) := by decide +kernel
theorem dX2_addPieces_53 : decode cX2_addPieces 53 = .ok (.if_icmp .le 13, 3) := by decide +kernel
theorem dX2_addPieces_56 : decode cX2_addPieces 56 = .ok (.new 55, 3) := by decide +kernel
theorem dX2_addPieces_59 : decode cX2_addPieces 59 = .ok (.dup, 1) := by decide +kernel
theorem dX2_addPieces_60 : decode cX2_addPieces 60 = .ok (.ldc 234, 2) := by decide +kernel
theorem dX2_addPieces_62 : decode cX2_addPieces 62 = .ok (.invokespecial 59, 3) := by decide +kernel
theorem dX2_addPieces_65 : decode cX2_addPieces 65 = .ok (.athrow, 1) := by decide +kernel
theorem dX2_addPieces_66 : decode cX2_addPieces 66 = .ok (.iconst 0, 1) := by decide +kernel
theorem dX2_addPieces_67 : decode cX2_addPieces 67 = .ok (.istore 4, 2) := by decide +kernel
theorem dX2_addPieces_69 : decode cX2_addPieces 69 = .ok (.iload 4, 2) := by decide +kernel
theorem dX2_addPieces_71 : decode cX2_addPieces 71 = .ok (.iload_n 3, 1) := by decide +kernel
theorem dX2_addPieces_72 : decode cX2_addPieces 72 = .ok (.if_icmp .ge 31, 3) := by decide +kernel
theorem dX2_addPieces_75 : decode cX2_addPieces 75 = .ok (.aload_n 1, 1) := by decide +kernel
theorem dX2_addPieces_76 : decode cX2_addPieces 76 = .ok (.aload_n 0, 1) := by decide +kernel
theorem dX2_addPieces_77 : decode cX2_addPieces 77 = .ok (.getfield 22, 3) := by decide +kernel
theorem dX2_addPieces_80 : decode cX2_addPieces 80 = .ok (.iload 4, 2) := by decide +kernel
theorem dX2_addPieces_82 : decode cX2_addPieces 82 = .ok (.iaload, 1) := by decide +kernel
theorem dX2_addPieces_83 : decode cX2_addPieces 83 = .ok (.aload_n 1, 1) := by decide +kernel
theorem dX2_addPieces_84 : decode cX2_addPieces 84 = .ok (.getfield 165, 3) := by decide +kernel
theorem dX2_addPieces_87 : decode cX2_addPieces 87 = .ok (.aload_n 0, 1) := by decide +kernel
theorem dX2_addPieces_88 : decode cX2_addPieces 88 = .ok (.getfield 33, 3) := by decide +kernel
theorem dX2_addPieces_91 : decode cX2_addPieces 91 = .ok (.invokestatic 168, 3) := by decide +kernel
theorem dX2_addPieces_94 : decode cX2_addPieces 94 = .ok (.invokevirtual 236, 3) := by decide +kernel
theorem dX2_addPieces_97 : decode cX2_addPieces 97 = .ok (.iinc 4 1, 3) := by decide +kernel
theorem dX2_addPieces_100 : decode cX2_addPieces 100 = .ok (.goto (-31), 3) := by decide +kernel
theorem dX2_addPieces_103 : decode cX2_addPieces 103 = .ok (.iload_n 3, 1) := by decide +kernel
theorem dX2_addPieces_104 : decode cX2_addPieces 104 = .ok (.ireturn, 1) := by decide +kernel
theorem dX2_planPieces_0 : decode cX2_planPieces 0 = .ok (.iload_n 2, 1) := by decide +kernel
theorem dX2_planPieces_1 : decode cX2_planPieces 1 = .ok (.istore_n 3, 1) := by decide +kernel
theorem dX2_planPieces_2 : decode cX2_planPieces 2 = .ok (.aload_n 0, 1) := by decide +kernel
theorem dX2_planPieces_3 : decode cX2_planPieces 3 = .ok (.getfield 33, 3) := by decide +kernel
theorem dX2_planPieces_6 : decode cX2_planPieces 6 = .ok (.iload_n 1, 1) := by decide +kernel
theorem dX2_planPieces_7 : decode cX2_planPieces 7 = .ok (.iload_n 1, 1) := by decide +kernel
theorem dX2_planPieces_8 : decode cX2_planPieces 8 = .ok (.aload_n 0, 1) := by decide +kernel
theorem dX2_planPieces_9 : decode cX2_planPieces 9 = .ok (.getfield 33, 3) := by decide +kernel
theorem dX2_planPieces_12 : decode cX2_planPieces 12 = .ok (.invokestatic 168, 3) := by decide +kernel
theorem dX2_planPieces_15 : decode cX2_planPieces 15 = .ok (.aload_n 0, 1) := by decide +kernel
theorem dX2_planPieces_16 : decode cX2_planPieces 16 = .ok (.getfield 33, 3) := by decide +kernel
theorem dX2_planPieces_19 : decode cX2_planPieces 19 = .ok (.imul, 1) := by decide +kernel
theorem dX2_planPieces_20 : decode cX2_planPieces 20 = .ok (.isub, 1) := by decide +kernel
theorem dX2_planPieces_21 : decode cX2_planPieces 21 = .ok (.isub, 1) := by decide +kernel
theorem dX2_planPieces_22 : decode cX2_planPieces 22 = .ok (.istore 4, 2) := by decide +kernel
theorem dX2_planPieces_24 : decode cX2_planPieces 24 = .ok (.iconst 0, 1) := by decide +kernel
theorem dX2_planPieces_25 : decode cX2_planPieces 25 = .ok (.istore 5, 2) := by decide +kernel
theorem dX2_planPieces_27 : decode cX2_planPieces 27 = .ok (.iload_n 3, 1) := by decide +kernel
theorem dX2_planPieces_28 : decode cX2_planPieces 28 = .ok (.ifCond .le 67, 3) := by decide +kernel
theorem dX2_planPieces_31 : decode cX2_planPieces 31 = .ok (.iload 5, 2) := by decide +kernel
theorem dX2_planPieces_33 : decode cX2_planPieces 33 = .ok (.bipush 56, 2) := by decide +kernel
theorem dX2_planPieces_35 : decode cX2_planPieces 35 = .ok (.if_icmp .ge 60, 3) := by decide +kernel
theorem dX2_planPieces_38 : decode cX2_planPieces 38 = .ok (.iload_n 3, 1) := by decide +kernel
theorem dX2_planPieces_39 : decode cX2_planPieces 39 = .ok (.iload 4, 2) := by decide +kernel
theorem dX2_planPieces_41 : decode cX2_planPieces 41 = .ok (.invokestatic 239, 3) := by decide +kernel
theorem dX2_planPieces_44 : decode cX2_planPieces 44 = .ok (.invokestatic 242, 3) := by decide +kernel
theorem dX2_planPieces_47 : decode cX2_planPieces 47 = .ok (.istore 6, 2) := by decide +kernel
theorem dX2_planPieces_49 : decode cX2_planPieces 49 = .ok (.aload_n 0, 1) := by decide +kernel
theorem dX2_planPieces_50 : decode cX2_planPieces 50 = .ok (.getfield 22, 3) := by decide +kernel
theorem dX2_planPieces_53 : decode cX2_planPieces 53 = .ok (.iload 5, 2) := by decide +kernel
theorem dX2_planPieces_55 : decode cX2_planPieces 55 = .ok (.iload 6, 2) := by decide +kernel
theorem dX2_planPieces_57 : decode cX2_planPieces 57 = .ok (.iastore, 1) := by decide +kernel
theorem dX2_planPieces_58 : decode cX2_planPieces 58 = .ok (.iinc 5 1, 3) := by decide +kernel
theorem dX2_planPieces_61 : decode cX2_planPieces 61 = .ok (.iload_n 3, 1) := by decide +kernel
theorem dX2_planPieces_62 : decode cX2_planPieces 62 = .ok (.getstatic 90, 3) := by decide +kernel
theorem dX2_planPieces_65 : decode cX2_planPieces 65 = .ok (.iload 6, 2) := by decide +kernel
theorem dX2_planPieces_67 : decode cX2_planPieces 67 = .ok (.iaload, 1) := by decide +kernel
theorem dX2_planPieces_68 : decode cX2_planPieces 68 = .ok (.isub, 1) := by decide +kernel
theorem dX2_planPieces_69 : decode cX2_planPieces 69 = .ok (.istore_n 3, 1) := by decide +kernel
theorem dX2_planPieces_70 : decode cX2_planPieces 70 = .ok (.iload 4, 2) := by decide +kernel
theorem dX2_planPieces_72 : decode cX2_planPieces 72 = .ok (.getstatic 90, 3) := by decide +kernel
theorem dX2_planPieces_75 : decode cX2_planPieces 75 = .ok (.iload 6, 2) := by decide +kernel
theorem dX2_planPieces_77 : decode cX2_planPieces 77 = .ok (.iaload, 1) := by decide +kernel
theorem dX2_planPieces_78 : decode cX2_planPieces 78 = .ok (.isub, 1) := by decide +kernel
theorem dX2_planPieces_79 : decode cX2_planPieces 79 = .ok (.istore 4, 2) := by decide +kernel
theorem dX2_planPieces_81 : decode cX2_planPieces 81 = .ok (.iload 4, 2) := by decide +kernel
theorem dX2_planPieces_83 : decode cX2_planPieces 83 = .ok (.ifCond .gt 9, 3) := by decide +kernel
theorem dX2_planPieces_86 : decode cX2_planPieces 86 = .ok (.aload_n 0, 1) := by decide +kernel
theorem dX2_planPieces_87 : decode cX2_planPieces 87 = .ok (.getfield 33, 3) := by decide +kernel
theorem dX2_planPieces_90 : decode cX2_planPieces 90 = .ok (.istore 4, 2) := by decide +kernel
theorem dX2_planPieces_92 : decode cX2_planPieces 92 = .ok (.goto (-65), 3) := by decide +kernel
theorem dX2_planPieces_95 : decode cX2_planPieces 95 = .ok (.iload 5, 2) := by decide +kernel
theorem dX2_planPieces_97 : decode cX2_planPieces 97 = .ok (.ireturn, 1) := by decide +kernel
theorem dX2_greatestValue_0 : decode cX2_greatestValue 0 = .ok (.iconst 0, 1) := by decide +kernel
theorem dX2_greatestValue_1 : decode cX2_greatestValue 1 = .ok (.istore_n 1, 1) := by decide +kernel
theorem dX2_greatestValue_2 : decode cX2_greatestValue 2 = .ok (.iload_n 1, 1) := by decide +kernel
theorem dX2_greatestValue_3 : decode cX2_greatestValue 3 = .ok (.getstatic 90, 3) := by decide +kernel
theorem dX2_greatestValue_6 : decode cX2_greatestValue 6 = .ok (.arraylength, 1) := by decide +kernel
theorem dX2_greatestValue_7 : decode cX2_greatestValue 7 = .ok (.if_icmp .ge 20, 3) := by decide +kernel
theorem dX2_greatestValue_10 : decode cX2_greatestValue 10 = .ok (.getstatic 90, 3) := by decide +kernel
theorem dX2_greatestValue_13 : decode cX2_greatestValue 13 = .ok (.iload_n 1, 1) := by decide +kernel
theorem dX2_greatestValue_14 : decode cX2_greatestValue 14 = .ok (.iaload, 1) := by decide +kernel
theorem dX2_greatestValue_15 : decode cX2_greatestValue 15 = .ok (.iload_n 0, 1) := by decide +kernel
theorem dX2_greatestValue_16 : decode cX2_greatestValue 16 = .ok (.if_icmp .gt 5, 3) := by decide +kernel
theorem dX2_greatestValue_19 : decode cX2_greatestValue 19 = .ok (.iload_n 1, 1) := by decide +kernel
theorem dX2_greatestValue_20 : decode cX2_greatestValue 20 = .ok (.ireturn, 1) := by decide +kernel
theorem dX2_greatestValue_21 : decode cX2_greatestValue 21 = .ok (.iinc 1 1, 3) := by decide +kernel
theorem dX2_greatestValue_24 : decode cX2_greatestValue 24 = .ok (.goto (-22), 3) := by decide +kernel
theorem dX2_greatestValue_27 : decode cX2_greatestValue 27 = .ok (.getstatic 90, 3) := by decide +kernel
theorem dX2_greatestValue_30 : decode cX2_greatestValue 30 = .ok (.arraylength, 1) := by decide +kernel
theorem dX2_greatestValue_31 : decode cX2_greatestValue 31 = .ok (.iconst 1, 1) := by decide +kernel
theorem dX2_greatestValue_32 : decode cX2_greatestValue 32 = .ok (.isub, 1) := by decide +kernel
theorem dX2_greatestValue_33 : decode cX2_greatestValue 33 = .ok (.ireturn, 1) := by decide +kernel
theorem dX2_findValue_0 : decode cX2_findValue 0 = .ok (.iconst 0, 1) := by decide +kernel
theorem dX2_findValue_1 : decode cX2_findValue 1 = .ok (.istore_n 2, 1) := by decide +kernel
theorem dX2_findValue_2 : decode cX2_findValue 2 = .ok (.iload_n 2, 1) := by decide +kernel
theorem dX2_findValue_3 : decode cX2_findValue 3 = .ok (.getstatic 90, 3) := by decide +kernel
theorem dX2_findValue_6 : decode cX2_findValue 6 = .ok (.arraylength, 1) := by decide +kernel
theorem dX2_findValue_7 : decode cX2_findValue 7 = .ok (.if_icmp .ge 29, 3) := by decide +kernel
theorem dX2_findValue_10 : decode cX2_findValue 10 = .ok (.getstatic 245, 3) := by decide +kernel
theorem dX2_findValue_13 : decode cX2_findValue 13 = .ok (.iload_n 2, 1) := by decide +kernel
theorem dX2_findValue_14 : decode cX2_findValue 14 = .ok (.iaload, 1) := by decide +kernel
theorem dX2_findValue_15 : decode cX2_findValue 15 = .ok (.iload_n 0, 1) := by decide +kernel
theorem dX2_findValue_16 : decode cX2_findValue 16 = .ok (.if_icmp .ne 14, 3) := by decide +kernel
theorem dX2_findValue_19 : decode cX2_findValue 19 = .ok (.getstatic 248, 3) := by decide +kernel
theorem dX2_findValue_22 : decode cX2_findValue 22 = .ok (.iload_n 2, 1) := by decide +kernel
theorem dX2_findValue_23 : decode cX2_findValue 23 = .ok (.iaload, 1) := by decide +kernel
theorem dX2_findValue_24 : decode cX2_findValue 24 = .ok (.iload_n 1, 1) := by decide +kernel
theorem dX2_findValue_25 : decode cX2_findValue 25 = .ok (.if_icmp .ne 5, 3) := by decide +kernel
theorem dX2_findValue_28 : decode cX2_findValue 28 = .ok (.iload_n 2, 1) := by decide +kernel
theorem dX2_findValue_29 : decode cX2_findValue 29 = .ok (.ireturn, 1) := by decide +kernel
theorem dX2_findValue_30 : decode cX2_findValue 30 = .ok (.iinc 2 1, 3) := by decide +kernel
theorem dX2_findValue_33 : decode cX2_findValue 33 = .ok (.goto (-31), 3) := by decide +kernel
theorem dX2_findValue_36 : decode cX2_findValue 36 = .ok (.iconst (-1), 1) := by decide +kernel
theorem dX2_findValue_37 : decode cX2_findValue 37 = .ok (.ireturn, 1) := by decide +kernel
theorem dX2_wholeParts_0 : decode cX2_wholeParts 0 = .ok (.iload_n 1, 1) := by decide +kernel
theorem dX2_wholeParts_1 : decode cX2_wholeParts 1 = .ok (.ifCond .le 9, 3) := by decide +kernel
theorem dX2_wholeParts_4 : decode cX2_wholeParts 4 = .ok (.iload_n 0, 1) := by decide +kernel
theorem dX2_wholeParts_5 : decode cX2_wholeParts 5 = .ok (.iload_n 1, 1) := by decide +kernel
theorem dX2_wholeParts_6 : decode cX2_wholeParts 6 = .ok (.idiv, 1) := by decide +kernel
theorem dX2_wholeParts_7 : decode cX2_wholeParts 7 = .ok (.goto 4, 3) := by decide +kernel
theorem dX2_wholeParts_10 : decode cX2_wholeParts 10 = .ok (.iconst 0, 1) := by decide +kernel
theorem dX2_wholeParts_11 : decode cX2_wholeParts 11 = .ok (.ireturn, 1) := by decide +kernel
theorem dX2_isKey_0 : decode cX2_isKey 0 = .ok (.iload_n 0, 1) := by decide +kernel
theorem dX2_isKey_1 : decode cX2_isKey 1 = .ok (.bipush (-7), 2) := by decide +kernel
theorem dX2_isKey_3 : decode cX2_isKey 3 = .ok (.if_icmp .lt 13, 3) := by decide +kernel
theorem dX2_isKey_6 : decode cX2_isKey 6 = .ok (.iload_n 0, 1) := by decide +kernel
theorem dX2_isKey_7 : decode cX2_isKey 7 = .ok (.bipush 7, 2) := by decide +kernel
theorem dX2_isKey_9 : decode cX2_isKey 9 = .ok (.if_icmp .gt 7, 3) := by decide +kernel
theorem dX2_isKey_12 : decode cX2_isKey 12 = .ok (.iconst 1, 1) := by decide +kernel
theorem dX2_isKey_13 : decode cX2_isKey 13 = .ok (.goto 4, 3) := by decide +kernel
theorem dX2_isKey_16 : decode cX2_isKey 16 = .ok (.iconst 0, 1) := by decide +kernel
theorem dX2_isKey_17 : decode cX2_isKey 17 = .ok (.ireturn, 1) := by decide +kernel
theorem dX2_signOfKey_0 : decode cX2_signOfKey 0 = .ok (.getstatic 251, 3) := by decide +kernel
theorem dX2_signOfKey_3 : decode cX2_signOfKey 3 = .ok (.iload_n 1, 1) := by decide +kernel
theorem dX2_signOfKey_4 : decode cX2_signOfKey 4 = .ok (.iaload, 1) := by decide +kernel
theorem dX2_signOfKey_5 : decode cX2_signOfKey 5 = .ok (.istore_n 2, 1) := by decide +kernel
theorem dX2_signOfKey_6 : decode cX2_signOfKey 6 = .ok (.bipush 6, 2) := by decide +kernel
theorem dX2_signOfKey_8 : decode cX2_signOfKey 8 = .ok (.iload_n 2, 1) := by decide +kernel
theorem dX2_signOfKey_9 : decode cX2_signOfKey 9 = .ok (.isub, 1) := by decide +kernel
theorem dX2_signOfKey_10 : decode cX2_signOfKey 10 = .ok (.istore_n 3, 1) := by decide +kernel
theorem dX2_signOfKey_11 : decode cX2_signOfKey 11 = .ok (.iload_n 2, 1) := by decide +kernel
theorem dX2_signOfKey_12 : decode cX2_signOfKey 12 = .ok (.iload_n 0, 1) := by decide +kernel
theorem dX2_signOfKey_13 : decode cX2_signOfKey 13 = .ok (.if_icmp .ge 5, 3) := by decide +kernel
theorem dX2_signOfKey_16 : decode cX2_signOfKey 16 = .ok (.iconst 1, 1) := by decide +kernel
theorem dX2_signOfKey_17 : decode cX2_signOfKey 17 = .ok (.ireturn, 1) := by decide +kernel
theorem dX2_signOfKey_18 : decode cX2_signOfKey 18 = .ok (.iload_n 3, 1) := by decide +kernel
theorem dX2_signOfKey_19 : decode cX2_signOfKey 19 = .ok (.iload_n 0, 1) := by decide +kernel
theorem dX2_signOfKey_20 : decode cX2_signOfKey 20 = .ok (.ineg, 1) := by decide +kernel
theorem dX2_signOfKey_21 : decode cX2_signOfKey 21 = .ok (.if_icmp .ge 7, 3) := by decide +kernel
theorem dX2_signOfKey_24 : decode cX2_signOfKey 24 = .ok (.iconst (-1), 1) := by decide +kernel
theorem dX2_signOfKey_25 : decode cX2_signOfKey 25 = .ok (.goto 4, 3) := by decide +kernel
theorem dX2_signOfKey_28 : decode cX2_signOfKey 28 = .ok (.iconst 0, 1) := by decide +kernel
theorem dX2_signOfKey_29 : decode cX2_signOfKey 29 = .ok (.ireturn, 1) := by decide +kernel
theorem dX2_toneOf_0 : decode cX2_toneOf 0 = .ok (.bipush 12, 2) := by decide +kernel
theorem dX2_toneOf_2 : decode cX2_toneOf 2 = .ok (.iload_n 2, 1) := by decide +kernel
theorem dX2_toneOf_3 : decode cX2_toneOf 3 = .ok (.imul, 1) := by decide +kernel
theorem dX2_toneOf_4 : decode cX2_toneOf 4 = .ok (.getstatic 254, 3) := by decide +kernel
theorem dX2_toneOf_7 : decode cX2_toneOf 7 = .ok (.iload_n 0, 1) := by decide +kernel
theorem dX2_toneOf_8 : decode cX2_toneOf 8 = .ok (.iaload, 1) := by decide +kernel
theorem dX2_toneOf_9 : decode cX2_toneOf 9 = .ok (.iadd, 1) := by decide +kernel
theorem dX2_toneOf_10 : decode cX2_toneOf 10 = .ok (.iload_n 1, 1) := by decide +kernel
theorem dX2_toneOf_11 : decode cX2_toneOf 11 = .ok (.iadd, 1) := by decide +kernel
theorem dX2_toneOf_12 : decode cX2_toneOf 12 = .ok (.ireturn, 1) := by decide +kernel
theorem dX2_stepAt_0 : decode cX2_stepAt 0 = .ok (.iload_n 0, 1) := by decide +kernel
theorem dX2_stepAt_1 : decode cX2_stepAt 1 = .ok (.bipush 7, 2) := by decide +kernel
theorem dX2_stepAt_3 : decode cX2_stepAt 3 = .ok (.invokestatic 257, 3) := by decide +kernel
theorem dX2_stepAt_6 : decode cX2_stepAt 6 = .ok (.ireturn, 1) := by decide +kernel
theorem dX2_octaveAt_0 : decode cX2_octaveAt 0 = .ok (.iload_n 0, 1) := by decide +kernel
theorem dX2_octaveAt_1 : decode cX2_octaveAt 1 = .ok (.bipush 7, 2) := by decide +kernel
theorem dX2_octaveAt_3 : decode cX2_octaveAt 3 = .ok (.invokestatic 260, 3) := by decide +kernel
theorem dX2_octaveAt_6 : decode cX2_octaveAt 6 = .ok (.ireturn, 1) := by decide +kernel
theorem dX2_signAt_0 : decode cX2_signAt 0 = .ok (.iload_n 1, 1) := by decide +kernel
theorem dX2_signAt_1 : decode cX2_signAt 1 = .ok (.iload_n 0, 1) := by decide +kernel
theorem dX2_signAt_2 : decode cX2_signAt 2 = .ok (.invokestatic 263, 3) := by decide +kernel
theorem dX2_signAt_5 : decode cX2_signAt 5 = .ok (.iconst 0, 1) := by decide +kernel
theorem dX2_signAt_6 : decode cX2_signAt 6 = .ok (.iload_n 0, 1) := by decide +kernel
theorem dX2_signAt_7 : decode cX2_signAt 7 = .ok (.invokestatic 266, 3) := by decide +kernel
theorem dX2_signAt_10 : decode cX2_signAt 10 = .ok (.invokestatic 269, 3) := by decide +kernel
theorem dX2_signAt_13 : decode cX2_signAt 13 = .ok (.isub, 1) := by decide +kernel
theorem dX2_signAt_14 : decode cX2_signAt 14 = .ok (.ireturn, 1) := by decide +kernel
theorem dX2_isPitch_0 : decode cX2_isPitch 0 = .ok (.iload_n 0, 1) := by decide +kernel
theorem dX2_isPitch_1 : decode cX2_isPitch 1 = .ok (.ifCond .lt 19, 3) := by decide +kernel
theorem dX2_isPitch_4 : decode cX2_isPitch 4 = .ok (.iload_n 0, 1) := by decide +kernel
theorem dX2_isPitch_5 : decode cX2_isPitch 5 = .ok (.bipush 7, 2) := by decide +kernel
theorem dX2_isPitch_7 : decode cX2_isPitch 7 = .ok (.if_icmp .ge 13, 3) := by decide +kernel
theorem dX2_isPitch_10 : decode cX2_isPitch 10 = .ok (.iload_n 2, 1) := by decide +kernel
theorem dX2_isPitch_11 : decode cX2_isPitch 11 = .ok (.ifCond .lt 9, 3) := by decide +kernel
theorem dX2_isPitch_14 : decode cX2_isPitch 14 = .ok (.iload_n 2, 1) := by decide +kernel
theorem dX2_isPitch_15 : decode cX2_isPitch 15 = .ok (.bipush 9, 2) := by decide +kernel
theorem dX2_isPitch_17 : decode cX2_isPitch 17 = .ok (.if_icmp .lt 5, 3) := by decide +kernel
theorem dX2_isPitch_20 : decode cX2_isPitch 20 = .ok (.iconst 0, 1) := by decide +kernel
theorem dX2_isPitch_21 : decode cX2_isPitch 21 = .ok (.ireturn, 1) := by decide +kernel
theorem dX2_isPitch_22 : decode cX2_isPitch 22 = .ok (.iload_n 1, 1) := by decide +kernel
theorem dX2_isPitch_23 : decode cX2_isPitch 23 = .ok (.bipush (-2), 2) := by decide +kernel
theorem dX2_isPitch_25 : decode cX2_isPitch 25 = .ok (.if_icmp .lt 21, 3) := by decide +kernel
theorem dX2_isPitch_28 : decode cX2_isPitch 28 = .ok (.iload_n 1, 1) := by decide +kernel
theorem dX2_isPitch_29 : decode cX2_isPitch 29 = .ok (.iconst 2, 1) := by decide +kernel
theorem dX2_isPitch_30 : decode cX2_isPitch 30 = .ok (.if_icmp .gt 16, 3) := by decide +kernel
theorem dX2_isPitch_33 : decode cX2_isPitch 33 = .ok (.iload_n 0, 1) := by decide +kernel
theorem dX2_isPitch_34 : decode cX2_isPitch 34 = .ok (.iload_n 1, 1) := by decide +kernel
theorem dX2_isPitch_35 : decode cX2_isPitch 35 = .ok (.iload_n 2, 1) := by decide +kernel
theorem dX2_isPitch_36 : decode cX2_isPitch 36 = .ok (.invokestatic 269, 3) := by decide +kernel
theorem dX2_isPitch_39 : decode cX2_isPitch 39 = .ok (.ifCond .lt 7, 3) := by decide +kernel
theorem dX2_isPitch_42 : decode cX2_isPitch 42 = .ok (.iconst 1, 1) := by decide +kernel
theorem dX2_isPitch_43 : decode cX2_isPitch 43 = .ok (.goto 4, 3) := by decide +kernel
theorem dX2_isPitch_46 : decode cX2_isPitch 46 = .ok (.iconst 0, 1) := by decide +kernel
theorem dX2_isPitch_47 : decode cX2_isPitch 47 = .ok (.ireturn, 1) := by decide +kernel
theorem dX2_countParallels_0 : decode cX2_countParallels 0 = .ok (.iconst 0, 1) := by decide +kernel
theorem dX2_countParallels_1 : decode cX2_countParallels 1 = .ok (.istore_n 2, 1) := by decide +kernel
theorem dX2_countParallels_2 : decode cX2_countParallels 2 = .ok (.iconst (-1), 1) := by decide +kernel
theorem dX2_countParallels_3 : decode cX2_countParallels 3 = .ok (.istore_n 3, 1) := by decide +kernel
theorem dX2_countParallels_4 : decode cX2_countParallels 4 = .ok (.iconst (-1), 1) := by decide +kernel
theorem dX2_countParallels_5 : decode cX2_countParallels 5 = .ok (.istore 4, 2) := by decide +kernel
theorem dX2_countParallels_7 : decode cX2_countParallels 7 = .ok (.iconst 0, 1) := by decide +kernel
theorem dX2_countParallels_8 : decode cX2_countParallels 8 = .ok (.istore 5, 2) := by decide +kernel
theorem dX2_countParallels_10 : decode cX2_countParallels 10 = .ok (.iconst 0, 1) := by decide +kernel
theorem dX2_countParallels_11 : decode cX2_countParallels 11 = .ok (.istore 6, 2) := by decide +kernel
theorem dX2_countParallels_13 : decode cX2_countParallels 13 = .ok (.iload 6, 2) := by decide +kernel
theorem dX2_countParallels_15 : decode cX2_countParallels 15 = .ok (.aload_n 0, 1) := by decide +kernel
theorem dX2_countParallels_16 : decode cX2_countParallels 16 = .ok (.getfield 103, 3) := by decide +kernel
theorem dX2_countParallels_19 : decode cX2_countParallels 19 = .ok (.if_icmp .ge 152, 3) := by decide +kernel
theorem dX2_countParallels_22 : decode cX2_countParallels 22 = .ok (.aload_n 0, 1) := by decide +kernel
theorem dX2_countParallels_23 : decode cX2_countParallels 23 = .ok (.getfield 114, 3) := by decide +kernel
theorem dX2_countParallels_26 : decode cX2_countParallels 26 = .ok (.iconst 0, 1) := by decide +kernel
theorem dX2_countParallels_27 : decode cX2_countParallels 27 = .ok (.aaload, 1) := by decide +kernel
theorem dX2_countParallels_28 : decode cX2_countParallels 28 = .ok (.iload 6, 2) := by decide +kernel
theorem dX2_countParallels_30 : decode cX2_countParallels 30 = .ok (.iaload, 1) := by decide +kernel
theorem dX2_countParallels_31 : decode cX2_countParallels 31 = .ok (.istore 7, 2) := by decide +kernel
theorem dX2_countParallels_33 : decode cX2_countParallels 33 = .ok (.iload 5, 2) := by decide +kernel
theorem dX2_countParallels_35 : decode cX2_countParallels 35 = .ok (.aload_n 1, 1) := by decide +kernel
theorem dX2_countParallels_36 : decode cX2_countParallels 36 = .ok (.getfield 103, 3) := by decide +kernel
theorem dX2_countParallels_39 : decode cX2_countParallels 39 = .ok (.if_icmp .ge 23, 3) := by decide +kernel
theorem dX2_countParallels_42 : decode cX2_countParallels 42 = .ok (.aload_n 1, 1) := by decide +kernel
theorem dX2_countParallels_43 : decode cX2_countParallels 43 = .ok (.getfield 114, 3) := by decide +kernel
theorem dX2_countParallels_46 : decode cX2_countParallels 46 = .ok (.iconst 0, 1) := by decide +kernel
theorem dX2_countParallels_47 : decode cX2_countParallels 47 = .ok (.aaload, 1) := by decide +kernel
theorem dX2_countParallels_48 : decode cX2_countParallels 48 = .ok (.iload 5, 2) := by decide +kernel
theorem dX2_countParallels_50 : decode cX2_countParallels 50 = .ok (.iaload, 1) := by decide +kernel
theorem dX2_countParallels_51 : decode cX2_countParallels 51 = .ok (.iload 7, 2) := by decide +kernel
theorem dX2_countParallels_53 : decode cX2_countParallels 53 = .ok (.if_icmp .ge 9, 3) := by decide +kernel
theorem dX2_countParallels_56 : decode cX2_countParallels 56 = .ok (.iinc 5 1, 3) := by decide +kernel
theorem dX2_countParallels_59 : decode cX2_countParallels 59 = .ok (.goto (-26), 3) := by decide +kernel
theorem dX2_countParallels_62 : decode cX2_countParallels 62 = .ok (.iload 5, 2) := by decide +kernel
theorem dX2_countParallels_64 : decode cX2_countParallels 64 = .ok (.aload_n 1, 1) := by decide +kernel
theorem dX2_countParallels_65 : decode cX2_countParallels 65 = .ok (.getfield 103, 3) := by decide +kernel
theorem dX2_countParallels_68 : decode cX2_countParallels 68 = .ok (.if_icmp .ge 21, 3) := by decide +kernel
theorem dX2_countParallels_71 : decode cX2_countParallels 71 = .ok (.aload_n 1, 1) := by decide +kernel
theorem dX2_countParallels_72 : decode cX2_countParallels 72 = .ok (.getfield 114, 3) := by decide +kernel
theorem dX2_countParallels_75 : decode cX2_countParallels 75 = .ok (.iconst 0, 1) := by decide +kernel
theorem dX2_countParallels_76 : decode cX2_countParallels 76 = .ok (.aaload, 1) := by decide +kernel
theorem dX2_countParallels_77 : decode cX2_countParallels 77 = .ok (.iload 5, 2) := by decide +kernel
theorem dX2_countParallels_79 : decode cX2_countParallels 79 = .ok (.iaload, 1) := by decide +kernel
theorem dX2_countParallels_80 : decode cX2_countParallels 80 = .ok (.iload 7, 2) := by decide +kernel
theorem dX2_countParallels_82 : decode cX2_countParallels 82 = .ok (.if_icmp .ne 7, 3) := by decide +kernel
theorem dX2_countParallels_85 : decode cX2_countParallels 85 = .ok (.iconst 1, 1) := by decide +kernel
theorem dX2_countParallels_86 : decode cX2_countParallels 86 = .ok (.goto 4, 3) := by decide +kernel
theorem dX2_countParallels_89 : decode cX2_countParallels 89 = .ok (.iconst 0, 1) := by decide +kernel
theorem dX2_countParallels_90 : decode cX2_countParallels 90 = .ok (.istore 8, 2) := by decide +kernel
theorem dX2_countParallels_92 : decode cX2_countParallels 92 = .ok (.iload 8, 2) := by decide +kernel
theorem dX2_countParallels_94 : decode cX2_countParallels 94 = .ok (.ifCond .eq 71, 3) := by decide +kernel
theorem dX2_countParallels_97 : decode cX2_countParallels 97 = .ok (.aload_n 0, 1) := by decide +kernel
theorem dX2_countParallels_98 : decode cX2_countParallels 98 = .ok (.iload 6, 2) := by decide +kernel
theorem dX2_countParallels_100 : decode cX2_countParallels 100 = .ok (.invokevirtual 131, 3) := by decide +kernel
theorem dX2_countParallels_103 : decode cX2_countParallels 103 = .ok (.ifCond .eq 62, 3) := by decide +kernel
theorem dX2_countParallels_106 : decode cX2_countParallels 106 = .ok (.aload_n 1, 1) := by decide +kernel
theorem dX2_countParallels_107 : decode cX2_countParallels 107 = .ok (.iload 5, 2) := by decide +kernel
theorem dX2_countParallels_109 : decode cX2_countParallels 109 = .ok (.invokevirtual 131, 3) := by decide +kernel
theorem dX2_countParallels_112 : decode cX2_countParallels 112 = .ok (.ifCond .eq 53, 3) := by decide +kernel
theorem dX2_countParallels_115 : decode cX2_countParallels 115 = .ok (.aload_n 0, 1) := by decide +kernel
theorem dX2_countParallels_116 : decode cX2_countParallels 116 = .ok (.getfield 114, 3) := by decide +kernel
theorem dX2_countParallels_119 : decode cX2_countParallels 119 = .ok (.iconst 4, 1) := by decide +kernel
theorem dX2_countParallels_120 : decode cX2_countParallels 120 = .ok (.aaload, 1) := by decide +kernel
theorem dX2_countParallels_121 : decode cX2_countParallels 121 = .ok (.iload 6, 2) := by decide +kernel
theorem dX2_countParallels_123 : decode cX2_countParallels 123 = .ok (.iaload, 1) := by decide +kernel
theorem dX2_countParallels_124 : decode cX2_countParallels 124 = .ok (.istore 9, 2) := by decide +kernel
theorem dX2_countParallels_126 : decode cX2_countParallels 126 = .ok (.aload_n 1, 1) := by decide +kernel
theorem dX2_countParallels_127 : decode cX2_countParallels 127 = .ok (.getfield 114, 3) := by decide +kernel
theorem dX2_countParallels_130 : decode cX2_countParallels 130 = .ok (.iconst 4, 1) := by decide +kernel
theorem dX2_countParallels_131 : decode cX2_countParallels 131 = .ok (.aaload, 1) := by decide +kernel
theorem dX2_countParallels_132 : decode cX2_countParallels 132 = .ok (.iload 5, 2) := by decide +kernel
theorem dX2_countParallels_134 : decode cX2_countParallels 134 = .ok (.iaload, 1) := by decide +kernel
theorem dX2_countParallels_135 : decode cX2_countParallels 135 = .ok (.istore 10, 2) := by decide +kernel
theorem dX2_countParallels_137 : decode cX2_countParallels 137 = .ok (.iload_n 3, 1) := by decide +kernel
theorem dX2_countParallels_138 : decode cX2_countParallels 138 = .ok (.iconst (-1), 1) := by decide +kernel
theorem dX2_countParallels_139 : decode cX2_countParallels 139 = .ok (.if_icmp .eq 19, 3) := by decide +kernel
theorem dX2_countParallels_142 : decode cX2_countParallels 142 = .ok (.iload_n 3, 1) := by decide +kernel
theorem dX2_countParallels_143 : decode cX2_countParallels 143 = .ok (.iload 4, 2) := by decide +kernel
theorem dX2_countParallels_145 : decode cX2_countParallels 145 = .ok (.iload 9, 2) := by decide +kernel
theorem dX2_countParallels_147 : decode cX2_countParallels 147 = .ok (.iload 10, 2) := by decide +kernel
theorem dX2_countParallels_149 : decode cX2_countParallels 149 = .ok (.invokestatic 273, 3) := by decide +kernel
theorem dX2_countParallels_152 : decode cX2_countParallels 152 = .ok (.ifCond .eq 6, 3) := by decide +kernel
theorem dX2_countParallels_155 : decode cX2_countParallels 155 = .ok (.iinc 2 1, 3) := by decide +kernel
theorem dX2_countParallels_158 : decode cX2_countParallels 158 = .ok (.iload 9, 2) := by decide +kernel
theorem dX2_countParallels_160 : decode cX2_countParallels 160 = .ok (.istore_n 3, 1) := by decide +kernel
theorem dX2_countParallels_161 : decode cX2_countParallels 161 = .ok (.iload 10, 2) := by decide +kernel
theorem dX2_countParallels_163 : decode cX2_countParallels 163 = .ok (.istore 4, 2) := by decide +kernel
theorem dX2_countParallels_165 : decode cX2_countParallels 165 = .ok (.iinc 6 1, 3) := by decide +kernel
theorem dX2_countParallels_168 : decode cX2_countParallels 168 = .ok (.goto (-155), 3) := by decide +kernel
theorem dX2_countParallels_171 : decode cX2_countParallels 171 = .ok (.iload_n 2, 1) := by decide +kernel
theorem dX2_countParallels_172 : decode cX2_countParallels 172 = .ok (.ireturn, 1) := by decide +kernel
theorem dX2_isParallel_0 : decode cX2_isParallel 0 = .ok (.iload_n 3, 1) := by decide +kernel
theorem dX2_isParallel_1 : decode cX2_isParallel 1 = .ok (.iload_n 2, 1) := by decide +kernel
theorem dX2_isParallel_2 : decode cX2_isParallel 2 = .ok (.isub, 1) := by decide +kernel
theorem dX2_isParallel_3 : decode cX2_isParallel 3 = .ok (.bipush 12, 2) := by decide +kernel
theorem dX2_isParallel_5 : decode cX2_isParallel 5 = .ok (.invokestatic 257, 3) := by decide +kernel
theorem dX2_isParallel_8 : decode cX2_isParallel 8 = .ok (.istore 4, 2) := by decide +kernel
theorem dX2_isParallel_10 : decode cX2_isParallel 10 = .ok (.iload 4, 2) := by decide +kernel
theorem dX2_isParallel_12 : decode cX2_isParallel 12 = .ok (.ifCond .eq 12, 3) := by decide +kernel
theorem dX2_isParallel_15 : decode cX2_isParallel 15 = .ok (.iload 4, 2) := by decide +kernel
theorem dX2_isParallel_17 : decode cX2_isParallel 17 = .ok (.bipush 7, 2) := by decide +kernel
theorem dX2_isParallel_19 : decode cX2_isParallel 19 = .ok (.if_icmp .eq 5, 3) := by decide +kernel
theorem dX2_isParallel_22 : decode cX2_isParallel 22 = .ok (.iconst 0, 1) := by decide +kernel
theorem dX2_isParallel_23 : decode cX2_isParallel 23 = .ok (.ireturn, 1) := by decide +kernel
theorem dX2_isParallel_24 : decode cX2_isParallel 24 = .ok (.iload 4, 2) := by decide +kernel
theorem dX2_isParallel_26 : decode cX2_isParallel 26 = .ok (.iload_n 1, 1) := by decide +kernel
theorem dX2_isParallel_27 : decode cX2_isParallel 27 = .ok (.iload_n 0, 1) := by decide +kernel
theorem dX2_isParallel_28 : decode cX2_isParallel 28 = .ok (.isub, 1) := by decide +kernel
theorem dX2_isParallel_29 : decode cX2_isParallel 29 = .ok (.bipush 12, 2) := by decide +kernel
theorem dX2_isParallel_31 : decode cX2_isParallel 31 = .ok (.invokestatic 257, 3) := by decide +kernel
theorem dX2_isParallel_34 : decode cX2_isParallel 34 = .ok (.if_icmp .eq 5, 3) := by decide +kernel
theorem dX2_isParallel_37 : decode cX2_isParallel 37 = .ok (.iconst 0, 1) := by decide +kernel
theorem dX2_isParallel_38 : decode cX2_isParallel 38 = .ok (.ireturn, 1) := by decide +kernel
theorem dX2_isParallel_39 : decode cX2_isParallel 39 = .ok (.iload_n 2, 1) := by decide +kernel
theorem dX2_isParallel_40 : decode cX2_isParallel 40 = .ok (.iload_n 0, 1) := by decide +kernel
theorem dX2_isParallel_41 : decode cX2_isParallel 41 = .ok (.if_icmp .le 12, 3) := by decide +kernel
theorem dX2_isParallel_44 : decode cX2_isParallel 44 = .ok (.iload_n 3, 1) := by decide +kernel
theorem dX2_isParallel_45 : decode cX2_isParallel 45 = .ok (.iload_n 1, 1) := by decide +kernel
theorem dX2_isParallel_46 : decode cX2_isParallel 46 = .ok (.if_icmp .le 7, 3) := by decide +kernel
theorem dX2_isParallel_49 : decode cX2_isParallel 49 = .ok (.iconst 1, 1) := by decide +kernel
theorem dX2_isParallel_50 : decode cX2_isParallel 50 = .ok (.goto 4, 3) := by decide +kernel
theorem dX2_isParallel_53 : decode cX2_isParallel 53 = .ok (.iconst 0, 1) := by decide +kernel
theorem dX2_isParallel_54 : decode cX2_isParallel 54 = .ok (.istore 5, 2) := by decide +kernel
theorem dX2_isParallel_56 : decode cX2_isParallel 56 = .ok (.iload_n 2, 1) := by decide +kernel
theorem dX2_isParallel_57 : decode cX2_isParallel 57 = .ok (.iload_n 0, 1) := by decide +kernel
theorem dX2_isParallel_58 : decode cX2_isParallel 58 = .ok (.if_icmp .ge 12, 3) := by decide +kernel
theorem dX2_isParallel_61 : decode cX2_isParallel 61 = .ok (.iload_n 3, 1) := by decide +kernel
theorem dX2_isParallel_62 : decode cX2_isParallel 62 = .ok (.iload_n 1, 1) := by decide +kernel
theorem dX2_isParallel_63 : decode cX2_isParallel 63 = .ok (.if_icmp .ge 7, 3) := by decide +kernel
theorem dX2_isParallel_66 : decode cX2_isParallel 66 = .ok (.iconst 1, 1) := by decide +kernel
theorem dX2_isParallel_67 : decode cX2_isParallel 67 = .ok (.goto 4, 3) := by decide +kernel
theorem dX2_isParallel_70 : decode cX2_isParallel 70 = .ok (.iconst 0, 1) := by decide +kernel
theorem dX2_isParallel_71 : decode cX2_isParallel 71 = .ok (.istore 6, 2) := by decide +kernel
theorem dX2_isParallel_73 : decode cX2_isParallel 73 = .ok (.iload 5, 2) := by decide +kernel
theorem dX2_isParallel_75 : decode cX2_isParallel 75 = .ok (.ifCond .ne 8, 3) := by decide +kernel
theorem dX2_isParallel_78 : decode cX2_isParallel 78 = .ok (.iload 6, 2) := by decide +kernel
theorem dX2_isParallel_80 : decode cX2_isParallel 80 = .ok (.ifCond .eq 7, 3) := by decide +kernel
theorem dX2_isParallel_83 : decode cX2_isParallel 83 = .ok (.iconst 1, 1) := by decide +kernel
theorem dX2_isParallel_84 : decode cX2_isParallel 84 = .ok (.goto 4, 3) := by decide +kernel
theorem dX2_isParallel_87 : decode cX2_isParallel 87 = .ok (.iconst 0, 1) := by decide +kernel
theorem dX2_isParallel_88 : decode cX2_isParallel 88 = .ok (.ireturn, 1) := by decide +kernel
theorem dX2_countEvents_0 : decode cX2_countEvents 0 = .ok (.iconst 0, 1) := by decide +kernel
theorem dX2_countEvents_1 : decode cX2_countEvents 1 = .ok (.istore_n 1, 1) := by decide +kernel
theorem dX2_countEvents_2 : decode cX2_countEvents 2 = .ok (.iconst 0, 1) := by decide +kernel
theorem dX2_countEvents_3 : decode cX2_countEvents 3 = .ok (.istore_n 2, 1) := by decide +kernel
theorem dX2_countEvents_4 : decode cX2_countEvents 4 = .ok (.iload_n 2, 1) := by decide +kernel
theorem dX2_countEvents_5 : decode cX2_countEvents 5 = .ok (.aload_n 0, 1) := by decide +kernel
theorem dX2_countEvents_6 : decode cX2_countEvents 6 = .ok (.getfield 26, 3) := by decide +kernel
theorem dX2_countEvents_9 : decode cX2_countEvents 9 = .ok (.if_icmp .ge 21, 3) := by decide +kernel
theorem dX2_countEvents_12 : decode cX2_countEvents 12 = .ok (.iload_n 1, 1) := by decide +kernel
theorem dX2_countEvents_13 : decode cX2_countEvents 13 = .ok (.aload_n 0, 1) := by decide +kernel
theorem dX2_countEvents_14 : decode cX2_countEvents 14 = .ok (.getfield 11, 3) := by decide +kernel
theorem dX2_countEvents_17 : decode cX2_countEvents 17 = .ok (.iload_n 2, 1) := by decide +kernel
theorem dX2_countEvents_18 : decode cX2_countEvents 18 = .ok (.aaload, 1) := by decide +kernel
theorem dX2_countEvents_19 : decode cX2_countEvents 19 = .ok (.getfield 277, 3) := by decide +kernel
theorem dX2_countEvents_22 : decode cX2_countEvents 22 = .ok (.iadd, 1) := by decide +kernel
theorem dX2_countEvents_23 : decode cX2_countEvents 23 = .ok (.istore_n 1, 1) := by decide +kernel
theorem dX2_countEvents_24 : decode cX2_countEvents 24 = .ok (.iinc 2 1, 3) := by decide +kernel
theorem dX2_countEvents_27 : decode cX2_countEvents 27 = .ok (.goto (-23), 3) := by decide +kernel
theorem dX2_countEvents_30 : decode cX2_countEvents 30 = .ok (.iconst 2, 1) := by decide +kernel
theorem dX2_countEvents_31 : decode cX2_countEvents 31 = .ok (.iload_n 1, 1) := by decide +kernel
theorem dX2_countEvents_32 : decode cX2_countEvents 32 = .ok (.imul, 1) := by decide +kernel
theorem dX2_countEvents_33 : decode cX2_countEvents 33 = .ok (.ireturn, 1) := by decide +kernel
theorem dX2_refreshEvents_0 : decode cX2_refreshEvents 0 = .ok (.aload_n 0, 1) := by decide +kernel
theorem dX2_refreshEvents_1 : decode cX2_refreshEvents 1 = .ok (.getfield 39, 3) := by decide +kernel
theorem dX2_refreshEvents_4 : decode cX2_refreshEvents 4 = .ok (.ifCond .ne 27, 3) := by decide +kernel
theorem dX2_refreshEvents_7 : decode cX2_refreshEvents 7 = .ok (.aload_n 0, 1) := by decide +kernel
theorem dX2_refreshEvents_8 : decode cX2_refreshEvents 8 = .ok (.getfield 18, 3) := by decide +kernel
theorem dX2_refreshEvents_11 : decode cX2_refreshEvents 11 = .ok (.aload_n 0, 1) := by decide +kernel
theorem dX2_refreshEvents_12 : decode cX2_refreshEvents 12 = .ok (.getfield 11, 3) := by decide +kernel
theorem dX2_refreshEvents_15 : decode cX2_refreshEvents 15 = .ok (.aload_n 0, 1) := by decide +kernel
theorem dX2_refreshEvents_16 : decode cX2_refreshEvents 16 = .ok (.getfield 26, 3) := by decide +kernel
theorem dX2_refreshEvents_19 : decode cX2_refreshEvents 19 = .ok (.aload_n 0, 1) := by decide +kernel
theorem dX2_refreshEvents_20 : decode cX2_refreshEvents 20 = .ok (.invokevirtual 183, 3) := by decide +kernel
theorem dX2_refreshEvents_23 : decode cX2_refreshEvents 23 = .ok (.invokevirtual 280, 3) := by decide +kernel
theorem dX2_refreshEvents_26 : decode cX2_refreshEvents 26 = .ok (.aload_n 0, 1) := by decide +kernel
theorem dX2_refreshEvents_27 : decode cX2_refreshEvents 27 = .ok (.iconst 1, 1) := by decide +kernel
theorem dX2_refreshEvents_28 : decode cX2_refreshEvents 28 = .ok (.putfield 39, 3) := by decide +kernel
theorem dX2_refreshEvents_31 : decode cX2_refreshEvents 31 = .ok (.return_, 1) := by decide +kernel
theorem dX2_digestVoice_0 : decode cX2_digestVoice 0 = .ok (.lload_n 0, 1) := by decide +kernel
theorem dX2_digestVoice_1 : decode cX2_digestVoice 1 = .ok (.lstore_n 3, 1) := by decide +kernel
theorem dX2_digestVoice_2 : decode cX2_digestVoice 2 = .ok (.iconst 0, 1) := by decide +kernel
theorem dX2_digestVoice_3 : decode cX2_digestVoice 3 = .ok (.istore 5, 2) := by decide +kernel
theorem dX2_digestVoice_5 : decode cX2_digestVoice 5 = .ok (.iload 5, 2) := by decide +kernel
theorem dX2_digestVoice_7 : decode cX2_digestVoice 7 = .ok (.bipush 7, 2) := by decide +kernel
theorem dX2_digestVoice_9 : decode cX2_digestVoice 9 = .ok (.if_icmp .ge 23, 3) := by decide +kernel
theorem dX2_digestVoice_12 : decode cX2_digestVoice 12 = .ok (.lload_n 3, 1) := by decide +kernel
theorem dX2_digestVoice_13 : decode cX2_digestVoice 13 = .ok (.ldc2_w 201, 3) := by decide +kernel
theorem dX2_digestVoice_16 : decode cX2_digestVoice 16 = .ok (.lmul, 1) := by decide +kernel
theorem dX2_digestVoice_17 : decode cX2_digestVoice 17 = .ok (.aload_n 2, 1) := by decide +kernel
theorem dX2_digestVoice_18 : decode cX2_digestVoice 18 = .ok (.iload 5, 2) := by decide +kernel
theorem dX2_digestVoice_20 : decode cX2_digestVoice 20 = .ok (.invokevirtual 148, 3) := by decide +kernel
theorem dX2_digestVoice_23 : decode cX2_digestVoice 23 = .ok (.i2l, 1) := by decide +kernel
theorem dX2_digestVoice_24 : decode cX2_digestVoice 24 = .ok (.ladd, 1) := by decide +kernel
theorem dX2_digestVoice_25 : decode cX2_digestVoice 25 = .ok (.lstore_n 3, 1) := by decide +kernel
theorem dX2_digestVoice_26 : decode cX2_digestVoice 26 = .ok (.iinc 5 1, 3) := by decide +kernel
theorem dX2_digestVoice_29 : decode cX2_digestVoice 29 = .ok (.goto (-24), 3) := by decide +kernel
theorem dX2_digestVoice_32 : decode cX2_digestVoice 32 = .ok (.iconst 0, 1) := by decide +kernel
theorem dX2_digestVoice_33 : decode cX2_digestVoice 33 = .ok (.istore 5, 2) := by decide +kernel
theorem dX2_digestVoice_35 : decode cX2_digestVoice 35 = .ok (.iload 5, 2) := by decide +kernel
theorem dX2_digestVoice_37 : decode cX2_digestVoice 37 = .ok (.aload_n 2, 1) := by decide +kernel
theorem dX2_digestVoice_38 : decode cX2_digestVoice 38 = .ok (.getfield 103, 3) := by decide +kernel
theorem dX2_digestVoice_41 : decode cX2_digestVoice 41 = .ok (.if_icmp .ge 43, 3) := by decide +kernel
theorem dX2_digestVoice_44 : decode cX2_digestVoice 44 = .ok (.iconst 0, 1) := by decide +kernel
theorem dX2_digestVoice_45 : decode cX2_digestVoice 45 = .ok (.istore 6, 2) := by decide +kernel
theorem dX2_digestVoice_47 : decode cX2_digestVoice 47 = .ok (.iload 6, 2) := by decide +kernel
theorem dX2_digestVoice_49 : decode cX2_digestVoice 49 = .ok (.bipush 9, 2) := by decide +kernel
theorem dX2_digestVoice_51 : decode cX2_digestVoice 51 = .ok (.if_icmp .ge 27, 3) := by decide +kernel
theorem dX2_digestVoice_54 : decode cX2_digestVoice 54 = .ok (.lload_n 3, 1) := by decide +kernel
theorem dX2_digestVoice_55 : decode cX2_digestVoice 55 = .ok (.ldc2_w 201, 3) := by decide +kernel
theorem dX2_digestVoice_58 : decode cX2_digestVoice 58 = .ok (.lmul, 1) := by decide +kernel
theorem dX2_digestVoice_59 : decode cX2_digestVoice 59 = .ok (.aload_n 2, 1) := by decide +kernel
theorem dX2_digestVoice_60 : decode cX2_digestVoice 60 = .ok (.getfield 114, 3) := by decide +kernel
theorem dX2_digestVoice_63 : decode cX2_digestVoice 63 = .ok (.iload 6, 2) := by decide +kernel
theorem dX2_digestVoice_65 : decode cX2_digestVoice 65 = .ok (.aaload, 1) := by decide +kernel
theorem dX2_digestVoice_66 : decode cX2_digestVoice 66 = .ok (.iload 5, 2) := by decide +kernel
theorem dX2_digestVoice_68 : decode cX2_digestVoice 68 = .ok (.iaload, 1) := by decide +kernel
theorem dX2_digestVoice_69 : decode cX2_digestVoice 69 = .ok (.i2l, 1) := by decide +kernel
theorem dX2_digestVoice_70 : decode cX2_digestVoice 70 = .ok (.ladd, 1) := by decide +kernel
theorem dX2_digestVoice_71 : decode cX2_digestVoice 71 = .ok (.lstore_n 3, 1) := by decide +kernel
theorem dX2_digestVoice_72 : decode cX2_digestVoice 72 = .ok (.iinc 6 1, 3) := by decide +kernel
theorem dX2_digestVoice_75 : decode cX2_digestVoice 75 = .ok (.goto (-28), 3) := by decide +kernel
theorem dX2_digestVoice_78 : decode cX2_digestVoice 78 = .ok (.iinc 5 1, 3) := by decide +kernel
theorem dX2_digestVoice_81 : decode cX2_digestVoice 81 = .ok (.goto (-46), 3) := by decide +kernel
theorem dX2_digestVoice_84 : decode cX2_digestVoice 84 = .ok (.lload_n 3, 1) := by decide +kernel
theorem dX2_digestVoice_85 : decode cX2_digestVoice 85 = .ok (.lreturn, 1) := by decide +kernel
theorem dX2_digestEvents_0 : decode cX2_digestEvents 0 = .ok (.lload_n 1, 1) := by decide +kernel
theorem dX2_digestEvents_1 : decode cX2_digestEvents 1 = .ok (.lstore_n 3, 1) := by decide +kernel
theorem dX2_digestEvents_2 : decode cX2_digestEvents 2 = .ok (.aload_n 0, 1) := by decide +kernel
theorem dX2_digestEvents_3 : decode cX2_digestEvents 3 = .ok (.invokevirtual 183, 3) := by decide +kernel
theorem dX2_digestEvents_6 : decode cX2_digestEvents 6 = .ok (.istore 5, 2) := by decide +kernel
theorem dX2_digestEvents_8 : decode cX2_digestEvents 8 = .ok (.iconst 0, 1) := by decide +kernel
theorem dX2_digestEvents_9 : decode cX2_digestEvents 9 = .ok (.istore 6, 2) := by decide +kernel
theorem dX2_digestEvents_11 : decode cX2_digestEvents 11 = .ok (.iload 6, 2) := by decide +kernel
theorem dX2_digestEvents_13 : decode cX2_digestEvents 13 = .ok (.iload 5, 2) := by decide +kernel
theorem dX2_digestEvents_15 : decode cX2_digestEvents 15 = .ok (.if_icmp .ge 45, 3) := by decide +kernel
theorem dX2_digestEvents_18 : decode cX2_digestEvents 18 = .ok (.iconst 0, 1) := by decide +kernel
theorem dX2_digestEvents_19 : decode cX2_digestEvents 19 = .ok (.istore 7, 2) := by decide +kernel
theorem dX2_digestEvents_21 : decode cX2_digestEvents 21 = .ok (.iload 7, 2) := by decide +kernel
theorem dX2_digestEvents_23 : decode cX2_digestEvents 23 = .ok (.iconst 4, 1) := by decide +kernel
theorem dX2_digestEvents_24 : decode cX2_digestEvents 24 = .ok (.if_icmp .ge 30, 3) := by decide +kernel
theorem dX2_digestEvents_27 : decode cX2_digestEvents 27 = .ok (.lload_n 3, 1) := by decide +kernel
theorem dX2_digestEvents_28 : decode cX2_digestEvents 28 = .ok (.ldc2_w 201, 3) := by decide +kernel
theorem dX2_digestEvents_31 : decode cX2_digestEvents 31 = .ok (.lmul, 1) := by decide +kernel
theorem dX2_digestEvents_32 : decode cX2_digestEvents 32 = .ok (.aload_n 0, 1) := by decide +kernel
theorem dX2_digestEvents_33 : decode cX2_digestEvents 33 = .ok (.getfield 18, 3) := by decide +kernel
theorem dX2_digestEvents_36 : decode cX2_digestEvents 36 = .ok (.getfield 193, 3) := by decide +kernel
theorem dX2_digestEvents_39 : decode cX2_digestEvents 39 = .ok (.iload 7, 2) := by decide +kernel
theorem dX2_digestEvents_41 : decode cX2_digestEvents 41 = .ok (.aaload, 1) := by decide +kernel
theorem dX2_digestEvents_42 : decode cX2_digestEvents 42 = .ok (.iload 6, 2) := by decide +kernel
theorem dX2_digestEvents_44 : decode cX2_digestEvents 44 = .ok (.iaload, 1) := by decide +kernel
theorem dX2_digestEvents_45 : decode cX2_digestEvents 45 = .ok (.i2l, 1) := by decide +kernel
theorem dX2_digestEvents_46 : decode cX2_digestEvents 46 = .ok (.ladd, 1) := by decide +kernel
theorem dX2_digestEvents_47 : decode cX2_digestEvents 47 = .ok (.lstore_n 3, 1) := by decide +kernel
theorem dX2_digestEvents_48 : decode cX2_digestEvents 48 = .ok (.iinc 7 1, 3) := by decide +kernel
theorem dX2_digestEvents_51 : decode cX2_digestEvents 51 = .ok (.goto (-30), 3) := by decide +kernel
theorem dX2_digestEvents_54 : decode cX2_digestEvents 54 = .ok (.iinc 6 1, 3) := by decide +kernel
theorem dX2_digestEvents_57 : decode cX2_digestEvents 57 = .ok (.goto (-46), 3) := by decide +kernel
theorem dX2_digestEvents_60 : decode cX2_digestEvents 60 = .ok (.lload_n 3, 1) := by decide +kernel
theorem dX2_digestEvents_61 : decode cX2_digestEvents 61 = .ok (.lreturn, 1) := by decide +kernel
theorem dX3_init_0 : decode cX3_init 0 = .ok (.aload_n 0, 1) := by decide +kernel
theorem dX3_init_1 : decode cX3_init 1 = .ok (.invokespecial 1, 3) := by decide +kernel
theorem dX3_init_4 : decode cX3_init 4 = .ok (.aload_n 0, 1) := by decide +kernel
theorem dX3_init_5 : decode cX3_init 5 = .ok (.iconst 4, 1) := by decide +kernel
theorem dX3_init_6 : decode cX3_init 6 = .ok (.putfield 7, 3) := by decide +kernel
theorem dX3_init_9 : decode cX3_init 9 = .ok (.aload_n 0, 1) := by decide +kernel
theorem dX3_init_10 : decode cX3_init 10 = .ok (.iconst 4, 1) := by decide +kernel
theorem dX3_init_11 : decode cX3_init 11 = .ok (.putfield 13, 3) := by decide +kernel
theorem dX3_init_14 : decode cX3_init 14 = .ok (.aload_n 0, 1) := by decide +kernel
theorem dX3_init_15 : decode cX3_init 15 = .ok (.iconst 4, 1) := by decide +kernel
theorem dX3_init_16 : decode cX3_init 16 = .ok (.newarray .int, 2) := by decide +kernel
theorem dX3_init_18 : decode cX3_init 18 = .ok (.putfield 16, 3) := by decide +kernel
theorem dX3_init_21 : decode cX3_init 21 = .ok (.aload_n 0, 1) := by decide +kernel
theorem dX3_init_22 : decode cX3_init 22 = .ok (.iconst 4, 1) := by decide +kernel
theorem dX3_init_23 : decode cX3_init 23 = .ok (.sipush 2000, 3) := by decide +kernel
theorem dX3_init_26 : decode cX3_init 26 = .ok (.multianewarray 20 2, 4) := by decide +kernel
theorem dX3_init_30 : decode cX3_init 30 = .ok (.putfield 22, 3) := by decide +kernel
theorem dX3_init_33 : decode cX3_init 33 = .ok (.aload_n 0, 1) := by decide +kernel
theorem dX3_init_34 : decode cX3_init 34 = .ok (.iconst 4, 1) := by decide +kernel
theorem dX3_init_35 : decode cX3_init 35 = .ok (.newarray .int, 2) := by decide +kernel
theorem dX3_init_37 : decode cX3_init 37 = .ok (.putfield 25, 3) := by decide +kernel
theorem dX3_init_40 : decode cX3_init 40 = .ok (.aload_n 0, 1) := by decide +kernel
theorem dX3_init_41 : decode cX3_init 41 = .ok (.iconst 4, 1) := by decide +kernel
theorem dX3_init_42 : decode cX3_init 42 = .ok (.newarray .int, 2) := by decide +kernel
theorem dX3_init_44 : decode cX3_init 44 = .ok (.putfield 28, 3) := by decide +kernel
theorem dX3_init_47 : decode cX3_init 47 = .ok (.aload_n 0, 1) := by decide +kernel
theorem dX3_init_48 : decode cX3_init 48 = .ok (.bipush 63, 2) := by decide +kernel
theorem dX3_init_50 : decode cX3_init 50 = .ok (.newarray .int, 2) := by decide +kernel
theorem dX3_init_52 : decode cX3_init 52 = .ok (.putfield 31, 3) := by decide +kernel
theorem dX3_init_55 : decode cX3_init 55 = .ok (.aload_n 0, 1) := by decide +kernel
theorem dX3_init_56 : decode cX3_init 56 = .ok (.sipush 6400, 3) := by decide +kernel
theorem dX3_init_59 : decode cX3_init 59 = .ok (.newarray .int, 2) := by decide +kernel
theorem dX3_init_61 : decode cX3_init 61 = .ok (.putfield 34, 3) := by decide +kernel
theorem dX3_init_64 : decode cX3_init 64 = .ok (.return_, 1) := by decide +kernel
theorem dX3_thrown_0 : decode cX3_thrown 0 = .ok (.aload_n 0, 1) := by decide +kernel
theorem dX3_thrown_1 : decode cX3_thrown 1 = .ok (.getfield 37, 3) := by decide +kernel
theorem dX3_thrown_4 : decode cX3_thrown 4 = .ok (.ireturn, 1) := by decide +kernel
theorem dX3_fail_0 : decode cX3_fail 0 = .ok (.aload_n 0, 1) := by decide +kernel
theorem dX3_fail_1 : decode cX3_fail 1 = .ok (.iload_n 1, 1) := by decide +kernel
theorem dX3_fail_2 : decode cX3_fail 2 = .ok (.putfield 37, 3) := by decide +kernel
theorem dX3_fail_5 : decode cX3_fail 5 = .ok (.iconst 0, 1) := by decide +kernel
theorem dX3_fail_6 : decode cX3_fail 6 = .ok (.ireturn, 1) := by decide +kernel
theorem dX3_isIn_0 : decode cX3_isIn 0 = .ok (.iload_n 0, 1) := by decide +kernel
theorem dX3_isIn_1 : decode cX3_isIn 1 = .ok (.iload_n 1, 1) := by decide +kernel
theorem dX3_isIn_2 : decode cX3_isIn 2 = .ok (.if_icmp .lt 12, 3) := by decide +kernel
theorem dX3_isIn_5 : decode cX3_isIn 5 = .ok (.iload_n 0, 1) := by decide +kernel
theorem dX3_isIn_6 : decode cX3_isIn 6 = .ok (.iload_n 2, 1) := by decide +kernel
theorem dX3_isIn_7 : decode cX3_isIn 7 = .ok (.if_icmp .gt 7, 3) := by decide +kernel
theorem dX3_isIn_10 : decode cX3_isIn 10 = .ok (.iconst 1, 1) := by decide +kernel
theorem dX3_isIn_11 : decode cX3_isIn 11 = .ok (.goto 4, 3) := by decide +kernel
theorem dX3_isIn_14 : decode cX3_isIn 14 = .ok (.iconst 0, 1) := by decide +kernel
theorem dX3_isIn_15 : decode cX3_isIn 15 = .ok (.ireturn, 1) := by decide +kernel
theorem dX3_isVoice_0 : decode cX3_isVoice 0 = .ok (.iload_n 1, 1) := by decide +kernel
theorem dX3_isVoice_1 : decode cX3_isVoice 1 = .ok (.iconst 0, 1) := by decide +kernel
theorem dX3_isVoice_2 : decode cX3_isVoice 2 = .ok (.aload_n 0, 1) := by decide +kernel
theorem dX3_isVoice_3 : decode cX3_isVoice 3 = .ok (.getfield 40, 3) := by decide +kernel
theorem dX3_isVoice_6 : decode cX3_isVoice 6 = .ok (.iconst 1, 1) := by decide +kernel
theorem dX3_isVoice_7 : decode cX3_isVoice 7 = .ok (.isub, 1) := by decide +kernel
theorem dX3_isVoice_8 : decode cX3_isVoice 8 = .ok (.invokestatic 43, 3) := by decide +kernel
theorem dX3_isVoice_11 : decode cX3_isVoice 11 = .ok (.ireturn, 1) := by decide +kernel
theorem dX3_isElement_0 : decode cX3_isElement 0 = .ok (.aload_n 0, 1) := by decide +kernel
theorem dX3_isElement_1 : decode cX3_isElement 1 = .ok (.iload_n 1, 1) := by decide +kernel
theorem dX3_isElement_2 : decode cX3_isElement 2 = .ok (.invokevirtual 47, 3) := by decide +kernel
theorem dX3_isElement_5 : decode cX3_isElement 5 = .ok (.ifCond .eq 23, 3) := by decide +kernel
theorem dX3_isElement_8 : decode cX3_isElement 8 = .ok (.iload_n 2, 1) := by decide +kernel
theorem dX3_isElement_9 : decode cX3_isElement 9 = .ok (.iconst 0, 1) := by decide +kernel
theorem dX3_isElement_10 : decode cX3_isElement 10 = .ok (.aload_n 0, 1) := by decide +kernel
theorem dX3_isElement_11 : decode cX3_isElement 11 = .ok (.getfield 16, 3) := by decide +kernel
theorem dX3_isElement_14 : decode cX3_isElement 14 = .ok (.iload_n 1, 1) := by decide +kernel
theorem dX3_isElement_15 : decode cX3_isElement 15 = .ok (.iaload, 1) := by decide +kernel
theorem dX3_isElement_16 : decode cX3_isElement 16 = .ok (.iconst 1, 1) := by decide +kernel
theorem dX3_isElement_17 : decode cX3_isElement 17 = .ok (.isub, 1) := by decide +kernel
theorem dX3_isElement_18 : decode cX3_isElement 18 = .ok (.invokestatic 43, 3) := by decide +kernel
theorem dX3_isElement_21 : decode cX3_isElement 21 = .ok (.ifCond .eq 7, 3) := by decide +kernel
theorem dX3_isElement_24 : decode cX3_isElement 24 = .ok (.iconst 1, 1) := by decide +kernel
theorem dX3_isElement_25 : decode cX3_isElement 25 = .ok (.goto 4, 3) := by decide +kernel
theorem dX3_isElement_28 : decode cX3_isElement 28 = .ok (.iconst 0, 1) := by decide +kernel
theorem dX3_isElement_29 : decode cX3_isElement 29 = .ok (.ireturn, 1) := by decide +kernel
theorem dX3_get_0 : decode cX3_get 0 = .ok (.aload_n 0, 1) := by decide +kernel
theorem dX3_get_1 : decode cX3_get 1 = .ok (.getfield 22, 3) := by decide +kernel
theorem dX3_get_4 : decode cX3_get 4 = .ok (.iload_n 1, 1) := by decide +kernel
theorem dX3_get_5 : decode cX3_get 5 = .ok (.aaload, 1) := by decide +kernel
theorem dX3_get_6 : decode cX3_get 6 = .ok (.bipush 10, 2) := by decide +kernel
theorem dX3_get_8 : decode cX3_get 8 = .ok (.iload_n 2, 1) := by decide +kernel
theorem dX3_get_9 : decode cX3_get 9 = .ok (.imul, 1) := by decide +kernel
theorem dX3_get_10 : decode cX3_get 10 = .ok (.iload_n 3, 1) := by decide +kernel
theorem dX3_get_11 : decode cX3_get 11 = .ok (.iadd, 1) := by decide +kernel
theorem dX3_get_12 : decode cX3_get 12 = .ok (.iaload, 1) := by decide +kernel
theorem dX3_get_13 : decode cX3_get 13 = .ok (.ireturn, 1) := by decide +kernel
theorem dX3_bar_0 : decode cX3_bar 0 = .ok (.aload_n 0, 1) := by decide +kernel
theorem dX3_bar_1 : decode cX3_bar 1 = .ok (.getfield 7, 3) := by decide +kernel
theorem dX3_bar_4 : decode cX3_bar 4 = .ok (.sipush 384, 3) := by decide +kernel
theorem dX3_bar_7 : decode cX3_bar 7 = .ok (.imul, 1) := by decide +kernel
theorem dX3_bar_8 : decode cX3_bar 8 = .ok (.aload_n 0, 1) := by decide +kernel
theorem dX3_bar_9 : decode cX3_bar 9 = .ok (.getfield 13, 3) := by decide +kernel
theorem dX3_bar_12 : decode cX3_bar 12 = .ok (.idiv, 1) := by decide +kernel
theorem dX3_bar_13 : decode cX3_bar 13 = .ok (.ireturn, 1) := by decide +kernel
theorem dX3_isValue_0 : decode cX3_isValue 0 = .ok (.iconst 0, 1) := by decide +kernel
theorem dX3_isValue_1 : decode cX3_isValue 1 = .ok (.istore_n 2, 1) := by decide +kernel
theorem dX3_isValue_2 : decode cX3_isValue 2 = .ok (.iconst 0, 1) := by decide +kernel
theorem dX3_isValue_3 : decode cX3_isValue 3 = .ok (.istore_n 3, 1) := by decide +kernel
theorem dX3_isValue_4 : decode cX3_isValue 4 = .ok (.iload_n 3, 1) := by decide +kernel
theorem dX3_isValue_5 : decode cX3_isValue 5 = .ok (.getstatic 51, 3) := by decide +kernel
theorem dX3_isValue_8 : decode cX3_isValue 8 = .ok (.arraylength, 1) := by decide +kernel
theorem dX3_isValue_9 : decode cX3_isValue 9 = .ok (.if_icmp .ge 37, 3) := by decide +kernel
theorem dX3_isValue_12 : decode cX3_isValue 12 = .ok (.iload_n 2, 1) := by decide +kernel
theorem dX3_isValue_13 : decode cX3_isValue 13 = .ok (.ifCond .ne 21, 3) := by decide +kernel
theorem dX3_isValue_16 : decode cX3_isValue 16 = .ok (.getstatic 51, 3) := by decide +kernel
theorem dX3_isValue_19 : decode cX3_isValue 19 = .ok (.iload_n 3, 1) := by decide +kernel
theorem dX3_isValue_20 : decode cX3_isValue 20 = .ok (.iaload, 1) := by decide +kernel
theorem dX3_isValue_21 : decode cX3_isValue 21 = .ok (.iload_n 0, 1) := by decide +kernel
theorem dX3_isValue_22 : decode cX3_isValue 22 = .ok (.if_icmp .ne 16, 3) := by decide +kernel
theorem dX3_isValue_25 : decode cX3_isValue 25 = .ok (.getstatic 54, 3) := by decide +kernel
theorem dX3_isValue_28 : decode cX3_isValue 28 = .ok (.iload_n 3, 1) := by decide +kernel
theorem dX3_isValue_29 : decode cX3_isValue 29 = .ok (.iaload, 1) := by decide +kernel
theorem dX3_isValue_30 : decode cX3_isValue 30 = .ok (.iload_n 1, 1) := by decide +kernel
theorem dX3_isValue_31 : decode cX3_isValue 31 = .ok (.if_icmp .ne 7, 3) := by decide +kernel
theorem dX3_isValue_34 : decode cX3_isValue 34 = .ok (.iconst 1, 1) := by decide +kernel
theorem dX3_isValue_35 : decode cX3_isValue 35 = .ok (.goto 4, 3) := by decide +kernel
theorem dX3_isValue_38 : decode cX3_isValue 38 = .ok (.iconst 0, 1) := by decide +kernel
theorem dX3_isValue_39 : decode cX3_isValue 39 = .ok (.istore_n 2, 1) := by decide +kernel
theorem dX3_isValue_40 : decode cX3_isValue 40 = .ok (.iinc 3 1, 3) := by decide +kernel
theorem dX3_isValue_43 : decode cX3_isValue 43 = .ok (.goto (-39), 3) := by decide +kernel
theorem dX3_isValue_46 : decode cX3_isValue 46 = .ok (.iload_n 2, 1) := by decide +kernel
theorem dX3_isValue_47 : decode cX3_isValue 47 = .ok (.ireturn, 1) := by decide +kernel
theorem dX3_ticksOf_0 : decode cX3_ticksOf 0 = .ok (.sipush 384, 3) := by decide +kernel
theorem dX3_ticksOf_3 : decode cX3_ticksOf 3 = .ok (.iload_n 0, 1) := by decide +kernel
theorem dX3_ticksOf_4 : decode cX3_ticksOf 4 = .ok (.idiv, 1) := by decide +kernel
theorem dX3_ticksOf_5 : decode cX3_ticksOf 5 = .ok (.istore_n 2, 1) := by decide +kernel
theorem dX3_ticksOf_6 : decode cX3_ticksOf 6 = .ok (.iload_n 2, 1) := by decide +kernel
theorem dX3_ticksOf_7 : decode cX3_ticksOf 7 = .ok (.iload_n 1, 1) := by decide +kernel
theorem dX3_ticksOf_8 : decode cX3_ticksOf 8 = .ok (.ifCond .le 9, 3) := by decide +kernel
theorem dX3_ticksOf_11 : decode cX3_ticksOf 11 = .ok (.iload_n 2, 1) := by decide +kernel
theorem dX3_ticksOf_12 : decode cX3_ticksOf 12 = .ok (.iconst 2, 1) := by decide +kernel
theorem dX3_ticksOf_13 : decode cX3_ticksOf 13 = .ok (.idiv, 1) := by decide +kernel
theorem dX3_ticksOf_14 : decode cX3_ticksOf 14 = .ok (.goto 4, 3) := by decide +kernel
theorem dX3_ticksOf_17 : decode cX3_ticksOf 17 = .ok (.iconst 0, 1) := by decide +kernel
theorem dX3_ticksOf_18 : decode cX3_ticksOf 18 = .ok (.iadd, 1) := by decide +kernel
theorem dX3_ticksOf_19 : decode cX3_ticksOf 19 = .ok (.iload_n 1, 1) := by decide +kernel
theorem dX3_ticksOf_20 : decode cX3_ticksOf 20 = .ok (.iconst 1, 1) := by decide +kernel
theorem dX3_ticksOf_21 : decode cX3_ticksOf 21 = .ok (.if_icmp .le 9, 3) := by decide +kernel
theorem dX3_ticksOf_24 : decode cX3_ticksOf 24 = .ok (.iload_n 2, 1) := by decide +kernel
theorem dX3_ticksOf_25 : decode cX3_ticksOf 25 = .ok (.iconst 4, 1) := by decide +kernel
theorem dX3_ticksOf_26 : decode cX3_ticksOf 26 = .ok (.idiv, 1) := by decide +kernel
theorem dX3_ticksOf_27 : decode cX3_ticksOf 27 = .ok (.goto 4, 3) := by decide +kernel
theorem dX3_ticksOf_30 : decode cX3_ticksOf 30 = .ok (.iconst 0, 1) := by decide +kernel
theorem dX3_ticksOf_31 : decode cX3_ticksOf 31 = .ok (.iadd, 1) := by decide +kernel
theorem dX3_ticksOf_32 : decode cX3_ticksOf 32 = .ok (.ireturn, 1) := by decide +kernel
theorem dX3_length_0 : decode cX3_length 0 = .ok (.aload_n 0, 1) := by decide +kernel
theorem dX3_length_1 : decode cX3_length 1 = .ok (.iload_n 1, 1) := by decide +kernel
theorem dX3_length_2 : decode cX3_length 2 = .ok (.iload_n 2, 1) := by decide +kernel
theorem dX3_length_3 : decode cX3_length 3 = .ok (.iconst 0, 1) := by decide +kernel
theorem dX3_length_4 : decode cX3_length 4 = .ok (.invokevirtual 57, 3) := by decide +kernel
theorem dX3_length_7 : decode cX3_length 7 = .ok (.aload_n 0, 1) := by decide +kernel
theorem dX3_length_8 : decode cX3_length 8 = .ok (.iload_n 1, 1) := by decide +kernel
theorem dX3_length_9 : decode cX3_length 9 = .ok (.iload_n 2, 1) := by decide +kernel
theorem dX3_length_10 : decode cX3_length 10 = .ok (.iconst 1, 1) := by decide +kernel
theorem dX3_length_11 : decode cX3_length 11 = .ok (.invokevirtual 57, 3) := by decide +kernel
theorem dX3_length_14 : decode cX3_length 14 = .ok (.invokestatic 61, 3) := by decide +kernel
theorem dX3_length_17 : decode cX3_length 17 = .ok (.ireturn, 1) := by decide +kernel
theorem dX3_tone_0 : decode cX3_tone 0 = .ok (.aload_n 0, 1) := by decide +kernel
theorem dX3_tone_1 : decode cX3_tone 1 = .ok (.iload_n 1, 1) := by decide +kernel
theorem dX3_tone_2 : decode cX3_tone 2 = .ok (.iload_n 2, 1) := by decide +kernel
theorem dX3_tone_3 : decode cX3_tone 3 = .ok (.iconst 2, 1) := by decide +kernel
theorem dX3_tone_4 : decode cX3_tone 4 = .ok (.invokevirtual 57, 3) := by decide +kernel
theorem dX3_tone_7 : decode cX3_tone 7 = .ok (.ifCond .ne 7, 3) := by decide +kernel
theorem dX3_tone_10 : decode cX3_tone 10 = .ok (.iconst (-1), 1) := by decide +kernel
theorem dX3_tone_11 : decode cX3_tone 11 = .ok (.goto 27, 3) := by decide +kernel
theorem dX3_tone_14 : decode cX3_tone 14 = .ok (.aload_n 0, 1) := by decide +kernel
theorem dX3_tone_15 : decode cX3_tone 15 = .ok (.iload_n 1, 1) := by decide +kernel
theorem dX3_tone_16 : decode cX3_tone 16 = .ok (.iload_n 2, 1) := by decide +kernel
theorem dX3_tone_17 : decode cX3_tone 17 = .ok (.iconst 3, 1) := by decide +kernel
theorem dX3_tone_18 : decode cX3_tone 18 = .ok (.invokevirtual 57, 3) := by decide +kernel
theorem dX3_tone_21 : decode cX3_tone 21 = .ok (.aload_n 0, 1) := by decide +kernel
theorem dX3_tone_22 : decode cX3_tone 22 = .ok (.iload_n 1, 1) := by decide +kernel
theorem dX3_tone_23 : decode cX3_tone 23 = .ok (.iload_n 2, 1) := by decide +kernel
theorem dX3_tone_24 : decode cX3_tone 24 = .ok (.iconst 4, 1) := by decide +kernel
theorem dX3_tone_25 : decode cX3_tone 25 = .ok (.invokevirtual 57, 3) := by decide +kernel
theorem dX3_tone_28 : decode cX3_tone 28 = .ok (.aload_n 0, 1) := by decide +kernel
theorem dX3_tone_29 : decode cX3_tone 29 = .ok (.iload_n 1, 1) := by decide +kernel
theorem dX3_tone_30 : decode cX3_tone 30 = .ok (.iload_n 2, 1) := by decide +kernel
theorem dX3_tone_31 : decode cX3_tone 31 = .ok (.iconst 5, 1) := by decide +kernel
theorem dX3_tone_32 : decode cX3_tone 32 = .ok (.invokevirtual 57, 3) := by decide +kernel
theorem dX3_tone_35 : decode cX3_tone 35 = .ok (.invokestatic 65, 3) := by decide +kernel
theorem dX3_tone_38 : decode cX3_tone 38 = .ok (.ireturn, 1) := by decide +kernel
theorem dX3_toneOf_0 : decode cX3_toneOf 0 = .ok (.bipush 12, 2) := by decide +kernel
theorem dX3_toneOf_2 : decode cX3_toneOf 2 = .ok (.iload_n 2, 1) := by decide +kernel
theorem dX3_toneOf_3 : decode cX3_toneOf 3 = .ok (.imul, 1) := by decide +kernel
theorem dX3_toneOf_4 : decode cX3_toneOf 4 = .ok (.getstatic 68, 3) := by decide +kernel
theorem dX3_toneOf_7 : decode cX3_toneOf 7 = .ok (.iload_n 0, 1) := by decide +kernel
theorem dX3_toneOf_8 : decode cX3_toneOf 8 = .ok (.iaload, 1) := by decide +kernel
theorem dX3_toneOf_9 : decode cX3_toneOf 9 = .ok (.iadd, 1) := by decide +kernel
theorem dX3_toneOf_10 : decode cX3_toneOf 10 = .ok (.iload_n 1, 1) := by decide +kernel
theorem dX3_toneOf_11 : decode cX3_toneOf 11 = .ok (.iadd, 1) := by decide +kernel
theorem dX3_toneOf_12 : decode cX3_toneOf 12 = .ok (.ireturn, 1) := by decide +kernel
theorem dX3_isPitch_0 : decode cX3_isPitch 0 = .ok (.iload_n 0, 1) := by decide +kernel
theorem dX3_isPitch_1 : decode cX3_isPitch 1 = .ok (.iconst 0, 1) := by decide +kernel
theorem dX3_isPitch_2 : decode cX3_isPitch 2 = .ok (.bipush 6, 2) := by decide +kernel
theorem dX3_isPitch_4 : decode cX3_isPitch 4 = .ok (.invokestatic 43, 3) := by decide +kernel
theorem dX3_isPitch_7 : decode cX3_isPitch 7 = .ok (.ifCond .eq 36, 3) := by decide +kernel
theorem dX3_isPitch_10 : decode cX3_isPitch 10 = .ok (.iload_n 1, 1) := by decide +kernel
theorem dX3_isPitch_11 : decode cX3_isPitch 11 = .ok (.bipush (-2), 2) := by decide +kernel
theorem dX3_isPitch_13 : decode cX3_isPitch 13 = .ok (.iconst 2, 1) := by decide +kernel
theorem dX3_isPitch_14 : decode cX3_isPitch 14 = .ok (.invokestatic 43, 3) := by decide +kernel
theorem dX3_isPitch_17 : decode cX3_isPitch 17 = .ok (.ifCond .eq 26, 3) := by decide +kernel
theorem dX3_isPitch_20 : decode cX3_isPitch 20 = .ok (.iload_n 2, 1) := by decide +kernel
theorem dX3_isPitch_21 : decode cX3_isPitch 21 = .ok (.iconst 0, 1) := by decide +kernel
theorem dX3_isPitch_22 : decode cX3_isPitch 22 = .ok (.bipush 8, 2) := by decide +kernel
theorem dX3_isPitch_24 : decode cX3_isPitch 24 = .ok (.invokestatic 43, 3) := by decide +kernel
theorem dX3_isPitch_27 : decode cX3_isPitch 27 = .ok (.ifCond .eq 16, 3) := by decide +kernel
theorem dX3_isPitch_30 : decode cX3_isPitch 30 = .ok (.iload_n 0, 1) := by decide +kernel
theorem dX3_isPitch_31 : decode cX3_isPitch 31 = .ok (.iload_n 1, 1) := by decide +kernel
theorem dX3_isPitch_32 : decode cX3_isPitch 32 = .ok (.iload_n 2, 1) := by decide +kernel
theorem dX3_isPitch_33 : decode cX3_isPitch 33 = .ok (.invokestatic 65, 3) := by decide +kernel
theorem dX3_isPitch_36 : decode cX3_isPitch 36 = .ok (.ifCond .lt 7, 3) := by decide +kernel
theorem dX3_isPitch_39 : decode cX3_isPitch 39 = .ok (.iconst 1, 1) := by decide +kernel
theorem dX3_isPitch_40 : decode cX3_isPitch 40 = .ok (.goto 4, 3) := by decide +kernel
theorem dX3_isPitch_43 : decode cX3_isPitch 43 = .ok (.iconst 0, 1) := by decide +kernel
theorem dX3_isPitch_44 : decode cX3_isPitch 44 = .ok (.ireturn, 1) := by decide +kernel
theorem dX3_signOf_0 : decode cX3_signOf 0 = .ok (.iconst 0, 1) := by decide +kernel
theorem dX3_signOf_1 : decode cX3_signOf 1 = .ok (.istore_n 2, 1) := by decide +kernel
theorem dX3_signOf_2 : decode cX3_signOf 2 = .ok (.iload_n 2, 1) := by decide +kernel
theorem dX3_signOf_3 : decode cX3_signOf 3 = .ok (.bipush 7, 2) := by decide +kernel
theorem dX3_signOf_5 : decode cX3_signOf 5 = .ok (.if_icmp .ge 51, 3) := by decide +kernel
theorem dX3_signOf_8 : decode cX3_signOf 8 = .ok (.getstatic 71, 3) := by decide +kernel
theorem dX3_signOf_11 : decode cX3_signOf 11 = .ok (.iload_n 2, 1) := by decide +kernel
theorem dX3_signOf_12 : decode cX3_signOf 12 = .ok (.iaload, 1) := by decide +kernel
theorem dX3_signOf_13 : decode cX3_signOf 13 = .ok (.iload_n 1, 1) := by decide +kernel
theorem dX3_signOf_14 : decode cX3_signOf 14 = .ok (.if_icmp .eq 6, 3) := by decide +kernel
theorem dX3_signOf_17 : decode cX3_signOf 17 = .ok (.goto 33, 3) := by decide +kernel
theorem dX3_signOf_20 : decode cX3_signOf 20 = .ok (.iload_n 2, 1) := by decide +kernel
theorem dX3_signOf_21 : decode cX3_signOf 21 = .ok (.aload_n 0, 1) := by decide +kernel
theorem dX3_signOf_22 : decode cX3_signOf 22 = .ok (.getfield 74, 3) := by decide +kernel
theorem dX3_signOf_25 : decode cX3_signOf 25 = .ok (.if_icmp .ge 7, 3) := by decide +kernel
theorem dX3_signOf_28 : decode cX3_signOf 28 = .ok (.iconst 1, 1) := by decide +kernel
theorem dX3_signOf_29 : decode cX3_signOf 29 = .ok (.goto 20, 3) := by decide +kernel
theorem dX3_signOf_32 : decode cX3_signOf 32 = .ok (.bipush 6, 2) := by decide +kernel
theorem dX3_signOf_34 : decode cX3_signOf 34 = .ok (.iload_n 2, 1) := by decide +kernel
theorem dX3_signOf_35 : decode cX3_signOf 35 = .ok (.isub, 1) := by decide +kernel
theorem dX3_signOf_36 : decode cX3_signOf 36 = .ok (.aload_n 0, 1) := by decide +kernel
theorem dX3_signOf_37 : decode cX3_signOf 37 = .ok (.getfield 74, 3) := by decide +kernel
theorem dX3_signOf_40 : decode cX3_signOf 40 = .ok (.ineg, 1) := by decide +kernel
theorem dX3_signOf_41 : decode cX3_signOf 41 = .ok (.if_icmp .ge 7, 3) := by decide +kernel
theorem dX3_signOf_44 : decode cX3_signOf 44 = .ok (.iconst (-1), 1) := by decide +kernel
theorem dX3_signOf_45 : decode cX3_signOf 45 = .ok (.goto 4, 3) := by decide +kernel
theorem dX3_signOf_48 : decode cX3_signOf 48 = .ok (.iconst 0, 1) := by decide +kernel
theorem dX3_signOf_49 : decode cX3_signOf 49 = .ok (.ireturn, 1) := by decide +kernel
theorem dX3_signOf_50 : decode cX3_signOf 50 = .ok (.iinc 2 1, 3) := by decide +kernel
theorem dX3_signOf_53 : decode cX3_signOf 53 = .ok (.goto (-51), 3) := by decide +kernel
theorem dX3_signOf_56 : decode cX3_signOf 56 = .ok (.iconst 0, 1) := by decide +kernel
theorem dX3_signOf_57 : decode cX3_signOf 57 = .ok (.ireturn, 1) := by decide +kernel
theorem dX3_setBars_0 : decode cX3_setBars 0 = .ok (.aload_n 0, 1) := by decide +kernel
theorem dX3_setBars_1 : decode cX3_setBars 1 = .ok (.iconst 0, 1) := by decide +kernel
theorem dX3_setBars_2 : decode cX3_setBars 2 = .ok (.putfield 37, 3) := by decide +kernel
theorem dX3_setBars_5 : decode cX3_setBars 5 = .ok (.iload_n 1, 1) := by decide +kernel
theorem dX3_setBars_6 : decode cX3_setBars 6 = .ok (.iconst 1, 1) := by decide +kernel
theorem dX3_setBars_7 : decode cX3_setBars 7 = .ok (.bipush 12, 2) := by decide +kernel
theorem dX3_setBars_9 : decode cX3_setBars 9 = .ok (.invokestatic 43, 3) := by decide +kernel
theorem dX3_setBars_12 : decode cX3_setBars 12 = .ok (.ifCond .eq 19, 3) := by decide +kernel
theorem dX3_setBars_15 : decode cX3_setBars 15 = .ok (.iload_n 2, 1) := by decide +kernel
theorem dX3_setBars_16 : decode cX3_setBars 16 = .ok (.iconst 2, 1) := by decide +kernel
theorem dX3_setBars_17 : decode cX3_setBars 17 = .ok (.if_icmp .eq 20, 3) := by decide +kernel
theorem dX3_setBars_20 : decode cX3_setBars 20 = .ok (.iload_n 2, 1) := by decide +kernel
theorem dX3_setBars_21 : decode cX3_setBars 21 = .ok (.iconst 4, 1) := by decide +kernel
theorem dX3_setBars_22 : decode cX3_setBars 22 = .ok (.if_icmp .eq 15, 3) := by decide +kernel
theorem dX3_setBars_25 : decode cX3_setBars 25 = .ok (.iload_n 2, 1) := by decide +kernel
theorem dX3_setBars_26 : decode cX3_setBars 26 = .ok (.bipush 8, 2) := by decide +kernel
theorem dX3_setBars_28 : decode cX3_setBars 28 = .ok (.if_icmp .eq 9, 3) := by decide +kernel
theorem dX3_setBars_31 : decode cX3_setBars 31 = .ok (.aload_n 0, 1) := by decide +kernel
theorem dX3_setBars_32 : decode cX3_setBars 32 = .ok (.iconst 1, 1) := by decide +kernel
theorem dX3_setBars_33 : decode cX3_setBars 33 = .ok (.invokevirtual 77, 3) := by decide +kernel
theorem dX3_setBars_36 : decode cX3_setBars 36 = .ok (.ireturn, 1) := by decide +kernel
theorem dX3_setBars_37 : decode cX3_setBars 37 = .ok (.iconst 0, 1) := by decide +kernel
theorem dX3_setBars_38 : decode cX3_setBars 38 = .ok (.istore_n 3, 1) := by decide +kernel
theorem dX3_setBars_39 : decode cX3_setBars 39 = .ok (.iload_n 3, 1) := by decide +kernel
theorem dX3_setBars_40 : decode cX3_setBars 40 = .ok (.aload_n 0, 1) := by decide +kernel
theorem dX3_setBars_41 : decode cX3_setBars 41 = .ok (.getfield 40, 3) := by decide +kernel
theorem dX3_setBars_44 : decode cX3_setBars 44 = .ok (.if_icmp .ge 24, 3) := by decide +kernel
theorem dX3_setBars_47 : decode cX3_setBars 47 = .ok (.aload_n 0, 1) := by decide +kernel
theorem dX3_setBars_48 : decode cX3_setBars 48 = .ok (.getfield 16, 3) := by decide +kernel
theorem dX3_setBars_51 : decode cX3_setBars 51 = .ok (.iload_n 3, 1) := by decide +kernel
theorem dX3_setBars_52 : decode cX3_setBars 52 = .ok (.iaload, 1) := by decide +kernel
theorem dX3_setBars_53 : decode cX3_setBars 53 = .ok (.ifCond .le 9, 3) := by decide +kernel
theorem dX3_setBars_56 : decode cX3_setBars 56 = .ok (.aload_n 0, 1) := by decide +kernel
theorem dX3_setBars_57 : decode cX3_setBars 57 = .ok (.iconst 2, 1) := by decide +kernel
theorem dX3_setBars_58 : decode cX3_setBars 58 = .ok (.invokevirtual 77, 3) := by decide +kernel
theorem dX3_setBars_61 : decode cX3_setBars 61 = .ok (.ireturn, 1) := by decide +kernel
theorem dX3_setBars_62 : decode cX3_setBars 62 = .ok (.iinc 3 1, 3) := by decide +kernel
theorem dX3_setBars_65 : decode cX3_setBars 65 = .ok (.goto (-26), 3) := by decide +kernel
theorem dX3_setBars_68 : decode cX3_setBars 68 = .ok (.aload_n 0, 1) := by decide +kernel
theorem dX3_setBars_69 : decode cX3_setBars 69 = .ok (.iload_n 1, 1) := by decide +kernel
theorem dX3_setBars_70 : decode cX3_setBars 70 = .ok (.putfield 7, 3) := by decide +kernel
theorem dX3_setBars_73 : decode cX3_setBars 73 = .ok (.aload_n 0, 1) := by decide +kernel
theorem dX3_setBars_74 : decode cX3_setBars 74 = .ok (.iload_n 2, 1) := by decide +kernel
theorem dX3_setBars_75 : decode cX3_setBars 75 = .ok (.putfield 13, 3) := by decide +kernel
theorem dX3_setBars_78 : decode cX3_setBars 78 = .ok (.aload_n 0, 1) := by decide +kernel
theorem dX3_setBars_79 : decode cX3_setBars 79 = .ok (.invokevirtual 81, 3) := by decide +kernel
theorem dX3_setBars_82 : decode cX3_setBars 82 = .ok (.ireturn, 1) := by decide +kernel
theorem dX3_setKey_0 : decode cX3_setKey 0 = .ok (.aload_n 0, 1) := by decide +kernel
theorem dX3_setKey_1 : decode cX3_setKey 1 = .ok (.iconst 0, 1) := by decide +kernel
theorem dX3_setKey_2 : decode cX3_setKey 2 = .ok (.putfield 37, 3) := by decide +kernel
theorem dX3_setKey_5 : decode cX3_setKey 5 = .ok (.iload_n 1, 1) := by decide +kernel
theorem dX3_setKey_6 : decode cX3_setKey 6 = .ok (.bipush (-7), 2) := by decide +kernel
theorem dX3_setKey_8 : decode cX3_setKey 8 = .ok (.bipush 7, 2) := by decide +kernel
theorem dX3_setKey_10 : decode cX3_setKey 10 = .ok (.invokestatic 43, 3) := by decide +kernel
theorem dX3_setKey_13 : decode cX3_setKey 13 = .ok (.ifCond .ne 9, 3) := by decide +kernel
theorem dX3_setKey_16 : decode cX3_setKey 16 = .ok (.aload_n 0, 1) := by decide +kernel
theorem dX3_setKey_17 : decode cX3_setKey 17 = .ok (.iconst 1, 1) := by decide +kernel
theorem dX3_setKey_18 : decode cX3_setKey 18 = .ok (.invokevirtual 77, 3) := by decide +kernel
theorem dX3_setKey_21 : decode cX3_setKey 21 = .ok (.ireturn, 1) := by decide +kernel
theorem dX3_setKey_22 : decode cX3_setKey 22 = .ok (.aload_n 0, 1) := by decide +kernel
theorem dX3_setKey_23 : decode cX3_setKey 23 = .ok (.getfield 74, 3) := by decide +kernel
theorem dX3_setKey_26 : decode cX3_setKey 26 = .ok (.istore_n 2, 1) := by decide +kernel
theorem dX3_setKey_27 : decode cX3_setKey 27 = .ok (.aload_n 0, 1) := by decide +kernel
theorem dX3_setKey_28 : decode cX3_setKey 28 = .ok (.iload_n 1, 1) := by decide +kernel
theorem dX3_setKey_29 : decode cX3_setKey 29 = .ok (.putfield 74, 3) := by decide +kernel
theorem dX3_setKey_32 : decode cX3_setKey 32 = .ok (.iload_n 2, 1) := by decide +kernel
theorem dX3_setKey_33 : decode cX3_setKey 33 = .ok (.ireturn, 1) := by decide +kernel
theorem dX3_addVoice_0 : decode cX3_addVoice 0 = .ok (.aload_n 0, 1) := by decide +kernel
theorem dX3_addVoice_1 : decode cX3_addVoice 1 = .ok (.iconst 0, 1) := by decide +kernel
theorem dX3_addVoice_2 : decode cX3_addVoice 2 = .ok (.putfield 37, 3) := by decide +kernel
theorem dX3_addVoice_5 : decode cX3_addVoice 5 = .ok (.aload_n 0, 1) := by decide +kernel
theorem dX3_addVoice_6 : decode cX3_addVoice 6 = .ok (.getfield 40, 3) := by decide +kernel
theorem dX3_addVoice_9 : decode cX3_addVoice 9 = .ok (.iconst 4, 1) := by decide +kernel
theorem dX3_addVoice_10 : decode cX3_addVoice 10 = .ok (.if_icmp .ne 9, 3) := by decide +kernel
theorem dX3_addVoice_13 : decode cX3_addVoice 13 = .ok (.aload_n 0, 1) := by decide +kernel
theorem dX3_addVoice_14 : decode cX3_addVoice 14 = .ok (.iconst 1, 1) := by decide +kernel
theorem dX3_addVoice_15 : decode cX3_addVoice 15 = .ok (.invokevirtual 77, 3) := by decide +kernel
theorem dX3_addVoice_18 : decode cX3_addVoice 18 = .ok (.ireturn, 1) := by decide +kernel
theorem dX3_addVoice_19 : decode cX3_addVoice 19 = .ok (.aload_n 0, 1) := by decide +kernel
theorem dX3_addVoice_20 : decode cX3_addVoice 20 = .ok (.dup, 1) := by decide +kernel
theorem dX3_addVoice_21 : decode cX3_addVoice 21 = .ok (.getfield 40, 3) := by decide +kernel
theorem dX3_addVoice_24 : decode cX3_addVoice 24 = .ok (.iconst 1, 1) := by decide +kernel
theorem dX3_addVoice_25 : decode cX3_addVoice 25 = .ok (.iadd, 1) := by decide +kernel
theorem dX3_addVoice_26 : decode cX3_addVoice 26 = .ok (.putfield 40, 3) := by decide +kernel
theorem dX3_addVoice_29 : decode cX3_addVoice 29 = .ok (.aload_n 0, 1) := by decide +kernel
theorem dX3_addVoice_30 : decode cX3_addVoice 30 = .ok (.getfield 40, 3) := by decide +kernel
theorem dX3_addVoice_33 : decode cX3_addVoice 33 = .ok (.iconst 1, 1) := by decide +kernel
theorem dX3_addVoice_34 : decode cX3_addVoice 34 = .ok (.isub, 1) := by decide +kernel
theorem dX3_addVoice_35 : decode cX3_addVoice 35 = .ok (.ireturn, 1) := by decide +kernel
theorem dX3_findTimes_0 : decode cX3_findTimes 0 = .ok (.iconst 0, 1) := by decide +kernel
theorem dX3_findTimes_1 : decode cX3_findTimes 1 = .ok (.istore_n 2, 1) := by decide +kernel
theorem dX3_findTimes_2 : decode cX3_findTimes 2 = .ok (.iconst 0, 1) := by decide +kernel
theorem dX3_findTimes_3 : decode cX3_findTimes 3 = .ok (.istore_n 3, 1) := by decide +kernel
theorem dX3_findTimes_4 : decode cX3_findTimes 4 = .ok (.iload_n 3, 1) := by decide +kernel
theorem dX3_findTimes_5 : decode cX3_findTimes 5 = .ok (.aload_n 0, 1) := by decide +kernel
theorem dX3_findTimes_6 : decode cX3_findTimes 6 = .ok (.getfield 16, 3) := by decide +kernel
theorem dX3_findTimes_9 : decode cX3_findTimes 9 = .ok (.iload_n 1, 1) := by decide +kernel
theorem dX3_findTimes_10 : decode cX3_findTimes 10 = .ok (.iaload, 1) := by decide +kernel
theorem dX3_findTimes_11 : decode cX3_findTimes 11 = .ok (.if_icmp .ge 33, 3) := by decide +kernel
theorem dX3_findTimes_14 : decode cX3_findTimes 14 = .ok (.aload_n 0, 1) := by decide +kernel
theorem dX3_findTimes_15 : decode cX3_findTimes 15 = .ok (.getfield 22, 3) := by decide +kernel
theorem dX3_findTimes_18 : decode cX3_findTimes 18 = .ok (.iload_n 1, 1) := by decide +kernel
theorem dX3_findTimes_19 : decode cX3_findTimes 19 = .ok (.aaload, 1) := by decide +kernel
theorem dX3_findTimes_20 : decode cX3_findTimes 20 = .ok (.bipush 10, 2) := by decide +kernel
theorem dX3_findTimes_22 : decode cX3_findTimes 22 = .ok (.iload_n 3, 1) := by decide +kernel
theorem dX3_findTimes_23 : decode cX3_findTimes 23 = .ok (.imul, 1) := by decide +kernel
theorem dX3_findTimes_24 : decode cX3_findTimes 24 = .ok (.bipush 7, 2) := by decide +kernel
theorem dX3_findTimes_26 : decode cX3_findTimes 26 = .ok (.iadd, 1) := by decide +kernel
theorem dX3_findTimes_27 : decode cX3_findTimes 27 = .ok (.iload_n 2, 1) := by decide +kernel
theorem dX3_findTimes_28 : decode cX3_findTimes 28 = .ok (.iastore, 1) := by decide +kernel
theorem dX3_findTimes_29 : decode cX3_findTimes 29 = .ok (.iload_n 2, 1) := by decide +kernel
theorem dX3_findTimes_30 : decode cX3_findTimes 30 = .ok (.aload_n 0, 1) := by decide +kernel
theorem dX3_findTimes_31 : decode cX3_findTimes 31 = .ok (.iload_n 1, 1) := by decide +kernel
theorem dX3_findTimes_32 : decode cX3_findTimes 32 = .ok (.iload_n 3, 1) := by decide +kernel
theorem dX3_findTimes_33 : decode cX3_findTimes 33 = .ok (.invokevirtual 85, 3) := by decide +kernel
theorem dX3_findTimes_36 : decode cX3_findTimes 36 = .ok (.iadd, 1) := by decide +kernel
theorem dX3_findTimes_37 : decode cX3_findTimes 37 = .ok (.istore_n 2, 1) := by decide +kernel
theorem dX3_findTimes_38 : decode cX3_findTimes 38 = .ok (.iinc 3 1, 3) := by decide +kernel
theorem dX3_findTimes_41 : decode cX3_findTimes 41 = .ok (.goto (-37), 3) := by decide +kernel
theorem dX3_findTimes_44 : decode cX3_findTimes 44 = .ok (.aload_n 0, 1) := by decide +kernel
theorem dX3_findTimes_45 : decode cX3_findTimes 45 = .ok (.getfield 25, 3) := by decide +kernel
theorem dX3_findTimes_48 : decode cX3_findTimes 48 = .ok (.iload_n 1, 1) := by decide +kernel
theorem dX3_findTimes_49 : decode cX3_findTimes 49 = .ok (.iload_n 2, 1) := by decide +kernel
theorem dX3_findTimes_50 : decode cX3_findTimes 50 = .ok (.iastore, 1) := by decide +kernel
theorem dX3_findTimes_51 : decode cX3_findTimes 51 = .ok (.return_, 1) := by decide +kernel
theorem dX3_barsBegun_0 : decode cX3_barsBegun 0 = .ok (.iconst 0, 1) := by decide +kernel
theorem dX3_barsBegun_1 : decode cX3_barsBegun 1 = .ok (.istore_n 1, 1) := by decide +kernel
theorem dX3_barsBegun_2 : decode cX3_barsBegun 2 = .ok (.iconst 0, 1) := by decide +kernel
theorem dX3_barsBegun_3 : decode cX3_barsBegun 3 = .ok (.istore_n 2, 1) := by decide +kernel
theorem dX3_barsBegun_4 : decode cX3_barsBegun 4 = .ok (.iload_n 2, 1) := by decide +kernel
theorem dX3_barsBegun_5 : decode cX3_barsBegun 5 = .ok (.aload_n 0, 1) := by decide +kernel
theorem dX3_barsBegun_6 : decode cX3_barsBegun 6 = .ok (.getfield 40, 3) := by decide +kernel
theorem dX3_barsBegun_9 : decode cX3_barsBegun 9 = .ok (.if_icmp .ge 50, 3) := by decide +kernel
theorem dX3_barsBegun_12 : decode cX3_barsBegun 12 = .ok (.aload_n 0, 1) := by decide +kernel
theorem dX3_barsBegun_13 : decode cX3_barsBegun 13 = .ok (.iload_n 2, 1) := by decide +kernel
theorem dX3_barsBegun_14 : decode cX3_barsBegun 14 = .ok (.invokevirtual 88, 3) := by decide +kernel
theorem dX3_barsBegun_17 : decode cX3_barsBegun 17 = .ok (.aload_n 0, 1) := by decide +kernel
theorem dX3_barsBegun_18 : decode cX3_barsBegun 18 = .ok (.getfield 16, 3) := by decide +kernel
theorem dX3_barsBegun_21 : decode cX3_barsBegun 21 = .ok (.iload_n 2, 1) := by decide +kernel
theorem dX3_barsBegun_22 : decode cX3_barsBegun 22 = .ok (.iaload, 1) := by decide +kernel
theorem dX3_barsBegun_23 : decode cX3_barsBegun 23 = .ok (.ifCond .le 30, 3) := by decide +kernel
theorem dX3_barsBegun_26 : decode cX3_barsBegun 26 = .ok (.iload_n 1, 1) := by decide +kernel
theorem dX3_barsBegun_27 : decode cX3_barsBegun 27 = .ok (.aload_n 0, 1) := by decide +kernel
theorem dX3_barsBegun_28 : decode cX3_barsBegun 28 = .ok (.iload_n 2, 1) := by decide +kernel
theorem dX3_barsBegun_29 : decode cX3_barsBegun 29 = .ok (.aload_n 0, 1) := by decide +kernel
theorem dX3_barsBegun_30 : decode cX3_barsBegun 30 = .ok (.getfield 16, 3) := by decide +kernel
theorem dX3_barsBegun_33 : decode cX3_barsBegun 33 = .ok (.iload_n 2, 1) := by decide +kernel
theorem dX3_barsBegun_34 : decode cX3_barsBegun 34 = .ok (.iaload, 1) := by decide +kernel
theorem dX3_barsBegun_35 : decode cX3_barsBegun 35 = .ok (.iconst 1, 1) := by decide +kernel
theorem dX3_barsBegun_36 : decode cX3_barsBegun 36 = .ok (.isub, 1) := by decide +kernel
theorem dX3_barsBegun_37 : decode cX3_barsBegun 37 = .ok (.bipush 7, 2) := by decide +kernel
theorem dX3_barsBegun_39 : decode cX3_barsBegun 39 = .ok (.invokevirtual 57, 3) := by decide +kernel
theorem dX3_barsBegun_42 : decode cX3_barsBegun 42 = .ok (.aload_n 0, 1) := by decide +kernel
theorem dX3_barsBegun_43 : decode cX3_barsBegun 43 = .ok (.invokevirtual 81, 3) := by decide +kernel
theorem dX3_barsBegun_46 : decode cX3_barsBegun 46 = .ok (.idiv, 1) := by decide +kernel
theorem dX3_barsBegun_47 : decode cX3_barsBegun 47 = .ok (.iconst 1, 1) := by decide +kernel
theorem dX3_barsBegun_48 : decode cX3_barsBegun 48 = .ok (.iadd, 1) := by decide +kernel
theorem dX3_barsBegun_49 : decode cX3_barsBegun 49 = .ok (.invokestatic 92, 3) := by decide +kernel
theorem dX3_barsBegun_52 : decode cX3_barsBegun 52 = .ok (.istore_n 1, 1) := by decide +kernel
theorem dX3_barsBegun_53 : decode cX3_barsBegun 53 = .ok (.iinc 2 1, 3) := by decide +kernel
theorem dX3_barsBegun_56 : decode cX3_barsBegun 56 = .ok (.goto (-52), 3) := by decide +kernel
theorem dX3_barsBegun_59 : decode cX3_barsBegun 59 = .ok (.iload_n 1, 1) := by decide +kernel
theorem dX3_barsBegun_60 : decode cX3_barsBegun 60 = .ok (.ireturn, 1) := by decide +kernel
theorem dX3_scoreTold_0 : decode cX3_scoreTold 0 = .ok (.iload_n 1, 1) := by decide +kernel
theorem dX3_scoreTold_1 : decode cX3_scoreTold 1 = .ok (.iconst 3, 1) := by decide +kernel
theorem dX3_scoreTold_2 : decode cX3_scoreTold 2 = .ok (.if_icmp .ge 31, 3) := by decide +kernel
theorem dX3_scoreTold_5 : decode cX3_scoreTold 5 = .ok (.iload_n 1, 1) := by decide +kernel
theorem dX3_scoreTold_6 : decode cX3_scoreTold 6 = .ok (.ifCond .ne 10, 3) := by decide +kernel
theorem dX3_scoreTold_9 : decode cX3_scoreTold 9 = .ok (.aload_n 0, 1) := by decide +kernel
theorem dX3_scoreTold_10 : decode cX3_scoreTold 10 = .ok (.getfield 40, 3) := by decide +kernel
theorem dX3_scoreTold_13 : decode cX3_scoreTold 13 = .ok (.goto 19, 3) := by decide +kernel
theorem dX3_scoreTold_16 : decode cX3_scoreTold 16 = .ok (.iload_n 1, 1) := by decide +kernel
theorem dX3_scoreTold_17 : decode cX3_scoreTold 17 = .ok (.iconst 1, 1) := by decide +kernel
theorem dX3_scoreTold_18 : decode cX3_scoreTold 18 = .ok (.if_icmp .ne 10, 3) := by decide +kernel
theorem dX3_scoreTold_21 : decode cX3_scoreTold 21 = .ok (.aload_n 0, 1) := by decide +kernel
theorem dX3_scoreTold_22 : decode cX3_scoreTold 22 = .ok (.invokevirtual 81, 3) := by decide +kernel
theorem dX3_scoreTold_25 : decode cX3_scoreTold 25 = .ok (.goto 7, 3) := by decide +kernel
theorem dX3_scoreTold_28 : decode cX3_scoreTold 28 = .ok (.aload_n 0, 1) := by decide +kernel
theorem dX3_scoreTold_29 : decode cX3_scoreTold 29 = .ok (.getfield 74, 3) := by decide +kernel
theorem dX3_scoreTold_32 : decode cX3_scoreTold 32 = .ok (.ireturn, 1) := by decide +kernel
theorem dX3_scoreTold_33 : decode cX3_scoreTold 33 = .ok (.aload_n 0, 1) := by decide +kernel
theorem dX3_scoreTold_34 : decode cX3_scoreTold 34 = .ok (.invokevirtual 97, 3) := by decide +kernel
theorem dX3_scoreTold_37 : decode cX3_scoreTold 37 = .ok (.istore_n 2, 1) := by decide +kernel
theorem dX3_scoreTold_38 : decode cX3_scoreTold 38 = .ok (.iload_n 1, 1) := by decide +kernel
theorem dX3_scoreTold_39 : decode cX3_scoreTold 39 = .ok (.iconst 3, 1) := by decide +kernel
theorem dX3_scoreTold_40 : decode cX3_scoreTold 40 = .ok (.if_icmp .ne 5, 3) := by decide +kernel
theorem dX3_scoreTold_43 : decode cX3_scoreTold 43 = .ok (.iload_n 2, 1) := by decide +kernel
theorem dX3_scoreTold_44 : decode cX3_scoreTold 44 = .ok (.ireturn, 1) := by decide +kernel
theorem dX3_scoreTold_45 : decode cX3_scoreTold 45 = .ok (.iconst 0, 1) := by decide +kernel
theorem dX3_scoreTold_46 : decode cX3_scoreTold 46 = .ok (.istore_n 3, 1) := by decide +kernel
theorem dX3_scoreTold_47 : decode cX3_scoreTold 47 = .ok (.iconst 0, 1) := by decide +kernel
theorem dX3_scoreTold_48 : decode cX3_scoreTold 48 = .ok (.istore 4, 2) := by decide +kernel
theorem dX3_scoreTold_50 : decode cX3_scoreTold 50 = .ok (.iload 4, 2) := by decide +kernel
theorem dX3_scoreTold_52 : decode cX3_scoreTold 52 = .ok (.aload_n 0, 1) := by decide +kernel
theorem dX3_scoreTold_53 : decode cX3_scoreTold 53 = .ok (.getfield 40, 3) := by decide +kernel
theorem dX3_scoreTold_56 : decode cX3_scoreTold 56 = .ok (.if_icmp .ge 21, 3) := by decide +kernel
theorem dX3_scoreTold_59 : decode cX3_scoreTold 59 = .ok (.iload_n 3, 1) := by decide +kernel
theorem dX3_scoreTold_60 : decode cX3_scoreTold 60 = .ok (.aload_n 0, 1) := by decide +kernel
theorem dX3_scoreTold_61 : decode cX3_scoreTold 61 = .ok (.getfield 25, 3) := by decide +kernel
theorem dX3_scoreTold_64 : decode cX3_scoreTold 64 = .ok (.iload 4, 2) := by decide +kernel
theorem dX3_scoreTold_66 : decode cX3_scoreTold 66 = .ok (.iaload, 1) := by decide +kernel
theorem dX3_scoreTold_67 : decode cX3_scoreTold 67 = .ok (.invokestatic 92, 3) := by decide +kernel
theorem dX3_scoreTold_70 : decode cX3_scoreTold 70 = .ok (.istore_n 3, 1) := by decide +kernel
theorem dX3_scoreTold_71 : decode cX3_scoreTold 71 = .ok (.iinc 4 1, 3) := by decide +kernel
theorem dX3_scoreTold_74 : decode cX3_scoreTold 74 = .ok (.goto (-24), 3) := by decide +kernel
theorem dX3_scoreTold_77 : decode cX3_scoreTold 77 = .ok (.iload_n 3, 1) := by decide +kernel
theorem dX3_scoreTold_78 : decode cX3_scoreTold 78 = .ok (.ireturn, 1) := by decide +kernel
theorem dX3_score_0 : decode cX3_score 0 = .ok (.aload_n 0, 1) := by decide +kernel
theorem dX3_score_1 : decode cX3_score 1 = .ok (.iconst 0, 1) := by decide +kernel
theorem dX3_score_2 : decode cX3_score 2 = .ok (.putfield 37, 3) := by decide +kernel
theorem dX3_score_5 : decode cX3_score 5 = .ok (.iload_n 1, 1) := by decide +kernel
theorem dX3_score_6 : decode cX3_score 6 = .ok (.iconst 0, 1) := by decide +kernel
theorem dX3_score_7 : decode cX3_score 7 = .ok (.iconst 4, 1) := by decide +kernel
theorem dX3_score_8 : decode cX3_score 8 = .ok (.invokestatic 43, 3) := by decide +kernel
theorem dX3_score_11 : decode cX3_score 11 = .ok (.ifCond .eq 11, 3) := by decide +kernel
theorem dX3_score_14 : decode cX3_score 14 = .ok (.aload_n 0, 1) := by decide +kernel
theorem dX3_score_15 : decode cX3_score 15 = .ok (.iload_n 1, 1) := by decide +kernel
theorem dX3_score_16 : decode cX3_score 16 = .ok (.invokevirtual 100, 3) := by decide +kernel
theorem dX3_score_19 : decode cX3_score 19 = .ok (.goto 8, 3) := by decide +kernel
theorem dX3_score_22 : decode cX3_score 22 = .ok (.aload_n 0, 1) := by decide +kernel
theorem dX3_score_23 : decode cX3_score 23 = .ok (.iconst 1, 1) := by decide +kernel
theorem dX3_score_24 : decode cX3_score 24 = .ok (.invokevirtual 77, 3) := by decide +kernel
theorem dX3_score_27 : decode cX3_score 27 = .ok (.ireturn, 1) := by decide +kernel
theorem dX3_sign_0 : decode cX3_sign 0 = .ok (.aload_n 0, 1) := by decide +kernel
theorem dX3_sign_1 : decode cX3_sign 1 = .ok (.iconst 0, 1) := by decide +kernel
theorem dX3_sign_2 : decode cX3_sign 2 = .ok (.putfield 37, 3) := by decide +kernel
theorem dX3_sign_5 : decode cX3_sign 5 = .ok (.iload_n 1, 1) := by decide +kernel
theorem dX3_sign_6 : decode cX3_sign 6 = .ok (.iconst 0, 1) := by decide +kernel
theorem dX3_sign_7 : decode cX3_sign 7 = .ok (.bipush 6, 2) := by decide +kernel
theorem dX3_sign_9 : decode cX3_sign 9 = .ok (.invokestatic 43, 3) := by decide +kernel
theorem dX3_sign_12 : decode cX3_sign 12 = .ok (.ifCond .eq 11, 3) := by decide +kernel
theorem dX3_sign_15 : decode cX3_sign 15 = .ok (.aload_n 0, 1) := by decide +kernel
theorem dX3_sign_16 : decode cX3_sign 16 = .ok (.iload_n 1, 1) := by decide +kernel
theorem dX3_sign_17 : decode cX3_sign 17 = .ok (.invokevirtual 103, 3) := by decide +kernel
theorem dX3_sign_20 : decode cX3_sign 20 = .ok (.goto 8, 3) := by decide +kernel
theorem dX3_sign_23 : decode cX3_sign 23 = .ok (.aload_n 0, 1) := by decide +kernel
theorem dX3_sign_24 : decode cX3_sign 24 = .ok (.iconst 1, 1) := by decide +kernel
theorem dX3_sign_25 : decode cX3_sign 25 = .ok (.invokevirtual 77, 3) := by decide +kernel
theorem dX3_sign_28 : decode cX3_sign 28 = .ok (.ireturn, 1) := by decide +kernel
theorem dX3_ticks_0 : decode cX3_ticks 0 = .ok (.aload_n 0, 1) := by decide +kernel
theorem dX3_ticks_1 : decode cX3_ticks 1 = .ok (.iconst 0, 1) := by decide +kernel
theorem dX3_ticks_2 : decode cX3_ticks 2 = .ok (.putfield 37, 3) := by decide +kernel
theorem dX3_ticks_5 : decode cX3_ticks 5 = .ok (.iload_n 1, 1) := by decide +kernel
theorem dX3_ticks_6 : decode cX3_ticks 6 = .ok (.iload_n 2, 1) := by decide +kernel
theorem dX3_ticks_7 : decode cX3_ticks 7 = .ok (.invokestatic 106, 3) := by decide +kernel
theorem dX3_ticks_10 : decode cX3_ticks 10 = .ok (.ifCond .eq 11, 3) := by decide +kernel
theorem dX3_ticks_13 : decode cX3_ticks 13 = .ok (.iload_n 1, 1) := by decide +kernel
theorem dX3_ticks_14 : decode cX3_ticks 14 = .ok (.iload_n 2, 1) := by decide +kernel
theorem dX3_ticks_15 : decode cX3_ticks 15 = .ok (.invokestatic 61, 3) := by decide +kernel
theorem dX3_ticks_18 : decode cX3_ticks 18 = .ok (.goto 8, 3) := by decide +kernel
theorem dX3_ticks_21 : decode cX3_ticks 21 = .ok (.aload_n 0, 1) := by decide +kernel
theorem dX3_ticks_22 : decode cX3_ticks 22 = .ok (.iconst 1, 1) := by decide +kernel
theorem dX3_ticks_23 : decode cX3_ticks 23 = .ok (.invokevirtual 77, 3) := by decide +kernel
theorem dX3_ticks_26 : decode cX3_ticks 26 = .ok (.ireturn, 1) := by decide +kernel
theorem dX3_cut_0 : decode cX3_cut 0 = .ok (.iload_n 2, 1) := by decide +kernel
theorem dX3_cut_1 : decode cX3_cut 1 = .ok (.aload_n 3, 1) := by decide +kernel
theorem dX3_cut_2 : decode cX3_cut 2 = .ok (.iconst 0, 1) := by decide +kernel
theorem dX3_cut_3 : decode cX3_cut 3 = .ok (.iaload, 1) := by decide +kernel
theorem dX3_cut_4 : decode cX3_cut 4 = .ok (.aload_n 3, 1) := by decide +kernel
theorem dX3_cut_5 : decode cX3_cut 5 = .ok (.iconst 1, 1) := by decide +kernel
theorem dX3_cut_6 : decode cX3_cut 6 = .ok (.iaload, 1) := by decide +kernel
theorem dX3_cut_7 : decode cX3_cut 7 = .ok (.invokestatic 61, 3) := by decide +kernel
theorem dX3_cut_10 : decode cX3_cut 10 = .ok (.iadd, 1) := by decide +kernel
theorem dX3_cut_11 : decode cX3_cut 11 = .ok (.istore 5, 2) := by decide +kernel
theorem dX3_cut_13 : decode cX3_cut 13 = .ok (.iload 5, 2) := by decide +kernel
theorem dX3_cut_15 : decode cX3_cut 15 = .ok (.iconst 1, 1) := by decide +kernel
theorem dX3_cut_16 : decode cX3_cut 16 = .ok (.isub, 1) := by decide +kernel
theorem dX3_cut_17 : decode cX3_cut 17 = .ok (.aload_n 0, 1) := by decide +kernel
theorem dX3_cut_18 : decode cX3_cut 18 = .ok (.invokevirtual 81, 3) := by decide +kernel
theorem dX3_cut_21 : decode cX3_cut 21 = .ok (.idiv, 1) := by decide +kernel
theorem dX3_cut_22 : decode cX3_cut 22 = .ok (.iload_n 2, 1) := by decide +kernel
theorem dX3_cut_23 : decode cX3_cut 23 = .ok (.aload_n 0, 1) := by decide +kernel
theorem dX3_cut_24 : decode cX3_cut 24 = .ok (.invokevirtual 81, 3) := by decide +kernel
theorem dX3_cut_27 : decode cX3_cut 27 = .ok (.idiv, 1) := by decide +kernel
theorem dX3_cut_28 : decode cX3_cut 28 = .ok (.if_icmp .ne 7, 3) := by decide +kernel
theorem dX3_cut_31 : decode cX3_cut 31 = .ok (.iconst 1, 1) := by decide +kernel
theorem dX3_cut_32 : decode cX3_cut 32 = .ok (.goto 4, 3) := by decide +kernel
theorem dX3_cut_35 : decode cX3_cut 35 = .ok (.iconst 0, 1) := by decide +kernel
theorem dX3_cut_36 : decode cX3_cut 36 = .ok (.istore 6, 2) := by decide +kernel
theorem dX3_cut_38 : decode cX3_cut 38 = .ok (.iload_n 2, 1) := by decide +kernel
theorem dX3_cut_39 : decode cX3_cut 39 = .ok (.istore 7, 2) := by decide +kernel
theorem dX3_cut_41 : decode cX3_cut 41 = .ok (.iconst 0, 1) := by decide +kernel
theorem dX3_cut_42 : decode cX3_cut 42 = .ok (.istore 8, 2) := by decide +kernel
theorem dX3_cut_44 : decode cX3_cut 44 = .ok (.iload 7, 2) := by decide +kernel
theorem dX3_cut_46 : decode cX3_cut 46 = .ok (.iload 5, 2) := by decide +kernel
theorem dX3_cut_48 : decode cX3_cut 48 = .ok (.if_icmp .ge 193, 3) := by decide +kernel
theorem dX3_cut_51 : decode cX3_cut 51 = .ok (.iconst 0, 1) := by decide +kernel
theorem dX3_cut_52 : decode cX3_cut 52 = .ok (.istore 9, 2) := by decide +kernel
theorem dX3_cut_54 : decode cX3_cut 54 = .ok (.iload 5, 2) := by decide +kernel
theorem dX3_cut_56 : decode cX3_cut 56 = .ok (.iload 7, 2) := by decide +kernel
theorem dX3_cut_58 : decode cX3_cut 58 = .ok (.aload_n 0, 1) := by decide +kernel
theorem dX3_cut_59 : decode cX3_cut 59 = .ok (.invokevirtual 81, 3) := by decide +kernel
theorem dX3_cut_62 : decode cX3_cut 62 = .ok (.idiv, 1) := by decide +kernel
theorem dX3_cut_63 : decode cX3_cut 63 = .ok (.iconst 1, 1) := by decide +kernel
theorem dX3_cut_64 : decode cX3_cut 64 = .ok (.iadd, 1) := by decide +kernel
theorem dX3_cut_65 : decode cX3_cut 65 = .ok (.aload_n 0, 1) := by decide +kernel
theorem dX3_cut_66 : decode cX3_cut 66 = .ok (.invokevirtual 81, 3) := by decide +kernel
theorem dX3_cut_69 : decode cX3_cut 69 = .ok (.imul, 1) := by decide +kernel
theorem dX3_cut_70 : decode cX3_cut 70 = .ok (.invokestatic 110, 3) := by decide +kernel
theorem dX3_cut_73 : decode cX3_cut 73 = .ok (.iload 7, 2) := by decide +kernel
theorem dX3_cut_75 : decode cX3_cut 75 = .ok (.isub, 1) := by decide +kernel
theorem dX3_cut_76 : decode cX3_cut 76 = .ok (.istore 10, 2) := by decide +kernel
theorem dX3_cut_78 : decode cX3_cut 78 = .ok (.getstatic 51, 3) := by decide +kernel
theorem dX3_cut_81 : decode cX3_cut 81 = .ok (.iload 9, 2) := by decide +kernel
theorem dX3_cut_83 : decode cX3_cut 83 = .ok (.iaload, 1) := by decide +kernel
theorem dX3_cut_84 : decode cX3_cut 84 = .ok (.getstatic 54, 3) := by decide +kernel
theorem dX3_cut_87 : decode cX3_cut 87 = .ok (.iload 9, 2) := by decide +kernel
theorem dX3_cut_89 : decode cX3_cut 89 = .ok (.iaload, 1) := by decide +kernel
theorem dX3_cut_90 : decode cX3_cut 90 = .ok (.invokestatic 61, 3) := by decide +kernel
theorem dX3_cut_93 : decode cX3_cut 93 = .ok (.iload 10, 2) := by decide +kernel
theorem dX3_cut_95 : decode cX3_cut 95 = .ok (.if_icmp .le 9, 3) := by decide +kernel
theorem dX3_cut_98 : decode cX3_cut 98 = .ok (.iinc 9 1, 3) := by decide +kernel
theorem dX3_cut_101 : decode cX3_cut 101 = .ok (.goto (-23), 3) := by decide +kernel
theorem dX3_cut_104 : decode cX3_cut 104 = .ok (.iload 6, 2) := by decide +kernel
theorem dX3_cut_106 : decode cX3_cut 106 = .ok (.ifCond .eq 10, 3) := by decide +kernel
theorem dX3_cut_109 : decode cX3_cut 109 = .ok (.iload 5, 2) := by decide +kernel
theorem dX3_cut_111 : decode cX3_cut 111 = .ok (.iload_n 2, 1) := by decide +kernel
theorem dX3_cut_112 : decode cX3_cut 112 = .ok (.isub, 1) := by decide +kernel
theorem dX3_cut_113 : decode cX3_cut 113 = .ok (.goto 18, 3) := by decide +kernel
theorem dX3_cut_116 : decode cX3_cut 116 = .ok (.getstatic 51, 3) := by decide +kernel
theorem dX3_cut_119 : decode cX3_cut 119 = .ok (.iload 9, 2) := by decide +kernel
theorem dX3_cut_121 : decode cX3_cut 121 = .ok (.iaload, 1) := by decide +kernel
theorem dX3_cut_122 : decode cX3_cut 122 = .ok (.getstatic 54, 3) := by decide +kernel
theorem dX3_cut_125 : decode cX3_cut 125 = .ok (.iload 9, 2) := by decide +kernel
theorem dX3_cut_127 : decode cX3_cut 127 = .ok (.iaload, 1) := by decide +kernel
theorem dX3_cut_128 : decode cX3_cut 128 = .ok (.invokestatic 61, 3) := by decide +kernel
theorem dX3_cut_131 : decode cX3_cut 131 = .ok (.istore 11, 2) := by decide +kernel
theorem dX3_cut_133 : decode cX3_cut 133 = .ok (.iload 7, 2) := by decide +kernel
theorem dX3_cut_135 : decode cX3_cut 135 = .ok (.iload 11, 2) := by decide +kernel
theorem dX3_cut_137 : decode cX3_cut 137 = .ok (.iadd, 1) := by decide +kernel
theorem dX3_cut_138 : decode cX3_cut 138 = .ok (.istore 7, 2) := by decide +kernel
theorem dX3_cut_140 : decode cX3_cut 140 = .ok (.iload 4, 2) := by decide +kernel
theorem dX3_cut_142 : decode cX3_cut 142 = .ok (.ifCond .eq 93, 3) := by decide +kernel
theorem dX3_cut_145 : decode cX3_cut 145 = .ok (.bipush 10, 2) := by decide +kernel
theorem dX3_cut_147 : decode cX3_cut 147 = .ok (.aload_n 0, 1) := by decide +kernel
theorem dX3_cut_148 : decode cX3_cut 148 = .ok (.getfield 16, 3) := by decide +kernel
theorem dX3_cut_151 : decode cX3_cut 151 = .ok (.iload_n 1, 1) := by decide +kernel
theorem dX3_cut_152 : decode cX3_cut 152 = .ok (.iaload, 1) := by decide +kernel
theorem dX3_cut_153 : decode cX3_cut 153 = .ok (.iload 8, 2) := by decide +kernel
theorem dX3_cut_155 : decode cX3_cut 155 = .ok (.iadd, 1) := by decide +kernel
theorem dX3_cut_156 : decode cX3_cut 156 = .ok (.imul, 1) := by decide +kernel
theorem dX3_cut_157 : decode cX3_cut 157 = .ok (.istore 12, 2) := by decide +kernel
theorem dX3_cut_159 : decode cX3_cut 159 = .ok (.aload_n 3, 1) := by decide +kernel
theorem dX3_cut_160 : decode cX3_cut 160 = .ok (.iconst 0, 1) := by decide +kernel
theorem dX3_cut_161 : decode cX3_cut 161 = .ok (.aload_n 0, 1) := by decide +kernel
theorem dX3_cut_162 : decode cX3_cut 162 = .ok (.getfield 22, 3) := by decide +kernel
theorem dX3_cut_165 : decode cX3_cut 165 = .ok (.iload_n 1, 1) := by decide +kernel
theorem dX3_cut_166 : decode cX3_cut 166 = .ok (.aaload, 1) := by decide +kernel
theorem dX3_cut_167 : decode cX3_cut 167 = .ok (.iload 12, 2) := by decide +kernel
theorem dX3_cut_169 : decode cX3_cut 169 = .ok (.bipush 7, 2) := by decide +kernel
theorem dX3_cut_171 : decode cX3_cut 171 = .ok (.invokestatic 113, 3) := by decide +kernel
theorem dX3_cut_174 : decode cX3_cut 174 = .ok (.iload 6, 2) := by decide +kernel
theorem dX3_cut_176 : decode cX3_cut 176 = .ok (.ifCond .ne 37, 3) := by decide +kernel
theorem dX3_cut_179 : decode cX3_cut 179 = .ok (.aload_n 0, 1) := by decide +kernel
theorem dX3_cut_180 : decode cX3_cut 180 = .ok (.getfield 22, 3) := by decide +kernel
theorem dX3_cut_183 : decode cX3_cut 183 = .ok (.iload_n 1, 1) := by decide +kernel
theorem dX3_cut_184 : decode cX3_cut 184 = .ok (.aaload, 1) := by decide +kernel
theorem dX3_cut_185 : decode cX3_cut 185 = .ok (.iload 12, 2) := by decide +kernel
theorem dX3_cut_187 : decode cX3_cut 187 = .ok (.iconst 0, 1) := by decide +kernel
theorem dX3_cut_188 : decode cX3_cut 188 = .ok (.iadd, 1) := by decide +kernel
theorem dX3_cut_189 : decode cX3_cut 189 = .ok (.getstatic 51, 3) := by decide +kernel
theorem dX3_cut_192 : decode cX3_cut 192 = .ok (.iload 9, 2) := by decide +kernel
theorem dX3_cut_194 : decode cX3_cut 194 = .ok (.iaload, 1) := by decide +kernel
theorem dX3_cut_195 : decode cX3_cut 195 = .ok (.iastore, 1) := by decide +kernel
theorem dX3_cut_196 : decode cX3_cut 196 = .ok (.aload_n 0, 1) := by decide +kernel
theorem dX3_cut_197 : decode cX3_cut 197 = .ok (.getfield 22, 3) := by decide +kernel
theorem dX3_cut_200 : decode cX3_cut 200 = .ok (.iload_n 1, 1) := by decide +kernel
theorem dX3_cut_201 : decode cX3_cut 201 = .ok (.aaload, 1) := by decide +kernel
theorem dX3_cut_202 : decode cX3_cut 202 = .ok (.iload 12, 2) := by decide +kernel
theorem dX3_cut_204 : decode cX3_cut 204 = .ok (.iconst 1, 1) := by decide +kernel
theorem dX3_cut_205 : decode cX3_cut 205 = .ok (.iadd, 1) := by decide +kernel
theorem dX3_cut_206 : decode cX3_cut 206 = .ok (.getstatic 54, 3) := by decide +kernel
theorem dX3_cut_209 : decode cX3_cut 209 = .ok (.iload 9, 2) := by decide +kernel
theorem dX3_cut_211 : decode cX3_cut 211 = .ok (.iaload, 1) := by decide +kernel
theorem dX3_cut_212 : decode cX3_cut 212 = .ok (.iastore, 1) := by decide +kernel
theorem dX3_cut_213 : decode cX3_cut 213 = .ok (.iload 7, 2) := by decide +kernel
theorem dX3_cut_215 : decode cX3_cut 215 = .ok (.iload 5, 2) := by decide +kernel
theorem dX3_cut_217 : decode cX3_cut 217 = .ok (.if_icmp .ge 18, 3) := by decide +kernel
theorem dX3_cut_220 : decode cX3_cut 220 = .ok (.aload_n 0, 1) := by decide +kernel
theorem dX3_cut_221 : decode cX3_cut 221 = .ok (.getfield 22, 3) := by decide +kernel
theorem dX3_cut_224 : decode cX3_cut 224 = .ok (.iload_n 1, 1) := by decide +kernel
theorem dX3_cut_225 : decode cX3_cut 225 = .ok (.aaload, 1) := by decide +kernel
theorem dX3_cut_226 : decode cX3_cut 226 = .ok (.iload 12, 2) := by decide +kernel
theorem dX3_cut_228 : decode cX3_cut 228 = .ok (.bipush 6, 2) := by decide +kernel
theorem dX3_cut_230 : decode cX3_cut 230 = .ok (.iadd, 1) := by decide +kernel
theorem dX3_cut_231 : decode cX3_cut 231 = .ok (.aload_n 3, 1) := by decide +kernel
theorem dX3_cut_232 : decode cX3_cut 232 = .ok (.iconst 2, 1) := by decide +kernel
theorem dX3_cut_233 : decode cX3_cut 233 = .ok (.iaload, 1) := by decide +kernel
theorem dX3_cut_234 : decode cX3_cut 234 = .ok (.iastore, 1) := by decide +kernel
theorem dX3_cut_235 : decode cX3_cut 235 = .ok (.iinc 8 1, 3) := by decide +kernel
theorem dX3_cut_238 : decode cX3_cut 238 = .ok (.goto (-194), 3) := by decide +kernel
theorem dX3_cut_241 : decode cX3_cut 241 = .ok (.iload 8, 2) := by decide +kernel
theorem dX3_cut_243 : decode cX3_cut 243 = .ok (.ireturn, 1) := by decide +kernel
theorem dX3_add_0 : decode cX3_add 0 = .ok (.aload_n 0, 1) := by decide +kernel
theorem dX3_add_1 : decode cX3_add 1 = .ok (.iconst 0, 1) := by decide +kernel
theorem dX3_add_2 : decode cX3_add 2 = .ok (.putfield 37, 3) := by decide +kernel
theorem dX3_add_5 : decode cX3_add 5 = .ok (.aload_n 0, 1) := by decide +kernel
theorem dX3_add_6 : decode cX3_add 6 = .ok (.iload_n 1, 1) := by decide +kernel
theorem dX3_add_7 : decode cX3_add 7 = .ok (.invokevirtual 47, 3) := by decide +kernel
theorem dX3_add_10 : decode cX3_add 10 = .ok (.ifCond .ne 9, 3) := by decide +kernel
theorem dX3_add_13 : decode cX3_add 13 = .ok (.aload_n 0, 1) := by decide +kernel
theorem dX3_add_14 : decode cX3_add 14 = .ok (.iconst 1, 1) := by decide +kernel
theorem dX3_add_15 : decode cX3_add 15 = .ok (.invokevirtual 77, 3) := by decide +kernel
theorem dX3_add_18 : decode cX3_add 18 = .ok (.ireturn, 1) := by decide +kernel
theorem dX3_add_19 : decode cX3_add 19 = .ok (.iload_n 2, 1) := by decide +kernel
theorem dX3_add_20 : decode cX3_add 20 = .ok (.ifCond .ne 9, 3) := by decide +kernel
theorem dX3_add_23 : decode cX3_add 23 = .ok (.aload_n 0, 1) := by decide +kernel
theorem dX3_add_24 : decode cX3_add 24 = .ok (.iconst 2, 1) := by decide +kernel
theorem dX3_add_25 : decode cX3_add 25 = .ok (.invokevirtual 77, 3) := by decide +kernel
theorem dX3_add_28 : decode cX3_add 28 = .ok (.ireturn, 1) := by decide +kernel
theorem dX3_add_29 : decode cX3_add 29 = .ok (.aload_n 0, 1) := by decide +kernel
theorem dX3_add_30 : decode cX3_add 30 = .ok (.iload_n 1, 1) := by decide +kernel
theorem dX3_add_31 : decode cX3_add 31 = .ok (.invokevirtual 88, 3) := by decide +kernel
theorem dX3_add_34 : decode cX3_add 34 = .ok (.aload_n 0, 1) := by decide +kernel
theorem dX3_add_35 : decode cX3_add 35 = .ok (.iload_n 1, 1) := by decide +kernel
theorem dX3_add_36 : decode cX3_add 36 = .ok (.aload_n 0, 1) := by decide +kernel
theorem dX3_add_37 : decode cX3_add 37 = .ok (.getfield 25, 3) := by decide +kernel
theorem dX3_add_40 : decode cX3_add 40 = .ok (.iload_n 1, 1) := by decide +kernel
theorem dX3_add_41 : decode cX3_add 41 = .ok (.iaload, 1) := by decide +kernel
theorem dX3_add_42 : decode cX3_add 42 = .ok (.aload_n 3, 1) := by decide +kernel
theorem dX3_add_43 : decode cX3_add 43 = .ok (.iconst 0, 1) := by decide +kernel
theorem dX3_add_44 : decode cX3_add 44 = .ok (.invokevirtual 119, 3) := by decide +kernel
theorem dX3_add_47 : decode cX3_add 47 = .ok (.istore 4, 2) := by decide +kernel
theorem dX3_add_49 : decode cX3_add 49 = .ok (.aload_n 0, 1) := by decide +kernel
theorem dX3_add_50 : decode cX3_add 50 = .ok (.getfield 16, 3) := by decide +kernel
theorem dX3_add_53 : decode cX3_add 53 = .ok (.iload_n 1, 1) := by decide +kernel
theorem dX3_add_54 : decode cX3_add 54 = .ok (.iaload, 1) := by decide +kernel
theorem dX3_add_55 : decode cX3_add 55 = .ok (.iload 4, 2) := by decide +kernel
theorem dX3_add_57 : decode cX3_add 57 = .ok (.iadd, 1) := by decide +kernel
theorem dX3_add_58 : decode cX3_add 58 = .ok (.sipush 200, 3) := by decide +kernel
theorem dX3_add_61 : decode cX3_add 61 = .ok (.if_icmp .gt 29, 3) := by decide +kernel
theorem dX3_add_64 : decode cX3_add 64 = .ok (.aload_n 0, 1) := by decide +kernel
theorem dX3_add_65 : decode cX3_add 65 = .ok (.getfield 25, 3) := by decide +kernel
theorem dX3_add_68 : decode cX3_add 68 = .ok (.iload_n 1, 1) := by decide +kernel
theorem dX3_add_69 : decode cX3_add 69 = .ok (.iaload, 1) := by decide +kernel
theorem dX3_add_70 : decode cX3_add 70 = .ok (.aload_n 3, 1) := by decide +kernel
theorem dX3_add_71 : decode cX3_add 71 = .ok (.iconst 0, 1) := by decide +kernel
theorem dX3_add_72 : decode cX3_add 72 = .ok (.iaload, 1) := by decide +kernel
theorem dX3_add_73 : decode cX3_add 73 = .ok (.aload_n 3, 1) := by decide +kernel
theorem dX3_add_74 : decode cX3_add 74 = .ok (.iconst 1, 1) := by decide +kernel
theorem dX3_add_75 : decode cX3_add 75 = .ok (.iaload, 1) := by decide +kernel
theorem dX3_add_76 : decode cX3_add 76 = .ok (.invokestatic 61, 3) := by decide +kernel
theorem dX3_add_79 : decode cX3_add 79 = .ok (.iadd, 1) := by decide +kernel
theorem dX3_add_80 : decode cX3_add 80 = .ok (.bipush 100, 2) := by decide +kernel
theorem dX3_add_82 : decode cX3_add 82 = .ok (.aload_n 0, 1) := by decide +kernel
theorem dX3_add_83 : decode cX3_add 83 = .ok (.invokevirtual 81, 3) := by decide +kernel
theorem dX3_add_86 : decode cX3_add 86 = .ok (.imul, 1) := by decide +kernel
theorem dX3_add_87 : decode cX3_add 87 = .ok (.if_icmp .le 9, 3) := by decide +kernel
theorem dX3_add_90 : decode cX3_add 90 = .ok (.aload_n 0, 1) := by decide +kernel
theorem dX3_add_91 : decode cX3_add 91 = .ok (.iconst 3, 1) := by decide +kernel
theorem dX3_add_92 : decode cX3_add 92 = .ok (.invokevirtual 77, 3) := by decide +kernel
theorem dX3_add_95 : decode cX3_add 95 = .ok (.ireturn, 1) := by decide +kernel
theorem dX3_add_96 : decode cX3_add 96 = .ok (.aload_n 0, 1) := by decide +kernel
theorem dX3_add_97 : decode cX3_add 97 = .ok (.iload_n 1, 1) := by decide +kernel
theorem dX3_add_98 : decode cX3_add 98 = .ok (.aload_n 0, 1) := by decide +kernel
theorem dX3_add_99 : decode cX3_add 99 = .ok (.getfield 25, 3) := by decide +kernel
theorem dX3_add_102 : decode cX3_add 102 = .ok (.iload_n 1, 1) := by decide +kernel
theorem dX3_add_103 : decode cX3_add 103 = .ok (.iaload, 1) := by decide +kernel
theorem dX3_add_104 : decode cX3_add 104 = .ok (.aload_n 3, 1) := by decide +kernel
theorem dX3_add_105 : decode cX3_add 105 = .ok (.iconst 1, 1) := by decide +kernel
theorem dX3_add_106 : decode cX3_add 106 = .ok (.invokevirtual 119, 3) := by decide +kernel
theorem dX3_add_109 : decode cX3_add 109 = .ok (.pop, 1) := by decide +kernel
theorem dX3_add_110 : decode cX3_add 110 = .ok (.aload_n 0, 1) := by decide +kernel
theorem dX3_add_111 : decode cX3_add 111 = .ok (.getfield 16, 3) := by decide +kernel
theorem dX3_add_114 : decode cX3_add 114 = .ok (.iload_n 1, 1) := by decide +kernel
theorem dX3_add_115 : decode cX3_add 115 = .ok (.dup2, 1) := by decide +kernel
theorem dX3_add_116 : decode cX3_add 116 = .ok (.iaload, 1) := by decide +kernel
theorem dX3_add_117 : decode cX3_add 117 = .ok (.iload 4, 2) := by decide +kernel
theorem dX3_add_119 : decode cX3_add 119 = .ok (.iadd, 1) := by decide +kernel
theorem dX3_add_120 : decode cX3_add 120 = .ok (.iastore, 1) := by decide +kernel
theorem dX3_add_121 : decode cX3_add 121 = .ok (.iload 4, 2) := by decide +kernel
theorem dX3_add_123 : decode cX3_add 123 = .ok (.ireturn, 1) := by decide +kernel
theorem dX3_addNote_0 : decode cX3_addNote 0 = .ok (.aload_n 0, 1) := by decide +kernel
theorem dX3_addNote_1 : decode cX3_addNote 1 = .ok (.iload_n 1, 1) := by decide +kernel
theorem dX3_addNote_2 : decode cX3_addNote 2 = .ok (.iload_n 2, 1) := by decide +kernel
theorem dX3_addNote_3 : decode cX3_addNote 3 = .ok (.iload_n 3, 1) := by decide +kernel
theorem dX3_addNote_4 : decode cX3_addNote 4 = .ok (.invokestatic 106, 3) := by decide +kernel
theorem dX3_addNote_7 : decode cX3_addNote 7 = .ok (.ifCond .eq 19, 3) := by decide +kernel
theorem dX3_addNote_10 : decode cX3_addNote 10 = .ok (.iload 4, 2) := by decide +kernel
theorem dX3_addNote_12 : decode cX3_addNote 12 = .ok (.iload 5, 2) := by decide +kernel
theorem dX3_addNote_14 : decode cX3_addNote 14 = .ok (.iload 6, 2) := by decide +kernel
theorem dX3_addNote_16 : decode cX3_addNote 16 = .ok (.invokestatic 123, 3) := by decide +kernel
theorem dX3_addNote_19 : decode cX3_addNote 19 = .ok (.ifCond .eq 7, 3) := by decide +kernel
theorem dX3_addNote_22 : decode cX3_addNote 22 = .ok (.iconst 1, 1) := by decide +kernel
theorem dX3_addNote_23 : decode cX3_addNote 23 = .ok (.goto 4, 3) := by decide +kernel
theorem dX3_addNote_26 : decode cX3_addNote 26 = .ok (.iconst 0, 1) := by decide +kernel
theorem dX3_addNote_27 : decode cX3_addNote 27 = .ok (.bipush 7, 2) := by decide +kernel
theorem dX3_addNote_29 : decode cX3_addNote 29 = .ok (.newarray .int, 2) := by decide +kernel
theorem dX3_addNote_31 : decode cX3_addNote 31 = .ok (.dup, 1) := by decide +kernel
theorem dX3_addNote_32 : decode cX3_addNote 32 = .ok (.iconst 0, 1) := by decide +kernel
theorem dX3_addNote_33 : decode cX3_addNote 33 = .ok (.iload_n 2, 1) := by decide +kernel
theorem dX3_addNote_34 : decode cX3_addNote 34 = .ok (.iastore, 1) := by decide +kernel
theorem dX3_addNote_35 : decode cX3_addNote 35 = .ok (.dup, 1) := by decide +kernel
theorem dX3_addNote_36 : decode cX3_addNote 36 = .ok (.iconst 1, 1) := by decide +kernel
theorem dX3_addNote_37 : decode cX3_addNote 37 = .ok (.iload_n 3, 1) := by decide +kernel
theorem dX3_addNote_38 : decode cX3_addNote 38 = .ok (.iastore, 1) := by decide +kernel
theorem dX3_addNote_39 : decode cX3_addNote 39 = .ok (.dup, 1) := by decide +kernel
theorem dX3_addNote_40 : decode cX3_addNote 40 = .ok (.iconst 2, 1) := by decide +kernel
theorem dX3_addNote_41 : decode cX3_addNote 41 = .ok (.iconst 1, 1) := by decide +kernel
theorem dX3_addNote_42 : decode cX3_addNote 42 = .ok (.iastore, 1) := by decide +kernel
theorem dX3_addNote_43 : decode cX3_addNote 43 = .ok (.dup, 1) := by decide +kernel
theorem dX3_addNote_44 : decode cX3_addNote 44 = .ok (.iconst 3, 1) := by decide +kernel
theorem dX3_addNote_45 : decode cX3_addNote 45 = .ok (.iload 4, 2) := by decide +kernel
theorem dX3_addNote_47 : decode cX3_addNote 47 = .ok (.iastore, 1) := by decide +kernel
theorem dX3_addNote_48 : decode cX3_addNote 48 = .ok (.dup, 1) := by decide +kernel
theorem dX3_addNote_49 : decode cX3_addNote 49 = .ok (.iconst 4, 1) := by decide +kernel
theorem dX3_addNote_50 : decode cX3_addNote 50 = .ok (.iload 5, 2) := by decide +kernel
theorem dX3_addNote_52 : decode cX3_addNote 52 = .ok (.iastore, 1) := by decide +kernel
theorem dX3_addNote_53 : decode cX3_addNote 53 = .ok (.dup, 1) := by decide +kernel
theorem dX3_addNote_54 : decode cX3_addNote 54 = .ok (.iconst 5, 1) := by decide +kernel
theorem dX3_addNote_55 : decode cX3_addNote 55 = .ok (.iload 6, 2) := by decide +kernel
theorem dX3_addNote_57 : decode cX3_addNote 57 = .ok (.iastore, 1) := by decide +kernel
theorem dX3_addNote_58 : decode cX3_addNote 58 = .ok (.dup, 1) := by decide +kernel
theorem dX3_addNote_59 : decode cX3_addNote 59 = .ok (.bipush 6, 2) := by decide +kernel
theorem dX3_addNote_61 : decode cX3_addNote 61 = .ok (.iload 7, 2) := by decide +kernel
theorem dX3_addNote_63 : decode cX3_addNote 63 = .ok (.ifCond .eq 7, 3) := by decide +kernel
theorem dX3_addNote_66 : decode cX3_addNote 66 = .ok (.iconst 1, 1) := by decide +kernel
theorem dX3_addNote_67 : decode cX3_addNote 67 = .ok (.goto 4, 3) := by decide +kernel
theorem dX3_addNote_70 : decode cX3_addNote 70 = .ok (.iconst 0, 1) := by decide +kernel
theorem dX3_addNote_71 : decode cX3_addNote 71 = .ok (.iastore, 1) := by decide +kernel
theorem dX3_addNote_72 : decode cX3_addNote 72 = .ok (.invokevirtual 126, 3) := by decide +kernel
theorem dX3_addNote_75 : decode cX3_addNote 75 = .ok (.ireturn, 1) := by decide +kernel
theorem dX3_addRest_0 : decode cX3_addRest 0 = .ok (.aload_n 0, 1) := by decide +kernel
theorem dX3_addRest_1 : decode cX3_addRest 1 = .ok (.iload_n 1, 1) := by decide +kernel
theorem dX3_addRest_2 : decode cX3_addRest 2 = .ok (.iload_n 2, 1) := by decide +kernel
theorem dX3_addRest_3 : decode cX3_addRest 3 = .ok (.iload_n 3, 1) := by decide +kernel
theorem dX3_addRest_4 : decode cX3_addRest 4 = .ok (.invokestatic 106, 3) := by decide +kernel
theorem dX3_addRest_7 : decode cX3_addRest 7 = .ok (.bipush 7, 2) := by decide +kernel
theorem dX3_addRest_9 : decode cX3_addRest 9 = .ok (.newarray .int, 2) := by decide +kernel
theorem dX3_addRest_11 : decode cX3_addRest 11 = .ok (.dup, 1) := by decide +kernel
theorem dX3_addRest_12 : decode cX3_addRest 12 = .ok (.iconst 0, 1) := by decide +kernel
theorem dX3_addRest_13 : decode cX3_addRest 13 = .ok (.iload_n 2, 1) := by decide +kernel
theorem dX3_addRest_14 : decode cX3_addRest 14 = .ok (.iastore, 1) := by decide +kernel
theorem dX3_addRest_15 : decode cX3_addRest 15 = .ok (.dup, 1) := by decide +kernel
theorem dX3_addRest_16 : decode cX3_addRest 16 = .ok (.iconst 1, 1) := by decide +kernel
theorem dX3_addRest_17 : decode cX3_addRest 17 = .ok (.iload_n 3, 1) := by decide +kernel
theorem dX3_addRest_18 : decode cX3_addRest 18 = .ok (.iastore, 1) := by decide +kernel
theorem dX3_addRest_19 : decode cX3_addRest 19 = .ok (.dup, 1) := by decide +kernel
theorem dX3_addRest_20 : decode cX3_addRest 20 = .ok (.iconst 2, 1) := by decide +kernel
theorem dX3_addRest_21 : decode cX3_addRest 21 = .ok (.iconst 0, 1) := by decide +kernel
theorem dX3_addRest_22 : decode cX3_addRest 22 = .ok (.iastore, 1) := by decide +kernel
theorem dX3_addRest_23 : decode cX3_addRest 23 = .ok (.dup, 1) := by decide +kernel
theorem dX3_addRest_24 : decode cX3_addRest 24 = .ok (.iconst 3, 1) := by decide +kernel
theorem dX3_addRest_25 : decode cX3_addRest 25 = .ok (.iconst 0, 1) := by decide +kernel
theorem dX3_addRest_26 : decode cX3_addRest 26 = .ok (.iastore, 1) := by decide +kernel
theorem dX3_addRest_27 : decode cX3_addRest 27 = .ok (.dup, 1) := by decide +kernel
theorem dX3_addRest_28 : decode cX3_addRest 28 = .ok (.iconst 4, 1) := by decide +kernel
theorem dX3_addRest_29 : decode cX3_addRest 29 = .ok (.iconst 0, 1) := by decide +kernel
theorem dX3_addRest_30 : decode cX3_addRest 30 = .ok (.iastore, 1) := by decide +kernel
theorem dX3_addRest_31 : decode cX3_addRest 31 = .ok (.dup, 1) := by decide +kernel
theorem dX3_addRest_32 : decode cX3_addRest 32 = .ok (.iconst 5, 1) := by decide +kernel
theorem dX3_addRest_33 : decode cX3_addRest 33 = .ok (.iconst 0, 1) := by decide +kernel
theorem dX3_addRest_34 : decode cX3_addRest 34 = .ok (.iastore, 1) := by decide +kernel
theorem dX3_addRest_35 : decode cX3_addRest 35 = .ok (.dup, 1) := by decide +kernel
theorem dX3_addRest_36 : decode cX3_addRest 36 = .ok (.bipush 6, 2) := by decide +kernel
theorem dX3_addRest_38 : decode cX3_addRest 38 = .ok (.iconst 0, 1) := by decide +kernel
theorem dX3_addRest_39 : decode cX3_addRest 39 = .ok (.iastore, 1) := by decide +kernel
theorem dX3_addRest_40 : decode cX3_addRest 40 = .ok (.invokevirtual 126, 3) := by decide +kernel
theorem dX3_addRest_43 : decode cX3_addRest 43 = .ok (.ireturn, 1) := by decide +kernel
theorem dX3_removeLast_0 : decode cX3_removeLast 0 = .ok (.aload_n 0, 1) := by decide +kernel
theorem dX3_removeLast_1 : decode cX3_removeLast 1 = .ok (.iconst 0, 1) := by decide +kernel
theorem dX3_removeLast_2 : decode cX3_removeLast 2 = .ok (.putfield 37, 3) := by decide +kernel
theorem dX3_removeLast_5 : decode cX3_removeLast 5 = .ok (.aload_n 0, 1) := by decide +kernel
theorem dX3_removeLast_6 : decode cX3_removeLast 6 = .ok (.iload_n 1, 1) := by decide +kernel
theorem dX3_removeLast_7 : decode cX3_removeLast 7 = .ok (.invokevirtual 47, 3) := by decide +kernel
theorem dX3_removeLast_10 : decode cX3_removeLast 10 = .ok (.ifCond .ne 9, 3) := by decide +kernel
theorem dX3_removeLast_13 : decode cX3_removeLast 13 = .ok (.aload_n 0, 1) := by decide +kernel
theorem dX3_removeLast_14 : decode cX3_removeLast 14 = .ok (.iconst 1, 1) := by decide +kernel
theorem dX3_removeLast_15 : decode cX3_removeLast 15 = .ok (.invokevirtual 77, 3) := by decide +kernel
theorem dX3_removeLast_18 : decode cX3_removeLast 18 = .ok (.ireturn, 1) := by decide +kernel
theorem dX3_removeLast_19 : decode cX3_removeLast 19 = .ok (.aload_n 0, 1) := by decide +kernel
theorem dX3_removeLast_20 : decode cX3_removeLast 20 = .ok (.getfield 16, 3) := by decide +kernel
theorem dX3_removeLast_23 : decode cX3_removeLast 23 = .ok (.iload_n 1, 1) := by decide +kernel
theorem dX3_removeLast_24 : decode cX3_removeLast 24 = .ok (.iaload, 1) := by decide +kernel
theorem dX3_removeLast_25 : decode cX3_removeLast 25 = .ok (.ifCond .ne 9, 3) := by decide +kernel
theorem dX3_removeLast_28 : decode cX3_removeLast 28 = .ok (.aload_n 0, 1) := by decide +kernel
theorem dX3_removeLast_29 : decode cX3_removeLast 29 = .ok (.iconst 2, 1) := by decide +kernel
theorem dX3_removeLast_30 : decode cX3_removeLast 30 = .ok (.invokevirtual 77, 3) := by decide +kernel
theorem dX3_removeLast_33 : decode cX3_removeLast 33 = .ok (.ireturn, 1) := by decide +kernel
theorem dX3_removeLast_34 : decode cX3_removeLast 34 = .ok (.aload_n 0, 1) := by decide +kernel
theorem dX3_removeLast_35 : decode cX3_removeLast 35 = .ok (.getfield 16, 3) := by decide +kernel
theorem dX3_removeLast_38 : decode cX3_removeLast 38 = .ok (.iload_n 1, 1) := by decide +kernel
theorem dX3_removeLast_39 : decode cX3_removeLast 39 = .ok (.dup2, 1) := by decide +kernel
theorem dX3_removeLast_40 : decode cX3_removeLast 40 = .ok (.iaload, 1) := by decide +kernel
theorem dX3_removeLast_41 : decode cX3_removeLast 41 = .ok (.iconst 1, 1) := by decide +kernel
theorem dX3_removeLast_42 : decode cX3_removeLast 42 = .ok (.isub, 1) := by decide +kernel
theorem dX3_removeLast_43 : decode cX3_removeLast 43 = .ok (.iastore, 1) := by decide +kernel
theorem dX3_removeLast_44 : decode cX3_removeLast 44 = .ok (.aload_n 0, 1) := by decide +kernel
theorem dX3_removeLast_45 : decode cX3_removeLast 45 = .ok (.getfield 16, 3) := by decide +kernel
theorem dX3_removeLast_48 : decode cX3_removeLast 48 = .ok (.iload_n 1, 1) := by decide +kernel
theorem dX3_removeLast_49 : decode cX3_removeLast 49 = .ok (.iaload, 1) := by decide +kernel
theorem dX3_removeLast_50 : decode cX3_removeLast 50 = .ok (.ireturn, 1) := by decide +kernel
theorem dX3_tie_0 : decode cX3_tie 0 = .ok (.aload_n 0, 1) := by decide +kernel
theorem dX3_tie_1 : decode cX3_tie 1 = .ok (.aload_n 0, 1) := by decide +kernel
theorem dX3_tie_2 : decode cX3_tie 2 = .ok (.iload_n 1, 1) := by decide +kernel
theorem dX3_tie_3 : decode cX3_tie 3 = .ok (.iload_n 2, 1) := by decide +kernel
theorem dX3_tie_4 : decode cX3_tie 4 = .ok (.invokevirtual 130, 3) := by decide +kernel
theorem dX3_tie_7 : decode cX3_tie 7 = .ok (.ifCond .ne 7, 3) := by decide +kernel
theorem dX3_tie_10 : decode cX3_tie 10 = .ok (.iconst 1, 1) := by decide +kernel
theorem dX3_tie_11 : decode cX3_tie 11 = .ok (.goto 18, 3) := by decide +kernel
theorem dX3_tie_14 : decode cX3_tie 14 = .ok (.aload_n 0, 1) := by decide +kernel
theorem dX3_tie_15 : decode cX3_tie 15 = .ok (.iload_n 1, 1) := by decide +kernel
theorem dX3_tie_16 : decode cX3_tie 16 = .ok (.iload_n 2, 1) := by decide +kernel
theorem dX3_tie_17 : decode cX3_tie 17 = .ok (.iconst 2, 1) := by decide +kernel
theorem dX3_tie_18 : decode cX3_tie 18 = .ok (.invokevirtual 57, 3) := by decide +kernel
theorem dX3_tie_21 : decode cX3_tie 21 = .ok (.ifCond .ne 7, 3) := by decide +kernel
theorem dX3_tie_24 : decode cX3_tie 24 = .ok (.iconst 2, 1) := by decide +kernel
theorem dX3_tie_25 : decode cX3_tie 25 = .ok (.goto 4, 3) := by decide +kernel
theorem dX3_tie_28 : decode cX3_tie 28 = .ok (.iconst 0, 1) := by decide +kernel
theorem dX3_tie_29 : decode cX3_tie 29 = .ok (.putfield 37, 3) := by decide +kernel
theorem dX3_tie_32 : decode cX3_tie 32 = .ok (.aload_n 0, 1) := by decide +kernel
theorem dX3_tie_33 : decode cX3_tie 33 = .ok (.getfield 37, 3) := by decide +kernel
theorem dX3_tie_36 : decode cX3_tie 36 = .ok (.ifCond .eq 5, 3) := by decide +kernel
theorem dX3_tie_39 : decode cX3_tie 39 = .ok (.iconst 0, 1) := by decide +kernel
theorem dX3_tie_40 : decode cX3_tie 40 = .ok (.ireturn, 1) := by decide +kernel
theorem dX3_tie_41 : decode cX3_tie 41 = .ok (.aload_n 0, 1) := by decide +kernel
theorem dX3_tie_42 : decode cX3_tie 42 = .ok (.iload_n 1, 1) := by decide +kernel
theorem dX3_tie_43 : decode cX3_tie 43 = .ok (.iload_n 2, 1) := by decide +kernel
theorem dX3_tie_44 : decode cX3_tie 44 = .ok (.bipush 6, 2) := by decide +kernel
theorem dX3_tie_46 : decode cX3_tie 46 = .ok (.invokevirtual 57, 3) := by decide +kernel
theorem dX3_tie_49 : decode cX3_tie 49 = .ok (.iconst 1, 1) := by decide +kernel
theorem dX3_tie_50 : decode cX3_tie 50 = .ok (.if_icmp .ne 7, 3) := by decide +kernel
theorem dX3_tie_53 : decode cX3_tie 53 = .ok (.iconst 1, 1) := by decide +kernel
theorem dX3_tie_54 : decode cX3_tie 54 = .ok (.goto 4, 3) := by decide +kernel
theorem dX3_tie_57 : decode cX3_tie 57 = .ok (.iconst 0, 1) := by decide +kernel
theorem dX3_tie_58 : decode cX3_tie 58 = .ok (.istore 4, 2) := by decide +kernel
theorem dX3_tie_60 : decode cX3_tie 60 = .ok (.aload_n 0, 1) := by decide +kernel
theorem dX3_tie_61 : decode cX3_tie 61 = .ok (.getfield 22, 3) := by decide +kernel
theorem dX3_tie_64 : decode cX3_tie 64 = .ok (.iload_n 1, 1) := by decide +kernel
theorem dX3_tie_65 : decode cX3_tie 65 = .ok (.aaload, 1) := by decide +kernel
theorem dX3_tie_66 : decode cX3_tie 66 = .ok (.bipush 10, 2) := by decide +kernel
theorem dX3_tie_68 : decode cX3_tie 68 = .ok (.iload_n 2, 1) := by decide +kernel
theorem dX3_tie_69 : decode cX3_tie 69 = .ok (.imul, 1) := by decide +kernel
theorem dX3_tie_70 : decode cX3_tie 70 = .ok (.bipush 6, 2) := by decide +kernel
theorem dX3_tie_72 : decode cX3_tie 72 = .ok (.iadd, 1) := by decide +kernel
theorem dX3_tie_73 : decode cX3_tie 73 = .ok (.iload_n 3, 1) := by decide +kernel
theorem dX3_tie_74 : decode cX3_tie 74 = .ok (.ifCond .eq 7, 3) := by decide +kernel
theorem dX3_tie_77 : decode cX3_tie 77 = .ok (.iconst 1, 1) := by decide +kernel
theorem dX3_tie_78 : decode cX3_tie 78 = .ok (.goto 4, 3) := by decide +kernel
theorem dX3_tie_81 : decode cX3_tie 81 = .ok (.iconst 0, 1) := by decide +kernel
theorem dX3_tie_82 : decode cX3_tie 82 = .ok (.iastore, 1) := by decide +kernel
theorem dX3_tie_83 : decode cX3_tie 83 = .ok (.iload 4, 2) := by decide +kernel
theorem dX3_tie_85 : decode cX3_tie 85 = .ok (.ireturn, 1) := by decide +kernel
theorem dX3_isJoined_0 : decode cX3_isJoined 0 = .ok (.iload_n 2, 1) := by decide +kernel
theorem dX3_isJoined_1 : decode cX3_isJoined 1 = .ok (.ifCond .lt 58, 3) := by decide +kernel
theorem dX3_isJoined_4 : decode cX3_isJoined 4 = .ok (.iload_n 2, 1) := by decide +kernel
theorem dX3_isJoined_5 : decode cX3_isJoined 5 = .ok (.iconst 1, 1) := by decide +kernel
theorem dX3_isJoined_6 : decode cX3_isJoined 6 = .ok (.iadd, 1) := by decide +kernel
theorem dX3_isJoined_7 : decode cX3_isJoined 7 = .ok (.aload_n 0, 1) := by decide +kernel
theorem dX3_isJoined_8 : decode cX3_isJoined 8 = .ok (.getfield 16, 3) := by decide +kernel
theorem dX3_isJoined_11 : decode cX3_isJoined 11 = .ok (.iload_n 1, 1) := by decide +kernel
theorem dX3_isJoined_12 : decode cX3_isJoined 12 = .ok (.iaload, 1) := by decide +kernel
theorem dX3_isJoined_13 : decode cX3_isJoined 13 = .ok (.if_icmp .ge 46, 3) := by decide +kernel
theorem dX3_isJoined_16 : decode cX3_isJoined 16 = .ok (.aload_n 0, 1) := by decide +kernel
theorem dX3_isJoined_17 : decode cX3_isJoined 17 = .ok (.iload_n 1, 1) := by decide +kernel
theorem dX3_isJoined_18 : decode cX3_isJoined 18 = .ok (.iload_n 2, 1) := by decide +kernel
theorem dX3_isJoined_19 : decode cX3_isJoined 19 = .ok (.bipush 6, 2) := by decide +kernel
theorem dX3_isJoined_21 : decode cX3_isJoined 21 = .ok (.invokevirtual 57, 3) := by decide +kernel
theorem dX3_isJoined_24 : decode cX3_isJoined 24 = .ok (.iconst 1, 1) := by decide +kernel
theorem dX3_isJoined_25 : decode cX3_isJoined 25 = .ok (.if_icmp .ne 34, 3) := by decide +kernel
theorem dX3_isJoined_28 : decode cX3_isJoined 28 = .ok (.aload_n 0, 1) := by decide +kernel
theorem dX3_isJoined_29 : decode cX3_isJoined 29 = .ok (.iload_n 1, 1) := by decide +kernel
theorem dX3_isJoined_30 : decode cX3_isJoined 30 = .ok (.iload_n 2, 1) := by decide +kernel
theorem dX3_isJoined_31 : decode cX3_isJoined 31 = .ok (.invokevirtual 133, 3) := by decide +kernel
theorem dX3_isJoined_34 : decode cX3_isJoined 34 = .ok (.iconst (-1), 1) := by decide +kernel
theorem dX3_isJoined_35 : decode cX3_isJoined 35 = .ok (.if_icmp .eq 24, 3) := by decide +kernel
theorem dX3_isJoined_38 : decode cX3_isJoined 38 = .ok (.aload_n 0, 1) := by decide +kernel
theorem dX3_isJoined_39 : decode cX3_isJoined 39 = .ok (.iload_n 1, 1) := by decide +kernel
theorem dX3_isJoined_40 : decode cX3_isJoined 40 = .ok (.iload_n 2, 1) := by decide +kernel
theorem dX3_isJoined_41 : decode cX3_isJoined 41 = .ok (.invokevirtual 133, 3) := by decide +kernel
theorem dX3_isJoined_44 : decode cX3_isJoined 44 = .ok (.aload_n 0, 1) := by decide +kernel
theorem dX3_isJoined_45 : decode cX3_isJoined 45 = .ok (.iload_n 1, 1) := by decide +kernel
theorem dX3_isJoined_46 : decode cX3_isJoined 46 = .ok (.iload_n 2, 1) := by decide +kernel
theorem dX3_isJoined_47 : decode cX3_isJoined 47 = .ok (.iconst 1, 1) := by decide +kernel
theorem dX3_isJoined_48 : decode cX3_isJoined 48 = .ok (.iadd, 1) := by decide +kernel
theorem dX3_isJoined_49 : decode cX3_isJoined 49 = .ok (.invokevirtual 133, 3) := by decide +kernel
theorem dX3_isJoined_52 : decode cX3_isJoined 52 = .ok (.if_icmp .ne 7, 3) := by decide +kernel
theorem dX3_isJoined_55 : decode cX3_isJoined 55 = .ok (.iconst 1, 1) := by decide +kernel
theorem dX3_isJoined_56 : decode cX3_isJoined 56 = .ok (.goto 4, 3) := by decide +kernel
theorem dX3_isJoined_59 : decode cX3_isJoined 59 = .ok (.iconst 0, 1) := by decide +kernel
theorem dX3_isJoined_60 : decode cX3_isJoined 60 = .ok (.ireturn, 1) := by decide +kernel
theorem dX3_find_0 : decode cX3_find 0 = .ok (.aload_n 0, 1) := by decide +kernel
theorem dX3_find_1 : decode cX3_find 1 = .ok (.iload_n 1, 1) := by decide +kernel
theorem dX3_find_2 : decode cX3_find 2 = .ok (.invokevirtual 88, 3) := by decide +kernel
theorem dX3_find_5 : decode cX3_find 5 = .ok (.iconst (-1), 1) := by decide +kernel
theorem dX3_find_6 : decode cX3_find 6 = .ok (.istore_n 2, 1) := by decide +kernel
theorem dX3_find_7 : decode cX3_find 7 = .ok (.iconst 0, 1) := by decide +kernel
theorem dX3_find_8 : decode cX3_find 8 = .ok (.istore_n 3, 1) := by decide +kernel
theorem dX3_find_9 : decode cX3_find 9 = .ok (.iload_n 3, 1) := by decide +kernel
theorem dX3_find_10 : decode cX3_find 10 = .ok (.aload_n 0, 1) := by decide +kernel
theorem dX3_find_11 : decode cX3_find 11 = .ok (.getfield 16, 3) := by decide +kernel
theorem dX3_find_14 : decode cX3_find 14 = .ok (.iload_n 1, 1) := by decide +kernel
theorem dX3_find_15 : decode cX3_find 15 = .ok (.iaload, 1) := by decide +kernel
theorem dX3_find_16 : decode cX3_find 16 = .ok (.if_icmp .ge 182, 3) := by decide +kernel
theorem dX3_find_19 : decode cX3_find 19 = .ok (.bipush 10, 2) := by decide +kernel
theorem dX3_find_21 : decode cX3_find 21 = .ok (.iload_n 3, 1) := by decide +kernel
theorem dX3_find_22 : decode cX3_find 22 = .ok (.imul, 1) := by decide +kernel
theorem dX3_find_23 : decode cX3_find 23 = .ok (.istore 4, 2) := by decide +kernel
theorem dX3_find_25 : decode cX3_find 25 = .ok (.aload_n 0, 1) := by decide +kernel
theorem dX3_find_26 : decode cX3_find 26 = .ok (.iload_n 1, 1) := by decide +kernel
theorem dX3_find_27 : decode cX3_find 27 = .ok (.iload_n 3, 1) := by decide +kernel
theorem dX3_find_28 : decode cX3_find 28 = .ok (.bipush 7, 2) := by decide +kernel
theorem dX3_find_30 : decode cX3_find 30 = .ok (.invokevirtual 57, 3) := by decide +kernel
theorem dX3_find_33 : decode cX3_find 33 = .ok (.aload_n 0, 1) := by decide +kernel
theorem dX3_find_34 : decode cX3_find 34 = .ok (.invokevirtual 81, 3) := by decide +kernel
theorem dX3_find_37 : decode cX3_find 37 = .ok (.idiv, 1) := by decide +kernel
theorem dX3_find_38 : decode cX3_find 38 = .ok (.iload_n 2, 1) := by decide +kernel
theorem dX3_find_39 : decode cX3_find 39 = .ok (.if_icmp .eq 38, 3) := by decide +kernel
theorem dX3_find_42 : decode cX3_find 42 = .ok (.iconst 0, 1) := by decide +kernel
theorem dX3_find_43 : decode cX3_find 43 = .ok (.istore 5, 2) := by decide +kernel
theorem dX3_find_45 : decode cX3_find 45 = .ok (.iload 5, 2) := by decide +kernel
theorem dX3_find_47 : decode cX3_find 47 = .ok (.aload_n 0, 1) := by decide +kernel
theorem dX3_find_48 : decode cX3_find 48 = .ok (.getfield 31, 3) := by decide +kernel
theorem dX3_find_51 : decode cX3_find 51 = .ok (.arraylength, 1) := by decide +kernel
theorem dX3_find_52 : decode cX3_find 52 = .ok (.if_icmp .ge 25, 3) := by decide +kernel
theorem dX3_find_55 : decode cX3_find 55 = .ok (.aload_n 0, 1) := by decide +kernel
theorem dX3_find_56 : decode cX3_find 56 = .ok (.getfield 31, 3) := by decide +kernel
theorem dX3_find_59 : decode cX3_find 59 = .ok (.iload 5, 2) := by decide +kernel
theorem dX3_find_61 : decode cX3_find 61 = .ok (.aload_n 0, 1) := by decide +kernel
theorem dX3_find_62 : decode cX3_find 62 = .ok (.iload 5, 2) := by decide +kernel
theorem dX3_find_64 : decode cX3_find 64 = .ok (.bipush 7, 2) := by decide +kernel
theorem dX3_find_66 : decode cX3_find 66 = .ok (.irem, 1) := by decide +kernel
theorem dX3_find_67 : decode cX3_find 67 = .ok (.invokevirtual 103, 3) := by decide +kernel
theorem dX3_find_70 : decode cX3_find 70 = .ok (.iastore, 1) := by decide +kernel
theorem dX3_find_71 : decode cX3_find 71 = .ok (.iinc 5 1, 3) := by decide +kernel
theorem dX3_find_74 : decode cX3_find 74 = .ok (.goto (-29), 3) := by decide +kernel
theorem dX3_find_77 : decode cX3_find 77 = .ok (.aload_n 0, 1) := by decide +kernel
theorem dX3_find_78 : decode cX3_find 78 = .ok (.iload_n 1, 1) := by decide +kernel
theorem dX3_find_79 : decode cX3_find 79 = .ok (.iload_n 3, 1) := by decide +kernel
theorem dX3_find_80 : decode cX3_find 80 = .ok (.bipush 7, 2) := by decide +kernel
theorem dX3_find_82 : decode cX3_find 82 = .ok (.invokevirtual 57, 3) := by decide +kernel
theorem dX3_find_85 : decode cX3_find 85 = .ok (.aload_n 0, 1) := by decide +kernel
theorem dX3_find_86 : decode cX3_find 86 = .ok (.invokevirtual 81, 3) := by decide +kernel
theorem dX3_find_89 : decode cX3_find 89 = .ok (.idiv, 1) := by decide +kernel
theorem dX3_find_90 : decode cX3_find 90 = .ok (.istore_n 2, 1) := by decide +kernel
theorem dX3_find_91 : decode cX3_find 91 = .ok (.aload_n 0, 1) := by decide +kernel
theorem dX3_find_92 : decode cX3_find 92 = .ok (.getfield 22, 3) := by decide +kernel
theorem dX3_find_95 : decode cX3_find 95 = .ok (.iload_n 1, 1) := by decide +kernel
theorem dX3_find_96 : decode cX3_find 96 = .ok (.aaload, 1) := by decide +kernel
theorem dX3_find_97 : decode cX3_find 97 = .ok (.iload 4, 2) := by decide +kernel
theorem dX3_find_99 : decode cX3_find 99 = .ok (.bipush 8, 2) := by decide +kernel
theorem dX3_find_101 : decode cX3_find 101 = .ok (.iadd, 1) := by decide +kernel
theorem dX3_find_102 : decode cX3_find 102 = .ok (.iconst 0, 1) := by decide +kernel
theorem dX3_find_103 : decode cX3_find 103 = .ok (.iastore, 1) := by decide +kernel
theorem dX3_find_104 : decode cX3_find 104 = .ok (.aload_n 0, 1) := by decide +kernel
theorem dX3_find_105 : decode cX3_find 105 = .ok (.iload_n 1, 1) := by decide +kernel
theorem dX3_find_106 : decode cX3_find 106 = .ok (.iload_n 3, 1) := by decide +kernel
theorem dX3_find_107 : decode cX3_find 107 = .ok (.iconst 2, 1) := by decide +kernel
theorem dX3_find_108 : decode cX3_find 108 = .ok (.invokevirtual 57, 3) := by decide +kernel
theorem dX3_find_111 : decode cX3_find 111 = .ok (.ifCond .ne 6, 3) := by decide +kernel
theorem dX3_find_114 : decode cX3_find 114 = .ok (.goto 78, 3) := by decide +kernel
theorem dX3_find_117 : decode cX3_find 117 = .ok (.bipush 7, 2) := by decide +kernel
theorem dX3_find_119 : decode cX3_find 119 = .ok (.aload_n 0, 1) := by decide +kernel
theorem dX3_find_120 : decode cX3_find 120 = .ok (.iload_n 1, 1) := by decide +kernel
theorem dX3_find_121 : decode cX3_find 121 = .ok (.iload_n 3, 1) := by decide +kernel
theorem dX3_find_122 : decode cX3_find 122 = .ok (.iconst 5, 1) := by decide +kernel
theorem dX3_find_123 : decode cX3_find 123 = .ok (.invokevirtual 57, 3) := by decide +kernel
theorem dX3_find_126 : decode cX3_find 126 = .ok (.imul, 1) := by decide +kernel
theorem dX3_find_127 : decode cX3_find 127 = .ok (.aload_n 0, 1) := by decide +kernel
theorem dX3_find_128 : decode cX3_find 128 = .ok (.iload_n 1, 1) := by decide +kernel
theorem dX3_find_129 : decode cX3_find 129 = .ok (.iload_n 3, 1) := by decide +kernel
theorem dX3_find_130 : decode cX3_find 130 = .ok (.iconst 3, 1) := by decide +kernel
theorem dX3_find_131 : decode cX3_find 131 = .ok (.invokevirtual 57, 3) := by decide +kernel
theorem dX3_find_134 : decode cX3_find 134 = .ok (.iadd, 1) := by decide +kernel
theorem dX3_find_135 : decode cX3_find 135 = .ok (.istore 5, 2) := by decide +kernel
theorem dX3_find_137 : decode cX3_find 137 = .ok (.aload_n 0, 1) := by decide +kernel
theorem dX3_find_138 : decode cX3_find 138 = .ok (.getfield 31, 3) := by decide +kernel
theorem dX3_find_141 : decode cX3_find 141 = .ok (.iload 5, 2) := by decide +kernel
theorem dX3_find_143 : decode cX3_find 143 = .ok (.iaload, 1) := by decide +kernel
theorem dX3_find_144 : decode cX3_find 144 = .ok (.aload_n 0, 1) := by decide +kernel
theorem dX3_find_145 : decode cX3_find 145 = .ok (.iload_n 1, 1) := by decide +kernel
theorem dX3_find_146 : decode cX3_find 146 = .ok (.iload_n 3, 1) := by decide +kernel
theorem dX3_find_147 : decode cX3_find 147 = .ok (.iconst 4, 1) := by decide +kernel
theorem dX3_find_148 : decode cX3_find 148 = .ok (.invokevirtual 57, 3) := by decide +kernel
theorem dX3_find_151 : decode cX3_find 151 = .ok (.if_icmp .eq 27, 3) := by decide +kernel
theorem dX3_find_154 : decode cX3_find 154 = .ok (.aload_n 0, 1) := by decide +kernel
theorem dX3_find_155 : decode cX3_find 155 = .ok (.iload_n 1, 1) := by decide +kernel
theorem dX3_find_156 : decode cX3_find 156 = .ok (.iload_n 3, 1) := by decide +kernel
theorem dX3_find_157 : decode cX3_find 157 = .ok (.iconst 1, 1) := by decide +kernel
theorem dX3_find_158 : decode cX3_find 158 = .ok (.isub, 1) := by decide +kernel
theorem dX3_find_159 : decode cX3_find 159 = .ok (.invokevirtual 136, 3) := by decide +kernel
theorem dX3_find_162 : decode cX3_find 162 = .ok (.ifCond .ne 16, 3) := by decide +kernel
theorem dX3_find_165 : decode cX3_find 165 = .ok (.aload_n 0, 1) := by decide +kernel
theorem dX3_find_166 : decode cX3_find 166 = .ok (.getfield 22, 3) := by decide +kernel
theorem dX3_find_169 : decode cX3_find 169 = .ok (.iload_n 1, 1) := by decide +kernel
theorem dX3_find_170 : decode cX3_find 170 = .ok (.aaload, 1) := by decide +kernel
theorem dX3_find_171 : decode cX3_find 171 = .ok (.iload 4, 2) := by decide +kernel
theorem dX3_find_173 : decode cX3_find 173 = .ok (.bipush 8, 2) := by decide +kernel
theorem dX3_find_175 : decode cX3_find 175 = .ok (.iadd, 1) := by decide +kernel
theorem dX3_find_176 : decode cX3_find 176 = .ok (.iconst 1, 1) := by decide +kernel
theorem dX3_find_177 : decode cX3_find 177 = .ok (.iastore, 1) := by decide +kernel
theorem dX3_find_178 : decode cX3_find 178 = .ok (.aload_n 0, 1) := by decide +kernel
theorem dX3_find_179 : decode cX3_find 179 = .ok (.getfield 31, 3) := by decide +kernel
theorem dX3_find_182 : decode cX3_find 182 = .ok (.iload 5, 2) := by decide +kernel
theorem dX3_find_184 : decode cX3_find 184 = .ok (.aload_n 0, 1) := by decide +kernel
theorem dX3_find_185 : decode cX3_find 185 = .ok (.iload_n 1, 1) := by decide +kernel
theorem dX3_find_186 : decode cX3_find 186 = .ok (.iload_n 3, 1) := by decide +kernel
theorem dX3_find_187 : decode cX3_find 187 = .ok (.iconst 4, 1) := by decide +kernel
theorem dX3_find_188 : decode cX3_find 188 = .ok (.invokevirtual 57, 3) := by decide +kernel
theorem dX3_find_191 : decode cX3_find 191 = .ok (.iastore, 1) := by decide +kernel
theorem dX3_find_192 : decode cX3_find 192 = .ok (.iinc 3 1, 3) := by decide +kernel
theorem dX3_find_195 : decode cX3_find 195 = .ok (.goto (-186), 3) := by decide +kernel
theorem dX3_find_198 : decode cX3_find 198 = .ok (.aload_n 0, 1) := by decide +kernel
theorem dX3_find_199 : decode cX3_find 199 = .ok (.getfield 28, 3) := by decide +kernel
theorem dX3_find_202 : decode cX3_find 202 = .ok (.iload_n 1, 1) := by decide +kernel
theorem dX3_find_203 : decode cX3_find 203 = .ok (.iconst 0, 1) := by decide +kernel
theorem dX3_find_204 : decode cX3_find 204 = .ok (.iastore, 1) := by decide +kernel
theorem dX3_find_205 : decode cX3_find 205 = .ok (.iconst 0, 1) := by decide +kernel
theorem dX3_find_206 : decode cX3_find 206 = .ok (.istore_n 3, 1) := by decide +kernel
theorem dX3_find_207 : decode cX3_find 207 = .ok (.iload_n 3, 1) := by decide +kernel
theorem dX3_find_208 : decode cX3_find 208 = .ok (.aload_n 0, 1) := by decide +kernel
theorem dX3_find_209 : decode cX3_find 209 = .ok (.getfield 16, 3) := by decide +kernel
theorem dX3_find_212 : decode cX3_find 212 = .ok (.iload_n 1, 1) := by decide +kernel
theorem dX3_find_213 : decode cX3_find 213 = .ok (.iaload, 1) := by decide +kernel
theorem dX3_find_214 : decode cX3_find 214 = .ok (.if_icmp .ge 137, 3) := by decide +kernel
theorem dX3_find_217 : decode cX3_find 217 = .ok (.iload_n 3, 1) := by decide +kernel
theorem dX3_find_218 : decode cX3_find 218 = .ok (.iconst 1, 1) := by decide +kernel
theorem dX3_find_219 : decode cX3_find 219 = .ok (.iadd, 1) := by decide +kernel
theorem dX3_find_220 : decode cX3_find 220 = .ok (.istore 4, 2) := by decide +kernel
theorem dX3_find_222 : decode cX3_find 222 = .ok (.iload 4, 2) := by decide +kernel
theorem dX3_find_224 : decode cX3_find 224 = .ok (.aload_n 0, 1) := by decide +kernel
theorem dX3_find_225 : decode cX3_find 225 = .ok (.getfield 16, 3) := by decide +kernel
theorem dX3_find_228 : decode cX3_find 228 = .ok (.iload_n 1, 1) := by decide +kernel
theorem dX3_find_229 : decode cX3_find 229 = .ok (.iaload, 1) := by decide +kernel
theorem dX3_find_230 : decode cX3_find 230 = .ok (.if_icmp .ge 44, 3) := by decide +kernel
theorem dX3_find_233 : decode cX3_find 233 = .ok (.aload_n 0, 1) := by decide +kernel
theorem dX3_find_234 : decode cX3_find 234 = .ok (.iload_n 1, 1) := by decide +kernel
theorem dX3_find_235 : decode cX3_find 235 = .ok (.iload_n 3, 1) := by decide +kernel
theorem dX3_find_236 : decode cX3_find 236 = .ok (.invokevirtual 139, 3) := by decide +kernel
theorem dX3_find_239 : decode cX3_find 239 = .ok (.ifCond .eq 35, 3) := by decide +kernel
theorem dX3_find_242 : decode cX3_find 242 = .ok (.aload_n 0, 1) := by decide +kernel
theorem dX3_find_243 : decode cX3_find 243 = .ok (.iload_n 1, 1) := by decide +kernel
theorem dX3_find_244 : decode cX3_find 244 = .ok (.iload 4, 2) := by decide +kernel
theorem dX3_find_246 : decode cX3_find 246 = .ok (.invokevirtual 139, 3) := by decide +kernel
theorem dX3_find_249 : decode cX3_find 249 = .ok (.ifCond .eq 25, 3) := by decide +kernel
theorem dX3_find_252 : decode cX3_find 252 = .ok (.aload_n 0, 1) := by decide +kernel
theorem dX3_find_253 : decode cX3_find 253 = .ok (.iload_n 1, 1) := by decide +kernel
theorem dX3_find_254 : decode cX3_find 254 = .ok (.iload_n 3, 1) := by decide +kernel
theorem dX3_find_255 : decode cX3_find 255 = .ok (.invokevirtual 142, 3) := by decide +kernel
theorem dX3_find_258 : decode cX3_find 258 = .ok (.aload_n 0, 1) := by decide +kernel
theorem dX3_find_259 : decode cX3_find 259 = .ok (.iload_n 1, 1) := by decide +kernel
theorem dX3_find_260 : decode cX3_find 260 = .ok (.iload 4, 2) := by decide +kernel
theorem dX3_find_262 : decode cX3_find 262 = .ok (.invokevirtual 142, 3) := by decide +kernel
theorem dX3_find_265 : decode cX3_find 265 = .ok (.if_icmp .ne 9, 3) := by decide +kernel
theorem dX3_find_268 : decode cX3_find 268 = .ok (.iinc 4 1, 3) := by decide +kernel
theorem dX3_find_271 : decode cX3_find 271 = .ok (.goto (-49), 3) := by decide +kernel
theorem dX3_find_274 : decode cX3_find 274 = .ok (.iload_n 3, 1) := by decide +kernel
theorem dX3_find_275 : decode cX3_find 275 = .ok (.istore 5, 2) := by decide +kernel
theorem dX3_find_277 : decode cX3_find 277 = .ok (.iload 5, 2) := by decide +kernel
theorem dX3_find_279 : decode cX3_find 279 = .ok (.iload 4, 2) := by decide +kernel
theorem dX3_find_281 : decode cX3_find 281 = .ok (.if_icmp .ge 42, 3) := by decide +kernel
theorem dX3_find_284 : decode cX3_find 284 = .ok (.aload_n 0, 1) := by decide +kernel
theorem dX3_find_285 : decode cX3_find 285 = .ok (.getfield 22, 3) := by decide +kernel
theorem dX3_find_288 : decode cX3_find 288 = .ok (.iload_n 1, 1) := by decide +kernel
theorem dX3_find_289 : decode cX3_find 289 = .ok (.aaload, 1) := by decide +kernel
theorem dX3_find_290 : decode cX3_find 290 = .ok (.bipush 10, 2) := by decide +kernel
theorem dX3_find_292 : decode cX3_find 292 = .ok (.iload 5, 2) := by decide +kernel
theorem dX3_find_294 : decode cX3_find 294 = .ok (.imul, 1) := by decide +kernel
theorem dX3_find_295 : decode cX3_find 295 = .ok (.bipush 9, 2) := by decide +kernel
theorem dX3_find_297 : decode cX3_find 297 = .ok (.iadd, 1) := by decide +kernel
theorem dX3_find_298 : decode cX3_find 298 = .ok (.iload 4, 2) := by decide +kernel
theorem dX3_find_300 : decode cX3_find 300 = .ok (.iload_n 3, 1) := by decide +kernel
theorem dX3_find_301 : decode cX3_find 301 = .ok (.isub, 1) := by decide +kernel
theorem dX3_find_302 : decode cX3_find 302 = .ok (.iconst 1, 1) := by decide +kernel
theorem dX3_find_303 : decode cX3_find 303 = .ok (.if_icmp .le 12, 3) := by decide +kernel
theorem dX3_find_306 : decode cX3_find 306 = .ok (.aload_n 0, 1) := by decide +kernel
theorem dX3_find_307 : decode cX3_find 307 = .ok (.getfield 28, 3) := by decide +kernel
theorem dX3_find_310 : decode cX3_find 310 = .ok (.iload_n 1, 1) := by decide +kernel
theorem dX3_find_311 : decode cX3_find 311 = .ok (.iaload, 1) := by decide +kernel
theorem dX3_find_312 : decode cX3_find 312 = .ok (.goto 4, 3) := by decide +kernel
theorem dX3_find_315 : decode cX3_find 315 = .ok (.iconst (-1), 1) := by decide +kernel
theorem dX3_find_316 : decode cX3_find 316 = .ok (.iastore, 1) := by decide +kernel
theorem dX3_find_317 : decode cX3_find 317 = .ok (.iinc 5 1, 3) := by decide +kernel
theorem dX3_find_320 : decode cX3_find 320 = .ok (.goto (-43), 3) := by decide +kernel
theorem dX3_find_323 : decode cX3_find 323 = .ok (.aload_n 0, 1) := by decide +kernel
theorem dX3_find_324 : decode cX3_find 324 = .ok (.getfield 28, 3) := by decide +kernel
theorem dX3_find_327 : decode cX3_find 327 = .ok (.iload_n 1, 1) := by decide +kernel
theorem dX3_find_328 : decode cX3_find 328 = .ok (.dup2, 1) := by decide +kernel
theorem dX3_find_329 : decode cX3_find 329 = .ok (.iaload, 1) := by decide +kernel
theorem dX3_find_330 : decode cX3_find 330 = .ok (.iload 4, 2) := by decide +kernel
theorem dX3_find_332 : decode cX3_find 332 = .ok (.iload_n 3, 1) := by decide +kernel
theorem dX3_find_333 : decode cX3_find 333 = .ok (.isub, 1) := by decide +kernel
theorem dX3_find_334 : decode cX3_find 334 = .ok (.iconst 1, 1) := by decide +kernel
theorem dX3_find_335 : decode cX3_find 335 = .ok (.if_icmp .le 7, 3) := by decide +kernel
theorem dX3_find_338 : decode cX3_find 338 = .ok (.iconst 1, 1) := by decide +kernel
theorem dX3_find_339 : decode cX3_find 339 = .ok (.goto 4, 3) := by decide +kernel
theorem dX3_find_342 : decode cX3_find 342 = .ok (.iconst 0, 1) := by decide +kernel
theorem dX3_find_343 : decode cX3_find 343 = .ok (.iadd, 1) := by decide +kernel
theorem dX3_find_344 : decode cX3_find 344 = .ok (.iastore, 1) := by decide +kernel
theorem dX3_find_345 : decode cX3_find 345 = .ok (.iload 4, 2) := by decide +kernel
theorem dX3_find_347 : decode cX3_find 347 = .ok (.istore_n 3, 1) := by decide +kernel
theorem dX3_find_348 : decode cX3_find 348 = .ok (.goto (-141), 3) := by decide +kernel
theorem dX3_find_351 : decode cX3_find 351 = .ok (.return_, 1) := by decide +kernel
theorem dX3_canBeam_0 : decode cX3_canBeam 0 = .ok (.aload_n 0, 1) := by decide +kernel
theorem dX3_canBeam_1 : decode cX3_canBeam 1 = .ok (.iload_n 1, 1) := by decide +kernel
theorem dX3_canBeam_2 : decode cX3_canBeam 2 = .ok (.iload_n 2, 1) := by decide +kernel
theorem dX3_canBeam_3 : decode cX3_canBeam 3 = .ok (.iconst 2, 1) := by decide +kernel
theorem dX3_canBeam_4 : decode cX3_canBeam 4 = .ok (.invokevirtual 57, 3) := by decide +kernel
theorem dX3_canBeam_7 : decode cX3_canBeam 7 = .ok (.iconst 1, 1) := by decide +kernel
theorem dX3_canBeam_8 : decode cX3_canBeam 8 = .ok (.if_icmp .ne 19, 3) := by decide +kernel
theorem dX3_canBeam_11 : decode cX3_canBeam 11 = .ok (.aload_n 0, 1) := by decide +kernel
theorem dX3_canBeam_12 : decode cX3_canBeam 12 = .ok (.iload_n 1, 1) := by decide +kernel
theorem dX3_canBeam_13 : decode cX3_canBeam 13 = .ok (.iload_n 2, 1) := by decide +kernel
theorem dX3_canBeam_14 : decode cX3_canBeam 14 = .ok (.iconst 0, 1) := by decide +kernel
theorem dX3_canBeam_15 : decode cX3_canBeam 15 = .ok (.invokevirtual 57, 3) := by decide +kernel
theorem dX3_canBeam_18 : decode cX3_canBeam 18 = .ok (.bipush 8, 2) := by decide +kernel
theorem dX3_canBeam_20 : decode cX3_canBeam 20 = .ok (.if_icmp .lt 7, 3) := by decide +kernel
theorem dX3_canBeam_23 : decode cX3_canBeam 23 = .ok (.iconst 1, 1) := by decide +kernel
theorem dX3_canBeam_24 : decode cX3_canBeam 24 = .ok (.goto 4, 3) := by decide +kernel
theorem dX3_canBeam_27 : decode cX3_canBeam 27 = .ok (.iconst 0, 1) := by decide +kernel
theorem dX3_canBeam_28 : decode cX3_canBeam 28 = .ok (.ireturn, 1) := by decide +kernel
theorem dX3_beat_0 : decode cX3_beat 0 = .ok (.aload_n 0, 1) := by decide +kernel
theorem dX3_beat_1 : decode cX3_beat 1 = .ok (.iload_n 1, 1) := by decide +kernel
theorem dX3_beat_2 : decode cX3_beat 2 = .ok (.iload_n 2, 1) := by decide +kernel
theorem dX3_beat_3 : decode cX3_beat 3 = .ok (.bipush 7, 2) := by decide +kernel
theorem dX3_beat_5 : decode cX3_beat 5 = .ok (.invokevirtual 57, 3) := by decide +kernel
theorem dX3_beat_8 : decode cX3_beat 8 = .ok (.sipush 384, 3) := by decide +kernel
theorem dX3_beat_11 : decode cX3_beat 11 = .ok (.aload_n 0, 1) := by decide +kernel
theorem dX3_beat_12 : decode cX3_beat 12 = .ok (.getfield 13, 3) := by decide +kernel
theorem dX3_beat_15 : decode cX3_beat 15 = .ok (.idiv, 1) := by decide +kernel
theorem dX3_beat_16 : decode cX3_beat 16 = .ok (.idiv, 1) := by decide +kernel
theorem dX3_beat_17 : decode cX3_beat 17 = .ok (.ireturn, 1) := by decide +kernel
theorem dX3_elementTold_0 : decode cX3_elementTold 0 = .ok (.iload_n 3, 1) := by decide +kernel
theorem dX3_elementTold_1 : decode cX3_elementTold 1 = .ok (.tableswitch 118 0 7 #[47, 56, 63, 71, 79, 86, 95, 109], 47) := by decide +kernel
theorem dX3_elementTold_48 : decode cX3_elementTold 48 = .ok (.aload_n 0, 1) := by decide +kernel
theorem dX3_elementTold_49 : decode cX3_elementTold 49 = .ok (.iload_n 1, 1) := by decide +kernel
theorem dX3_elementTold_50 : decode cX3_elementTold 50 = .ok (.iload_n 2, 1) := by decide +kernel
theorem dX3_elementTold_51 : decode cX3_elementTold 51 = .ok (.bipush 7, 2) := by decide +kernel
theorem dX3_elementTold_53 : decode cX3_elementTold 53 = .ok (.invokevirtual 57, 3) := by decide +kernel
theorem dX3_elementTold_56 : decode cX3_elementTold 56 = .ok (.ireturn, 1) := by decide +kernel
theorem dX3_elementTold_57 : decode cX3_elementTold 57 = .ok (.aload_n 0, 1) := by decide +kernel
theorem dX3_elementTold_58 : decode cX3_elementTold 58 = .ok (.iload_n 1, 1) := by decide +kernel
theorem dX3_elementTold_59 : decode cX3_elementTold 59 = .ok (.iload_n 2, 1) := by decide +kernel
theorem dX3_elementTold_60 : decode cX3_elementTold 60 = .ok (.invokevirtual 85, 3) := by decide +kernel
theorem dX3_elementTold_63 : decode cX3_elementTold 63 = .ok (.ireturn, 1) := by decide +kernel
theorem dX3_elementTold_64 : decode cX3_elementTold 64 = .ok (.aload_n 0, 1) := by decide +kernel
theorem dX3_elementTold_65 : decode cX3_elementTold 65 = .ok (.iload_n 1, 1) := by decide +kernel
theorem dX3_elementTold_66 : decode cX3_elementTold 66 = .ok (.iload_n 2, 1) := by decide +kernel
theorem dX3_elementTold_67 : decode cX3_elementTold 67 = .ok (.iconst 0, 1) := by decide +kernel
theorem dX3_elementTold_68 : decode cX3_elementTold 68 = .ok (.invokevirtual 57, 3) := by decide +kernel
theorem dX3_elementTold_71 : decode cX3_elementTold 71 = .ok (.ireturn, 1) := by decide +kernel
theorem dX3_elementTold_72 : decode cX3_elementTold 72 = .ok (.aload_n 0, 1) := by decide +kernel
theorem dX3_elementTold_73 : decode cX3_elementTold 73 = .ok (.iload_n 1, 1) := by decide +kernel
theorem dX3_elementTold_74 : decode cX3_elementTold 74 = .ok (.iload_n 2, 1) := by decide +kernel
theorem dX3_elementTold_75 : decode cX3_elementTold 75 = .ok (.iconst 1, 1) := by decide +kernel
theorem dX3_elementTold_76 : decode cX3_elementTold 76 = .ok (.invokevirtual 57, 3) := by decide +kernel
theorem dX3_elementTold_79 : decode cX3_elementTold 79 = .ok (.ireturn, 1) := by decide +kernel
theorem dX3_elementTold_80 : decode cX3_elementTold 80 = .ok (.aload_n 0, 1) := by decide +kernel
theorem dX3_elementTold_81 : decode cX3_elementTold 81 = .ok (.iload_n 1, 1) := by decide +kernel
theorem dX3_elementTold_82 : decode cX3_elementTold 82 = .ok (.iload_n 2, 1) := by decide +kernel
theorem dX3_elementTold_83 : decode cX3_elementTold 83 = .ok (.invokevirtual 133, 3) := by decide +kernel
theorem dX3_elementTold_86 : decode cX3_elementTold 86 = .ok (.ireturn, 1) := by decide +kernel
theorem dX3_elementTold_87 : decode cX3_elementTold 87 = .ok (.aload_n 0, 1) := by decide +kernel
theorem dX3_elementTold_88 : decode cX3_elementTold 88 = .ok (.iload_n 1, 1) := by decide +kernel
theorem dX3_elementTold_89 : decode cX3_elementTold 89 = .ok (.iload_n 2, 1) := by decide +kernel
theorem dX3_elementTold_90 : decode cX3_elementTold 90 = .ok (.bipush 6, 2) := by decide +kernel
theorem dX3_elementTold_92 : decode cX3_elementTold 92 = .ok (.invokevirtual 57, 3) := by decide +kernel
theorem dX3_elementTold_95 : decode cX3_elementTold 95 = .ok (.ireturn, 1) := by decide +kernel
theorem dX3_elementTold_96 : decode cX3_elementTold 96 = .ok (.aload_n 0, 1) := by decide +kernel
theorem dX3_elementTold_97 : decode cX3_elementTold 97 = .ok (.iload_n 1, 1) := by decide +kernel
theorem dX3_elementTold_98 : decode cX3_elementTold 98 = .ok (.iload_n 2, 1) := by decide +kernel
theorem dX3_elementTold_99 : decode cX3_elementTold 99 = .ok (.bipush 7, 2) := by decide +kernel
theorem dX3_elementTold_101 : decode cX3_elementTold 101 = .ok (.invokevirtual 57, 3) := by decide +kernel
theorem dX3_elementTold_104 : decode cX3_elementTold 104 = .ok (.aload_n 0, 1) := by decide +kernel
theorem dX3_elementTold_105 : decode cX3_elementTold 105 = .ok (.invokevirtual 81, 3) := by decide +kernel
theorem dX3_elementTold_108 : decode cX3_elementTold 108 = .ok (.idiv, 1) := by decide +kernel
theorem dX3_elementTold_109 : decode cX3_elementTold 109 = .ok (.ireturn, 1) := by decide +kernel
theorem dX3_elementTold_110 : decode cX3_elementTold 110 = .ok (.aload_n 0, 1) := by decide +kernel
theorem dX3_elementTold_111 : decode cX3_elementTold 111 = .ok (.iload_n 1, 1) := by decide +kernel
theorem dX3_elementTold_112 : decode cX3_elementTold 112 = .ok (.iload_n 2, 1) := by decide +kernel
theorem dX3_elementTold_113 : decode cX3_elementTold 113 = .ok (.bipush 8, 2) := by decide +kernel
theorem dX3_elementTold_115 : decode cX3_elementTold 115 = .ok (.invokevirtual 57, 3) := by decide +kernel
theorem dX3_elementTold_118 : decode cX3_elementTold 118 = .ok (.ireturn, 1) := by decide +kernel
theorem dX3_elementTold_119 : decode cX3_elementTold 119 = .ok (.aload_n 0, 1) := by decide +kernel
theorem dX3_elementTold_120 : decode cX3_elementTold 120 = .ok (.iload_n 1, 1) := by decide +kernel
theorem dX3_elementTold_121 : decode cX3_elementTold 121 = .ok (.iload_n 2, 1) := by decide +kernel
theorem dX3_elementTold_122 : decode cX3_elementTold 122 = .ok (.bipush 9, 2) := by decide +kernel
theorem dX3_elementTold_124 : decode cX3_elementTold 124 = .ok (.invokevirtual 57, 3) := by decide +kernel
theorem dX3_elementTold_127 : decode cX3_elementTold 127 = .ok (.ireturn, 1) := by decide +kernel
theorem dX3_element_0 : decode cX3_element 0 = .ok (.aload_n 0, 1) := by decide +kernel
theorem dX3_element_1 : decode cX3_element 1 = .ok (.iconst 0, 1) := by decide +kernel
theorem dX3_element_2 : decode cX3_element 2 = .ok (.putfield 37, 3) := by decide +kernel
theorem dX3_element_5 : decode cX3_element 5 = .ok (.aload_n 0, 1) := by decide +kernel
theorem dX3_element_6 : decode cX3_element 6 = .ok (.iload_n 1, 1) := by decide +kernel
theorem dX3_element_7 : decode cX3_element 7 = .ok (.iload_n 2, 1) := by decide +kernel
theorem dX3_element_8 : decode cX3_element 8 = .ok (.invokevirtual 130, 3) := by decide +kernel
theorem dX3_element_11 : decode cX3_element 11 = .ok (.ifCond .eq 13, 3) := by decide +kernel
theorem dX3_element_14 : decode cX3_element 14 = .ok (.iload_n 3, 1) := by decide +kernel
theorem dX3_element_15 : decode cX3_element 15 = .ok (.iconst 0, 1) := by decide +kernel
theorem dX3_element_16 : decode cX3_element 16 = .ok (.bipush 8, 2) := by decide +kernel
theorem dX3_element_18 : decode cX3_element 18 = .ok (.invokestatic 43, 3) := by decide +kernel
theorem dX3_element_21 : decode cX3_element 21 = .ok (.ifCond .ne 9, 3) := by decide +kernel
theorem dX3_element_24 : decode cX3_element 24 = .ok (.aload_n 0, 1) := by decide +kernel
theorem dX3_element_25 : decode cX3_element 25 = .ok (.iconst 1, 1) := by decide +kernel
theorem dX3_element_26 : decode cX3_element 26 = .ok (.invokevirtual 77, 3) := by decide +kernel
theorem dX3_element_29 : decode cX3_element 29 = .ok (.ireturn, 1) := by decide +kernel
theorem dX3_element_30 : decode cX3_element 30 = .ok (.aload_n 0, 1) := by decide +kernel
theorem dX3_element_31 : decode cX3_element 31 = .ok (.iload_n 1, 1) := by decide +kernel
theorem dX3_element_32 : decode cX3_element 32 = .ok (.invokevirtual 145, 3) := by decide +kernel
theorem dX3_element_35 : decode cX3_element 35 = .ok (.aload_n 0, 1) := by decide +kernel
theorem dX3_element_36 : decode cX3_element 36 = .ok (.iload_n 1, 1) := by decide +kernel
theorem dX3_element_37 : decode cX3_element 37 = .ok (.iload_n 2, 1) := by decide +kernel
theorem dX3_element_38 : decode cX3_element 38 = .ok (.iload_n 3, 1) := by decide +kernel
theorem dX3_element_39 : decode cX3_element 39 = .ok (.invokevirtual 148, 3) := by decide +kernel
theorem dX3_element_42 : decode cX3_element 42 = .ok (.ireturn, 1) := by decide +kernel
theorem dX3_pitch_0 : decode cX3_pitch 0 = .ok (.aload_n 0, 1) := by decide +kernel
theorem dX3_pitch_1 : decode cX3_pitch 1 = .ok (.iconst 0, 1) := by decide +kernel
theorem dX3_pitch_2 : decode cX3_pitch 2 = .ok (.putfield 37, 3) := by decide +kernel
theorem dX3_pitch_5 : decode cX3_pitch 5 = .ok (.aload_n 0, 1) := by decide +kernel
theorem dX3_pitch_6 : decode cX3_pitch 6 = .ok (.iload_n 1, 1) := by decide +kernel
theorem dX3_pitch_7 : decode cX3_pitch 7 = .ok (.iload_n 2, 1) := by decide +kernel
theorem dX3_pitch_8 : decode cX3_pitch 8 = .ok (.invokevirtual 130, 3) := by decide +kernel
theorem dX3_pitch_11 : decode cX3_pitch 11 = .ok (.ifCond .eq 12, 3) := by decide +kernel
theorem dX3_pitch_14 : decode cX3_pitch 14 = .ok (.iload_n 3, 1) := by decide +kernel
theorem dX3_pitch_15 : decode cX3_pitch 15 = .ok (.iconst 0, 1) := by decide +kernel
theorem dX3_pitch_16 : decode cX3_pitch 16 = .ok (.iconst 2, 1) := by decide +kernel
theorem dX3_pitch_17 : decode cX3_pitch 17 = .ok (.invokestatic 43, 3) := by decide +kernel
theorem dX3_pitch_20 : decode cX3_pitch 20 = .ok (.ifCond .ne 9, 3) := by decide +kernel
theorem dX3_pitch_23 : decode cX3_pitch 23 = .ok (.aload_n 0, 1) := by decide +kernel
theorem dX3_pitch_24 : decode cX3_pitch 24 = .ok (.iconst 1, 1) := by decide +kernel
theorem dX3_pitch_25 : decode cX3_pitch 25 = .ok (.invokevirtual 77, 3) := by decide +kernel
theorem dX3_pitch_28 : decode cX3_pitch 28 = .ok (.ireturn, 1) := by decide +kernel
theorem dX3_pitch_29 : decode cX3_pitch 29 = .ok (.aload_n 0, 1) := by decide +kernel
theorem dX3_pitch_30 : decode cX3_pitch 30 = .ok (.iload_n 1, 1) := by decide +kernel
theorem dX3_pitch_31 : decode cX3_pitch 31 = .ok (.iload_n 2, 1) := by decide +kernel
theorem dX3_pitch_32 : decode cX3_pitch 32 = .ok (.iconst 2, 1) := by decide +kernel
theorem dX3_pitch_33 : decode cX3_pitch 33 = .ok (.invokevirtual 57, 3) := by decide +kernel
theorem dX3_pitch_36 : decode cX3_pitch 36 = .ok (.ifCond .ne 9, 3) := by decide +kernel
theorem dX3_pitch_39 : decode cX3_pitch 39 = .ok (.aload_n 0, 1) := by decide +kernel
theorem dX3_pitch_40 : decode cX3_pitch 40 = .ok (.iconst 2, 1) := by decide +kernel
theorem dX3_pitch_41 : decode cX3_pitch 41 = .ok (.invokevirtual 77, 3) := by decide +kernel
theorem dX3_pitch_44 : decode cX3_pitch 44 = .ok (.ireturn, 1) := by decide +kernel
theorem dX3_pitch_45 : decode cX3_pitch 45 = .ok (.aload_n 0, 1) := by decide +kernel
theorem dX3_pitch_46 : decode cX3_pitch 46 = .ok (.iload_n 1, 1) := by decide +kernel
theorem dX3_pitch_47 : decode cX3_pitch 47 = .ok (.iload_n 2, 1) := by decide +kernel
theorem dX3_pitch_48 : decode cX3_pitch 48 = .ok (.iconst 3, 1) := by decide +kernel
theorem dX3_pitch_49 : decode cX3_pitch 49 = .ok (.iload_n 3, 1) := by decide +kernel
theorem dX3_pitch_50 : decode cX3_pitch 50 = .ok (.iadd, 1) := by decide +kernel
theorem dX3_pitch_51 : decode cX3_pitch 51 = .ok (.invokevirtual 57, 3) := by decide +kernel
theorem dX3_pitch_54 : decode cX3_pitch 54 = .ok (.ireturn, 1) := by decide +kernel
theorem dX3_voiceTold_0 : decode cX3_voiceTold 0 = .ok (.iload_n 2, 1) := by decide +kernel
theorem dX3_voiceTold_1 : decode cX3_voiceTold 1 = .ok (.ifCond .ne 10, 3) := by decide +kernel
theorem dX3_voiceTold_4 : decode cX3_voiceTold 4 = .ok (.aload_n 0, 1) := by decide +kernel
theorem dX3_voiceTold_5 : decode cX3_voiceTold 5 = .ok (.getfield 16, 3) := by decide +kernel
theorem dX3_voiceTold_8 : decode cX3_voiceTold 8 = .ok (.iload_n 1, 1) := by decide +kernel
theorem dX3_voiceTold_9 : decode cX3_voiceTold 9 = .ok (.iaload, 1) := by decide +kernel
theorem dX3_voiceTold_10 : decode cX3_voiceTold 10 = .ok (.ireturn, 1) := by decide +kernel
theorem dX3_voiceTold_11 : decode cX3_voiceTold 11 = .ok (.iload_n 2, 1) := by decide +kernel
theorem dX3_voiceTold_12 : decode cX3_voiceTold 12 = .ok (.iconst 1, 1) := by decide +kernel
theorem dX3_voiceTold_13 : decode cX3_voiceTold 13 = .ok (.if_icmp .ne 10, 3) := by decide +kernel
theorem dX3_voiceTold_16 : decode cX3_voiceTold 16 = .ok (.aload_n 0, 1) := by decide +kernel
theorem dX3_voiceTold_17 : decode cX3_voiceTold 17 = .ok (.getfield 25, 3) := by decide +kernel
theorem dX3_voiceTold_20 : decode cX3_voiceTold 20 = .ok (.iload_n 1, 1) := by decide +kernel
theorem dX3_voiceTold_21 : decode cX3_voiceTold 21 = .ok (.iaload, 1) := by decide +kernel
theorem dX3_voiceTold_22 : decode cX3_voiceTold 22 = .ok (.ireturn, 1) := by decide +kernel
theorem dX3_voiceTold_23 : decode cX3_voiceTold 23 = .ok (.iload_n 2, 1) := by decide +kernel
theorem dX3_voiceTold_24 : decode cX3_voiceTold 24 = .ok (.iconst 3, 1) := by decide +kernel
theorem dX3_voiceTold_25 : decode cX3_voiceTold 25 = .ok (.if_icmp .ne 10, 3) := by decide +kernel
theorem dX3_voiceTold_28 : decode cX3_voiceTold 28 = .ok (.aload_n 0, 1) := by decide +kernel
theorem dX3_voiceTold_29 : decode cX3_voiceTold 29 = .ok (.getfield 28, 3) := by decide +kernel
theorem dX3_voiceTold_32 : decode cX3_voiceTold 32 = .ok (.iload_n 1, 1) := by decide +kernel
theorem dX3_voiceTold_33 : decode cX3_voiceTold 33 = .ok (.iaload, 1) := by decide +kernel
theorem dX3_voiceTold_34 : decode cX3_voiceTold 34 = .ok (.ireturn, 1) := by decide +kernel
theorem dX3_voiceTold_35 : decode cX3_voiceTold 35 = .ok (.iload_n 2, 1) := by decide +kernel
theorem dX3_voiceTold_36 : decode cX3_voiceTold 36 = .ok (.iconst 4, 1) := by decide +kernel
theorem dX3_voiceTold_37 : decode cX3_voiceTold 37 = .ok (.if_icmp .le 7, 3) := by decide +kernel
theorem dX3_voiceTold_40 : decode cX3_voiceTold 40 = .ok (.iconst (-1), 1) := by decide +kernel
theorem dX3_voiceTold_41 : decode cX3_voiceTold 41 = .ok (.goto 4, 3) := by decide +kernel
theorem dX3_voiceTold_44 : decode cX3_voiceTold 44 = .ok (.iconst 0, 1) := by decide +kernel
theorem dX3_voiceTold_45 : decode cX3_voiceTold 45 = .ok (.istore_n 3, 1) := by decide +kernel
theorem dX3_voiceTold_46 : decode cX3_voiceTold 46 = .ok (.iconst 0, 1) := by decide +kernel
theorem dX3_voiceTold_47 : decode cX3_voiceTold 47 = .ok (.istore 4, 2) := by decide +kernel
theorem dX3_voiceTold_49 : decode cX3_voiceTold 49 = .ok (.iload 4, 2) := by decide +kernel
theorem dX3_voiceTold_51 : decode cX3_voiceTold 51 = .ok (.aload_n 0, 1) := by decide +kernel
theorem dX3_voiceTold_52 : decode cX3_voiceTold 52 = .ok (.getfield 16, 3) := by decide +kernel
theorem dX3_voiceTold_55 : decode cX3_voiceTold 55 = .ok (.iload_n 1, 1) := by decide +kernel
theorem dX3_voiceTold_56 : decode cX3_voiceTold 56 = .ok (.iaload, 1) := by decide +kernel
theorem dX3_voiceTold_57 : decode cX3_voiceTold 57 = .ok (.if_icmp .ge 107, 3) := by decide +kernel
theorem dX3_voiceTold_60 : decode cX3_voiceTold 60 = .ok (.aload_n 0, 1) := by decide +kernel
theorem dX3_voiceTold_61 : decode cX3_voiceTold 61 = .ok (.iload_n 1, 1) := by decide +kernel
theorem dX3_voiceTold_62 : decode cX3_voiceTold 62 = .ok (.iload 4, 2) := by decide +kernel
theorem dX3_voiceTold_64 : decode cX3_voiceTold 64 = .ok (.invokevirtual 133, 3) := by decide +kernel
theorem dX3_voiceTold_67 : decode cX3_voiceTold 67 = .ok (.istore 5, 2) := by decide +kernel
theorem dX3_voiceTold_69 : decode cX3_voiceTold 69 = .ok (.iload 5, 2) := by decide +kernel
theorem dX3_voiceTold_71 : decode cX3_voiceTold 71 = .ok (.iconst (-1), 1) := by decide +kernel
theorem dX3_voiceTold_72 : decode cX3_voiceTold 72 = .ok (.if_icmp .ne 6, 3) := by decide +kernel
theorem dX3_voiceTold_75 : decode cX3_voiceTold 75 = .ok (.goto 83, 3) := by decide +kernel
theorem dX3_voiceTold_78 : decode cX3_voiceTold 78 = .ok (.iload_n 2, 1) := by decide +kernel
theorem dX3_voiceTold_79 : decode cX3_voiceTold 79 = .ok (.iconst 2, 1) := by decide +kernel
theorem dX3_voiceTold_80 : decode cX3_voiceTold 80 = .ok (.if_icmp .ne 26, 3) := by decide +kernel
theorem dX3_voiceTold_83 : decode cX3_voiceTold 83 = .ok (.iload_n 3, 1) := by decide +kernel
theorem dX3_voiceTold_84 : decode cX3_voiceTold 84 = .ok (.aload_n 0, 1) := by decide +kernel
theorem dX3_voiceTold_85 : decode cX3_voiceTold 85 = .ok (.iload_n 1, 1) := by decide +kernel
theorem dX3_voiceTold_86 : decode cX3_voiceTold 86 = .ok (.iload 4, 2) := by decide +kernel
theorem dX3_voiceTold_88 : decode cX3_voiceTold 88 = .ok (.iconst 1, 1) := by decide +kernel
theorem dX3_voiceTold_89 : decode cX3_voiceTold 89 = .ok (.isub, 1) := by decide +kernel
theorem dX3_voiceTold_90 : decode cX3_voiceTold 90 = .ok (.invokevirtual 136, 3) := by decide +kernel
theorem dX3_voiceTold_93 : decode cX3_voiceTold 93 = .ok (.ifCond .eq 7, 3) := by decide +kernel
theorem dX3_voiceTold_96 : decode cX3_voiceTold 96 = .ok (.iconst 0, 1) := by decide +kernel
theorem dX3_voiceTold_97 : decode cX3_voiceTold 97 = .ok (.goto 4, 3) := by decide +kernel
theorem dX3_voiceTold_100 : decode cX3_voiceTold 100 = .ok (.iconst 1, 1) := by decide +kernel
theorem dX3_voiceTold_101 : decode cX3_voiceTold 101 = .ok (.iadd, 1) := by decide +kernel
theorem dX3_voiceTold_102 : decode cX3_voiceTold 102 = .ok (.istore_n 3, 1) := by decide +kernel
theorem dX3_voiceTold_103 : decode cX3_voiceTold 103 = .ok (.goto 55, 3) := by decide +kernel
theorem dX3_voiceTold_106 : decode cX3_voiceTold 106 = .ok (.iload_n 2, 1) := by decide +kernel
theorem dX3_voiceTold_107 : decode cX3_voiceTold 107 = .ok (.iconst 4, 1) := by decide +kernel
theorem dX3_voiceTold_108 : decode cX3_voiceTold 108 = .ok (.if_icmp .ne 18, 3) := by decide +kernel
theorem dX3_voiceTold_111 : decode cX3_voiceTold 111 = .ok (.iload_n 3, 1) := by decide +kernel
theorem dX3_voiceTold_112 : decode cX3_voiceTold 112 = .ok (.aload_n 0, 1) := by decide +kernel
theorem dX3_voiceTold_113 : decode cX3_voiceTold 113 = .ok (.iload_n 1, 1) := by decide +kernel
theorem dX3_voiceTold_114 : decode cX3_voiceTold 114 = .ok (.iload 4, 2) := by decide +kernel
theorem dX3_voiceTold_116 : decode cX3_voiceTold 116 = .ok (.bipush 8, 2) := by decide +kernel
theorem dX3_voiceTold_118 : decode cX3_voiceTold 118 = .ok (.invokevirtual 57, 3) := by decide +kernel
theorem dX3_voiceTold_121 : decode cX3_voiceTold 121 = .ok (.iadd, 1) := by decide +kernel
theorem dX3_voiceTold_122 : decode cX3_voiceTold 122 = .ok (.istore_n 3, 1) := by decide +kernel
theorem dX3_voiceTold_123 : decode cX3_voiceTold 123 = .ok (.goto 35, 3) := by decide +kernel
theorem dX3_voiceTold_126 : decode cX3_voiceTold 126 = .ok (.iload_n 2, 1) := by decide +kernel
theorem dX3_voiceTold_127 : decode cX3_voiceTold 127 = .ok (.iconst 5, 1) := by decide +kernel
theorem dX3_voiceTold_128 : decode cX3_voiceTold 128 = .ok (.if_icmp .ne 13, 3) := by decide +kernel
theorem dX3_voiceTold_131 : decode cX3_voiceTold 131 = .ok (.iload_n 3, 1) := by decide +kernel
theorem dX3_voiceTold_132 : decode cX3_voiceTold 132 = .ok (.iload 5, 2) := by decide +kernel
theorem dX3_voiceTold_134 : decode cX3_voiceTold 134 = .ok (.invokestatic 92, 3) := by decide +kernel
theorem dX3_voiceTold_137 : decode cX3_voiceTold 137 = .ok (.istore_n 3, 1) := by decide +kernel
theorem dX3_voiceTold_138 : decode cX3_voiceTold 138 = .ok (.goto 20, 3) := by decide +kernel
theorem dX3_voiceTold_141 : decode cX3_voiceTold 141 = .ok (.iload_n 3, 1) := by decide +kernel
theorem dX3_voiceTold_142 : decode cX3_voiceTold 142 = .ok (.iconst (-1), 1) := by decide +kernel
theorem dX3_voiceTold_143 : decode cX3_voiceTold 143 = .ok (.if_icmp .ne 8, 3) := by decide +kernel
theorem dX3_voiceTold_146 : decode cX3_voiceTold 146 = .ok (.iload 5, 2) := by decide +kernel
theorem dX3_voiceTold_148 : decode cX3_voiceTold 148 = .ok (.goto 9, 3) := by decide +kernel
theorem dX3_voiceTold_151 : decode cX3_voiceTold 151 = .ok (.iload_n 3, 1) := by decide +kernel
theorem dX3_voiceTold_152 : decode cX3_voiceTold 152 = .ok (.iload 5, 2) := by decide +kernel
theorem dX3_voiceTold_154 : decode cX3_voiceTold 154 = .ok (.invokestatic 110, 3) := by decide +kernel
theorem dX3_voiceTold_157 : decode cX3_voiceTold 157 = .ok (.istore_n 3, 1) := by decide +kernel
theorem dX3_voiceTold_158 : decode cX3_voiceTold 158 = .ok (.iinc 4 1, 3) := by decide +kernel
theorem dX3_voiceTold_161 : decode cX3_voiceTold 161 = .ok (.goto (-112), 3) := by decide +kernel
theorem dX3_voiceTold_164 : decode cX3_voiceTold 164 = .ok (.iload_n 3, 1) := by decide +kernel
theorem dX3_voiceTold_165 : decode cX3_voiceTold 165 = .ok (.ireturn, 1) := by decide +kernel
theorem dX3_voice_0 : decode cX3_voice 0 = .ok (.aload_n 0, 1) := by decide +kernel
theorem dX3_voice_1 : decode cX3_voice 1 = .ok (.iconst 0, 1) := by decide +kernel
theorem dX3_voice_2 : decode cX3_voice 2 = .ok (.putfield 37, 3) := by decide +kernel
theorem dX3_voice_5 : decode cX3_voice 5 = .ok (.aload_n 0, 1) := by decide +kernel
theorem dX3_voice_6 : decode cX3_voice 6 = .ok (.iload_n 1, 1) := by decide +kernel
theorem dX3_voice_7 : decode cX3_voice 7 = .ok (.invokevirtual 47, 3) := by decide +kernel
theorem dX3_voice_10 : decode cX3_voice 10 = .ok (.ifCond .eq 13, 3) := by decide +kernel
theorem dX3_voice_13 : decode cX3_voice 13 = .ok (.iload_n 2, 1) := by decide +kernel
theorem dX3_voice_14 : decode cX3_voice 14 = .ok (.iconst 0, 1) := by decide +kernel
theorem dX3_voice_15 : decode cX3_voice 15 = .ok (.bipush 6, 2) := by decide +kernel
theorem dX3_voice_17 : decode cX3_voice 17 = .ok (.invokestatic 43, 3) := by decide +kernel
theorem dX3_voice_20 : decode cX3_voice 20 = .ok (.ifCond .ne 9, 3) := by decide +kernel
theorem dX3_voice_23 : decode cX3_voice 23 = .ok (.aload_n 0, 1) := by decide +kernel
theorem dX3_voice_24 : decode cX3_voice 24 = .ok (.iconst 1, 1) := by decide +kernel
theorem dX3_voice_25 : decode cX3_voice 25 = .ok (.invokevirtual 77, 3) := by decide +kernel
theorem dX3_voice_28 : decode cX3_voice 28 = .ok (.ireturn, 1) := by decide +kernel
theorem dX3_voice_29 : decode cX3_voice 29 = .ok (.aload_n 0, 1) := by decide +kernel
theorem dX3_voice_30 : decode cX3_voice 30 = .ok (.iload_n 1, 1) := by decide +kernel
theorem dX3_voice_31 : decode cX3_voice 31 = .ok (.invokevirtual 145, 3) := by decide +kernel
theorem dX3_voice_34 : decode cX3_voice 34 = .ok (.aload_n 0, 1) := by decide +kernel
theorem dX3_voice_35 : decode cX3_voice 35 = .ok (.iload_n 1, 1) := by decide +kernel
theorem dX3_voice_36 : decode cX3_voice 36 = .ok (.iload_n 2, 1) := by decide +kernel
theorem dX3_voice_37 : decode cX3_voice 37 = .ok (.invokevirtual 151, 3) := by decide +kernel
theorem dX3_voice_40 : decode cX3_voice 40 = .ok (.ireturn, 1) := by decide +kernel
theorem dX3_place_0 : decode cX3_place 0 = .ok (.bipush 7, 2) := by decide +kernel
theorem dX3_place_2 : decode cX3_place 2 = .ok (.aload_n 0, 1) := by decide +kernel
theorem dX3_place_3 : decode cX3_place 3 = .ok (.iload_n 1, 1) := by decide +kernel
theorem dX3_place_4 : decode cX3_place 4 = .ok (.iload_n 2, 1) := by decide +kernel
theorem dX3_place_5 : decode cX3_place 5 = .ok (.iconst 5, 1) := by decide +kernel
theorem dX3_place_6 : decode cX3_place 6 = .ok (.invokevirtual 57, 3) := by decide +kernel
theorem dX3_place_9 : decode cX3_place 9 = .ok (.imul, 1) := by decide +kernel
theorem dX3_place_10 : decode cX3_place 10 = .ok (.aload_n 0, 1) := by decide +kernel
theorem dX3_place_11 : decode cX3_place 11 = .ok (.iload_n 1, 1) := by decide +kernel
theorem dX3_place_12 : decode cX3_place 12 = .ok (.iload_n 2, 1) := by decide +kernel
theorem dX3_place_13 : decode cX3_place 13 = .ok (.iconst 3, 1) := by decide +kernel
theorem dX3_place_14 : decode cX3_place 14 = .ok (.invokevirtual 57, 3) := by decide +kernel
theorem dX3_place_17 : decode cX3_place 17 = .ok (.iadd, 1) := by decide +kernel
theorem dX3_place_18 : decode cX3_place 18 = .ok (.iload_n 3, 1) := by decide +kernel
theorem dX3_place_19 : decode cX3_place 19 = .ok (.iadd, 1) := by decide +kernel
theorem dX3_place_20 : decode cX3_place 20 = .ok (.ireturn, 1) := by decide +kernel
theorem dX3_transpose_0 : decode cX3_transpose 0 = .ok (.aload_n 0, 1) := by decide +kernel
theorem dX3_transpose_1 : decode cX3_transpose 1 = .ok (.iconst 0, 1) := by decide +kernel
theorem dX3_transpose_2 : decode cX3_transpose 2 = .ok (.putfield 37, 3) := by decide +kernel
theorem dX3_transpose_5 : decode cX3_transpose 5 = .ok (.iload_n 1, 1) := by decide +kernel
theorem dX3_transpose_6 : decode cX3_transpose 6 = .ok (.bipush (-14), 2) := by decide +kernel
theorem dX3_transpose_8 : decode cX3_transpose 8 = .ok (.bipush 14, 2) := by decide +kernel
theorem dX3_transpose_10 : decode cX3_transpose 10 = .ok (.invokestatic 43, 3) := by decide +kernel
theorem dX3_transpose_13 : decode cX3_transpose 13 = .ok (.ifCond .eq 14, 3) := by decide +kernel
theorem dX3_transpose_16 : decode cX3_transpose 16 = .ok (.iload_n 2, 1) := by decide +kernel
theorem dX3_transpose_17 : decode cX3_transpose 17 = .ok (.bipush (-24), 2) := by decide +kernel
theorem dX3_transpose_19 : decode cX3_transpose 19 = .ok (.bipush 24, 2) := by decide +kernel
theorem dX3_transpose_21 : decode cX3_transpose 21 = .ok (.invokestatic 43, 3) := by decide +kernel
theorem dX3_transpose_24 : decode cX3_transpose 24 = .ok (.ifCond .ne 9, 3) := by decide +kernel
theorem dX3_transpose_27 : decode cX3_transpose 27 = .ok (.aload_n 0, 1) := by decide +kernel
theorem dX3_transpose_28 : decode cX3_transpose 28 = .ok (.iconst 1, 1) := by decide +kernel
theorem dX3_transpose_29 : decode cX3_transpose 29 = .ok (.invokevirtual 77, 3) := by decide +kernel
theorem dX3_transpose_32 : decode cX3_transpose 32 = .ok (.ireturn, 1) := by decide +kernel
theorem dX3_transpose_33 : decode cX3_transpose 33 = .ok (.aload_n 0, 1) := by decide +kernel
theorem dX3_transpose_34 : decode cX3_transpose 34 = .ok (.getfield 74, 3) := by decide +kernel
theorem dX3_transpose_37 : decode cX3_transpose 37 = .ok (.bipush 7, 2) := by decide +kernel
theorem dX3_transpose_39 : decode cX3_transpose 39 = .ok (.iload_n 2, 1) := by decide +kernel
theorem dX3_transpose_40 : decode cX3_transpose 40 = .ok (.imul, 1) := by decide +kernel
theorem dX3_transpose_41 : decode cX3_transpose 41 = .ok (.iadd, 1) := by decide +kernel
theorem dX3_transpose_42 : decode cX3_transpose 42 = .ok (.bipush 12, 2) := by decide +kernel
theorem dX3_transpose_44 : decode cX3_transpose 44 = .ok (.iload_n 1, 1) := by decide +kernel
theorem dX3_transpose_45 : decode cX3_transpose 45 = .ok (.imul, 1) := by decide +kernel
theorem dX3_transpose_46 : decode cX3_transpose 46 = .ok (.isub, 1) := by decide +kernel
theorem dX3_transpose_47 : decode cX3_transpose 47 = .ok (.istore_n 3, 1) := by decide +kernel
theorem dX3_transpose_48 : decode cX3_transpose 48 = .ok (.iload_n 3, 1) := by decide +kernel
theorem dX3_transpose_49 : decode cX3_transpose 49 = .ok (.bipush (-7), 2) := by decide +kernel
theorem dX3_transpose_51 : decode cX3_transpose 51 = .ok (.bipush 7, 2) := by decide +kernel
theorem dX3_transpose_53 : decode cX3_transpose 53 = .ok (.invokestatic 43, 3) := by decide +kernel
theorem dX3_transpose_56 : decode cX3_transpose 56 = .ok (.ifCond .ne 9, 3) := by decide +kernel
theorem dX3_transpose_59 : decode cX3_transpose 59 = .ok (.aload_n 0, 1) := by decide +kernel
theorem dX3_transpose_60 : decode cX3_transpose 60 = .ok (.iconst 2, 1) := by decide +kernel
theorem dX3_transpose_61 : decode cX3_transpose 61 = .ok (.invokevirtual 77, 3) := by decide +kernel
theorem dX3_transpose_64 : decode cX3_transpose 64 = .ok (.ireturn, 1) := by decide +kernel
theorem dX3_transpose_65 : decode cX3_transpose 65 = .ok (.iconst 0, 1) := by decide +kernel
theorem dX3_transpose_66 : decode cX3_transpose 66 = .ok (.istore 4, 2) := by decide +kernel
theorem dX3_transpose_68 : decode cX3_transpose 68 = .ok (.iload 4, 2) := by decide +kernel
theorem dX3_transpose_70 : decode cX3_transpose 70 = .ok (.iconst 2, 1) := by decide +kernel
theorem dX3_transpose_71 : decode cX3_transpose 71 = .ok (.if_icmp .ge 195, 3) := by decide +kernel
theorem dX3_transpose_74 : decode cX3_transpose 74 = .ok (.iconst 0, 1) := by decide +kernel
theorem dX3_transpose_75 : decode cX3_transpose 75 = .ok (.istore 5, 2) := by decide +kernel
theorem dX3_transpose_77 : decode cX3_transpose 77 = .ok (.iload 5, 2) := by decide +kernel
theorem dX3_transpose_79 : decode cX3_transpose 79 = .ok (.aload_n 0, 1) := by decide +kernel
theorem dX3_transpose_80 : decode cX3_transpose 80 = .ok (.getfield 40, 3) := by decide +kernel
theorem dX3_transpose_83 : decode cX3_transpose 83 = .ok (.if_icmp .ge 177, 3) := by decide +kernel
theorem dX3_transpose_86 : decode cX3_transpose 86 = .ok (.iconst 0, 1) := by decide +kernel
theorem dX3_transpose_87 : decode cX3_transpose 87 = .ok (.istore 6, 2) := by decide +kernel
theorem dX3_transpose_89 : decode cX3_transpose 89 = .ok (.iload 6, 2) := by decide +kernel
theorem dX3_transpose_91 : decode cX3_transpose 91 = .ok (.aload_n 0, 1) := by decide +kernel
theorem dX3_transpose_92 : decode cX3_transpose 92 = .ok (.getfield 16, 3) := by decide +kernel
theorem dX3_transpose_95 : decode cX3_transpose 95 = .ok (.iload 5, 2) := by decide +kernel
theorem dX3_transpose_97 : decode cX3_transpose 97 = .ok (.iaload, 1) := by decide +kernel
theorem dX3_transpose_98 : decode cX3_transpose 98 = .ok (.if_icmp .ge 156, 3) := by decide +kernel
theorem dX3_transpose_101 : decode cX3_transpose 101 = .ok (.aload_n 0, 1) := by decide +kernel
theorem dX3_transpose_102 : decode cX3_transpose 102 = .ok (.iload 5, 2) := by decide +kernel
theorem dX3_transpose_104 : decode cX3_transpose 104 = .ok (.iload 6, 2) := by decide +kernel
theorem dX3_transpose_106 : decode cX3_transpose 106 = .ok (.iconst 2, 1) := by decide +kernel
theorem dX3_transpose_107 : decode cX3_transpose 107 = .ok (.invokevirtual 57, 3) := by decide +kernel
theorem dX3_transpose_110 : decode cX3_transpose 110 = .ok (.ifCond .ne 6, 3) := by decide +kernel
theorem dX3_transpose_113 : decode cX3_transpose 113 = .ok (.goto 135, 3) := by decide +kernel
theorem dX3_transpose_116 : decode cX3_transpose 116 = .ok (.aload_n 0, 1) := by decide +kernel
theorem dX3_transpose_117 : decode cX3_transpose 117 = .ok (.iload 5, 2) := by decide +kernel
theorem dX3_transpose_119 : decode cX3_transpose 119 = .ok (.iload 6, 2) := by decide +kernel
theorem dX3_transpose_121 : decode cX3_transpose 121 = .ok (.iload_n 1, 1) := by decide +kernel
theorem dX3_transpose_122 : decode cX3_transpose 122 = .ok (.invokevirtual 154, 3) := by decide +kernel
theorem dX3_transpose_125 : decode cX3_transpose 125 = .ok (.istore 7, 2) := by decide +kernel
theorem dX3_transpose_127 : decode cX3_transpose 127 = .ok (.iload 7, 2) := by decide +kernel
theorem dX3_transpose_129 : decode cX3_transpose 129 = .ok (.bipush 7, 2) := by decide +kernel
theorem dX3_transpose_131 : decode cX3_transpose 131 = .ok (.invokestatic 157, 3) := by decide +kernel
theorem dX3_transpose_134 : decode cX3_transpose 134 = .ok (.istore 8, 2) := by decide +kernel
theorem dX3_transpose_136 : decode cX3_transpose 136 = .ok (.iload 7, 2) := by decide +kernel
theorem dX3_transpose_138 : decode cX3_transpose 138 = .ok (.bipush 7, 2) := by decide +kernel
theorem dX3_transpose_140 : decode cX3_transpose 140 = .ok (.invokestatic 160, 3) := by decide +kernel
theorem dX3_transpose_143 : decode cX3_transpose 143 = .ok (.istore 9, 2) := by decide +kernel
theorem dX3_transpose_145 : decode cX3_transpose 145 = .ok (.aload_n 0, 1) := by decide +kernel
theorem dX3_transpose_146 : decode cX3_transpose 146 = .ok (.iload 5, 2) := by decide +kernel
theorem dX3_transpose_148 : decode cX3_transpose 148 = .ok (.iload 6, 2) := by decide +kernel
theorem dX3_transpose_150 : decode cX3_transpose 150 = .ok (.invokevirtual 133, 3) := by decide +kernel
theorem dX3_transpose_153 : decode cX3_transpose 153 = .ok (.iload_n 2, 1) := by decide +kernel
theorem dX3_transpose_154 : decode cX3_transpose 154 = .ok (.iadd, 1) := by decide +kernel
theorem dX3_transpose_155 : decode cX3_transpose 155 = .ok (.iload 9, 2) := by decide +kernel
theorem dX3_transpose_157 : decode cX3_transpose 157 = .ok (.iconst 0, 1) := by decide +kernel
theorem dX3_transpose_158 : decode cX3_transpose 158 = .ok (.iload 8, 2) := by decide +kernel
theorem dX3_transpose_160 : decode cX3_transpose 160 = .ok (.invokestatic 65, 3) := by decide +kernel
theorem dX3_transpose_163 : decode cX3_transpose 163 = .ok (.isub, 1) := by decide +kernel
theorem dX3_transpose_164 : decode cX3_transpose 164 = .ok (.istore 10, 2) := by decide +kernel
theorem dX3_transpose_166 : decode cX3_transpose 166 = .ok (.iload 4, 2) := by decide +kernel
theorem dX3_transpose_168 : decode cX3_transpose 168 = .ok (.ifCond .ne 21, 3) := by decide +kernel
theorem dX3_transpose_171 : decode cX3_transpose 171 = .ok (.iload 9, 2) := by decide +kernel
theorem dX3_transpose_173 : decode cX3_transpose 173 = .ok (.iload 10, 2) := by decide +kernel
theorem dX3_transpose_175 : decode cX3_transpose 175 = .ok (.iload 8, 2) := by decide +kernel
theorem dX3_transpose_177 : decode cX3_transpose 177 = .ok (.invokestatic 123, 3) := by decide +kernel
theorem dX3_transpose_180 : decode cX3_transpose 180 = .ok (.ifCond .ne 9, 3) := by decide +kernel
theorem dX3_transpose_183 : decode cX3_transpose 183 = .ok (.aload_n 0, 1) := by decide +kernel
theorem dX3_transpose_184 : decode cX3_transpose 184 = .ok (.iconst 2, 1) := by decide +kernel
theorem dX3_transpose_185 : decode cX3_transpose 185 = .ok (.invokevirtual 77, 3) := by decide +kernel
theorem dX3_transpose_188 : decode cX3_transpose 188 = .ok (.ireturn, 1) := by decide +kernel
theorem dX3_transpose_189 : decode cX3_transpose 189 = .ok (.iload 4, 2) := by decide +kernel
theorem dX3_transpose_191 : decode cX3_transpose 191 = .ok (.ifCond .ne 6, 3) := by decide +kernel
theorem dX3_transpose_194 : decode cX3_transpose 194 = .ok (.goto 54, 3) := by decide +kernel
theorem dX3_transpose_197 : decode cX3_transpose 197 = .ok (.aload_n 0, 1) := by decide +kernel
theorem dX3_transpose_198 : decode cX3_transpose 198 = .ok (.getfield 22, 3) := by decide +kernel
theorem dX3_transpose_201 : decode cX3_transpose 201 = .ok (.iload 5, 2) := by decide +kernel
theorem dX3_transpose_203 : decode cX3_transpose 203 = .ok (.aaload, 1) := by decide +kernel
theorem dX3_transpose_204 : decode cX3_transpose 204 = .ok (.bipush 10, 2) := by decide +kernel
theorem dX3_transpose_206 : decode cX3_transpose 206 = .ok (.iload 6, 2) := by decide +kernel
theorem dX3_transpose_208 : decode cX3_transpose 208 = .ok (.imul, 1) := by decide +kernel
theorem dX3_transpose_209 : decode cX3_transpose 209 = .ok (.iconst 3, 1) := by decide +kernel
theorem dX3_transpose_210 : decode cX3_transpose 210 = .ok (.iadd, 1) := by decide +kernel
theorem dX3_transpose_211 : decode cX3_transpose 211 = .ok (.iload 9, 2) := by decide +kernel
theorem dX3_transpose_213 : decode cX3_transpose 213 = .ok (.iastore, 1) := by decide +kernel
theorem dX3_transpose_214 : decode cX3_transpose 214 = .ok (.aload_n 0, 1) := by decide +kernel
theorem dX3_transpose_215 : decode cX3_transpose 215 = .ok (.getfield 22, 3) := by decide +kernel
theorem dX3_transpose_218 : decode cX3_transpose 218 = .ok (.iload 5, 2) := by decide +kernel
theorem dX3_transpose_220 : decode cX3_transpose 220 = .ok (.aaload, 1) := by decide +kernel
theorem dX3_transpose_221 : decode cX3_transpose 221 = .ok (.bipush 10, 2) := by decide +kernel
theorem dX3_transpose_223 : decode cX3_transpose 223 = .ok (.iload 6, 2) := by decide +kernel
theorem dX3_transpose_225 : decode cX3_transpose 225 = .ok (.imul, 1) := by decide +kernel
theorem dX3_transpose_226 : decode cX3_transpose 226 = .ok (.iconst 4, 1) := by decide +kernel
theorem dX3_transpose_227 : decode cX3_transpose 227 = .ok (.iadd, 1) := by decide +kernel
theorem dX3_transpose_228 : decode cX3_transpose 228 = .ok (.iload 10, 2) := by decide +kernel
theorem dX3_transpose_230 : decode cX3_transpose 230 = .ok (.iastore, 1) := by decide +kernel
theorem dX3_transpose_231 : decode cX3_transpose 231 = .ok (.aload_n 0, 1) := by decide +kernel
theorem dX3_transpose_232 : decode cX3_transpose 232 = .ok (.getfield 22, 3) := by decide +kernel
theorem dX3_transpose_235 : decode cX3_transpose 235 = .ok (.iload 5, 2) := by decide +kernel
theorem dX3_transpose_237 : decode cX3_transpose 237 = .ok (.aaload, 1) := by decide +kernel
theorem dX3_transpose_238 : decode cX3_transpose 238 = .ok (.bipush 10, 2) := by decide +kernel
theorem dX3_transpose_240 : decode cX3_transpose 240 = .ok (.iload 6, 2) := by decide +kernel
theorem dX3_transpose_242 : decode cX3_transpose 242 = .ok (.imul, 1) := by decide +kernel
theorem dX3_transpose_243 : decode cX3_transpose 243 = .ok (.iconst 5, 1) := by decide +kernel
theorem dX3_transpose_244 : decode cX3_transpose 244 = .ok (.iadd, 1) := by decide +kernel
theorem dX3_transpose_245 : decode cX3_transpose 245 = .ok (.iload 8, 2) := by decide +kernel
theorem dX3_transpose_247 : decode cX3_transpose 247 = .ok (.iastore, 1) := by decide +kernel
theorem dX3_transpose_248 : decode cX3_transpose 248 = .ok (.iinc 6 1, 3) := by decide +kernel
theorem dX3_transpose_251 : decode cX3_transpose 251 = .ok (.goto (-162), 3) := by decide +kernel
theorem dX3_transpose_254 : decode cX3_transpose 254 = .ok (.iinc 5 1, 3) := by decide +kernel
theorem dX3_transpose_257 : decode cX3_transpose 257 = .ok (.goto (-180), 3) := by decide +kernel
theorem dX3_transpose_260 : decode cX3_transpose 260 = .ok (.iinc 4 1, 3) := by decide +kernel
theorem dX3_transpose_263 : decode cX3_transpose 263 = .ok (.goto (-195), 3) := by decide +kernel
theorem dX3_transpose_266 : decode cX3_transpose 266 = .ok (.aload_n 0, 1) := by decide +kernel
theorem dX3_transpose_267 : decode cX3_transpose 267 = .ok (.iload_n 3, 1) := by decide +kernel
theorem dX3_transpose_268 : decode cX3_transpose 268 = .ok (.putfield 74, 3) := by decide +kernel
theorem dX3_transpose_271 : decode cX3_transpose 271 = .ok (.aload_n 0, 1) := by decide +kernel
theorem dX3_transpose_272 : decode cX3_transpose 272 = .ok (.getfield 74, 3) := by decide +kernel
theorem dX3_transpose_275 : decode cX3_transpose 275 = .ok (.ireturn, 1) := by decide +kernel
theorem dX3_begins_0 : decode cX3_begins 0 = .ok (.iconst 0, 1) := by decide +kernel
theorem dX3_begins_1 : decode cX3_begins 1 = .ok (.istore_n 3, 1) := by decide +kernel
theorem dX3_begins_2 : decode cX3_begins 2 = .ok (.iload_n 3, 1) := by decide +kernel
theorem dX3_begins_3 : decode cX3_begins 3 = .ok (.aload_n 0, 1) := by decide +kernel
theorem dX3_begins_4 : decode cX3_begins 4 = .ok (.getfield 16, 3) := by decide +kernel
theorem dX3_begins_7 : decode cX3_begins 7 = .ok (.iload_n 1, 1) := by decide +kernel
theorem dX3_begins_8 : decode cX3_begins 8 = .ok (.iaload, 1) := by decide +kernel
theorem dX3_begins_9 : decode cX3_begins 9 = .ok (.if_icmp .ge 34, 3) := by decide +kernel
theorem dX3_begins_12 : decode cX3_begins 12 = .ok (.aload_n 0, 1) := by decide +kernel
theorem dX3_begins_13 : decode cX3_begins 13 = .ok (.iload_n 1, 1) := by decide +kernel
theorem dX3_begins_14 : decode cX3_begins 14 = .ok (.iload_n 3, 1) := by decide +kernel
theorem dX3_begins_15 : decode cX3_begins 15 = .ok (.bipush 7, 2) := by decide +kernel
theorem dX3_begins_17 : decode cX3_begins 17 = .ok (.invokevirtual 57, 3) := by decide +kernel
theorem dX3_begins_20 : decode cX3_begins 20 = .ok (.iload_n 2, 1) := by decide +kernel
theorem dX3_begins_21 : decode cX3_begins 21 = .ok (.if_icmp .ne 16, 3) := by decide +kernel
theorem dX3_begins_24 : decode cX3_begins 24 = .ok (.aload_n 0, 1) := by decide +kernel
theorem dX3_begins_25 : decode cX3_begins 25 = .ok (.iload_n 1, 1) := by decide +kernel
theorem dX3_begins_26 : decode cX3_begins 26 = .ok (.iload_n 3, 1) := by decide +kernel
theorem dX3_begins_27 : decode cX3_begins 27 = .ok (.iconst 2, 1) := by decide +kernel
theorem dX3_begins_28 : decode cX3_begins 28 = .ok (.invokevirtual 57, 3) := by decide +kernel
theorem dX3_begins_31 : decode cX3_begins 31 = .ok (.iconst 1, 1) := by decide +kernel
theorem dX3_begins_32 : decode cX3_begins 32 = .ok (.if_icmp .ne 5, 3) := by decide +kernel
theorem dX3_begins_35 : decode cX3_begins 35 = .ok (.iload_n 3, 1) := by decide +kernel
theorem dX3_begins_36 : decode cX3_begins 36 = .ok (.ireturn, 1) := by decide +kernel
theorem dX3_begins_37 : decode cX3_begins 37 = .ok (.iinc 3 1, 3) := by decide +kernel
theorem dX3_begins_40 : decode cX3_begins 40 = .ok (.goto (-38), 3) := by decide +kernel
theorem dX3_begins_43 : decode cX3_begins 43 = .ok (.iconst (-1), 1) := by decide +kernel
theorem dX3_begins_44 : decode cX3_begins 44 = .ok (.ireturn, 1) := by decide +kernel
theorem dX3_parallels_0 : decode cX3_parallels 0 = .ok (.iconst 0, 1) := by decide +kernel
theorem dX3_parallels_1 : decode cX3_parallels 1 = .ok (.istore_n 3, 1) := by decide +kernel
theorem dX3_parallels_2 : decode cX3_parallels 2 = .ok (.iconst (-1), 1) := by decide +kernel
theorem dX3_parallels_3 : decode cX3_parallels 3 = .ok (.istore 4, 2) := by decide +kernel
theorem dX3_parallels_5 : decode cX3_parallels 5 = .ok (.iconst (-1), 1) := by decide +kernel
theorem dX3_parallels_6 : decode cX3_parallels 6 = .ok (.istore 5, 2) := by decide +kernel
theorem dX3_parallels_8 : decode cX3_parallels 8 = .ok (.iconst 0, 1) := by decide +kernel
theorem dX3_parallels_9 : decode cX3_parallels 9 = .ok (.istore 6, 2) := by decide +kernel
theorem dX3_parallels_11 : decode cX3_parallels 11 = .ok (.iload 6, 2) := by decide +kernel
theorem dX3_parallels_13 : decode cX3_parallels 13 = .ok (.aload_n 0, 1) := by decide +kernel
theorem dX3_parallels_14 : decode cX3_parallels 14 = .ok (.getfield 16, 3) := by decide +kernel
theorem dX3_parallels_17 : decode cX3_parallels 17 = .ok (.iload_n 1, 1) := by decide +kernel
theorem dX3_parallels_18 : decode cX3_parallels 18 = .ok (.iaload, 1) := by decide +kernel
theorem dX3_parallels_19 : decode cX3_parallels 19 = .ok (.if_icmp .ge 151, 3) := by decide +kernel
theorem dX3_parallels_22 : decode cX3_parallels 22 = .ok (.aload_n 0, 1) := by decide +kernel
theorem dX3_parallels_23 : decode cX3_parallels 23 = .ok (.iload_n 1, 1) := by decide +kernel
theorem dX3_parallels_24 : decode cX3_parallels 24 = .ok (.iload 6, 2) := by decide +kernel
theorem dX3_parallels_26 : decode cX3_parallels 26 = .ok (.iconst 2, 1) := by decide +kernel
theorem dX3_parallels_27 : decode cX3_parallels 27 = .ok (.invokevirtual 57, 3) := by decide +kernel
theorem dX3_parallels_30 : decode cX3_parallels 30 = .ok (.ifCond .ne 7, 3) := by decide +kernel
theorem dX3_parallels_33 : decode cX3_parallels 33 = .ok (.iconst (-1), 1) := by decide +kernel
theorem dX3_parallels_34 : decode cX3_parallels 34 = .ok (.goto 17, 3) := by decide +kernel
theorem dX3_parallels_37 : decode cX3_parallels 37 = .ok (.aload_n 0, 1) := by decide +kernel
theorem dX3_parallels_38 : decode cX3_parallels 38 = .ok (.iload_n 2, 1) := by decide +kernel
theorem dX3_parallels_39 : decode cX3_parallels 39 = .ok (.aload_n 0, 1) := by decide +kernel
theorem dX3_parallels_40 : decode cX3_parallels 40 = .ok (.iload_n 1, 1) := by decide +kernel
theorem dX3_parallels_41 : decode cX3_parallels 41 = .ok (.iload 6, 2) := by decide +kernel
theorem dX3_parallels_43 : decode cX3_parallels 43 = .ok (.bipush 7, 2) := by decide +kernel
theorem dX3_parallels_45 : decode cX3_parallels 45 = .ok (.invokevirtual 57, 3) := by decide +kernel
theorem dX3_parallels_48 : decode cX3_parallels 48 = .ok (.invokevirtual 163, 3) := by decide +kernel
theorem dX3_parallels_51 : decode cX3_parallels 51 = .ok (.istore 7, 2) := by decide +kernel
theorem dX3_parallels_53 : decode cX3_parallels 53 = .ok (.iload 7, 2) := by decide +kernel
theorem dX3_parallels_55 : decode cX3_parallels 55 = .ok (.iconst (-1), 1) := by decide +kernel
theorem dX3_parallels_56 : decode cX3_parallels 56 = .ok (.if_icmp .ne 6, 3) := by decide +kernel
theorem dX3_parallels_59 : decode cX3_parallels 59 = .ok (.goto 105, 3) := by decide +kernel
theorem dX3_parallels_62 : decode cX3_parallels 62 = .ok (.aload_n 0, 1) := by decide +kernel
theorem dX3_parallels_63 : decode cX3_parallels 63 = .ok (.iload_n 1, 1) := by decide +kernel
theorem dX3_parallels_64 : decode cX3_parallels 64 = .ok (.iload 6, 2) := by decide +kernel
theorem dX3_parallels_66 : decode cX3_parallels 66 = .ok (.invokevirtual 133, 3) := by decide +kernel
theorem dX3_parallels_69 : decode cX3_parallels 69 = .ok (.istore 8, 2) := by decide +kernel
theorem dX3_parallels_71 : decode cX3_parallels 71 = .ok (.aload_n 0, 1) := by decide +kernel
theorem dX3_parallels_72 : decode cX3_parallels 72 = .ok (.iload_n 2, 1) := by decide +kernel
theorem dX3_parallels_73 : decode cX3_parallels 73 = .ok (.iload 7, 2) := by decide +kernel
theorem dX3_parallels_75 : decode cX3_parallels 75 = .ok (.invokevirtual 133, 3) := by decide +kernel
theorem dX3_parallels_78 : decode cX3_parallels 78 = .ok (.istore 9, 2) := by decide +kernel
theorem dX3_parallels_80 : decode cX3_parallels 80 = .ok (.iload 9, 2) := by decide +kernel
theorem dX3_parallels_82 : decode cX3_parallels 82 = .ok (.iload 8, 2) := by decide +kernel
theorem dX3_parallels_84 : decode cX3_parallels 84 = .ok (.isub, 1) := by decide +kernel
theorem dX3_parallels_85 : decode cX3_parallels 85 = .ok (.bipush 12, 2) := by decide +kernel
theorem dX3_parallels_87 : decode cX3_parallels 87 = .ok (.invokestatic 160, 3) := by decide +kernel
theorem dX3_parallels_90 : decode cX3_parallels 90 = .ok (.istore 10, 2) := by decide +kernel
theorem dX3_parallels_92 : decode cX3_parallels 92 = .ok (.iload 4, 2) := by decide +kernel
theorem dX3_parallels_94 : decode cX3_parallels 94 = .ok (.iconst (-1), 1) := by decide +kernel
theorem dX3_parallels_95 : decode cX3_parallels 95 = .ok (.if_icmp .eq 61, 3) := by decide +kernel
theorem dX3_parallels_98 : decode cX3_parallels 98 = .ok (.iload 10, 2) := by decide +kernel
theorem dX3_parallels_100 : decode cX3_parallels 100 = .ok (.iload 5, 2) := by decide +kernel
theorem dX3_parallels_102 : decode cX3_parallels 102 = .ok (.iload 4, 2) := by decide +kernel
theorem dX3_parallels_104 : decode cX3_parallels 104 = .ok (.isub, 1) := by decide +kernel
theorem dX3_parallels_105 : decode cX3_parallels 105 = .ok (.bipush 12, 2) := by decide +kernel
theorem dX3_parallels_107 : decode cX3_parallels 107 = .ok (.invokestatic 160, 3) := by decide +kernel
theorem dX3_parallels_110 : decode cX3_parallels 110 = .ok (.if_icmp .ne 46, 3) := by decide +kernel
theorem dX3_parallels_113 : decode cX3_parallels 113 = .ok (.iload 10, 2) := by decide +kernel
theorem dX3_parallels_115 : decode cX3_parallels 115 = .ok (.ifCond .eq 10, 3) := by decide +kernel
theorem dX3_parallels_118 : decode cX3_parallels 118 = .ok (.iload 10, 2) := by decide +kernel
theorem dX3_parallels_120 : decode cX3_parallels 120 = .ok (.bipush 7, 2) := by decide +kernel
theorem dX3_parallels_122 : decode cX3_parallels 122 = .ok (.if_icmp .ne 34, 3) := by decide +kernel
theorem dX3_parallels_125 : decode cX3_parallels 125 = .ok (.iload 8, 2) := by decide +kernel
theorem dX3_parallels_127 : decode cX3_parallels 127 = .ok (.iload 4, 2) := by decide +kernel
theorem dX3_parallels_129 : decode cX3_parallels 129 = .ok (.if_icmp .le 10, 3) := by decide +kernel
theorem dX3_parallels_132 : decode cX3_parallels 132 = .ok (.iload 9, 2) := by decide +kernel
theorem dX3_parallels_134 : decode cX3_parallels 134 = .ok (.iload 5, 2) := by decide +kernel
theorem dX3_parallels_136 : decode cX3_parallels 136 = .ok (.if_icmp .gt 17, 3) := by decide +kernel
theorem dX3_parallels_139 : decode cX3_parallels 139 = .ok (.iload 8, 2) := by decide +kernel
theorem dX3_parallels_141 : decode cX3_parallels 141 = .ok (.iload 4, 2) := by decide +kernel
theorem dX3_parallels_143 : decode cX3_parallels 143 = .ok (.if_icmp .ge 13, 3) := by decide +kernel
theorem dX3_parallels_146 : decode cX3_parallels 146 = .ok (.iload 9, 2) := by decide +kernel
theorem dX3_parallels_148 : decode cX3_parallels 148 = .ok (.iload 5, 2) := by decide +kernel
theorem dX3_parallels_150 : decode cX3_parallels 150 = .ok (.if_icmp .ge 6, 3) := by decide +kernel
theorem dX3_parallels_153 : decode cX3_parallels 153 = .ok (.iinc 3 1, 3) := by decide +kernel
theorem dX3_parallels_156 : decode cX3_parallels 156 = .ok (.iload 8, 2) := by decide +kernel
theorem dX3_parallels_158 : decode cX3_parallels 158 = .ok (.istore 4, 2) := by decide +kernel
theorem dX3_parallels_160 : decode cX3_parallels 160 = .ok (.iload 9, 2) := by decide +kernel
theorem dX3_parallels_162 : decode cX3_parallels 162 = .ok (.istore 5, 2) := by decide +kernel
theorem dX3_parallels_164 : decode cX3_parallels 164 = .ok (.iinc 6 1, 3) := by decide +kernel
theorem dX3_parallels_167 : decode cX3_parallels 167 = .ok (.goto (-156), 3) := by decide +kernel
theorem dX3_parallels_170 : decode cX3_parallels 170 = .ok (.iload_n 3, 1) := by decide +kernel
theorem dX3_parallels_171 : decode cX3_parallels 171 = .ok (.ireturn, 1) := by decide +kernel
theorem dX3_faultsOf_0 : decode cX3_faultsOf 0 = .ok (.iconst 0, 1) := by decide +kernel
theorem dX3_faultsOf_1 : decode cX3_faultsOf 1 = .ok (.istore_n 1, 1) := by decide +kernel
theorem dX3_faultsOf_2 : decode cX3_faultsOf 2 = .ok (.aload_n 0, 1) := by decide +kernel
theorem dX3_faultsOf_3 : decode cX3_faultsOf 3 = .ok (.invokevirtual 97, 3) := by decide +kernel
theorem dX3_faultsOf_6 : decode cX3_faultsOf 6 = .ok (.istore_n 2, 1) := by decide +kernel
theorem dX3_faultsOf_7 : decode cX3_faultsOf 7 = .ok (.iconst 0, 1) := by decide +kernel
theorem dX3_faultsOf_8 : decode cX3_faultsOf 8 = .ok (.istore_n 3, 1) := by decide +kernel
theorem dX3_faultsOf_9 : decode cX3_faultsOf 9 = .ok (.iload_n 3, 1) := by decide +kernel
theorem dX3_faultsOf_10 : decode cX3_faultsOf 10 = .ok (.aload_n 0, 1) := by decide +kernel
theorem dX3_faultsOf_11 : decode cX3_faultsOf 11 = .ok (.getfield 40, 3) := by decide +kernel
theorem dX3_faultsOf_14 : decode cX3_faultsOf 14 = .ok (.if_icmp .ge 110, 3) := by decide +kernel
theorem dX3_faultsOf_17 : decode cX3_faultsOf 17 = .ok (.iload_n 1, 1) := by decide +kernel
theorem dX3_faultsOf_18 : decode cX3_faultsOf 18 = .ok (.iconst 0, 1) := by decide +kernel
theorem dX3_faultsOf_19 : decode cX3_faultsOf 19 = .ok (.iload_n 2, 1) := by decide +kernel
theorem dX3_faultsOf_20 : decode cX3_faultsOf 20 = .ok (.aload_n 0, 1) := by decide +kernel
theorem dX3_faultsOf_21 : decode cX3_faultsOf 21 = .ok (.getfield 25, 3) := by decide +kernel
theorem dX3_faultsOf_24 : decode cX3_faultsOf 24 = .ok (.iload_n 3, 1) := by decide +kernel
theorem dX3_faultsOf_25 : decode cX3_faultsOf 25 = .ok (.iaload, 1) := by decide +kernel
theorem dX3_faultsOf_26 : decode cX3_faultsOf 26 = .ok (.aload_n 0, 1) := by decide +kernel
theorem dX3_faultsOf_27 : decode cX3_faultsOf 27 = .ok (.invokevirtual 81, 3) := by decide +kernel
theorem dX3_faultsOf_30 : decode cX3_faultsOf 30 = .ok (.idiv, 1) := by decide +kernel
theorem dX3_faultsOf_31 : decode cX3_faultsOf 31 = .ok (.isub, 1) := by decide +kernel
theorem dX3_faultsOf_32 : decode cX3_faultsOf 32 = .ok (.invokestatic 92, 3) := by decide +kernel
theorem dX3_faultsOf_35 : decode cX3_faultsOf 35 = .ok (.iadd, 1) := by decide +kernel
theorem dX3_faultsOf_36 : decode cX3_faultsOf 36 = .ok (.istore_n 1, 1) := by decide +kernel
theorem dX3_faultsOf_37 : decode cX3_faultsOf 37 = .ok (.iconst 0, 1) := by decide +kernel
theorem dX3_faultsOf_38 : decode cX3_faultsOf 38 = .ok (.istore 4, 2) := by decide +kernel
theorem dX3_faultsOf_40 : decode cX3_faultsOf 40 = .ok (.iload 4, 2) := by decide +kernel
theorem dX3_faultsOf_42 : decode cX3_faultsOf 42 = .ok (.aload_n 0, 1) := by decide +kernel
theorem dX3_faultsOf_43 : decode cX3_faultsOf 43 = .ok (.getfield 16, 3) := by decide +kernel
theorem dX3_faultsOf_46 : decode cX3_faultsOf 46 = .ok (.iload_n 3, 1) := by decide +kernel
theorem dX3_faultsOf_47 : decode cX3_faultsOf 47 = .ok (.iaload, 1) := by decide +kernel
theorem dX3_faultsOf_48 : decode cX3_faultsOf 48 = .ok (.if_icmp .ge 40, 3) := by decide +kernel
theorem dX3_faultsOf_51 : decode cX3_faultsOf 51 = .ok (.iload_n 1, 1) := by decide +kernel
theorem dX3_faultsOf_52 : decode cX3_faultsOf 52 = .ok (.aload_n 0, 1) := by decide +kernel
theorem dX3_faultsOf_53 : decode cX3_faultsOf 53 = .ok (.iload_n 3, 1) := by decide +kernel
theorem dX3_faultsOf_54 : decode cX3_faultsOf 54 = .ok (.iload 4, 2) := by decide +kernel
theorem dX3_faultsOf_56 : decode cX3_faultsOf 56 = .ok (.bipush 6, 2) := by decide +kernel
theorem dX3_faultsOf_58 : decode cX3_faultsOf 58 = .ok (.invokevirtual 57, 3) := by decide +kernel
theorem dX3_faultsOf_61 : decode cX3_faultsOf 61 = .ok (.iconst 1, 1) := by decide +kernel
theorem dX3_faultsOf_62 : decode cX3_faultsOf 62 = .ok (.if_icmp .ne 17, 3) := by decide +kernel
theorem dX3_faultsOf_65 : decode cX3_faultsOf 65 = .ok (.aload_n 0, 1) := by decide +kernel
theorem dX3_faultsOf_66 : decode cX3_faultsOf 66 = .ok (.iload_n 3, 1) := by decide +kernel
theorem dX3_faultsOf_67 : decode cX3_faultsOf 67 = .ok (.iload 4, 2) := by decide +kernel
theorem dX3_faultsOf_69 : decode cX3_faultsOf 69 = .ok (.invokevirtual 136, 3) := by decide +kernel
theorem dX3_faultsOf_72 : decode cX3_faultsOf 72 = .ok (.ifCond .ne 7, 3) := by decide +kernel
theorem dX3_faultsOf_75 : decode cX3_faultsOf 75 = .ok (.iconst 1, 1) := by decide +kernel
theorem dX3_faultsOf_76 : decode cX3_faultsOf 76 = .ok (.goto 4, 3) := by decide +kernel
theorem dX3_faultsOf_79 : decode cX3_faultsOf 79 = .ok (.iconst 0, 1) := by decide +kernel
theorem dX3_faultsOf_80 : decode cX3_faultsOf 80 = .ok (.iadd, 1) := by decide +kernel
theorem dX3_faultsOf_81 : decode cX3_faultsOf 81 = .ok (.istore_n 1, 1) := by decide +kernel
theorem dX3_faultsOf_82 : decode cX3_faultsOf 82 = .ok (.iinc 4 1, 3) := by decide +kernel
theorem dX3_faultsOf_85 : decode cX3_faultsOf 85 = .ok (.goto (-45), 3) := by decide +kernel
theorem dX3_faultsOf_88 : decode cX3_faultsOf 88 = .ok (.iload_n 3, 1) := by decide +kernel
theorem dX3_faultsOf_89 : decode cX3_faultsOf 89 = .ok (.iconst 1, 1) := by decide +kernel
theorem dX3_faultsOf_90 : decode cX3_faultsOf 90 = .ok (.iadd, 1) := by decide +kernel
theorem dX3_faultsOf_91 : decode cX3_faultsOf 91 = .ok (.istore 4, 2) := by decide +kernel
theorem dX3_faultsOf_93 : decode cX3_faultsOf 93 = .ok (.iload 4, 2) := by decide +kernel
theorem dX3_faultsOf_95 : decode cX3_faultsOf 95 = .ok (.aload_n 0, 1) := by decide +kernel
theorem dX3_faultsOf_96 : decode cX3_faultsOf 96 = .ok (.getfield 40, 3) := by decide +kernel
theorem dX3_faultsOf_99 : decode cX3_faultsOf 99 = .ok (.if_icmp .ge 19, 3) := by decide +kernel
theorem dX3_faultsOf_102 : decode cX3_faultsOf 102 = .ok (.iload_n 1, 1) := by decide +kernel
theorem dX3_faultsOf_103 : decode cX3_faultsOf 103 = .ok (.aload_n 0, 1) := by decide +kernel
theorem dX3_faultsOf_104 : decode cX3_faultsOf 104 = .ok (.iload_n 3, 1) := by decide +kernel
theorem dX3_faultsOf_105 : decode cX3_faultsOf 105 = .ok (.iload 4, 2) := by decide +kernel
theorem dX3_faultsOf_107 : decode cX3_faultsOf 107 = .ok (.invokevirtual 166, 3) := by decide +kernel
theorem dX3_faultsOf_110 : decode cX3_faultsOf 110 = .ok (.iadd, 1) := by decide +kernel
theorem dX3_faultsOf_111 : decode cX3_faultsOf 111 = .ok (.istore_n 1, 1) := by decide +kernel
theorem dX3_faultsOf_112 : decode cX3_faultsOf 112 = .ok (.iinc 4 1, 3) := by decide +kernel
theorem dX3_faultsOf_115 : decode cX3_faultsOf 115 = .ok (.goto (-22), 3) := by decide +kernel
theorem dX3_faultsOf_118 : decode cX3_faultsOf 118 = .ok (.iinc 3 1, 3) := by decide +kernel
theorem dX3_faultsOf_121 : decode cX3_faultsOf 121 = .ok (.goto (-112), 3) := by decide +kernel
theorem dX3_faultsOf_124 : decode cX3_faultsOf 124 = .ok (.iload_n 1, 1) := by decide +kernel
theorem dX3_faultsOf_125 : decode cX3_faultsOf 125 = .ok (.ireturn, 1) := by decide +kernel
theorem dX3_faults_0 : decode cX3_faults 0 = .ok (.aload_n 0, 1) := by decide +kernel
theorem dX3_faults_1 : decode cX3_faults 1 = .ok (.iconst 0, 1) := by decide +kernel
theorem dX3_faults_2 : decode cX3_faults 2 = .ok (.putfield 37, 3) := by decide +kernel
theorem dX3_faults_5 : decode cX3_faults 5 = .ok (.aload_n 0, 1) := by decide +kernel
theorem dX3_faults_6 : decode cX3_faults 6 = .ok (.invokevirtual 169, 3) := by decide +kernel
theorem dX3_faults_9 : decode cX3_faults 9 = .ok (.ireturn, 1) := by decide +kernel
theorem dX3_sounding_0 : decode cX3_sounding 0 = .ok (.aload_n 0, 1) := by decide +kernel
theorem dX3_sounding_1 : decode cX3_sounding 1 = .ok (.iload_n 1, 1) := by decide +kernel
theorem dX3_sounding_2 : decode cX3_sounding 2 = .ok (.invokevirtual 88, 3) := by decide +kernel
theorem dX3_sounding_5 : decode cX3_sounding 5 = .ok (.iconst 0, 1) := by decide +kernel
theorem dX3_sounding_6 : decode cX3_sounding 6 = .ok (.istore_n 3, 1) := by decide +kernel
theorem dX3_sounding_7 : decode cX3_sounding 7 = .ok (.iload_n 3, 1) := by decide +kernel
theorem dX3_sounding_8 : decode cX3_sounding 8 = .ok (.aload_n 0, 1) := by decide +kernel
theorem dX3_sounding_9 : decode cX3_sounding 9 = .ok (.getfield 16, 3) := by decide +kernel
theorem dX3_sounding_12 : decode cX3_sounding 12 = .ok (.iload_n 1, 1) := by decide +kernel
theorem dX3_sounding_13 : decode cX3_sounding 13 = .ok (.iaload, 1) := by decide +kernel
theorem dX3_sounding_14 : decode cX3_sounding 14 = .ok (.if_icmp .ge 47, 3) := by decide +kernel
theorem dX3_sounding_17 : decode cX3_sounding 17 = .ok (.aload_n 0, 1) := by decide +kernel
theorem dX3_sounding_18 : decode cX3_sounding 18 = .ok (.iload_n 1, 1) := by decide +kernel
theorem dX3_sounding_19 : decode cX3_sounding 19 = .ok (.iload_n 3, 1) := by decide +kernel
theorem dX3_sounding_20 : decode cX3_sounding 20 = .ok (.bipush 7, 2) := by decide +kernel
theorem dX3_sounding_22 : decode cX3_sounding 22 = .ok (.invokevirtual 57, 3) := by decide +kernel
theorem dX3_sounding_25 : decode cX3_sounding 25 = .ok (.iload_n 2, 1) := by decide +kernel
theorem dX3_sounding_26 : decode cX3_sounding 26 = .ok (.if_icmp .gt 29, 3) := by decide +kernel
theorem dX3_sounding_29 : decode cX3_sounding 29 = .ok (.iload_n 2, 1) := by decide +kernel
theorem dX3_sounding_30 : decode cX3_sounding 30 = .ok (.aload_n 0, 1) := by decide +kernel
theorem dX3_sounding_31 : decode cX3_sounding 31 = .ok (.iload_n 1, 1) := by decide +kernel
theorem dX3_sounding_32 : decode cX3_sounding 32 = .ok (.iload_n 3, 1) := by decide +kernel
theorem dX3_sounding_33 : decode cX3_sounding 33 = .ok (.bipush 7, 2) := by decide +kernel
theorem dX3_sounding_35 : decode cX3_sounding 35 = .ok (.invokevirtual 57, 3) := by decide +kernel
theorem dX3_sounding_38 : decode cX3_sounding 38 = .ok (.aload_n 0, 1) := by decide +kernel
theorem dX3_sounding_39 : decode cX3_sounding 39 = .ok (.iload_n 1, 1) := by decide +kernel
theorem dX3_sounding_40 : decode cX3_sounding 40 = .ok (.iload_n 3, 1) := by decide +kernel
theorem dX3_sounding_41 : decode cX3_sounding 41 = .ok (.invokevirtual 85, 3) := by decide +kernel
theorem dX3_sounding_44 : decode cX3_sounding 44 = .ok (.iadd, 1) := by decide +kernel
theorem dX3_sounding_45 : decode cX3_sounding 45 = .ok (.if_icmp .ge 10, 3) := by decide +kernel
theorem dX3_sounding_48 : decode cX3_sounding 48 = .ok (.aload_n 0, 1) := by decide +kernel
theorem dX3_sounding_49 : decode cX3_sounding 49 = .ok (.iload_n 1, 1) := by decide +kernel
theorem dX3_sounding_50 : decode cX3_sounding 50 = .ok (.iload_n 3, 1) := by decide +kernel
theorem dX3_sounding_51 : decode cX3_sounding 51 = .ok (.invokevirtual 133, 3) := by decide +kernel
theorem dX3_sounding_54 : decode cX3_sounding 54 = .ok (.ireturn, 1) := by decide +kernel
theorem dX3_sounding_55 : decode cX3_sounding 55 = .ok (.iinc 3 1, 3) := by decide +kernel
theorem dX3_sounding_58 : decode cX3_sounding 58 = .ok (.goto (-51), 3) := by decide +kernel
theorem dX3_sounding_61 : decode cX3_sounding 61 = .ok (.iconst (-1), 1) := by decide +kernel
theorem dX3_sounding_62 : decode cX3_sounding 62 = .ok (.ireturn, 1) := by decide +kernel
theorem dX3_interval_0 : decode cX3_interval 0 = .ok (.aload_n 0, 1) := by decide +kernel
theorem dX3_interval_1 : decode cX3_interval 1 = .ok (.iconst 0, 1) := by decide +kernel
theorem dX3_interval_2 : decode cX3_interval 2 = .ok (.putfield 37, 3) := by decide +kernel
theorem dX3_interval_5 : decode cX3_interval 5 = .ok (.aload_n 0, 1) := by decide +kernel
theorem dX3_interval_6 : decode cX3_interval 6 = .ok (.iload_n 1, 1) := by decide +kernel
theorem dX3_interval_7 : decode cX3_interval 7 = .ok (.invokevirtual 47, 3) := by decide +kernel
theorem dX3_interval_10 : decode cX3_interval 10 = .ok (.ifCond .eq 11, 3) := by decide +kernel
theorem dX3_interval_13 : decode cX3_interval 13 = .ok (.aload_n 0, 1) := by decide +kernel
theorem dX3_interval_14 : decode cX3_interval 14 = .ok (.iload_n 2, 1) := by decide +kernel
theorem dX3_interval_15 : decode cX3_interval 15 = .ok (.invokevirtual 47, 3) := by decide +kernel
theorem dX3_interval_18 : decode cX3_interval 18 = .ok (.ifCond .ne 9, 3) := by decide +kernel
theorem dX3_interval_21 : decode cX3_interval 21 = .ok (.aload_n 0, 1) := by decide +kernel
theorem dX3_interval_22 : decode cX3_interval 22 = .ok (.iconst 1, 1) := by decide +kernel
theorem dX3_interval_23 : decode cX3_interval 23 = .ok (.invokevirtual 77, 3) := by decide +kernel
theorem dX3_interval_26 : decode cX3_interval 26 = .ok (.ireturn, 1) := by decide +kernel
theorem dX3_interval_27 : decode cX3_interval 27 = .ok (.iload_n 3, 1) := by decide +kernel
theorem dX3_interval_28 : decode cX3_interval 28 = .ok (.ifCond .ge 9, 3) := by decide +kernel
theorem dX3_interval_31 : decode cX3_interval 31 = .ok (.aload_n 0, 1) := by decide +kernel
theorem dX3_interval_32 : decode cX3_interval 32 = .ok (.iconst 2, 1) := by decide +kernel
theorem dX3_interval_33 : decode cX3_interval 33 = .ok (.invokevirtual 77, 3) := by decide +kernel
theorem dX3_interval_36 : decode cX3_interval 36 = .ok (.ireturn, 1) := by decide +kernel
theorem dX3_interval_37 : decode cX3_interval 37 = .ok (.aload_n 0, 1) := by decide +kernel
theorem dX3_interval_38 : decode cX3_interval 38 = .ok (.iload_n 1, 1) := by decide +kernel
theorem dX3_interval_39 : decode cX3_interval 39 = .ok (.iload_n 3, 1) := by decide +kernel
theorem dX3_interval_40 : decode cX3_interval 40 = .ok (.invokevirtual 172, 3) := by decide +kernel
theorem dX3_interval_43 : decode cX3_interval 43 = .ok (.istore 4, 2) := by decide +kernel
theorem dX3_interval_45 : decode cX3_interval 45 = .ok (.aload_n 0, 1) := by decide +kernel
theorem dX3_interval_46 : decode cX3_interval 46 = .ok (.iload_n 2, 1) := by decide +kernel
theorem dX3_interval_47 : decode cX3_interval 47 = .ok (.iload_n 3, 1) := by decide +kernel
theorem dX3_interval_48 : decode cX3_interval 48 = .ok (.invokevirtual 172, 3) := by decide +kernel
theorem dX3_interval_51 : decode cX3_interval 51 = .ok (.istore 5, 2) := by decide +kernel
theorem dX3_interval_53 : decode cX3_interval 53 = .ok (.iload 4, 2) := by decide +kernel
theorem dX3_interval_55 : decode cX3_interval 55 = .ok (.iconst (-1), 1) := by decide +kernel
theorem dX3_interval_56 : decode cX3_interval 56 = .ok (.if_icmp .eq 9, 3) := by decide +kernel
theorem dX3_interval_59 : decode cX3_interval 59 = .ok (.iload 5, 2) := by decide +kernel
theorem dX3_interval_61 : decode cX3_interval 61 = .ok (.iconst (-1), 1) := by decide +kernel
theorem dX3_interval_62 : decode cX3_interval 62 = .ok (.if_icmp .ne 8, 3) := by decide +kernel
theorem dX3_interval_65 : decode cX3_interval 65 = .ok (.bipush (-100), 2) := by decide +kernel
theorem dX3_interval_67 : decode cX3_interval 67 = .ok (.goto 8, 3) := by decide +kernel
theorem dX3_interval_70 : decode cX3_interval 70 = .ok (.iload 5, 2) := by decide +kernel
theorem dX3_interval_72 : decode cX3_interval 72 = .ok (.iload 4, 2) := by decide +kernel
theorem dX3_interval_74 : decode cX3_interval 74 = .ok (.isub, 1) := by decide +kernel
theorem dX3_interval_75 : decode cX3_interval 75 = .ok (.ireturn, 1) := by decide +kernel
theorem dX3_put_0 : decode cX3_put 0 = .ok (.aload_n 0, 1) := by decide +kernel
theorem dX3_put_1 : decode cX3_put 1 = .ok (.getfield 175, 3) := by decide +kernel
theorem dX3_put_4 : decode cX3_put 4 = .ok (.istore 5, 2) := by decide +kernel
theorem dX3_put_6 : decode cX3_put 6 = .ok (.iload 5, 2) := by decide +kernel
theorem dX3_put_8 : decode cX3_put 8 = .ok (.ifCond .le 26, 3) := by decide +kernel
theorem dX3_put_11 : decode cX3_put 11 = .ok (.aload_n 0, 1) := by decide +kernel
theorem dX3_put_12 : decode cX3_put 12 = .ok (.iconst 4, 1) := by decide +kernel
theorem dX3_put_13 : decode cX3_put 13 = .ok (.iload 5, 2) := by decide +kernel
theorem dX3_put_15 : decode cX3_put 15 = .ok (.iconst 1, 1) := by decide +kernel
theorem dX3_put_16 : decode cX3_put 16 = .ok (.isub, 1) := by decide +kernel
theorem dX3_put_17 : decode cX3_put 17 = .ok (.imul, 1) := by decide +kernel
theorem dX3_put_18 : decode cX3_put 18 = .ok (.iload_n 1, 1) := by decide +kernel
theorem dX3_put_19 : decode cX3_put 19 = .ok (.iload_n 2, 1) := by decide +kernel
theorem dX3_put_20 : decode cX3_put 20 = .ok (.iload 4, 2) := by decide +kernel
theorem dX3_put_22 : decode cX3_put 22 = .ok (.invokevirtual 178, 3) := by decide +kernel
theorem dX3_put_25 : decode cX3_put 25 = .ok (.ifCond .eq 9, 3) := by decide +kernel
theorem dX3_put_28 : decode cX3_put 28 = .ok (.iinc 5 (-1), 3) := by decide +kernel
theorem dX3_put_31 : decode cX3_put 31 = .ok (.goto (-25), 3) := by decide +kernel
theorem dX3_put_34 : decode cX3_put 34 = .ok (.aload_n 0, 1) := by decide +kernel
theorem dX3_put_35 : decode cX3_put 35 = .ok (.getfield 34, 3) := by decide +kernel
theorem dX3_put_38 : decode cX3_put 38 = .ok (.iconst 4, 1) := by decide +kernel
theorem dX3_put_39 : decode cX3_put 39 = .ok (.iload 5, 2) := by decide +kernel
theorem dX3_put_41 : decode cX3_put 41 = .ok (.imul, 1) := by decide +kernel
theorem dX3_put_42 : decode cX3_put 42 = .ok (.aload_n 0, 1) := by decide +kernel
theorem dX3_put_43 : decode cX3_put 43 = .ok (.getfield 34, 3) := by decide +kernel
theorem dX3_put_46 : decode cX3_put 46 = .ok (.iconst 4, 1) := by decide +kernel
theorem dX3_put_47 : decode cX3_put 47 = .ok (.iload 5, 2) := by decide +kernel
theorem dX3_put_49 : decode cX3_put 49 = .ok (.iconst 1, 1) := by decide +kernel
theorem dX3_put_50 : decode cX3_put 50 = .ok (.iadd, 1) := by decide +kernel
theorem dX3_put_51 : decode cX3_put 51 = .ok (.imul, 1) := by decide +kernel
theorem dX3_put_52 : decode cX3_put 52 = .ok (.iconst 4, 1) := by decide +kernel
theorem dX3_put_53 : decode cX3_put 53 = .ok (.aload_n 0, 1) := by decide +kernel
theorem dX3_put_54 : decode cX3_put 54 = .ok (.getfield 175, 3) := by decide +kernel
theorem dX3_put_57 : decode cX3_put 57 = .ok (.iload 5, 2) := by decide +kernel
theorem dX3_put_59 : decode cX3_put 59 = .ok (.isub, 1) := by decide +kernel
theorem dX3_put_60 : decode cX3_put 60 = .ok (.imul, 1) := by decide +kernel
theorem dX3_put_61 : decode cX3_put 61 = .ok (.invokestatic 113, 3) := by decide +kernel
theorem dX3_put_64 : decode cX3_put 64 = .ok (.iconst 4, 1) := by decide +kernel
theorem dX3_put_65 : decode cX3_put 65 = .ok (.newarray .int, 2) := by decide +kernel
theorem dX3_put_67 : decode cX3_put 67 = .ok (.dup, 1) := by decide +kernel
theorem dX3_put_68 : decode cX3_put 68 = .ok (.iconst 0, 1) := by decide +kernel
theorem dX3_put_69 : decode cX3_put 69 = .ok (.iload_n 1, 1) := by decide +kernel
theorem dX3_put_70 : decode cX3_put 70 = .ok (.iastore, 1) := by decide +kernel
theorem dX3_put_71 : decode cX3_put 71 = .ok (.dup, 1) := by decide +kernel
theorem dX3_put_72 : decode cX3_put 72 = .ok (.iconst 1, 1) := by decide +kernel
theorem dX3_put_73 : decode cX3_put 73 = .ok (.iload_n 2, 1) := by decide +kernel
theorem dX3_put_74 : decode cX3_put 74 = .ok (.iastore, 1) := by decide +kernel
theorem dX3_put_75 : decode cX3_put 75 = .ok (.dup, 1) := by decide +kernel
theorem dX3_put_76 : decode cX3_put 76 = .ok (.iconst 2, 1) := by decide +kernel
theorem dX3_put_77 : decode cX3_put 77 = .ok (.iload_n 3, 1) := by decide +kernel
theorem dX3_put_78 : decode cX3_put 78 = .ok (.iastore, 1) := by decide +kernel
theorem dX3_put_79 : decode cX3_put 79 = .ok (.dup, 1) := by decide +kernel
theorem dX3_put_80 : decode cX3_put 80 = .ok (.iconst 3, 1) := by decide +kernel
theorem dX3_put_81 : decode cX3_put 81 = .ok (.iload 4, 2) := by decide +kernel
theorem dX3_put_83 : decode cX3_put 83 = .ok (.iastore, 1) := by decide +kernel
theorem dX3_put_84 : decode cX3_put 84 = .ok (.astore 6, 2) := by decide +kernel
theorem dX3_put_86 : decode cX3_put 86 = .ok (.aload 6, 2) := by decide +kernel
theorem dX3_put_88 : decode cX3_put 88 = .ok (.iconst 0, 1) := by decide +kernel
theorem dX3_put_89 : decode cX3_put 89 = .ok (.aload_n 0, 1) := by decide +kernel
theorem dX3_put_90 : decode cX3_put 90 = .ok (.getfield 34, 3) := by decide +kernel
theorem dX3_put_93 : decode cX3_put 93 = .ok (.iconst 4, 1) := by decide +kernel
theorem dX3_put_94 : decode cX3_put 94 = .ok (.iload 5, 2) := by decide +kernel
theorem dX3_put_96 : decode cX3_put 96 = .ok (.imul, 1) := by decide +kernel
theorem dX3_put_97 : decode cX3_put 97 = .ok (.iconst 4, 1) := by decide +kernel
theorem dX3_put_98 : decode cX3_put 98 = .ok (.invokestatic 113, 3) := by decide +kernel
theorem dX3_put_101 : decode cX3_put 101 = .ok (.aload_n 0, 1) := by decide +kernel
theorem dX3_put_102 : decode cX3_put 102 = .ok (.dup, 1) := by decide +kernel
theorem dX3_put_103 : decode cX3_put 103 = .ok (.getfield 175, 3) := by decide +kernel
theorem dX3_put_106 : decode cX3_put 106 = .ok (.iconst 1, 1) := by decide +kernel
theorem dX3_put_107 : decode cX3_put 107 = .ok (.iadd, 1) := by decide +kernel
theorem dX3_put_108 : decode cX3_put 108 = .ok (.putfield 175, 3) := by decide +kernel
theorem dX3_put_111 : decode cX3_put 111 = .ok (.return_, 1) := by decide +kernel
theorem dX3_isLater_0 : decode cX3_isLater 0 = .ok (.aload_n 0, 1) := by decide +kernel
theorem dX3_isLater_1 : decode cX3_isLater 1 = .ok (.getfield 34, 3) := by decide +kernel
theorem dX3_isLater_4 : decode cX3_isLater 4 = .ok (.iload_n 1, 1) := by decide +kernel
theorem dX3_isLater_5 : decode cX3_isLater 5 = .ok (.iaload, 1) := by decide +kernel
theorem dX3_isLater_6 : decode cX3_isLater 6 = .ok (.iload_n 2, 1) := by decide +kernel
theorem dX3_isLater_7 : decode cX3_isLater 7 = .ok (.if_icmp .eq 19, 3) := by decide +kernel
theorem dX3_isLater_10 : decode cX3_isLater 10 = .ok (.aload_n 0, 1) := by decide +kernel
theorem dX3_isLater_11 : decode cX3_isLater 11 = .ok (.getfield 34, 3) := by decide +kernel
theorem dX3_isLater_14 : decode cX3_isLater 14 = .ok (.iload_n 1, 1) := by decide +kernel
theorem dX3_isLater_15 : decode cX3_isLater 15 = .ok (.iaload, 1) := by decide +kernel
theorem dX3_isLater_16 : decode cX3_isLater 16 = .ok (.iload_n 2, 1) := by decide +kernel
theorem dX3_isLater_17 : decode cX3_isLater 17 = .ok (.if_icmp .le 7, 3) := by decide +kernel
theorem dX3_isLater_20 : decode cX3_isLater 20 = .ok (.iconst 1, 1) := by decide +kernel
theorem dX3_isLater_21 : decode cX3_isLater 21 = .ok (.goto 4, 3) := by decide +kernel
theorem dX3_isLater_24 : decode cX3_isLater 24 = .ok (.iconst 0, 1) := by decide +kernel
theorem dX3_isLater_25 : decode cX3_isLater 25 = .ok (.ireturn, 1) := by decide +kernel
theorem dX3_isLater_26 : decode cX3_isLater 26 = .ok (.aload_n 0, 1) := by decide +kernel
theorem dX3_isLater_27 : decode cX3_isLater 27 = .ok (.getfield 34, 3) := by decide +kernel
theorem dX3_isLater_30 : decode cX3_isLater 30 = .ok (.iload_n 1, 1) := by decide +kernel
theorem dX3_isLater_31 : decode cX3_isLater 31 = .ok (.iconst 3, 1) := by decide +kernel
theorem dX3_isLater_32 : decode cX3_isLater 32 = .ok (.iadd, 1) := by decide +kernel
theorem dX3_isLater_33 : decode cX3_isLater 33 = .ok (.iaload, 1) := by decide +kernel
theorem dX3_isLater_34 : decode cX3_isLater 34 = .ok (.iload 4, 2) := by decide +kernel
theorem dX3_isLater_36 : decode cX3_isLater 36 = .ok (.if_icmp .eq 24, 3) := by decide +kernel
theorem dX3_isLater_39 : decode cX3_isLater 39 = .ok (.aload_n 0, 1) := by decide +kernel
theorem dX3_isLater_40 : decode cX3_isLater 40 = .ok (.getfield 34, 3) := by decide +kernel
theorem dX3_isLater_43 : decode cX3_isLater 43 = .ok (.iload_n 1, 1) := by decide +kernel
theorem dX3_isLater_44 : decode cX3_isLater 44 = .ok (.iconst 3, 1) := by decide +kernel
theorem dX3_isLater_45 : decode cX3_isLater 45 = .ok (.iadd, 1) := by decide +kernel
theorem dX3_isLater_46 : decode cX3_isLater 46 = .ok (.iaload, 1) := by decide +kernel
theorem dX3_isLater_47 : decode cX3_isLater 47 = .ok (.iload 4, 2) := by decide +kernel
theorem dX3_isLater_49 : decode cX3_isLater 49 = .ok (.if_icmp .le 7, 3) := by decide +kernel
theorem dX3_isLater_52 : decode cX3_isLater 52 = .ok (.iconst 1, 1) := by decide +kernel
theorem dX3_isLater_53 : decode cX3_isLater 53 = .ok (.goto 24, 3) := by decide +kernel
theorem dX3_isLater_56 : decode cX3_isLater 56 = .ok (.iconst 0, 1) := by decide +kernel
theorem dX3_isLater_57 : decode cX3_isLater 57 = .ok (.goto 20, 3) := by decide +kernel
theorem dX3_isLater_60 : decode cX3_isLater 60 = .ok (.aload_n 0, 1) := by decide +kernel
theorem dX3_isLater_61 : decode cX3_isLater 61 = .ok (.getfield 34, 3) := by decide +kernel
theorem dX3_isLater_64 : decode cX3_isLater 64 = .ok (.iload_n 1, 1) := by decide +kernel
theorem dX3_isLater_65 : decode cX3_isLater 65 = .ok (.iconst 1, 1) := by decide +kernel
theorem dX3_isLater_66 : decode cX3_isLater 66 = .ok (.iadd, 1) := by decide +kernel
theorem dX3_isLater_67 : decode cX3_isLater 67 = .ok (.iaload, 1) := by decide +kernel
theorem dX3_isLater_68 : decode cX3_isLater 68 = .ok (.iload_n 3, 1) := by decide +kernel
theorem dX3_isLater_69 : decode cX3_isLater 69 = .ok (.if_icmp .le 7, 3) := by decide +kernel
theorem dX3_isLater_72 : decode cX3_isLater 72 = .ok (.iconst 1, 1) := by decide +kernel
theorem dX3_isLater_73 : decode cX3_isLater 73 = .ok (.goto 4, 3) := by decide +kernel
theorem dX3_isLater_76 : decode cX3_isLater 76 = .ok (.iconst 0, 1) := by decide +kernel
theorem dX3_isLater_77 : decode cX3_isLater 77 = .ok (.ireturn, 1) := by decide +kernel
theorem dX3_findEvents_0 : decode cX3_findEvents 0 = .ok (.aload_n 0, 1) := by decide +kernel
theorem dX3_findEvents_1 : decode cX3_findEvents 1 = .ok (.iconst 0, 1) := by decide +kernel
theorem dX3_findEvents_2 : decode cX3_findEvents 2 = .ok (.putfield 175, 3) := by decide +kernel
theorem dX3_findEvents_5 : decode cX3_findEvents 5 = .ok (.iconst 0, 1) := by decide +kernel
theorem dX3_findEvents_6 : decode cX3_findEvents 6 = .ok (.istore_n 1, 1) := by decide +kernel
theorem dX3_findEvents_7 : decode cX3_findEvents 7 = .ok (.iload_n 1, 1) := by decide +kernel
theorem dX3_findEvents_8 : decode cX3_findEvents 8 = .ok (.aload_n 0, 1) := by decide +kernel
theorem dX3_findEvents_9 : decode cX3_findEvents 9 = .ok (.getfield 40, 3) := by decide +kernel
theorem dX3_findEvents_12 : decode cX3_findEvents 12 = .ok (.if_icmp .ge 112, 3) := by decide +kernel
theorem dX3_findEvents_15 : decode cX3_findEvents 15 = .ok (.aload_n 0, 1) := by decide +kernel
theorem dX3_findEvents_16 : decode cX3_findEvents 16 = .ok (.iload_n 1, 1) := by decide +kernel
theorem dX3_findEvents_17 : decode cX3_findEvents 17 = .ok (.invokevirtual 88, 3) := by decide +kernel
theorem dX3_findEvents_20 : decode cX3_findEvents 20 = .ok (.iconst 0, 1) := by decide +kernel
theorem dX3_findEvents_21 : decode cX3_findEvents 21 = .ok (.istore_n 2, 1) := by decide +kernel
theorem dX3_findEvents_22 : decode cX3_findEvents 22 = .ok (.iload_n 2, 1) := by decide +kernel
theorem dX3_findEvents_23 : decode cX3_findEvents 23 = .ok (.aload_n 0, 1) := by decide +kernel
theorem dX3_findEvents_24 : decode cX3_findEvents 24 = .ok (.getfield 16, 3) := by decide +kernel
theorem dX3_findEvents_27 : decode cX3_findEvents 27 = .ok (.iload_n 1, 1) := by decide +kernel
theorem dX3_findEvents_28 : decode cX3_findEvents 28 = .ok (.iaload, 1) := by decide +kernel
theorem dX3_findEvents_29 : decode cX3_findEvents 29 = .ok (.if_icmp .ge 89, 3) := by decide +kernel
theorem dX3_findEvents_32 : decode cX3_findEvents 32 = .ok (.aload_n 0, 1) := by decide +kernel
theorem dX3_findEvents_33 : decode cX3_findEvents 33 = .ok (.iload_n 1, 1) := by decide +kernel
theorem dX3_findEvents_34 : decode cX3_findEvents 34 = .ok (.iload_n 2, 1) := by decide +kernel
theorem dX3_findEvents_35 : decode cX3_findEvents 35 = .ok (.iconst 2, 1) := by decide +kernel
theorem dX3_findEvents_36 : decode cX3_findEvents 36 = .ok (.invokevirtual 57, 3) := by decide +kernel
theorem dX3_findEvents_39 : decode cX3_findEvents 39 = .ok (.ifCond .ne 6, 3) := by decide +kernel
theorem dX3_findEvents_42 : decode cX3_findEvents 42 = .ok (.goto 70, 3) := by decide +kernel
theorem dX3_findEvents_45 : decode cX3_findEvents 45 = .ok (.aload_n 0, 1) := by decide +kernel
theorem dX3_findEvents_46 : decode cX3_findEvents 46 = .ok (.iload_n 1, 1) := by decide +kernel
theorem dX3_findEvents_47 : decode cX3_findEvents 47 = .ok (.iload_n 2, 1) := by decide +kernel
theorem dX3_findEvents_48 : decode cX3_findEvents 48 = .ok (.iconst 1, 1) := by decide +kernel
theorem dX3_findEvents_49 : decode cX3_findEvents 49 = .ok (.isub, 1) := by decide +kernel
theorem dX3_findEvents_50 : decode cX3_findEvents 50 = .ok (.invokevirtual 136, 3) := by decide +kernel
theorem dX3_findEvents_53 : decode cX3_findEvents 53 = .ok (.ifCond .ne 23, 3) := by decide +kernel
theorem dX3_findEvents_56 : decode cX3_findEvents 56 = .ok (.aload_n 0, 1) := by decide +kernel
theorem dX3_findEvents_57 : decode cX3_findEvents 57 = .ok (.aload_n 0, 1) := by decide +kernel
theorem dX3_findEvents_58 : decode cX3_findEvents 58 = .ok (.iload_n 1, 1) := by decide +kernel
theorem dX3_findEvents_59 : decode cX3_findEvents 59 = .ok (.iload_n 2, 1) := by decide +kernel
theorem dX3_findEvents_60 : decode cX3_findEvents 60 = .ok (.bipush 7, 2) := by decide +kernel
theorem dX3_findEvents_62 : decode cX3_findEvents 62 = .ok (.invokevirtual 57, 3) := by decide +kernel
theorem dX3_findEvents_65 : decode cX3_findEvents 65 = .ok (.iload_n 1, 1) := by decide +kernel
theorem dX3_findEvents_66 : decode cX3_findEvents 66 = .ok (.aload_n 0, 1) := by decide +kernel
theorem dX3_findEvents_67 : decode cX3_findEvents 67 = .ok (.iload_n 1, 1) := by decide +kernel
theorem dX3_findEvents_68 : decode cX3_findEvents 68 = .ok (.iload_n 2, 1) := by decide +kernel
theorem dX3_findEvents_69 : decode cX3_findEvents 69 = .ok (.invokevirtual 133, 3) := by decide +kernel
theorem dX3_findEvents_72 : decode cX3_findEvents 72 = .ok (.iconst 1, 1) := by decide +kernel
theorem dX3_findEvents_73 : decode cX3_findEvents 73 = .ok (.invokevirtual 182, 3) := by decide +kernel
theorem dX3_findEvents_76 : decode cX3_findEvents 76 = .ok (.aload_n 0, 1) := by decide +kernel
theorem dX3_findEvents_77 : decode cX3_findEvents 77 = .ok (.iload_n 1, 1) := by decide +kernel
theorem dX3_findEvents_78 : decode cX3_findEvents 78 = .ok (.iload_n 2, 1) := by decide +kernel
theorem dX3_findEvents_79 : decode cX3_findEvents 79 = .ok (.invokevirtual 136, 3) := by decide +kernel
theorem dX3_findEvents_82 : decode cX3_findEvents 82 = .ok (.ifCond .ne 30, 3) := by decide +kernel
theorem dX3_findEvents_85 : decode cX3_findEvents 85 = .ok (.aload_n 0, 1) := by decide +kernel
theorem dX3_findEvents_86 : decode cX3_findEvents 86 = .ok (.aload_n 0, 1) := by decide +kernel
theorem dX3_findEvents_87 : decode cX3_findEvents 87 = .ok (.iload_n 1, 1) := by decide +kernel
theorem dX3_findEvents_88 : decode cX3_findEvents 88 = .ok (.iload_n 2, 1) := by decide +kernel
theorem dX3_findEvents_89 : decode cX3_findEvents 89 = .ok (.bipush 7, 2) := by decide +kernel
theorem dX3_findEvents_91 : decode cX3_findEvents 91 = .ok (.invokevirtual 57, 3) := by decide +kernel
theorem dX3_findEvents_94 : decode cX3_findEvents 94 = .ok (.aload_n 0, 1) := by decide +kernel
theorem dX3_findEvents_95 : decode cX3_findEvents 95 = .ok (.iload_n 1, 1) := by decide +kernel
theorem dX3_findEvents_96 : decode cX3_findEvents 96 = .ok (.iload_n 2, 1) := by decide +kernel
theorem dX3_findEvents_97 : decode cX3_findEvents 97 = .ok (.invokevirtual 85, 3) := by decide +kernel
theorem dX3_findEvents_100 : decode cX3_findEvents 100 = .ok (.iadd, 1) := by decide +kernel
theorem dX3_findEvents_101 : decode cX3_findEvents 101 = .ok (.iload_n 1, 1) := by decide +kernel
theorem dX3_findEvents_102 : decode cX3_findEvents 102 = .ok (.aload_n 0, 1) := by decide +kernel
theorem dX3_findEvents_103 : decode cX3_findEvents 103 = .ok (.iload_n 1, 1) := by decide +kernel
theorem dX3_findEvents_104 : decode cX3_findEvents 104 = .ok (.iload_n 2, 1) := by decide +kernel
theorem dX3_findEvents_105 : decode cX3_findEvents 105 = .ok (.invokevirtual 133, 3) := by decide +kernel
theorem dX3_findEvents_108 : decode cX3_findEvents 108 = .ok (.iconst 0, 1) := by decide +kernel
theorem dX3_findEvents_109 : decode cX3_findEvents 109 = .ok (.invokevirtual 182, 3) := by decide +kernel
theorem dX3_findEvents_112 : decode cX3_findEvents 112 = .ok (.iinc 2 1, 3) := by decide +kernel
theorem dX3_findEvents_115 : decode cX3_findEvents 115 = .ok (.goto (-93), 3) := by decide +kernel
theorem dX3_findEvents_118 : decode cX3_findEvents 118 = .ok (.iinc 1 1, 3) := by decide +kernel
theorem dX3_findEvents_121 : decode cX3_findEvents 121 = .ok (.goto (-114), 3) := by decide +kernel
theorem dX3_findEvents_124 : decode cX3_findEvents 124 = .ok (.return_, 1) := by decide +kernel
theorem dX3_event_0 : decode cX3_event 0 = .ok (.aload_n 0, 1) := by decide +kernel
theorem dX3_event_1 : decode cX3_event 1 = .ok (.iconst 0, 1) := by decide +kernel
theorem dX3_event_2 : decode cX3_event 2 = .ok (.putfield 37, 3) := by decide +kernel
theorem dX3_event_5 : decode cX3_event 5 = .ok (.aload_n 0, 1) := by decide +kernel
theorem dX3_event_6 : decode cX3_event 6 = .ok (.invokevirtual 186, 3) := by decide +kernel
theorem dX3_event_9 : decode cX3_event 9 = .ok (.iload_n 1, 1) := by decide +kernel
theorem dX3_event_10 : decode cX3_event 10 = .ok (.iconst 0, 1) := by decide +kernel
theorem dX3_event_11 : decode cX3_event 11 = .ok (.aload_n 0, 1) := by decide +kernel
theorem dX3_event_12 : decode cX3_event 12 = .ok (.getfield 175, 3) := by decide +kernel
theorem dX3_event_15 : decode cX3_event 15 = .ok (.iconst 1, 1) := by decide +kernel
theorem dX3_event_16 : decode cX3_event 16 = .ok (.isub, 1) := by decide +kernel
theorem dX3_event_17 : decode cX3_event 17 = .ok (.invokestatic 43, 3) := by decide +kernel
theorem dX3_event_20 : decode cX3_event 20 = .ok (.ifCond .eq 25, 3) := by decide +kernel
theorem dX3_event_23 : decode cX3_event 23 = .ok (.iload_n 2, 1) := by decide +kernel
theorem dX3_event_24 : decode cX3_event 24 = .ok (.iconst 0, 1) := by decide +kernel
theorem dX3_event_25 : decode cX3_event 25 = .ok (.iconst 3, 1) := by decide +kernel
theorem dX3_event_26 : decode cX3_event 26 = .ok (.invokestatic 43, 3) := by decide +kernel
theorem dX3_event_29 : decode cX3_event 29 = .ok (.ifCond .eq 16, 3) := by decide +kernel
theorem dX3_event_32 : decode cX3_event 32 = .ok (.aload_n 0, 1) := by decide +kernel
theorem dX3_event_33 : decode cX3_event 33 = .ok (.getfield 34, 3) := by decide +kernel
theorem dX3_event_36 : decode cX3_event 36 = .ok (.iconst 4, 1) := by decide +kernel
theorem dX3_event_37 : decode cX3_event 37 = .ok (.iload_n 1, 1) := by decide +kernel
theorem dX3_event_38 : decode cX3_event 38 = .ok (.imul, 1) := by decide +kernel
theorem dX3_event_39 : decode cX3_event 39 = .ok (.iload_n 2, 1) := by decide +kernel
theorem dX3_event_40 : decode cX3_event 40 = .ok (.iadd, 1) := by decide +kernel
theorem dX3_event_41 : decode cX3_event 41 = .ok (.iaload, 1) := by decide +kernel
theorem dX3_event_42 : decode cX3_event 42 = .ok (.goto 8, 3) := by decide +kernel
theorem dX3_event_45 : decode cX3_event 45 = .ok (.aload_n 0, 1) := by decide +kernel
theorem dX3_event_46 : decode cX3_event 46 = .ok (.iconst 1, 1) := by decide +kernel
theorem dX3_event_47 : decode cX3_event 47 = .ok (.invokevirtual 77, 3) := by decide +kernel
theorem dX3_event_50 : decode cX3_event 50 = .ok (.ireturn, 1) := by decide +kernel
theorem dX3_events_0 : decode cX3_events 0 = .ok (.aload_n 0, 1) := by decide +kernel
theorem dX3_events_1 : decode cX3_events 1 = .ok (.iconst 0, 1) := by decide +kernel
theorem dX3_events_2 : decode cX3_events 2 = .ok (.putfield 37, 3) := by decide +kernel
theorem dX3_events_5 : decode cX3_events 5 = .ok (.aload_n 0, 1) := by decide +kernel
theorem dX3_events_6 : decode cX3_events 6 = .ok (.invokevirtual 186, 3) := by decide +kernel
theorem dX3_events_9 : decode cX3_events 9 = .ok (.aload_n 0, 1) := by decide +kernel
theorem dX3_events_10 : decode cX3_events 10 = .ok (.getfield 175, 3) := by decide +kernel
theorem dX3_events_13 : decode cX3_events 13 = .ok (.ireturn, 1) := by decide +kernel
theorem dX3_time_0 : decode cX3_time 0 = .ok (.aload_n 0, 1) := by decide +kernel
theorem dX3_time_1 : decode cX3_time 1 = .ok (.iload_n 1, 1) := by decide +kernel
theorem dX3_time_2 : decode cX3_time 2 = .ok (.iconst 0, 1) := by decide +kernel
theorem dX3_time_3 : decode cX3_time 3 = .ok (.ldc 189, 2) := by decide +kernel
theorem dX3_time_5 : decode cX3_time 5 = .ok (.invokestatic 43, 3) := by decide +kernel
theorem dX3_time_8 : decode cX3_time 8 = .ok (.ifCond .eq 19, 3) := by decide +kernel
theorem dX3_time_11 : decode cX3_time 11 = .ok (.iload_n 2, 1) := by decide +kernel
theorem dX3_time_12 : decode cX3_time 12 = .ok (.bipush 10, 2) := by decide +kernel
theorem dX3_time_14 : decode cX3_time 14 = .ok (.sipush 400, 3) := by decide +kernel
theorem dX3_time_17 : decode cX3_time 17 = .ok (.invokestatic 43, 3) := by decide +kernel
theorem dX3_time_20 : decode cX3_time 20 = .ok (.ifCond .eq 7, 3) := by decide +kernel
theorem dX3_time_23 : decode cX3_time 23 = .ok (.iconst 0, 1) := by decide +kernel
theorem dX3_time_24 : decode cX3_time 24 = .ok (.goto 4, 3) := by decide +kernel
theorem dX3_time_27 : decode cX3_time 27 = .ok (.iconst 1, 1) := by decide +kernel
theorem dX3_time_28 : decode cX3_time 28 = .ok (.putfield 37, 3) := by decide +kernel
theorem dX3_time_31 : decode cX3_time 31 = .ok (.aload_n 0, 1) := by decide +kernel
theorem dX3_time_32 : decode cX3_time 32 = .ok (.getfield 37, 3) := by decide +kernel
theorem dX3_time_35 : decode cX3_time 35 = .ok (.ifCond .ne 15, 3) := by decide +kernel
theorem dX3_time_38 : decode cX3_time 38 = .ok (.iload_n 1, 1) := by decide +kernel
theorem dX3_time_39 : decode cX3_time 39 = .ok (.i2l, 1) := by decide +kernel
theorem dX3_time_40 : decode cX3_time 40 = .ok (.ldc2_w 190, 3) := by decide +kernel
theorem dX3_time_43 : decode cX3_time 43 = .ok (.lmul, 1) := by decide +kernel
theorem dX3_time_44 : decode cX3_time 44 = .ok (.iload_n 2, 1) := by decide +kernel
theorem dX3_time_45 : decode cX3_time 45 = .ok (.i2l, 1) := by decide +kernel
theorem dX3_time_46 : decode cX3_time 46 = .ok (.ldiv, 1) := by decide +kernel
theorem dX3_time_47 : decode cX3_time 47 = .ok (.goto 4, 3) := by decide +kernel
theorem dX3_time_50 : decode cX3_time 50 = .ok (.lconst 0, 1) := by decide +kernel
theorem dX3_time_51 : decode cX3_time 51 = .ok (.lreturn, 1) := by decide +kernel
theorem dX3_meanTone_0 : decode cX3_meanTone 0 = .ok (.aload_n 0, 1) := by decide +kernel
theorem dX3_meanTone_1 : decode cX3_meanTone 1 = .ok (.iconst 0, 1) := by decide +kernel
theorem dX3_meanTone_2 : decode cX3_meanTone 2 = .ok (.putfield 37, 3) := by decide +kernel
theorem dX3_meanTone_5 : decode cX3_meanTone 5 = .ok (.iconst 0, 1) := by decide +kernel
theorem dX3_meanTone_6 : decode cX3_meanTone 6 = .ok (.istore_n 1, 1) := by decide +kernel
theorem dX3_meanTone_7 : decode cX3_meanTone 7 = .ok (.iconst 0, 1) := by decide +kernel
theorem dX3_meanTone_8 : decode cX3_meanTone 8 = .ok (.istore_n 2, 1) := by decide +kernel
theorem dX3_meanTone_9 : decode cX3_meanTone 9 = .ok (.iconst 0, 1) := by decide +kernel
theorem dX3_meanTone_10 : decode cX3_meanTone 10 = .ok (.istore_n 3, 1) := by decide +kernel
theorem dX3_meanTone_11 : decode cX3_meanTone 11 = .ok (.iload_n 3, 1) := by decide +kernel
theorem dX3_meanTone_12 : decode cX3_meanTone 12 = .ok (.aload_n 0, 1) := by decide +kernel
theorem dX3_meanTone_13 : decode cX3_meanTone 13 = .ok (.getfield 40, 3) := by decide +kernel
theorem dX3_meanTone_16 : decode cX3_meanTone 16 = .ok (.if_icmp .ge 71, 3) := by decide +kernel
theorem dX3_meanTone_19 : decode cX3_meanTone 19 = .ok (.iconst 0, 1) := by decide +kernel
theorem dX3_meanTone_20 : decode cX3_meanTone 20 = .ok (.istore 4, 2) := by decide +kernel
theorem dX3_meanTone_22 : decode cX3_meanTone 22 = .ok (.iload 4, 2) := by decide +kernel
theorem dX3_meanTone_24 : decode cX3_meanTone 24 = .ok (.aload_n 0, 1) := by decide +kernel
theorem dX3_meanTone_25 : decode cX3_meanTone 25 = .ok (.getfield 16, 3) := by decide +kernel
theorem dX3_meanTone_28 : decode cX3_meanTone 28 = .ok (.iload_n 3, 1) := by decide +kernel
theorem dX3_meanTone_29 : decode cX3_meanTone 29 = .ok (.iaload, 1) := by decide +kernel
theorem dX3_meanTone_30 : decode cX3_meanTone 30 = .ok (.if_icmp .ge 51, 3) := by decide +kernel
theorem dX3_meanTone_33 : decode cX3_meanTone 33 = .ok (.aload_n 0, 1) := by decide +kernel
theorem dX3_meanTone_34 : decode cX3_meanTone 34 = .ok (.iload_n 3, 1) := by decide +kernel
theorem dX3_meanTone_35 : decode cX3_meanTone 35 = .ok (.iload 4, 2) := by decide +kernel
theorem dX3_meanTone_37 : decode cX3_meanTone 37 = .ok (.iconst 2, 1) := by decide +kernel
theorem dX3_meanTone_38 : decode cX3_meanTone 38 = .ok (.invokevirtual 57, 3) := by decide +kernel
theorem dX3_meanTone_41 : decode cX3_meanTone 41 = .ok (.ifCond .ne 6, 3) := by decide +kernel
theorem dX3_meanTone_44 : decode cX3_meanTone 44 = .ok (.goto 31, 3) := by decide +kernel
theorem dX3_meanTone_47 : decode cX3_meanTone 47 = .ok (.iload_n 1, 1) := by decide +kernel
theorem dX3_meanTone_48 : decode cX3_meanTone 48 = .ok (.aload_n 0, 1) := by decide +kernel
theorem dX3_meanTone_49 : decode cX3_meanTone 49 = .ok (.iload_n 3, 1) := by decide +kernel
theorem dX3_meanTone_50 : decode cX3_meanTone 50 = .ok (.iload 4, 2) := by decide +kernel
theorem dX3_meanTone_52 : decode cX3_meanTone 52 = .ok (.invokevirtual 133, 3) := by decide +kernel
theorem dX3_meanTone_55 : decode cX3_meanTone 55 = .ok (.aload_n 0, 1) := by decide +kernel
theorem dX3_meanTone_56 : decode cX3_meanTone 56 = .ok (.iload_n 3, 1) := by decide +kernel
theorem dX3_meanTone_57 : decode cX3_meanTone 57 = .ok (.iload 4, 2) := by decide +kernel
theorem dX3_meanTone_59 : decode cX3_meanTone 59 = .ok (.invokevirtual 85, 3) := by decide +kernel
theorem dX3_meanTone_62 : decode cX3_meanTone 62 = .ok (.imul, 1) := by decide +kernel
theorem dX3_meanTone_63 : decode cX3_meanTone 63 = .ok (.iadd, 1) := by decide +kernel
theorem dX3_meanTone_64 : decode cX3_meanTone 64 = .ok (.istore_n 1, 1) := by decide +kernel
theorem dX3_meanTone_65 : decode cX3_meanTone 65 = .ok (.iload_n 2, 1) := by decide +kernel
theorem dX3_meanTone_66 : decode cX3_meanTone 66 = .ok (.aload_n 0, 1) := by decide +kernel
theorem dX3_meanTone_67 : decode cX3_meanTone 67 = .ok (.iload_n 3, 1) := by decide +kernel
theorem dX3_meanTone_68 : decode cX3_meanTone 68 = .ok (.iload 4, 2) := by decide +kernel
theorem dX3_meanTone_70 : decode cX3_meanTone 70 = .ok (.invokevirtual 85, 3) := by decide +kernel
theorem dX3_meanTone_73 : decode cX3_meanTone 73 = .ok (.iadd, 1) := by decide +kernel
theorem dX3_meanTone_74 : decode cX3_meanTone 74 = .ok (.istore_n 2, 1) := by decide +kernel
theorem dX3_meanTone_75 : decode cX3_meanTone 75 = .ok (.iinc 4 1, 3) := by decide +kernel
theorem dX3_meanTone_78 : decode cX3_meanTone 78 = .ok (.goto (-56), 3) := by decide +kernel
theorem dX3_meanTone_81 : decode cX3_meanTone 81 = .ok (.iinc 3 1, 3) := by decide +kernel
theorem dX3_meanTone_84 : decode cX3_meanTone 84 = .ok (.goto (-73), 3) := by decide +kernel
theorem dX3_meanTone_87 : decode cX3_meanTone 87 = .ok (.iload_n 2, 1) := by decide +kernel
theorem dX3_meanTone_88 : decode cX3_meanTone 88 = .ok (.ifCond .ne 7, 3) := by decide +kernel
theorem dX3_meanTone_91 : decode cX3_meanTone 91 = .ok (.dconst 0, 1) := by decide +kernel
theorem dX3_meanTone_92 : decode cX3_meanTone 92 = .ok (.goto 8, 3) := by decide +kernel
theorem dX3_meanTone_95 : decode cX3_meanTone 95 = .ok (.iload_n 1, 1) := by decide +kernel
theorem dX3_meanTone_96 : decode cX3_meanTone 96 = .ok (.i2d, 1) := by decide +kernel
theorem dX3_meanTone_97 : decode cX3_meanTone 97 = .ok (.iload_n 2, 1) := by decide +kernel
theorem dX3_meanTone_98 : decode cX3_meanTone 98 = .ok (.i2d, 1) := by decide +kernel
theorem dX3_meanTone_99 : decode cX3_meanTone 99 = .ok (.ddiv, 1) := by decide +kernel
theorem dX3_meanTone_100 : decode cX3_meanTone 100 = .ok (.dreturn, 1) := by decide +kernel
theorem dX3_digest_0 : decode cX3_digest 0 = .ok (.aload_n 0, 1) := by decide +kernel
theorem dX3_digest_1 : decode cX3_digest 1 = .ok (.iconst 0, 1) := by decide +kernel
theorem dX3_digest_2 : decode cX3_digest 2 = .ok (.putfield 37, 3) := by decide +kernel
theorem dX3_digest_5 : decode cX3_digest 5 = .ok (.ldc2_w 192, 3) := by decide +kernel
theorem dX3_digest_8 : decode cX3_digest 8 = .ok (.lstore_n 1, 1) := by decide +kernel
theorem dX3_digest_9 : decode cX3_digest 9 = .ok (.iconst 0, 1) := by decide +kernel
theorem dX3_digest_10 : decode cX3_digest 10 = .ok (.istore_n 3, 1) := by decide +kernel
theorem dX3_digest_11 : decode cX3_digest 11 = .ok (.iload_n 3, 1) := by decide +kernel
theorem dX3_digest_12 : decode cX3_digest 12 = .ok (.iconst 5, 1) := by decide +kernel
theorem dX3_digest_13 : decode cX3_digest 13 = .ok (.if_icmp .ge 22, 3) := by decide +kernel
theorem dX3_digest_16 : decode cX3_digest 16 = .ok (.lload_n 1, 1) := by decide +kernel
theorem dX3_digest_17 : decode cX3_digest 17 = .ok (.ldc2_w 194, 3) := by decide +kernel
theorem dX3_digest_20 : decode cX3_digest 20 = .ok (.lmul, 1) := by decide +kernel
theorem dX3_digest_21 : decode cX3_digest 21 = .ok (.aload_n 0, 1) := by decide +kernel
theorem dX3_digest_22 : decode cX3_digest 22 = .ok (.iload_n 3, 1) := by decide +kernel
theorem dX3_digest_23 : decode cX3_digest 23 = .ok (.invokevirtual 100, 3) := by decide +kernel
theorem dX3_digest_26 : decode cX3_digest 26 = .ok (.i2l, 1) := by decide +kernel
theorem dX3_digest_27 : decode cX3_digest 27 = .ok (.ladd, 1) := by decide +kernel
theorem dX3_digest_28 : decode cX3_digest 28 = .ok (.lstore_n 1, 1) := by decide +kernel
theorem dX3_digest_29 : decode cX3_digest 29 = .ok (.iinc 3 1, 3) := by decide +kernel
theorem dX3_digest_32 : decode cX3_digest 32 = .ok (.goto (-21), 3) := by decide +kernel
theorem dX3_digest_35 : decode cX3_digest 35 = .ok (.iconst 0, 1) := by decide +kernel
theorem dX3_digest_36 : decode cX3_digest 36 = .ok (.istore_n 3, 1) := by decide +kernel
theorem dX3_digest_37 : decode cX3_digest 37 = .ok (.iload_n 3, 1) := by decide +kernel
theorem dX3_digest_38 : decode cX3_digest 38 = .ok (.aload_n 0, 1) := by decide +kernel
theorem dX3_digest_39 : decode cX3_digest 39 = .ok (.getfield 40, 3) := by decide +kernel
theorem dX3_digest_42 : decode cX3_digest 42 = .ok (.if_icmp .ge 98, 3) := by decide +kernel
theorem dX3_digest_45 : decode cX3_digest 45 = .ok (.aload_n 0, 1) := by decide +kernel
theorem dX3_digest_46 : decode cX3_digest 46 = .ok (.iload_n 3, 1) := by decide +kernel
theorem dX3_digest_47 : decode cX3_digest 47 = .ok (.invokevirtual 145, 3) := by decide +kernel
theorem dX3_digest_50 : decode cX3_digest 50 = .ok (.iconst 0, 1) := by decide +kernel
theorem dX3_digest_51 : decode cX3_digest 51 = .ok (.istore 4, 2) := by decide +kernel
theorem dX3_digest_53 : decode cX3_digest 53 = .ok (.iload 4, 2) := by decide +kernel
theorem dX3_digest_55 : decode cX3_digest 55 = .ok (.bipush 7, 2) := by decide +kernel
theorem dX3_digest_57 : decode cX3_digest 57 = .ok (.if_icmp .ge 24, 3) := by decide +kernel
theorem dX3_digest_60 : decode cX3_digest 60 = .ok (.lload_n 1, 1) := by decide +kernel
theorem dX3_digest_61 : decode cX3_digest 61 = .ok (.ldc2_w 194, 3) := by decide +kernel
theorem dX3_digest_64 : decode cX3_digest 64 = .ok (.lmul, 1) := by decide +kernel
theorem dX3_digest_65 : decode cX3_digest 65 = .ok (.aload_n 0, 1) := by decide +kernel
theorem dX3_digest_66 : decode cX3_digest 66 = .ok (.iload_n 3, 1) := by decide +kernel
theorem dX3_digest_67 : decode cX3_digest 67 = .ok (.iload 4, 2) := by decide +kernel
theorem dX3_digest_69 : decode cX3_digest 69 = .ok (.invokevirtual 151, 3) := by decide +kernel
theorem dX3_digest_72 : decode cX3_digest 72 = .ok (.i2l, 1) := by decide +kernel
theorem dX3_digest_73 : decode cX3_digest 73 = .ok (.ladd, 1) := by decide +kernel
theorem dX3_digest_74 : decode cX3_digest 74 = .ok (.lstore_n 1, 1) := by decide +kernel
theorem dX3_digest_75 : decode cX3_digest 75 = .ok (.iinc 4 1, 3) := by decide +kernel
theorem dX3_digest_78 : decode cX3_digest 78 = .ok (.goto (-25), 3) := by decide +kernel
theorem dX3_digest_81 : decode cX3_digest 81 = .ok (.iconst 0, 1) := by decide +kernel
theorem dX3_digest_82 : decode cX3_digest 82 = .ok (.istore 4, 2) := by decide +kernel
theorem dX3_digest_84 : decode cX3_digest 84 = .ok (.iload 4, 2) := by decide +kernel
theorem dX3_digest_86 : decode cX3_digest 86 = .ok (.aload_n 0, 1) := by decide +kernel
theorem dX3_digest_87 : decode cX3_digest 87 = .ok (.getfield 16, 3) := by decide +kernel
theorem dX3_digest_90 : decode cX3_digest 90 = .ok (.iload_n 3, 1) := by decide +kernel
theorem dX3_digest_91 : decode cX3_digest 91 = .ok (.iaload, 1) := by decide +kernel
theorem dX3_digest_92 : decode cX3_digest 92 = .ok (.if_icmp .ge 42, 3) := by decide +kernel
theorem dX3_digest_95 : decode cX3_digest 95 = .ok (.iconst 0, 1) := by decide +kernel
theorem dX3_digest_96 : decode cX3_digest 96 = .ok (.istore 5, 2) := by decide +kernel
theorem dX3_digest_98 : decode cX3_digest 98 = .ok (.iload 5, 2) := by decide +kernel
theorem dX3_digest_100 : decode cX3_digest 100 = .ok (.bipush 9, 2) := by decide +kernel
theorem dX3_digest_102 : decode cX3_digest 102 = .ok (.if_icmp .ge 26, 3) := by decide +kernel
theorem dX3_digest_105 : decode cX3_digest 105 = .ok (.lload_n 1, 1) := by decide +kernel
theorem dX3_digest_106 : decode cX3_digest 106 = .ok (.ldc2_w 194, 3) := by decide +kernel
theorem dX3_digest_109 : decode cX3_digest 109 = .ok (.lmul, 1) := by decide +kernel
theorem dX3_digest_110 : decode cX3_digest 110 = .ok (.aload_n 0, 1) := by decide +kernel
theorem dX3_digest_111 : decode cX3_digest 111 = .ok (.iload_n 3, 1) := by decide +kernel
theorem dX3_digest_112 : decode cX3_digest 112 = .ok (.iload 4, 2) := by decide +kernel
theorem dX3_digest_114 : decode cX3_digest 114 = .ok (.iload 5, 2) := by decide +kernel
theorem dX3_digest_116 : decode cX3_digest 116 = .ok (.invokevirtual 148, 3) := by decide +kernel
theorem dX3_digest_119 : decode cX3_digest 119 = .ok (.i2l, 1) := by decide +kernel
theorem dX3_digest_120 : decode cX3_digest 120 = .ok (.ladd, 1) := by decide +kernel
theorem dX3_digest_121 : decode cX3_digest 121 = .ok (.lstore_n 1, 1) := by decide +kernel
theorem dX3_digest_122 : decode cX3_digest 122 = .ok (.iinc 5 1, 3) := by decide +kernel
theorem dX3_digest_125 : decode cX3_digest 125 = .ok (.goto (-27), 3) := by decide +kernel
theorem dX3_digest_128 : decode cX3_digest 128 = .ok (.iinc 4 1, 3) := by decide +kernel
theorem dX3_digest_131 : decode cX3_digest 131 = .ok (.goto (-47), 3) := by decide +kernel
theorem dX3_digest_134 : decode cX3_digest 134 = .ok (.iinc 3 1, 3) := by decide +kernel
theorem dX3_digest_137 : decode cX3_digest 137 = .ok (.goto (-100), 3) := by decide +kernel
theorem dX3_digest_140 : decode cX3_digest 140 = .ok (.aload_n 0, 1) := by decide +kernel
theorem dX3_digest_141 : decode cX3_digest 141 = .ok (.invokevirtual 186, 3) := by decide +kernel
theorem dX3_digest_144 : decode cX3_digest 144 = .ok (.lload_n 1, 1) := by decide +kernel
theorem dX3_digest_145 : decode cX3_digest 145 = .ok (.ldc2_w 194, 3) := by decide +kernel
theorem dX3_digest_148 : decode cX3_digest 148 = .ok (.lmul, 1) := by decide +kernel
theorem dX3_digest_149 : decode cX3_digest 149 = .ok (.aload_n 0, 1) := by decide +kernel
theorem dX3_digest_150 : decode cX3_digest 150 = .ok (.invokevirtual 169, 3) := by decide +kernel
theorem dX3_digest_153 : decode cX3_digest 153 = .ok (.i2l, 1) := by decide +kernel
theorem dX3_digest_154 : decode cX3_digest 154 = .ok (.ladd, 1) := by decide +kernel
theorem dX3_digest_155 : decode cX3_digest 155 = .ok (.ldc2_w 194, 3) := by decide +kernel
theorem dX3_digest_158 : decode cX3_digest 158 = .ok (.lmul, 1) := by decide +kernel
theorem dX3_digest_159 : decode cX3_digest 159 = .ok (.aload_n 0, 1) := by decide +kernel
theorem dX3_digest_160 : decode cX3_digest 160 = .ok (.getfield 175, 3) := by decide +kernel
theorem dX3_digest_163 : decode cX3_digest 163 = .ok (.i2l, 1) := by decide +kernel
theorem dX3_digest_164 : decode cX3_digest 164 = .ok (.ladd, 1) := by decide +kernel
theorem dX3_digest_165 : decode cX3_digest 165 = .ok (.lstore_n 1, 1) := by decide +kernel
theorem dX3_digest_166 : decode cX3_digest 166 = .ok (.iconst 0, 1) := by decide +kernel
theorem dX3_digest_167 : decode cX3_digest 167 = .ok (.istore_n 3, 1) := by decide +kernel
theorem dX3_digest_168 : decode cX3_digest 168 = .ok (.iload_n 3, 1) := by decide +kernel
theorem dX3_digest_169 : decode cX3_digest 169 = .ok (.iconst 4, 1) := by decide +kernel
theorem dX3_digest_170 : decode cX3_digest 170 = .ok (.aload_n 0, 1) := by decide +kernel
theorem dX3_digest_171 : decode cX3_digest 171 = .ok (.getfield 175, 3) := by decide +kernel
theorem dX3_digest_174 : decode cX3_digest 174 = .ok (.imul, 1) := by decide +kernel
theorem dX3_digest_175 : decode cX3_digest 175 = .ok (.if_icmp .ge 23, 3) := by decide +kernel
theorem dX3_digest_178 : decode cX3_digest 178 = .ok (.lload_n 1, 1) := by decide +kernel
theorem dX3_digest_179 : decode cX3_digest 179 = .ok (.ldc2_w 194, 3) := by decide +kernel
theorem dX3_digest_182 : decode cX3_digest 182 = .ok (.lmul, 1) := by decide +kernel
theorem dX3_digest_183 : decode cX3_digest 183 = .ok (.aload_n 0, 1) := by decide +kernel
theorem dX3_digest_184 : decode cX3_digest 184 = .ok (.getfield 34, 3) := by decide +kernel
theorem dX3_digest_187 : decode cX3_digest 187 = .ok (.iload_n 3, 1) := by decide +kernel
theorem dX3_digest_188 : decode cX3_digest 188 = .ok (.iaload, 1) := by decide +kernel
theorem dX3_digest_189 : decode cX3_digest 189 = .ok (.i2l, 1) := by decide +kernel
theorem dX3_digest_190 : decode cX3_digest 190 = .ok (.ladd, 1) := by decide +kernel
theorem dX3_digest_191 : decode cX3_digest 191 = .ok (.lstore_n 1, 1) := by decide +kernel
theorem dX3_digest_192 : decode cX3_digest 192 = .ok (.iinc 3 1, 3) := by decide +kernel
theorem dX3_digest_195 : decode cX3_digest 195 = .ok (.goto (-27), 3) := by decide +kernel
theorem dX3_digest_198 : decode cX3_digest 198 = .ok (.lload_n 1, 1) := by decide +kernel
theorem dX3_digest_199 : decode cX3_digest 199 = .ok (.lreturn, 1) := by decide +kernel
theorem dJ9_floorDiv_7cf53_0 : decode cJ9_floorDiv_7cf53 0 = .ok (.iload_n 0, 1) := by decide +kernel
theorem dJ9_floorDiv_7cf53_1 : decode cJ9_floorDiv_7cf53 1 = .ok (.iload_n 1, 1) := by decide +kernel
theorem dJ9_floorDiv_7cf53_2 : decode cJ9_floorDiv_7cf53 2 = .ok (.idiv, 1) := by decide +kernel
theorem dJ9_floorDiv_7cf53_3 : decode cJ9_floorDiv_7cf53 3 = .ok (.istore_n 2, 1) := by decide +kernel
theorem dJ9_floorDiv_7cf53_4 : decode cJ9_floorDiv_7cf53 4 = .ok (.iload_n 0, 1) := by decide +kernel
theorem dJ9_floorDiv_7cf53_5 : decode cJ9_floorDiv_7cf53 5 = .ok (.iload_n 1, 1) := by decide +kernel
theorem dJ9_floorDiv_7cf53_6 : decode cJ9_floorDiv_7cf53 6 = .ok (.ixor, 1) := by decide +kernel
theorem dJ9_floorDiv_7cf53_7 : decode cJ9_floorDiv_7cf53 7 = .ok (.ifCond .ge 14, 3) := by decide +kernel
theorem dJ9_floorDiv_7cf53_10 : decode cJ9_floorDiv_7cf53 10 = .ok (.iload_n 2, 1) := by decide +kernel
theorem dJ9_floorDiv_7cf53_11 : decode cJ9_floorDiv_7cf53 11 = .ok (.iload_n 1, 1) := by decide +kernel
theorem dJ9_floorDiv_7cf53_12 : decode cJ9_floorDiv_7cf53 12 = .ok (.imul, 1) := by decide +kernel
theorem dJ9_floorDiv_7cf53_13 : decode cJ9_floorDiv_7cf53 13 = .ok (.iload_n 0, 1) := by decide +kernel
theorem dJ9_floorDiv_7cf53_14 : decode cJ9_floorDiv_7cf53 14 = .ok (.if_icmp .eq 7, 3) := by decide +kernel
theorem dJ9_floorDiv_7cf53_17 : decode cJ9_floorDiv_7cf53 17 = .ok (.iload_n 2, 1) := by decide +kernel
theorem dJ9_floorDiv_7cf53_18 : decode cJ9_floorDiv_7cf53 18 = .ok (.iconst 1, 1) := by decide +kernel
theorem dJ9_floorDiv_7cf53_19 : decode cJ9_floorDiv_7cf53 19 = .ok (.isub, 1) := by decide +kernel
theorem dJ9_floorDiv_7cf53_20 : decode cJ9_floorDiv_7cf53 20 = .ok (.ireturn, 1) := by decide +kernel
theorem dJ9_floorDiv_7cf53_21 : decode cJ9_floorDiv_7cf53 21 = .ok (.iload_n 2, 1) := by decide +kernel
theorem dJ9_floorDiv_7cf53_22 : decode cJ9_floorDiv_7cf53 22 = .ok (.ireturn, 1) := by decide +kernel
theorem dJ9_floorMod_7cf53_0 : decode cJ9_floorMod_7cf53 0 = .ok (.iload_n 0, 1) := by decide +kernel
theorem dJ9_floorMod_7cf53_1 : decode cJ9_floorMod_7cf53 1 = .ok (.iload_n 1, 1) := by decide +kernel
theorem dJ9_floorMod_7cf53_2 : decode cJ9_floorMod_7cf53 2 = .ok (.irem, 1) := by decide +kernel
theorem dJ9_floorMod_7cf53_3 : decode cJ9_floorMod_7cf53 3 = .ok (.istore_n 2, 1) := by decide +kernel
theorem dJ9_floorMod_7cf53_4 : decode cJ9_floorMod_7cf53 4 = .ok (.iload_n 0, 1) := by decide +kernel
theorem dJ9_floorMod_7cf53_5 : decode cJ9_floorMod_7cf53 5 = .ok (.iload_n 1, 1) := by decide +kernel
theorem dJ9_floorMod_7cf53_6 : decode cJ9_floorMod_7cf53 6 = .ok (.ixor, 1) := by decide +kernel
theorem dJ9_floorMod_7cf53_7 : decode cJ9_floorMod_7cf53 7 = .ok (.ifCond .ge 11, 3) := by decide +kernel
theorem dJ9_floorMod_7cf53_10 : decode cJ9_floorMod_7cf53 10 = .ok (.iload_n 2, 1) := by decide +kernel
theorem dJ9_floorMod_7cf53_11 : decode cJ9_floorMod_7cf53 11 = .ok (.ifCond .eq 7, 3) := by decide +kernel
theorem dJ9_floorMod_7cf53_14 : decode cJ9_floorMod_7cf53 14 = .ok (.iload_n 2, 1) := by decide +kernel
theorem dJ9_floorMod_7cf53_15 : decode cJ9_floorMod_7cf53 15 = .ok (.iload_n 1, 1) := by decide +kernel
theorem dJ9_floorMod_7cf53_16 : decode cJ9_floorMod_7cf53 16 = .ok (.iadd, 1) := by decide +kernel
theorem dJ9_floorMod_7cf53_17 : decode cJ9_floorMod_7cf53 17 = .ok (.ireturn, 1) := by decide +kernel
theorem dJ9_floorMod_7cf53_18 : decode cJ9_floorMod_7cf53 18 = .ok (.iload_n 2, 1) := by decide +kernel
theorem dJ9_floorMod_7cf53_19 : decode cJ9_floorMod_7cf53 19 = .ok (.ireturn, 1) := by decide +kernel
theorem dJ9_max_7cf53_0 : decode cJ9_max_7cf53 0 = .ok (.iload_n 0, 1) := by decide +kernel
theorem dJ9_max_7cf53_1 : decode cJ9_max_7cf53 1 = .ok (.iload_n 1, 1) := by decide +kernel
theorem dJ9_max_7cf53_2 : decode cJ9_max_7cf53 2 = .ok (.if_icmp .lt 7, 3) := by decide +kernel
theorem dJ9_max_7cf53_5 : decode cJ9_max_7cf53 5 = .ok (.iload_n 0, 1) := by decide +kernel
theorem dJ9_max_7cf53_6 : decode cJ9_max_7cf53 6 = .ok (.goto 4, 3) := by decide +kernel
theorem dJ9_max_7cf53_9 : decode cJ9_max_7cf53 9 = .ok (.iload_n 1, 1) := by decide +kernel
theorem dJ9_max_7cf53_10 : decode cJ9_max_7cf53 10 = .ok (.ireturn, 1) := by decide +kernel
theorem dJ9_min_7cf53_0 : decode cJ9_min_7cf53 0 = .ok (.iload_n 0, 1) := by decide +kernel
theorem dJ9_min_7cf53_1 : decode cJ9_min_7cf53 1 = .ok (.iload_n 1, 1) := by decide +kernel
theorem dJ9_min_7cf53_2 : decode cJ9_min_7cf53 2 = .ok (.if_icmp .gt 7, 3) := by decide +kernel
theorem dJ9_min_7cf53_5 : decode cJ9_min_7cf53 5 = .ok (.iload_n 0, 1) := by decide +kernel
theorem dJ9_min_7cf53_6 : decode cJ9_min_7cf53 6 = .ok (.goto 4, 3) := by decide +kernel
theorem dJ9_min_7cf53_9 : decode cJ9_min_7cf53 9 = .ok (.iload_n 1, 1) := by decide +kernel
theorem dJ9_min_7cf53_10 : decode cJ9_min_7cf53 10 = .ok (.ireturn, 1) := by decide +kernel
theorem dL_setBars_0 : decode cL_setBars 0 = .ok (.aload_n 3, 1) := by decide +kernel
theorem dL_setBars_1 : decode cL_setBars 1 = .ok (.iconst 0, 1) := by decide +kernel
theorem dL_setBars_2 : decode cL_setBars 2 = .ok (.aload_n 0, 1) := by decide +kernel
theorem dL_setBars_3 : decode cL_setBars 3 = .ok (.iload_n 1, 1) := by decide +kernel
theorem dL_setBars_4 : decode cL_setBars 4 = .ok (.iload_n 2, 1) := by decide +kernel
theorem dL_setBars_5 : decode cL_setBars 5 = .ok (.invokevirtual 7, 3) := by decide +kernel
theorem dL_setBars_8 : decode cL_setBars 8 = .ok (.i2l, 1) := by decide +kernel
theorem dL_setBars_9 : decode cL_setBars 9 = .ok (.lastore, 1) := by decide +kernel
theorem dL_setBars_10 : decode cL_setBars 10 = .ok (.goto 11, 3) := by decide +kernel
theorem dL_setBars_13 : decode cL_setBars 13 = .ok (.astore 4, 2) := by decide +kernel
theorem dL_setBars_15 : decode cL_setBars 15 = .ok (.iconst 1, 1) := by decide +kernel
theorem dL_setBars_16 : decode cL_setBars 16 = .ok (.ireturn, 1) := by decide +kernel
theorem dL_setBars_17 : decode cL_setBars 17 = .ok (.astore 4, 2) := by decide +kernel
theorem dL_setBars_19 : decode cL_setBars 19 = .ok (.iconst 2, 1) := by decide +kernel
theorem dL_setBars_20 : decode cL_setBars 20 = .ok (.ireturn, 1) := by decide +kernel
theorem dL_setBars_21 : decode cL_setBars 21 = .ok (.iconst 0, 1) := by decide +kernel
theorem dL_setBars_22 : decode cL_setBars 22 = .ok (.ireturn, 1) := by decide +kernel
theorem dL_setKey_0 : decode cL_setKey 0 = .ok (.aload_n 2, 1) := by decide +kernel
theorem dL_setKey_1 : decode cL_setKey 1 = .ok (.iconst 0, 1) := by decide +kernel
theorem dL_setKey_2 : decode cL_setKey 2 = .ok (.aload_n 0, 1) := by decide +kernel
theorem dL_setKey_3 : decode cL_setKey 3 = .ok (.iload_n 1, 1) := by decide +kernel
theorem dL_setKey_4 : decode cL_setKey 4 = .ok (.invokevirtual 17, 3) := by decide +kernel
theorem dL_setKey_7 : decode cL_setKey 7 = .ok (.i2l, 1) := by decide +kernel
theorem dL_setKey_8 : decode cL_setKey 8 = .ok (.lastore, 1) := by decide +kernel
theorem dL_setKey_9 : decode cL_setKey 9 = .ok (.goto 6, 3) := by decide +kernel
theorem dL_setKey_12 : decode cL_setKey 12 = .ok (.astore_n 3, 1) := by decide +kernel
theorem dL_setKey_13 : decode cL_setKey 13 = .ok (.iconst 1, 1) := by decide +kernel
theorem dL_setKey_14 : decode cL_setKey 14 = .ok (.ireturn, 1) := by decide +kernel
theorem dL_setKey_15 : decode cL_setKey 15 = .ok (.iconst 0, 1) := by decide +kernel
theorem dL_setKey_16 : decode cL_setKey 16 = .ok (.ireturn, 1) := by decide +kernel
theorem dL_addVoice_0 : decode cL_addVoice 0 = .ok (.aload_n 1, 1) := by decide +kernel
theorem dL_addVoice_1 : decode cL_addVoice 1 = .ok (.iconst 0, 1) := by decide +kernel
theorem dL_addVoice_2 : decode cL_addVoice 2 = .ok (.aload_n 0, 1) := by decide +kernel
theorem dL_addVoice_3 : decode cL_addVoice 3 = .ok (.invokevirtual 21, 3) := by decide +kernel
theorem dL_addVoice_6 : decode cL_addVoice 6 = .ok (.i2l, 1) := by decide +kernel
theorem dL_addVoice_7 : decode cL_addVoice 7 = .ok (.lastore, 1) := by decide +kernel
theorem dL_addVoice_8 : decode cL_addVoice 8 = .ok (.goto 6, 3) := by decide +kernel
theorem dL_addVoice_11 : decode cL_addVoice 11 = .ok (.astore_n 2, 1) := by decide +kernel
theorem dL_addVoice_12 : decode cL_addVoice 12 = .ok (.iconst 1, 1) := by decide +kernel
theorem dL_addVoice_13 : decode cL_addVoice 13 = .ok (.ireturn, 1) := by decide +kernel
theorem dL_addVoice_14 : decode cL_addVoice 14 = .ok (.iconst 0, 1) := by decide +kernel
theorem dL_addVoice_15 : decode cL_addVoice 15 = .ok (.ireturn, 1) := by decide +kernel
theorem dL_score_0 : decode cL_score 0 = .ok (.aload_n 2, 1) := by decide +kernel
theorem dL_score_1 : decode cL_score 1 = .ok (.iconst 0, 1) := by decide +kernel
theorem dL_score_2 : decode cL_score 2 = .ok (.aload_n 0, 1) := by decide +kernel
theorem dL_score_3 : decode cL_score 3 = .ok (.iload_n 1, 1) := by decide +kernel
theorem dL_score_4 : decode cL_score 4 = .ok (.invokevirtual 25, 3) := by decide +kernel
theorem dL_score_7 : decode cL_score 7 = .ok (.i2l, 1) := by decide +kernel
theorem dL_score_8 : decode cL_score 8 = .ok (.lastore, 1) := by decide +kernel
theorem dL_score_9 : decode cL_score 9 = .ok (.goto 6, 3) := by decide +kernel
theorem dL_score_12 : decode cL_score 12 = .ok (.astore_n 3, 1) := by decide +kernel
theorem dL_score_13 : decode cL_score 13 = .ok (.iconst 1, 1) := by decide +kernel
theorem dL_score_14 : decode cL_score 14 = .ok (.ireturn, 1) := by decide +kernel
theorem dL_score_15 : decode cL_score 15 = .ok (.iconst 0, 1) := by decide +kernel
theorem dL_score_16 : decode cL_score 16 = .ok (.ireturn, 1) := by decide +kernel
theorem dL_sign_0 : decode cL_sign 0 = .ok (.aload_n 2, 1) := by decide +kernel
theorem dL_sign_1 : decode cL_sign 1 = .ok (.iconst 0, 1) := by decide +kernel
theorem dL_sign_2 : decode cL_sign 2 = .ok (.aload_n 0, 1) := by decide +kernel
theorem dL_sign_3 : decode cL_sign 3 = .ok (.iload_n 1, 1) := by decide +kernel
theorem dL_sign_4 : decode cL_sign 4 = .ok (.invokevirtual 30, 3) := by decide +kernel
theorem dL_sign_7 : decode cL_sign 7 = .ok (.i2l, 1) := by decide +kernel
theorem dL_sign_8 : decode cL_sign 8 = .ok (.lastore, 1) := by decide +kernel
theorem dL_sign_9 : decode cL_sign 9 = .ok (.goto 6, 3) := by decide +kernel
theorem dL_sign_12 : decode cL_sign 12 = .ok (.astore_n 3, 1) := by decide +kernel
theorem dL_sign_13 : decode cL_sign 13 = .ok (.iconst 1, 1) := by decide +kernel
theorem dL_sign_14 : decode cL_sign 14 = .ok (.ireturn, 1) := by decide +kernel
theorem dL_sign_15 : decode cL_sign 15 = .ok (.iconst 0, 1) := by decide +kernel
theorem dL_sign_16 : decode cL_sign 16 = .ok (.ireturn, 1) := by decide +kernel
theorem dL_ticks_0 : decode cL_ticks 0 = .ok (.aload_n 3, 1) := by decide +kernel
theorem dL_ticks_1 : decode cL_ticks 1 = .ok (.iconst 0, 1) := by decide +kernel
theorem dL_ticks_2 : decode cL_ticks 2 = .ok (.aload_n 0, 1) := by decide +kernel
theorem dL_ticks_3 : decode cL_ticks 3 = .ok (.iload_n 1, 1) := by decide +kernel
theorem dL_ticks_4 : decode cL_ticks 4 = .ok (.iload_n 2, 1) := by decide +kernel
theorem dL_ticks_5 : decode cL_ticks 5 = .ok (.invokevirtual 33, 3) := by decide +kernel
theorem dL_ticks_8 : decode cL_ticks 8 = .ok (.i2l, 1) := by decide +kernel
theorem dL_ticks_9 : decode cL_ticks 9 = .ok (.lastore, 1) := by decide +kernel
theorem dL_ticks_10 : decode cL_ticks 10 = .ok (.goto 7, 3) := by decide +kernel
theorem dL_ticks_13 : decode cL_ticks 13 = .ok (.astore 4, 2) := by decide +kernel
theorem dL_ticks_15 : decode cL_ticks 15 = .ok (.iconst 1, 1) := by decide +kernel
theorem dL_ticks_16 : decode cL_ticks 16 = .ok (.ireturn, 1) := by decide +kernel
theorem dL_ticks_17 : decode cL_ticks 17 = .ok (.iconst 0, 1) := by decide +kernel
theorem dL_ticks_18 : decode cL_ticks 18 = .ok (.ireturn, 1) := by decide +kernel
theorem dL_addNote_0 : decode cL_addNote 0 = .ok (.aload 8, 2) := by decide +kernel
theorem dL_addNote_2 : decode cL_addNote 2 = .ok (.iconst 0, 1) := by decide +kernel
theorem dL_addNote_3 : decode cL_addNote 3 = .ok (.aload_n 0, 1) := by decide +kernel
theorem dL_addNote_4 : decode cL_addNote 4 = .ok (.iload_n 1, 1) := by decide +kernel
theorem dL_addNote_5 : decode cL_addNote 5 = .ok (.iload_n 2, 1) := by decide +kernel
theorem dL_addNote_6 : decode cL_addNote 6 = .ok (.iload_n 3, 1) := by decide +kernel
theorem dL_addNote_7 : decode cL_addNote 7 = .ok (.iload 4, 2) := by decide +kernel
theorem dL_addNote_9 : decode cL_addNote 9 = .ok (.iload 5, 2) := by decide +kernel
theorem dL_addNote_11 : decode cL_addNote 11 = .ok (.iload 6, 2) := by decide +kernel
theorem dL_addNote_13 : decode cL_addNote 13 = .ok (.iload 7, 2) := by decide +kernel
theorem dL_addNote_15 : decode cL_addNote 15 = .ok (.invokevirtual 36, 3) := by decide +kernel
theorem dL_addNote_18 : decode cL_addNote 18 = .ok (.i2l, 1) := by decide +kernel
theorem dL_addNote_19 : decode cL_addNote 19 = .ok (.lastore, 1) := by decide +kernel
theorem dL_addNote_20 : decode cL_addNote 20 = .ok (.goto 15, 3) := by decide +kernel
theorem dL_addNote_23 : decode cL_addNote 23 = .ok (.astore 9, 2) := by decide +kernel
theorem dL_addNote_25 : decode cL_addNote 25 = .ok (.iconst 1, 1) := by decide +kernel
theorem dL_addNote_26 : decode cL_addNote 26 = .ok (.ireturn, 1) := by decide +kernel
theorem dL_addNote_27 : decode cL_addNote 27 = .ok (.astore 9, 2) := by decide +kernel
theorem dL_addNote_29 : decode cL_addNote 29 = .ok (.iconst 2, 1) := by decide +kernel
theorem dL_addNote_30 : decode cL_addNote 30 = .ok (.ireturn, 1) := by decide +kernel
theorem dL_addNote_31 : decode cL_addNote 31 = .ok (.astore 9, 2) := by decide +kernel
theorem dL_addNote_33 : decode cL_addNote 33 = .ok (.iconst 3, 1) := by decide +kernel
theorem dL_addNote_34 : decode cL_addNote 34 = .ok (.ireturn, 1) := by decide +kernel
theorem dL_addNote_35 : decode cL_addNote 35 = .ok (.iconst 0, 1) := by decide +kernel
theorem dL_addNote_36 : decode cL_addNote 36 = .ok (.ireturn, 1) := by decide +kernel
theorem dL_addRest_0 : decode cL_addRest 0 = .ok (.aload 4, 2) := by decide +kernel
theorem dL_addRest_2 : decode cL_addRest 2 = .ok (.iconst 0, 1) := by decide +kernel
theorem dL_addRest_3 : decode cL_addRest 3 = .ok (.aload_n 0, 1) := by decide +kernel
theorem dL_addRest_4 : decode cL_addRest 4 = .ok (.iload_n 1, 1) := by decide +kernel
theorem dL_addRest_5 : decode cL_addRest 5 = .ok (.iload_n 2, 1) := by decide +kernel
theorem dL_addRest_6 : decode cL_addRest 6 = .ok (.iload_n 3, 1) := by decide +kernel
theorem dL_addRest_7 : decode cL_addRest 7 = .ok (.invokevirtual 40, 3) := by decide +kernel
theorem dL_addRest_10 : decode cL_addRest 10 = .ok (.i2l, 1) := by decide +kernel
theorem dL_addRest_11 : decode cL_addRest 11 = .ok (.lastore, 1) := by decide +kernel
theorem dL_addRest_12 : decode cL_addRest 12 = .ok (.goto 15, 3) := by decide +kernel
theorem dL_addRest_15 : decode cL_addRest 15 = .ok (.astore 5, 2) := by decide +kernel
theorem dL_addRest_17 : decode cL_addRest 17 = .ok (.iconst 1, 1) := by decide +kernel
theorem dL_addRest_18 : decode cL_addRest 18 = .ok (.ireturn, 1) := by decide +kernel
theorem dL_addRest_19 : decode cL_addRest 19 = .ok (.astore 5, 2) := by decide +kernel
theorem dL_addRest_21 : decode cL_addRest 21 = .ok (.iconst 2, 1) := by decide +kernel
theorem dL_addRest_22 : decode cL_addRest 22 = .ok (.ireturn, 1) := by decide +kernel
theorem dL_addRest_23 : decode cL_addRest 23 = .ok (.astore 5, 2) := by decide +kernel
theorem dL_addRest_25 : decode cL_addRest 25 = .ok (.iconst 3, 1) := by decide +kernel
theorem dL_addRest_26 : decode cL_addRest 26 = .ok (.ireturn, 1) := by decide +kernel
theorem dL_addRest_27 : decode cL_addRest 27 = .ok (.iconst 0, 1) := by decide +kernel
theorem dL_addRest_28 : decode cL_addRest 28 = .ok (.ireturn, 1) := by decide +kernel
theorem dL_removeLast_0 : decode cL_removeLast 0 = .ok (.aload_n 2, 1) := by decide +kernel
theorem dL_removeLast_1 : decode cL_removeLast 1 = .ok (.iconst 0, 1) := by decide +kernel
theorem dL_removeLast_2 : decode cL_removeLast 2 = .ok (.aload_n 0, 1) := by decide +kernel
theorem dL_removeLast_3 : decode cL_removeLast 3 = .ok (.iload_n 1, 1) := by decide +kernel
theorem dL_removeLast_4 : decode cL_removeLast 4 = .ok (.invokevirtual 44, 3) := by decide +kernel
theorem dL_removeLast_7 : decode cL_removeLast 7 = .ok (.i2l, 1) := by decide +kernel
theorem dL_removeLast_8 : decode cL_removeLast 8 = .ok (.lastore, 1) := by decide +kernel
theorem dL_removeLast_9 : decode cL_removeLast 9 = .ok (.goto 9, 3) := by decide +kernel
theorem dL_removeLast_12 : decode cL_removeLast 12 = .ok (.astore_n 3, 1) := by decide +kernel
theorem dL_removeLast_13 : decode cL_removeLast 13 = .ok (.iconst 1, 1) := by decide +kernel
theorem dL_removeLast_14 : decode cL_removeLast 14 = .ok (.ireturn, 1) := by decide +kernel
theorem dL_removeLast_15 : decode cL_removeLast 15 = .ok (.astore_n 3, 1) := by decide +kernel
theorem dL_removeLast_16 : decode cL_removeLast 16 = .ok (.iconst 2, 1) := by decide +kernel
theorem dL_removeLast_17 : decode cL_removeLast 17 = .ok (.ireturn, 1) := by decide +kernel
theorem dL_removeLast_18 : decode cL_removeLast 18 = .ok (.iconst 0, 1) := by decide +kernel
theorem dL_removeLast_19 : decode cL_removeLast 19 = .ok (.ireturn, 1) := by decide +kernel
theorem dL_tie_0 : decode cL_tie 0 = .ok (.aload 4, 2) := by decide +kernel
theorem dL_tie_2 : decode cL_tie 2 = .ok (.iconst 0, 1) := by decide +kernel
theorem dL_tie_3 : decode cL_tie 3 = .ok (.aload_n 0, 1) := by decide +kernel
theorem dL_tie_4 : decode cL_tie 4 = .ok (.iload_n 1, 1) := by decide +kernel
theorem dL_tie_5 : decode cL_tie 5 = .ok (.iload_n 2, 1) := by decide +kernel
theorem dL_tie_6 : decode cL_tie 6 = .ok (.iload_n 3, 1) := by decide +kernel
theorem dL_tie_7 : decode cL_tie 7 = .ok (.invokevirtual 47, 3) := by decide +kernel
theorem dL_tie_10 : decode cL_tie 10 = .ok (.ifCond .eq 7, 3) := by decide +kernel
theorem dL_tie_13 : decode cL_tie 13 = .ok (.lconst 1, 1) := by decide +kernel
theorem dL_tie_14 : decode cL_tie 14 = .ok (.goto 4, 3) := by decide +kernel
theorem dL_tie_17 : decode cL_tie 17 = .ok (.lconst 0, 1) := by decide +kernel
theorem dL_tie_18 : decode cL_tie 18 = .ok (.lastore, 1) := by decide +kernel
theorem dL_tie_19 : decode cL_tie 19 = .ok (.goto 11, 3) := by decide +kernel
theorem dL_tie_22 : decode cL_tie 22 = .ok (.astore 5, 2) := by decide +kernel
theorem dL_tie_24 : decode cL_tie 24 = .ok (.iconst 1, 1) := by decide +kernel
theorem dL_tie_25 : decode cL_tie 25 = .ok (.ireturn, 1) := by decide +kernel
theorem dL_tie_26 : decode cL_tie 26 = .ok (.astore 5, 2) := by decide +kernel
theorem dL_tie_28 : decode cL_tie 28 = .ok (.iconst 2, 1) := by decide +kernel
theorem dL_tie_29 : decode cL_tie 29 = .ok (.ireturn, 1) := by decide +kernel
theorem dL_tie_30 : decode cL_tie 30 = .ok (.iconst 0, 1) := by decide +kernel
theorem dL_tie_31 : decode cL_tie 31 = .ok (.ireturn, 1) := by decide +kernel
theorem dL_element_0 : decode cL_element 0 = .ok (.aload 4, 2) := by decide +kernel
theorem dL_element_2 : decode cL_element 2 = .ok (.iconst 0, 1) := by decide +kernel
theorem dL_element_3 : decode cL_element 3 = .ok (.aload_n 0, 1) := by decide +kernel
theorem dL_element_4 : decode cL_element 4 = .ok (.iload_n 1, 1) := by decide +kernel
theorem dL_element_5 : decode cL_element 5 = .ok (.iload_n 2, 1) := by decide +kernel
theorem dL_element_6 : decode cL_element 6 = .ok (.iload_n 3, 1) := by decide +kernel
theorem dL_element_7 : decode cL_element 7 = .ok (.invokevirtual 51, 3) := by decide +kernel
theorem dL_element_10 : decode cL_element 10 = .ok (.i2l, 1) := by decide +kernel
theorem dL_element_11 : decode cL_element 11 = .ok (.lastore, 1) := by decide +kernel
theorem dL_element_12 : decode cL_element 12 = .ok (.goto 7, 3) := by decide +kernel
theorem dL_element_15 : decode cL_element 15 = .ok (.astore 5, 2) := by decide +kernel
theorem dL_element_17 : decode cL_element 17 = .ok (.iconst 1, 1) := by decide +kernel
theorem dL_element_18 : decode cL_element 18 = .ok (.ireturn, 1) := by decide +kernel
theorem dL_element_19 : decode cL_element 19 = .ok (.iconst 0, 1) := by decide +kernel
theorem dL_element_20 : decode cL_element 20 = .ok (.ireturn, 1) := by decide +kernel
theorem dL_pitch_0 : decode cL_pitch 0 = .ok (.aload 4, 2) := by decide +kernel
theorem dL_pitch_2 : decode cL_pitch 2 = .ok (.iconst 0, 1) := by decide +kernel
theorem dL_pitch_3 : decode cL_pitch 3 = .ok (.aload_n 0, 1) := by decide +kernel
theorem dL_pitch_4 : decode cL_pitch 4 = .ok (.iload_n 1, 1) := by decide +kernel
theorem dL_pitch_5 : decode cL_pitch 5 = .ok (.iload_n 2, 1) := by decide +kernel
theorem dL_pitch_6 : decode cL_pitch 6 = .ok (.iload_n 3, 1) := by decide +kernel
theorem dL_pitch_7 : decode cL_pitch 7 = .ok (.invokevirtual 54, 3) := by decide +kernel
theorem dL_pitch_10 : decode cL_pitch 10 = .ok (.i2l, 1) := by decide +kernel
theorem dL_pitch_11 : decode cL_pitch 11 = .ok (.lastore, 1) := by decide +kernel
theorem dL_pitch_12 : decode cL_pitch 12 = .ok (.goto 11, 3) := by decide +kernel
theorem dL_pitch_15 : decode cL_pitch 15 = .ok (.astore 5, 2) := by decide +kernel
theorem dL_pitch_17 : decode cL_pitch 17 = .ok (.iconst 1, 1) := by decide +kernel
theorem dL_pitch_18 : decode cL_pitch 18 = .ok (.ireturn, 1) := by decide +kernel
theorem dL_pitch_19 : decode cL_pitch 19 = .ok (.astore 5, 2) := by decide +kernel
theorem dL_pitch_21 : decode cL_pitch 21 = .ok (.iconst 2, 1) := by decide +kernel
theorem dL_pitch_22 : decode cL_pitch 22 = .ok (.ireturn, 1) := by decide +kernel
theorem dL_pitch_23 : decode cL_pitch 23 = .ok (.iconst 0, 1) := by decide +kernel
theorem dL_pitch_24 : decode cL_pitch 24 = .ok (.ireturn, 1) := by decide +kernel
theorem dL_voice_0 : decode cL_voice 0 = .ok (.aload_n 3, 1) := by decide +kernel
theorem dL_voice_1 : decode cL_voice 1 = .ok (.iconst 0, 1) := by decide +kernel
theorem dL_voice_2 : decode cL_voice 2 = .ok (.aload_n 0, 1) := by decide +kernel
theorem dL_voice_3 : decode cL_voice 3 = .ok (.iload_n 1, 1) := by decide +kernel
theorem dL_voice_4 : decode cL_voice 4 = .ok (.iload_n 2, 1) := by decide +kernel
theorem dL_voice_5 : decode cL_voice 5 = .ok (.invokevirtual 57, 3) := by decide +kernel
theorem dL_voice_8 : decode cL_voice 8 = .ok (.i2l, 1) := by decide +kernel
theorem dL_voice_9 : decode cL_voice 9 = .ok (.lastore, 1) := by decide +kernel
theorem dL_voice_10 : decode cL_voice 10 = .ok (.goto 7, 3) := by decide +kernel
theorem dL_voice_13 : decode cL_voice 13 = .ok (.astore 4, 2) := by decide +kernel
theorem dL_voice_15 : decode cL_voice 15 = .ok (.iconst 1, 1) := by decide +kernel
theorem dL_voice_16 : decode cL_voice 16 = .ok (.ireturn, 1) := by decide +kernel
theorem dL_voice_17 : decode cL_voice 17 = .ok (.iconst 0, 1) := by decide +kernel
theorem dL_voice_18 : decode cL_voice 18 = .ok (.ireturn, 1) := by decide +kernel
theorem dL_transpose_0 : decode cL_transpose 0 = .ok (.aload_n 3, 1) := by decide +kernel
theorem dL_transpose_1 : decode cL_transpose 1 = .ok (.iconst 0, 1) := by decide +kernel
theorem dL_transpose_2 : decode cL_transpose 2 = .ok (.aload_n 0, 1) := by decide +kernel
theorem dL_transpose_3 : decode cL_transpose 3 = .ok (.iload_n 1, 1) := by decide +kernel
theorem dL_transpose_4 : decode cL_transpose 4 = .ok (.iload_n 2, 1) := by decide +kernel
theorem dL_transpose_5 : decode cL_transpose 5 = .ok (.invokevirtual 60, 3) := by decide +kernel
theorem dL_transpose_8 : decode cL_transpose 8 = .ok (.i2l, 1) := by decide +kernel
theorem dL_transpose_9 : decode cL_transpose 9 = .ok (.lastore, 1) := by decide +kernel
theorem dL_transpose_10 : decode cL_transpose 10 = .ok (.goto 11, 3) := by decide +kernel
theorem dL_transpose_13 : decode cL_transpose 13 = .ok (.astore 4, 2) := by decide +kernel
theorem dL_transpose_15 : decode cL_transpose 15 = .ok (.iconst 1, 1) := by decide +kernel
theorem dL_transpose_16 : decode cL_transpose 16 = .ok (.ireturn, 1) := by decide +kernel
theorem dL_transpose_17 : decode cL_transpose 17 = .ok (.astore 4, 2) := by decide +kernel
theorem dL_transpose_19 : decode cL_transpose 19 = .ok (.iconst 2, 1) := by decide +kernel
theorem dL_transpose_20 : decode cL_transpose 20 = .ok (.ireturn, 1) := by decide +kernel
theorem dL_transpose_21 : decode cL_transpose 21 = .ok (.iconst 0, 1) := by decide +kernel
theorem dL_transpose_22 : decode cL_transpose 22 = .ok (.ireturn, 1) := by decide +kernel
theorem dL_interval_0 : decode cL_interval 0 = .ok (.aload 4, 2) := by decide +kernel
theorem dL_interval_2 : decode cL_interval 2 = .ok (.iconst 0, 1) := by decide +kernel
theorem dL_interval_3 : decode cL_interval 3 = .ok (.aload_n 0, 1) := by decide +kernel
theorem dL_interval_4 : decode cL_interval 4 = .ok (.iload_n 1, 1) := by decide +kernel
theorem dL_interval_5 : decode cL_interval 5 = .ok (.iload_n 2, 1) := by decide +kernel
theorem dL_interval_6 : decode cL_interval 6 = .ok (.iload_n 3, 1) := by decide +kernel
theorem dL_interval_7 : decode cL_interval 7 = .ok (.invokevirtual 63, 3) := by decide +kernel
theorem dL_interval_10 : decode cL_interval 10 = .ok (.i2l, 1) := by decide +kernel
theorem dL_interval_11 : decode cL_interval 11 = .ok (.lastore, 1) := by decide +kernel
theorem dL_interval_12 : decode cL_interval 12 = .ok (.goto 11, 3) := by decide +kernel
theorem dL_interval_15 : decode cL_interval 15 = .ok (.astore 5, 2) := by decide +kernel
theorem dL_interval_17 : decode cL_interval 17 = .ok (.iconst 1, 1) := by decide +kernel
theorem dL_interval_18 : decode cL_interval 18 = .ok (.ireturn, 1) := by decide +kernel
theorem dL_interval_19 : decode cL_interval 19 = .ok (.astore 5, 2) := by decide +kernel
theorem dL_interval_21 : decode cL_interval 21 = .ok (.iconst 2, 1) := by decide +kernel
theorem dL_interval_22 : decode cL_interval 22 = .ok (.ireturn, 1) := by decide +kernel
theorem dL_interval_23 : decode cL_interval 23 = .ok (.iconst 0, 1) := by decide +kernel
theorem dL_interval_24 : decode cL_interval 24 = .ok (.ireturn, 1) := by decide +kernel
theorem dL_event_0 : decode cL_event 0 = .ok (.aload_n 3, 1) := by decide +kernel
theorem dL_event_1 : decode cL_event 1 = .ok (.iconst 0, 1) := by decide +kernel
theorem dL_event_2 : decode cL_event 2 = .ok (.aload_n 0, 1) := by decide +kernel
theorem dL_event_3 : decode cL_event 3 = .ok (.iload_n 1, 1) := by decide +kernel
theorem dL_event_4 : decode cL_event 4 = .ok (.iload_n 2, 1) := by decide +kernel
theorem dL_event_5 : decode cL_event 5 = .ok (.invokevirtual 66, 3) := by decide +kernel
theorem dL_event_8 : decode cL_event 8 = .ok (.i2l, 1) := by decide +kernel
theorem dL_event_9 : decode cL_event 9 = .ok (.lastore, 1) := by decide +kernel
theorem dL_event_10 : decode cL_event 10 = .ok (.goto 7, 3) := by decide +kernel
theorem dL_event_13 : decode cL_event 13 = .ok (.astore 4, 2) := by decide +kernel
theorem dL_event_15 : decode cL_event 15 = .ok (.iconst 1, 1) := by decide +kernel
theorem dL_event_16 : decode cL_event 16 = .ok (.ireturn, 1) := by decide +kernel
theorem dL_event_17 : decode cL_event 17 = .ok (.iconst 0, 1) := by decide +kernel
theorem dL_event_18 : decode cL_event 18 = .ok (.ireturn, 1) := by decide +kernel
theorem dL_time_0 : decode cL_time 0 = .ok (.aload_n 3, 1) := by decide +kernel
theorem dL_time_1 : decode cL_time 1 = .ok (.iconst 0, 1) := by decide +kernel
theorem dL_time_2 : decode cL_time 2 = .ok (.aload_n 0, 1) := by decide +kernel
theorem dL_time_3 : decode cL_time 3 = .ok (.iload_n 1, 1) := by decide +kernel
theorem dL_time_4 : decode cL_time 4 = .ok (.iload_n 2, 1) := by decide +kernel
theorem dL_time_5 : decode cL_time 5 = .ok (.invokevirtual 69, 3) := by decide +kernel
theorem dL_time_8 : decode cL_time 8 = .ok (.lastore, 1) := by decide +kernel
theorem dL_time_9 : decode cL_time 9 = .ok (.goto 7, 3) := by decide +kernel
theorem dL_time_12 : decode cL_time 12 = .ok (.astore 4, 2) := by decide +kernel
theorem dL_time_14 : decode cL_time 14 = .ok (.iconst 1, 1) := by decide +kernel
theorem dL_time_15 : decode cL_time 15 = .ok (.ireturn, 1) := by decide +kernel
theorem dL_time_16 : decode cL_time 16 = .ok (.iconst 0, 1) := by decide +kernel
theorem dL_time_17 : decode cL_time 17 = .ok (.ireturn, 1) := by decide +kernel
theorem dL_law_0 : decode cL_law 0 = .ok (.new 8, 3) := by decide +kernel
theorem dL_law_3 : decode cL_law 3 = .ok (.dup, 1) := by decide +kernel
theorem dL_law_4 : decode cL_law 4 = .ok (.invokespecial 73, 3) := by decide +kernel
theorem dL_law_7 : decode cL_law 7 = .ok (.astore_n 1, 1) := by decide +kernel
theorem dL_law_8 : decode cL_law 8 = .ok (.new 74, 3) := by decide +kernel
theorem dL_law_11 : decode cL_law 11 = .ok (.dup, 1) := by decide +kernel
theorem dL_law_12 : decode cL_law 12 = .ok (.invokespecial 76, 3) := by decide +kernel
theorem dL_law_15 : decode cL_law 15 = .ok (.astore_n 2, 1) := by decide +kernel
theorem dL_law_16 : decode cL_law 16 = .ok (.iconst 1, 1) := by decide +kernel
theorem dL_law_17 : decode cL_law 17 = .ok (.newarray .long, 2) := by decide +kernel
theorem dL_law_19 : decode cL_law 19 = .ok (.astore_n 3, 1) := by decide +kernel
theorem dL_law_20 : decode cL_law 20 = .ok (.iconst 0, 1) := by decide +kernel
theorem dL_law_21 : decode cL_law 21 = .ok (.istore 4, 2) := by decide +kernel
theorem dL_law_23 : decode cL_law 23 = .ok (.iload 4, 2) := by decide +kernel
theorem dL_law_25 : decode cL_law 25 = .ok (.aload_n 0, 1) := by decide +kernel
theorem dL_law_26 : decode cL_law 26 = .ok (.arraylength, 1) := by decide +kernel
theorem dL_law_27 : decode cL_law 27 = .ok (.bipush 8, 2) := by decide +kernel
theorem dL_law_29 : decode cL_law 29 = .ok (.isub, 1) := by decide +kernel
theorem dL_law_30 : decode cL_law 30 = .ok (.if_icmp .gt 1443, 3) := by decide +kernel
theorem dL_law_33 : decode cL_law 33 = .ok (.aload_n 0, 1) := by decide +kernel
theorem dL_law_34 : decode cL_law 34 = .ok (.iload 4, 2) := by decide +kernel
theorem dL_law_36 : decode cL_law 36 = .ok (.iaload, 1) := by decide +kernel
theorem dL_law_37 : decode cL_law 37 = .ok (.bipush 31, 2) := by decide +kernel
theorem dL_law_39 : decode cL_law 39 = .ok (.iand, 1) := by decide +kernel
theorem dL_law_40 : decode cL_law 40 = .ok (.tableswitch 1427 0 20 #[100, 168, 224, 268, 324, 380, 448, 596, 676, 732, 835, 915, 995, 1063, 1131, 1144, 1224, 1292, 1305, 1372, 1413], 100) := by decide +kernel
theorem dL_law_140 : decode cL_law 140 = .ok (.aload_n 1, 1) := by decide +kernel
theorem dL_law_141 : decode cL_law 141 = .ok (.aload_n 0, 1) := by decide +kernel
theorem dL_law_142 : decode cL_law 142 = .ok (.iload 4, 2) := by decide +kernel
theorem dL_law_144 : decode cL_law 144 = .ok (.iconst 1, 1) := by decide +kernel
theorem dL_law_145 : decode cL_law 145 = .ok (.iadd, 1) := by decide +kernel
theorem dL_law_146 : decode cL_law 146 = .ok (.iaload, 1) := by decide +kernel
theorem dL_law_147 : decode cL_law 147 = .ok (.aload_n 0, 1) := by decide +kernel
theorem dL_law_148 : decode cL_law 148 = .ok (.iload 4, 2) := by decide +kernel
theorem dL_law_150 : decode cL_law 150 = .ok (.iconst 2, 1) := by decide +kernel
theorem dL_law_151 : decode cL_law 151 = .ok (.iadd, 1) := by decide +kernel
theorem dL_law_152 : decode cL_law 152 = .ok (.iaload, 1) := by decide +kernel
theorem dL_law_153 : decode cL_law 153 = .ok (.aload_n 3, 1) := by decide +kernel
theorem dL_law_154 : decode cL_law 154 = .ok (.invokestatic 77, 3) := by decide +kernel
theorem dL_law_157 : decode cL_law 157 = .ok (.istore 5, 2) := by decide +kernel
theorem dL_law_159 : decode cL_law 159 = .ok (.aload_n 2, 1) := by decide +kernel
theorem dL_law_160 : decode cL_law 160 = .ok (.aload_n 0, 1) := by decide +kernel
theorem dL_law_161 : decode cL_law 161 = .ok (.iload 4, 2) := by decide +kernel
theorem dL_law_163 : decode cL_law 163 = .ok (.iconst 1, 1) := by decide +kernel
theorem dL_law_164 : decode cL_law 164 = .ok (.iadd, 1) := by decide +kernel
theorem dL_law_165 : decode cL_law 165 = .ok (.iaload, 1) := by decide +kernel
theorem dL_law_166 : decode cL_law 166 = .ok (.aload_n 0, 1) := by decide +kernel
theorem dL_law_167 : decode cL_law 167 = .ok (.iload 4, 2) := by decide +kernel
theorem dL_law_169 : decode cL_law 169 = .ok (.iconst 2, 1) := by decide +kernel
theorem dL_law_170 : decode cL_law 170 = .ok (.iadd, 1) := by decide +kernel
theorem dL_law_171 : decode cL_law 171 = .ok (.iaload, 1) := by decide +kernel
theorem dL_law_172 : decode cL_law 172 = .ok (.invokevirtual 82, 3) := by decide +kernel
theorem dL_law_175 : decode cL_law 175 = .ok (.istore 6, 2) := by decide +kernel
theorem dL_law_177 : decode cL_law 177 = .ok (.aload_n 2, 1) := by decide +kernel
theorem dL_law_178 : decode cL_law 178 = .ok (.invokevirtual 83, 3) := by decide +kernel
theorem dL_law_181 : decode cL_law 181 = .ok (.iload 5, 2) := by decide +kernel
theorem dL_law_183 : decode cL_law 183 = .ok (.if_icmp .eq 5, 3) := by decide +kernel
theorem dL_law_186 : decode cL_law 186 = .ok (.iconst 0, 1) := by decide +kernel
theorem dL_law_187 : decode cL_law 187 = .ok (.ireturn, 1) := by decide +kernel
theorem dL_law_188 : decode cL_law 188 = .ok (.iload 5, 2) := by decide +kernel
theorem dL_law_190 : decode cL_law 190 = .ok (.ifCond .ne 15, 3) := by decide +kernel
theorem dL_law_193 : decode cL_law 193 = .ok (.aload_n 3, 1) := by decide +kernel
theorem dL_law_194 : decode cL_law 194 = .ok (.iconst 0, 1) := by decide +kernel
theorem dL_law_195 : decode cL_law 195 = .ok (.laload, 1) := by decide +kernel
theorem dL_law_196 : decode cL_law 196 = .ok (.iload 6, 2) := by decide +kernel
theorem dL_law_198 : decode cL_law 198 = .ok (.i2l, 1) := by decide +kernel
theorem dL_law_199 : decode cL_law 199 = .ok (.lcmp, 1) := by decide +kernel
theorem dL_law_200 : decode cL_law 200 = .ok (.ifCond .eq 5, 3) := by decide +kernel
theorem dL_law_203 : decode cL_law 203 = .ok (.iconst 0, 1) := by decide +kernel
theorem dL_law_204 : decode cL_law 204 = .ok (.ireturn, 1) := by decide +kernel
theorem dL_law_205 : decode cL_law 205 = .ok (.goto 1262, 3) := by decide +kernel
theorem dL_law_208 : decode cL_law 208 = .ok (.aload_n 1, 1) := by decide +kernel
theorem dL_law_209 : decode cL_law 209 = .ok (.aload_n 0, 1) := by decide +kernel
theorem dL_law_210 : decode cL_law 210 = .ok (.iload 4, 2) := by decide +kernel
theorem dL_law_212 : decode cL_law 212 = .ok (.iconst 1, 1) := by decide +kernel
theorem dL_law_213 : decode cL_law 213 = .ok (.iadd, 1) := by decide +kernel
theorem dL_law_214 : decode cL_law 214 = .ok (.iaload, 1) := by decide +kernel
theorem dL_law_215 : decode cL_law 215 = .ok (.aload_n 3, 1) := by decide +kernel
theorem dL_law_216 : decode cL_law 216 = .ok (.invokestatic 86, 3) := by decide +kernel
theorem dL_law_219 : decode cL_law 219 = .ok (.istore 5, 2) := by decide +kernel
theorem dL_law_221 : decode cL_law 221 = .ok (.aload_n 2, 1) := by decide +kernel
theorem dL_law_222 : decode cL_law 222 = .ok (.aload_n 0, 1) := by decide +kernel
theorem dL_law_223 : decode cL_law 223 = .ok (.iload 4, 2) := by decide +kernel
theorem dL_law_225 : decode cL_law 225 = .ok (.iconst 1, 1) := by decide +kernel
theorem dL_law_226 : decode cL_law 226 = .ok (.iadd, 1) := by decide +kernel
theorem dL_law_227 : decode cL_law 227 = .ok (.iaload, 1) := by decide +kernel
theorem dL_law_228 : decode cL_law 228 = .ok (.invokevirtual 89, 3) := by decide +kernel
theorem dL_law_231 : decode cL_law 231 = .ok (.istore 6, 2) := by decide +kernel
theorem dL_law_233 : decode cL_law 233 = .ok (.aload_n 2, 1) := by decide +kernel
theorem dL_law_234 : decode cL_law 234 = .ok (.invokevirtual 83, 3) := by decide +kernel
theorem dL_law_237 : decode cL_law 237 = .ok (.iload 5, 2) := by decide +kernel
theorem dL_law_239 : decode cL_law 239 = .ok (.if_icmp .eq 5, 3) := by decide +kernel
theorem dL_law_242 : decode cL_law 242 = .ok (.iconst 0, 1) := by decide +kernel
theorem dL_law_243 : decode cL_law 243 = .ok (.ireturn, 1) := by decide +kernel
theorem dL_law_244 : decode cL_law 244 = .ok (.iload 5, 2) := by decide +kernel
theorem dL_law_246 : decode cL_law 246 = .ok (.ifCond .ne 15, 3) := by decide +kernel
theorem dL_law_249 : decode cL_law 249 = .ok (.aload_n 3, 1) := by decide +kernel
theorem dL_law_250 : decode cL_law 250 = .ok (.iconst 0, 1) := by decide +kernel
theorem dL_law_251 : decode cL_law 251 = .ok (.laload, 1) := by decide +kernel
theorem dL_law_252 : decode cL_law 252 = .ok (.iload 6, 2) := by decide +kernel
theorem dL_law_254 : decode cL_law 254 = .ok (.i2l, 1) := by decide +kernel
theorem dL_law_255 : decode cL_law 255 = .ok (.lcmp, 1) := by decide +kernel
theorem dL_law_256 : decode cL_law 256 = .ok (.ifCond .eq 5, 3) := by decide +kernel
theorem dL_law_259 : decode cL_law 259 = .ok (.iconst 0, 1) := by decide +kernel
theorem dL_law_260 : decode cL_law 260 = .ok (.ireturn, 1) := by decide +kernel
theorem dL_law_261 : decode cL_law 261 = .ok (.goto 1206, 3) := by decide +kernel
theorem dL_law_264 : decode cL_law 264 = .ok (.aload_n 1, 1) := by decide +kernel
theorem dL_law_265 : decode cL_law 265 = .ok (.aload_n 3, 1) := by decide +kernel
theorem dL_law_266 : decode cL_law 266 = .ok (.invokestatic 90, 3) := by decide +kernel
theorem dL_law_269 : decode cL_law 269 = .ok (.istore 5, 2) := by decide +kernel
theorem dL_law_271 : decode cL_law 271 = .ok (.aload_n 2, 1) := by decide +kernel
theorem dL_law_272 : decode cL_law 272 = .ok (.invokevirtual 93, 3) := by decide +kernel
theorem dL_law_275 : decode cL_law 275 = .ok (.istore 6, 2) := by decide +kernel
theorem dL_law_277 : decode cL_law 277 = .ok (.aload_n 2, 1) := by decide +kernel
theorem dL_law_278 : decode cL_law 278 = .ok (.invokevirtual 83, 3) := by decide +kernel
theorem dL_law_281 : decode cL_law 281 = .ok (.iload 5, 2) := by decide +kernel
theorem dL_law_283 : decode cL_law 283 = .ok (.if_icmp .eq 5, 3) := by decide +kernel
theorem dL_law_286 : decode cL_law 286 = .ok (.iconst 0, 1) := by decide +kernel
theorem dL_law_287 : decode cL_law 287 = .ok (.ireturn, 1) := by decide +kernel
theorem dL_law_288 : decode cL_law 288 = .ok (.iload 5, 2) := by decide +kernel
theorem dL_law_290 : decode cL_law 290 = .ok (.ifCond .ne 15, 3) := by decide +kernel
theorem dL_law_293 : decode cL_law 293 = .ok (.aload_n 3, 1) := by decide +kernel
theorem dL_law_294 : decode cL_law 294 = .ok (.iconst 0, 1) := by decide +kernel
theorem dL_law_295 : decode cL_law 295 = .ok (.laload, 1) := by decide +kernel
theorem dL_law_296 : decode cL_law 296 = .ok (.iload 6, 2) := by decide +kernel
theorem dL_law_298 : decode cL_law 298 = .ok (.i2l, 1) := by decide +kernel
theorem dL_law_299 : decode cL_law 299 = .ok (.lcmp, 1) := by decide +kernel
theorem dL_law_300 : decode cL_law 300 = .ok (.ifCond .eq 5, 3) := by decide +kernel
theorem dL_law_303 : decode cL_law 303 = .ok (.iconst 0, 1) := by decide +kernel
theorem dL_law_304 : decode cL_law 304 = .ok (.ireturn, 1) := by decide +kernel
theorem dL_law_305 : decode cL_law 305 = .ok (.goto 1162, 3) := by decide +kernel
theorem dL_law_308 : decode cL_law 308 = .ok (.aload_n 1, 1) := by decide +kernel
theorem dL_law_309 : decode cL_law 309 = .ok (.aload_n 0, 1) := by decide +kernel
theorem dL_law_310 : decode cL_law 310 = .ok (.iload 4, 2) := by decide +kernel
theorem dL_law_312 : decode cL_law 312 = .ok (.iconst 1, 1) := by decide +kernel
theorem dL_law_313 : decode cL_law 313 = .ok (.iadd, 1) := by decide +kernel
theorem dL_law_314 : decode cL_law 314 = .ok (.iaload, 1) := by decide +kernel
theorem dL_law_315 : decode cL_law 315 = .ok (.aload_n 3, 1) := by decide +kernel
theorem dL_law_316 : decode cL_law 316 = .ok (.invokestatic 94, 3) := by decide +kernel
theorem dL_law_319 : decode cL_law 319 = .ok (.istore 5, 2) := by decide +kernel
theorem dL_law_321 : decode cL_law 321 = .ok (.aload_n 2, 1) := by decide +kernel
theorem dL_law_322 : decode cL_law 322 = .ok (.aload_n 0, 1) := by decide +kernel
theorem dL_law_323 : decode cL_law 323 = .ok (.iload 4, 2) := by decide +kernel
theorem dL_law_325 : decode cL_law 325 = .ok (.iconst 1, 1) := by decide +kernel
theorem dL_law_326 : decode cL_law 326 = .ok (.iadd, 1) := by decide +kernel
theorem dL_law_327 : decode cL_law 327 = .ok (.iaload, 1) := by decide +kernel
theorem dL_law_328 : decode cL_law 328 = .ok (.invokevirtual 96, 3) := by decide +kernel
theorem dL_law_331 : decode cL_law 331 = .ok (.istore 6, 2) := by decide +kernel
theorem dL_law_333 : decode cL_law 333 = .ok (.aload_n 2, 1) := by decide +kernel
theorem dL_law_334 : decode cL_law 334 = .ok (.invokevirtual 83, 3) := by decide +kernel
theorem dL_law_337 : decode cL_law 337 = .ok (.iload 5, 2) := by decide +kernel
theorem dL_law_339 : decode cL_law 339 = .ok (.if_icmp .eq 5, 3) := by decide +kernel
theorem dL_law_342 : decode cL_law 342 = .ok (.iconst 0, 1) := by decide +kernel
theorem dL_law_343 : decode cL_law 343 = .ok (.ireturn, 1) := by decide +kernel
theorem dL_law_344 : decode cL_law 344 = .ok (.iload 5, 2) := by decide +kernel
theorem dL_law_346 : decode cL_law 346 = .ok (.ifCond .ne 15, 3) := by decide +kernel
theorem dL_law_349 : decode cL_law 349 = .ok (.aload_n 3, 1) := by decide +kernel
theorem dL_law_350 : decode cL_law 350 = .ok (.iconst 0, 1) := by decide +kernel
theorem dL_law_351 : decode cL_law 351 = .ok (.laload, 1) := by decide +kernel
theorem dL_law_352 : decode cL_law 352 = .ok (.iload 6, 2) := by decide +kernel
theorem dL_law_354 : decode cL_law 354 = .ok (.i2l, 1) := by decide +kernel
theorem dL_law_355 : decode cL_law 355 = .ok (.lcmp, 1) := by decide +kernel
theorem dL_law_356 : decode cL_law 356 = .ok (.ifCond .eq 5, 3) := by decide +kernel
theorem dL_law_359 : decode cL_law 359 = .ok (.iconst 0, 1) := by decide +kernel
theorem dL_law_360 : decode cL_law 360 = .ok (.ireturn, 1) := by decide +kernel
theorem dL_law_361 : decode cL_law 361 = .ok (.goto 1106, 3) := by decide +kernel
theorem dL_law_364 : decode cL_law 364 = .ok (.aload_n 1, 1) := by decide +kernel
theorem dL_law_365 : decode cL_law 365 = .ok (.aload_n 0, 1) := by decide +kernel
theorem dL_law_366 : decode cL_law 366 = .ok (.iload 4, 2) := by decide +kernel
theorem dL_law_368 : decode cL_law 368 = .ok (.iconst 1, 1) := by decide +kernel
theorem dL_law_369 : decode cL_law 369 = .ok (.iadd, 1) := by decide +kernel
theorem dL_law_370 : decode cL_law 370 = .ok (.iaload, 1) := by decide +kernel
theorem dL_law_371 : decode cL_law 371 = .ok (.aload_n 3, 1) := by decide +kernel
theorem dL_law_372 : decode cL_law 372 = .ok (.invokestatic 97, 3) := by decide +kernel
theorem dL_law_375 : decode cL_law 375 = .ok (.istore 5, 2) := by decide +kernel
theorem dL_law_377 : decode cL_law 377 = .ok (.aload_n 2, 1) := by decide +kernel
theorem dL_law_378 : decode cL_law 378 = .ok (.aload_n 0, 1) := by decide +kernel
theorem dL_law_379 : decode cL_law 379 = .ok (.iload 4, 2) := by decide +kernel
theorem dL_law_381 : decode cL_law 381 = .ok (.iconst 1, 1) := by decide +kernel
theorem dL_law_382 : decode cL_law 382 = .ok (.iadd, 1) := by decide +kernel
theorem dL_law_383 : decode cL_law 383 = .ok (.iaload, 1) := by decide +kernel
theorem dL_law_384 : decode cL_law 384 = .ok (.invokevirtual 99, 3) := by decide +kernel
theorem dL_law_387 : decode cL_law 387 = .ok (.istore 6, 2) := by decide +kernel
theorem dL_law_389 : decode cL_law 389 = .ok (.aload_n 2, 1) := by decide +kernel
theorem dL_law_390 : decode cL_law 390 = .ok (.invokevirtual 83, 3) := by decide +kernel
theorem dL_law_393 : decode cL_law 393 = .ok (.iload 5, 2) := by decide +kernel
theorem dL_law_395 : decode cL_law 395 = .ok (.if_icmp .eq 5, 3) := by decide +kernel
theorem dL_law_398 : decode cL_law 398 = .ok (.iconst 0, 1) := by decide +kernel
theorem dL_law_399 : decode cL_law 399 = .ok (.ireturn, 1) := by decide +kernel
theorem dL_law_400 : decode cL_law 400 = .ok (.iload 5, 2) := by decide +kernel
theorem dL_law_402 : decode cL_law 402 = .ok (.ifCond .ne 15, 3) := by decide +kernel
theorem dL_law_405 : decode cL_law 405 = .ok (.aload_n 3, 1) := by decide +kernel
theorem dL_law_406 : decode cL_law 406 = .ok (.iconst 0, 1) := by decide +kernel
theorem dL_law_407 : decode cL_law 407 = .ok (.laload, 1) := by decide +kernel
theorem dL_law_408 : decode cL_law 408 = .ok (.iload 6, 2) := by decide +kernel
theorem dL_law_410 : decode cL_law 410 = .ok (.i2l, 1) := by decide +kernel
theorem dL_law_411 : decode cL_law 411 = .ok (.lcmp, 1) := by decide +kernel
theorem dL_law_412 : decode cL_law 412 = .ok (.ifCond .eq 5, 3) := by decide +kernel
theorem dL_law_415 : decode cL_law 415 = .ok (.iconst 0, 1) := by decide +kernel
theorem dL_law_416 : decode cL_law 416 = .ok (.ireturn, 1) := by decide +kernel
theorem dL_law_417 : decode cL_law 417 = .ok (.goto 1050, 3) := by decide +kernel
theorem dL_law_420 : decode cL_law 420 = .ok (.aload_n 1, 1) := by decide +kernel
theorem dL_law_421 : decode cL_law 421 = .ok (.aload_n 0, 1) := by decide +kernel
theorem dL_law_422 : decode cL_law 422 = .ok (.iload 4, 2) := by decide +kernel
theorem dL_law_424 : decode cL_law 424 = .ok (.iconst 1, 1) := by decide +kernel
theorem dL_law_425 : decode cL_law 425 = .ok (.iadd, 1) := by decide +kernel
theorem dL_law_426 : decode cL_law 426 = .ok (.iaload, 1) := by decide +kernel
theorem dL_law_427 : decode cL_law 427 = .ok (.aload_n 0, 1) := by decide +kernel
theorem dL_law_428 : decode cL_law 428 = .ok (.iload 4, 2) := by decide +kernel
theorem dL_law_430 : decode cL_law 430 = .ok (.iconst 2, 1) := by decide +kernel
theorem dL_law_431 : decode cL_law 431 = .ok (.iadd, 1) := by decide +kernel
theorem dL_law_432 : decode cL_law 432 = .ok (.iaload, 1) := by decide +kernel
theorem dL_law_433 : decode cL_law 433 = .ok (.aload_n 3, 1) := by decide +kernel
theorem dL_law_434 : decode cL_law 434 = .ok (.invokestatic 100, 3) := by decide +kernel
theorem dL_law_437 : decode cL_law 437 = .ok (.istore 5, 2) := by decide +kernel
theorem dL_law_439 : decode cL_law 439 = .ok (.aload_n 2, 1) := by decide +kernel
theorem dL_law_440 : decode cL_law 440 = .ok (.aload_n 0, 1) := by decide +kernel
theorem dL_law_441 : decode cL_law 441 = .ok (.iload 4, 2) := by decide +kernel
theorem dL_law_443 : decode cL_law 443 = .ok (.iconst 1, 1) := by decide +kernel
theorem dL_law_444 : decode cL_law 444 = .ok (.iadd, 1) := by decide +kernel
theorem dL_law_445 : decode cL_law 445 = .ok (.iaload, 1) := by decide +kernel
theorem dL_law_446 : decode cL_law 446 = .ok (.aload_n 0, 1) := by decide +kernel
theorem dL_law_447 : decode cL_law 447 = .ok (.iload 4, 2) := by decide +kernel
theorem dL_law_449 : decode cL_law 449 = .ok (.iconst 2, 1) := by decide +kernel
theorem dL_law_450 : decode cL_law 450 = .ok (.iadd, 1) := by decide +kernel
theorem dL_law_451 : decode cL_law 451 = .ok (.iaload, 1) := by decide +kernel
theorem dL_law_452 : decode cL_law 452 = .ok (.invokevirtual 102, 3) := by decide +kernel
theorem dL_law_455 : decode cL_law 455 = .ok (.istore 6, 2) := by decide +kernel
theorem dL_law_457 : decode cL_law 457 = .ok (.aload_n 2, 1) := by decide +kernel
theorem dL_law_458 : decode cL_law 458 = .ok (.invokevirtual 83, 3) := by decide +kernel
theorem dL_law_461 : decode cL_law 461 = .ok (.iload 5, 2) := by decide +kernel
theorem dL_law_463 : decode cL_law 463 = .ok (.if_icmp .eq 5, 3) := by decide +kernel
theorem dL_law_466 : decode cL_law 466 = .ok (.iconst 0, 1) := by decide +kernel
theorem dL_law_467 : decode cL_law 467 = .ok (.ireturn, 1) := by decide +kernel
theorem dL_law_468 : decode cL_law 468 = .ok (.iload 5, 2) := by decide +kernel
theorem dL_law_470 : decode cL_law 470 = .ok (.ifCond .ne 15, 3) := by decide +kernel
theorem dL_law_473 : decode cL_law 473 = .ok (.aload_n 3, 1) := by decide +kernel
theorem dL_law_474 : decode cL_law 474 = .ok (.iconst 0, 1) := by decide +kernel
theorem dL_law_475 : decode cL_law 475 = .ok (.laload, 1) := by decide +kernel
theorem dL_law_476 : decode cL_law 476 = .ok (.iload 6, 2) := by decide +kernel
theorem dL_law_478 : decode cL_law 478 = .ok (.i2l, 1) := by decide +kernel
theorem dL_law_479 : decode cL_law 479 = .ok (.lcmp, 1) := by decide +kernel
theorem dL_law_480 : decode cL_law 480 = .ok (.ifCond .eq 5, 3) := by decide +kernel
theorem dL_law_483 : decode cL_law 483 = .ok (.iconst 0, 1) := by decide +kernel
theorem dL_law_484 : decode cL_law 484 = .ok (.ireturn, 1) := by decide +kernel
theorem dL_law_485 : decode cL_law 485 = .ok (.goto 982, 3) := by decide +kernel
theorem dL_law_488 : decode cL_law 488 = .ok (.aload_n 1, 1) := by decide +kernel
theorem dL_law_489 : decode cL_law 489 = .ok (.aload_n 0, 1) := by decide +kernel
theorem dL_law_490 : decode cL_law 490 = .ok (.iload 4, 2) := by decide +kernel
theorem dL_law_492 : decode cL_law 492 = .ok (.iconst 1, 1) := by decide +kernel
theorem dL_law_493 : decode cL_law 493 = .ok (.iadd, 1) := by decide +kernel
theorem dL_law_494 : decode cL_law 494 = .ok (.iaload, 1) := by decide +kernel
theorem dL_law_495 : decode cL_law 495 = .ok (.aload_n 0, 1) := by decide +kernel
theorem dL_law_496 : decode cL_law 496 = .ok (.iload 4, 2) := by decide +kernel
theorem dL_law_498 : decode cL_law 498 = .ok (.iconst 2, 1) := by decide +kernel
theorem dL_law_499 : decode cL_law 499 = .ok (.iadd, 1) := by decide +kernel
theorem dL_law_500 : decode cL_law 500 = .ok (.iaload, 1) := by decide +kernel
theorem dL_law_501 : decode cL_law 501 = .ok (.aload_n 0, 1) := by decide +kernel
theorem dL_law_502 : decode cL_law 502 = .ok (.iload 4, 2) := by decide +kernel
theorem dL_law_504 : decode cL_law 504 = .ok (.iconst 3, 1) := by decide +kernel
theorem dL_law_505 : decode cL_law 505 = .ok (.iadd, 1) := by decide +kernel
theorem dL_law_506 : decode cL_law 506 = .ok (.iaload, 1) := by decide +kernel
theorem dL_law_507 : decode cL_law 507 = .ok (.aload_n 0, 1) := by decide +kernel
theorem dL_law_508 : decode cL_law 508 = .ok (.iload 4, 2) := by decide +kernel
theorem dL_law_510 : decode cL_law 510 = .ok (.iconst 4, 1) := by decide +kernel
theorem dL_law_511 : decode cL_law 511 = .ok (.iadd, 1) := by decide +kernel
theorem dL_law_512 : decode cL_law 512 = .ok (.iaload, 1) := by decide +kernel
theorem dL_law_513 : decode cL_law 513 = .ok (.aload_n 0, 1) := by decide +kernel
theorem dL_law_514 : decode cL_law 514 = .ok (.iload 4, 2) := by decide +kernel
theorem dL_law_516 : decode cL_law 516 = .ok (.iconst 5, 1) := by decide +kernel
theorem dL_law_517 : decode cL_law 517 = .ok (.iadd, 1) := by decide +kernel
theorem dL_law_518 : decode cL_law 518 = .ok (.iaload, 1) := by decide +kernel
theorem dL_law_519 : decode cL_law 519 = .ok (.aload_n 0, 1) := by decide +kernel
theorem dL_law_520 : decode cL_law 520 = .ok (.iload 4, 2) := by decide +kernel
theorem dL_law_522 : decode cL_law 522 = .ok (.bipush 6, 2) := by decide +kernel
theorem dL_law_524 : decode cL_law 524 = .ok (.iadd, 1) := by decide +kernel
theorem dL_law_525 : decode cL_law 525 = .ok (.iaload, 1) := by decide +kernel
theorem dL_law_526 : decode cL_law 526 = .ok (.aload_n 0, 1) := by decide +kernel
theorem dL_law_527 : decode cL_law 527 = .ok (.iload 4, 2) := by decide +kernel
theorem dL_law_529 : decode cL_law 529 = .ok (.bipush 7, 2) := by decide +kernel
theorem dL_law_531 : decode cL_law 531 = .ok (.iadd, 1) := by decide +kernel
theorem dL_law_532 : decode cL_law 532 = .ok (.iaload, 1) := by decide +kernel
theorem dL_law_533 : decode cL_law 533 = .ok (.ifCond .eq 7, 3) := by decide +kernel
theorem dL_law_536 : decode cL_law 536 = .ok (.iconst 1, 1) := by decide +kernel
theorem dL_law_537 : decode cL_law 537 = .ok (.goto 4, 3) := by decide +kernel
theorem dL_law_540 : decode cL_law 540 = .ok (.iconst 0, 1) := by decide +kernel
theorem dL_law_541 : decode cL_law 541 = .ok (.aload_n 3, 1) := by decide +kernel
theorem dL_law_542 : decode cL_law 542 = .ok (.invokestatic 103, 3) := by decide +kernel
theorem dL_law_545 : decode cL_law 545 = .ok (.istore 5, 2) := by decide +kernel
theorem dL_law_547 : decode cL_law 547 = .ok (.aload_n 2, 1) := by decide +kernel
theorem dL_law_548 : decode cL_law 548 = .ok (.aload_n 0, 1) := by decide +kernel
theorem dL_law_549 : decode cL_law 549 = .ok (.iload 4, 2) := by decide +kernel
theorem dL_law_551 : decode cL_law 551 = .ok (.iconst 1, 1) := by decide +kernel
theorem dL_law_552 : decode cL_law 552 = .ok (.iadd, 1) := by decide +kernel
theorem dL_law_553 : decode cL_law 553 = .ok (.iaload, 1) := by decide +kernel
theorem dL_law_554 : decode cL_law 554 = .ok (.aload_n 0, 1) := by decide +kernel
theorem dL_law_555 : decode cL_law 555 = .ok (.iload 4, 2) := by decide +kernel
theorem dL_law_557 : decode cL_law 557 = .ok (.iconst 2, 1) := by decide +kernel
theorem dL_law_558 : decode cL_law 558 = .ok (.iadd, 1) := by decide +kernel
theorem dL_law_559 : decode cL_law 559 = .ok (.iaload, 1) := by decide +kernel
theorem dL_law_560 : decode cL_law 560 = .ok (.aload_n 0, 1) := by decide +kernel
theorem dL_law_561 : decode cL_law 561 = .ok (.iload 4, 2) := by decide +kernel
theorem dL_law_563 : decode cL_law 563 = .ok (.iconst 3, 1) := by decide +kernel
theorem dL_law_564 : decode cL_law 564 = .ok (.iadd, 1) := by decide +kernel
theorem dL_law_565 : decode cL_law 565 = .ok (.iaload, 1) := by decide +kernel
theorem dL_law_566 : decode cL_law 566 = .ok (.aload_n 0, 1) := by decide +kernel
theorem dL_law_567 : decode cL_law 567 = .ok (.iload 4, 2) := by decide +kernel
theorem dL_law_569 : decode cL_law 569 = .ok (.iconst 4, 1) := by decide +kernel
theorem dL_law_570 : decode cL_law 570 = .ok (.iadd, 1) := by decide +kernel
theorem dL_law_571 : decode cL_law 571 = .ok (.iaload, 1) := by decide +kernel
theorem dL_law_572 : decode cL_law 572 = .ok (.aload_n 0, 1) := by decide +kernel
theorem dL_law_573 : decode cL_law 573 = .ok (.iload 4, 2) := by decide +kernel
theorem dL_law_575 : decode cL_law 575 = .ok (.iconst 5, 1) := by decide +kernel
theorem dL_law_576 : decode cL_law 576 = .ok (.iadd, 1) := by decide +kernel
theorem dL_law_577 : decode cL_law 577 = .ok (.iaload, 1) := by decide +kernel
theorem dL_law_578 : decode cL_law 578 = .ok (.aload_n 0, 1) := by decide +kernel
theorem dL_law_579 : decode cL_law 579 = .ok (.iload 4, 2) := by decide +kernel
theorem dL_law_581 : decode cL_law 581 = .ok (.bipush 6, 2) := by decide +kernel
theorem dL_law_583 : decode cL_law 583 = .ok (.iadd, 1) := by decide +kernel
theorem dL_law_584 : decode cL_law 584 = .ok (.iaload, 1) := by decide +kernel
theorem dL_law_585 : decode cL_law 585 = .ok (.aload_n 0, 1) := by decide +kernel
theorem dL_law_586 : decode cL_law 586 = .ok (.iload 4, 2) := by decide +kernel
theorem dL_law_588 : decode cL_law 588 = .ok (.bipush 7, 2) := by decide +kernel
theorem dL_law_590 : decode cL_law 590 = .ok (.iadd, 1) := by decide +kernel
theorem dL_law_591 : decode cL_law 591 = .ok (.iaload, 1) := by decide +kernel
theorem dL_law_592 : decode cL_law 592 = .ok (.ifCond .eq 7, 3) := by decide +kernel
theorem dL_law_595 : decode cL_law 595 = .ok (.iconst 1, 1) := by decide +kernel
theorem dL_law_596 : decode cL_law 596 = .ok (.goto 4, 3) := by decide +kernel
theorem dL_law_599 : decode cL_law 599 = .ok (.iconst 0, 1) := by decide +kernel
theorem dL_law_600 : decode cL_law 600 = .ok (.invokevirtual 106, 3) := by decide +kernel
theorem dL_law_603 : decode cL_law 603 = .ok (.istore 6, 2) := by decide +kernel
theorem dL_law_605 : decode cL_law 605 = .ok (.aload_n 2, 1) := by decide +kernel
theorem dL_law_606 : decode cL_law 606 = .ok (.invokevirtual 83, 3) := by decide +kernel
theorem dL_law_609 : decode cL_law 609 = .ok (.iload 5, 2) := by decide +kernel
theorem dL_law_611 : decode cL_law 611 = .ok (.if_icmp .eq 5, 3) := by decide +kernel
theorem dL_law_614 : decode cL_law 614 = .ok (.iconst 0, 1) := by decide +kernel
theorem dL_law_615 : decode cL_law 615 = .ok (.ireturn, 1) := by decide +kernel
theorem dL_law_616 : decode cL_law 616 = .ok (.iload 5, 2) := by decide +kernel
theorem dL_law_618 : decode cL_law 618 = .ok (.ifCond .ne 15, 3) := by decide +kernel
theorem dL_law_621 : decode cL_law 621 = .ok (.aload_n 3, 1) := by decide +kernel
theorem dL_law_622 : decode cL_law 622 = .ok (.iconst 0, 1) := by decide +kernel
theorem dL_law_623 : decode cL_law 623 = .ok (.laload, 1) := by decide +kernel
theorem dL_law_624 : decode cL_law 624 = .ok (.iload 6, 2) := by decide +kernel
theorem dL_law_626 : decode cL_law 626 = .ok (.i2l, 1) := by decide +kernel
theorem dL_law_627 : decode cL_law 627 = .ok (.lcmp, 1) := by decide +kernel
theorem dL_law_628 : decode cL_law 628 = .ok (.ifCond .eq 5, 3) := by decide +kernel
theorem dL_law_631 : decode cL_law 631 = .ok (.iconst 0, 1) := by decide +kernel
theorem dL_law_632 : decode cL_law 632 = .ok (.ireturn, 1) := by decide +kernel
theorem dL_law_633 : decode cL_law 633 = .ok (.goto 834, 3) := by decide +kernel
theorem dL_law_636 : decode cL_law 636 = .ok (.aload_n 1, 1) := by decide +kernel
theorem dL_law_637 : decode cL_law 637 = .ok (.aload_n 0, 1) := by decide +kernel
theorem dL_law_638 : decode cL_law 638 = .ok (.iload 4, 2) := by decide +kernel
theorem dL_law_640 : decode cL_law 640 = .ok (.iconst 1, 1) := by decide +kernel
theorem dL_law_641 : decode cL_law 641 = .ok (.iadd, 1) := by decide +kernel
theorem dL_law_642 : decode cL_law 642 = .ok (.iaload, 1) := by decide +kernel
theorem dL_law_643 : decode cL_law 643 = .ok (.aload_n 0, 1) := by decide +kernel
theorem dL_law_644 : decode cL_law 644 = .ok (.iload 4, 2) := by decide +kernel
theorem dL_law_646 : decode cL_law 646 = .ok (.iconst 2, 1) := by decide +kernel
theorem dL_law_647 : decode cL_law 647 = .ok (.iadd, 1) := by decide +kernel
theorem dL_law_648 : decode cL_law 648 = .ok (.iaload, 1) := by decide +kernel
theorem dL_law_649 : decode cL_law 649 = .ok (.aload_n 0, 1) := by decide +kernel
theorem dL_law_650 : decode cL_law 650 = .ok (.iload 4, 2) := by decide +kernel
theorem dL_law_652 : decode cL_law 652 = .ok (.iconst 3, 1) := by decide +kernel
theorem dL_law_653 : decode cL_law 653 = .ok (.iadd, 1) := by decide +kernel
theorem dL_law_654 : decode cL_law 654 = .ok (.iaload, 1) := by decide +kernel
theorem dL_law_655 : decode cL_law 655 = .ok (.aload_n 3, 1) := by decide +kernel
theorem dL_law_656 : decode cL_law 656 = .ok (.invokestatic 107, 3) := by decide +kernel
theorem dL_law_659 : decode cL_law 659 = .ok (.istore 5, 2) := by decide +kernel
theorem dL_law_661 : decode cL_law 661 = .ok (.aload_n 2, 1) := by decide +kernel
theorem dL_law_662 : decode cL_law 662 = .ok (.aload_n 0, 1) := by decide +kernel
theorem dL_law_663 : decode cL_law 663 = .ok (.iload 4, 2) := by decide +kernel
theorem dL_law_665 : decode cL_law 665 = .ok (.iconst 1, 1) := by decide +kernel
theorem dL_law_666 : decode cL_law 666 = .ok (.iadd, 1) := by decide +kernel
theorem dL_law_667 : decode cL_law 667 = .ok (.iaload, 1) := by decide +kernel
theorem dL_law_668 : decode cL_law 668 = .ok (.aload_n 0, 1) := by decide +kernel
theorem dL_law_669 : decode cL_law 669 = .ok (.iload 4, 2) := by decide +kernel
theorem dL_law_671 : decode cL_law 671 = .ok (.iconst 2, 1) := by decide +kernel
theorem dL_law_672 : decode cL_law 672 = .ok (.iadd, 1) := by decide +kernel
theorem dL_law_673 : decode cL_law 673 = .ok (.iaload, 1) := by decide +kernel
theorem dL_law_674 : decode cL_law 674 = .ok (.aload_n 0, 1) := by decide +kernel
theorem dL_law_675 : decode cL_law 675 = .ok (.iload 4, 2) := by decide +kernel
theorem dL_law_677 : decode cL_law 677 = .ok (.iconst 3, 1) := by decide +kernel
theorem dL_law_678 : decode cL_law 678 = .ok (.iadd, 1) := by decide +kernel
theorem dL_law_679 : decode cL_law 679 = .ok (.iaload, 1) := by decide +kernel
theorem dL_law_680 : decode cL_law 680 = .ok (.invokevirtual 110, 3) := by decide +kernel
theorem dL_law_683 : decode cL_law 683 = .ok (.istore 6, 2) := by decide +kernel
theorem dL_law_685 : decode cL_law 685 = .ok (.aload_n 2, 1) := by decide +kernel
theorem dL_law_686 : decode cL_law 686 = .ok (.invokevirtual 83, 3) := by decide +kernel
theorem dL_law_689 : decode cL_law 689 = .ok (.iload 5, 2) := by decide +kernel
theorem dL_law_691 : decode cL_law 691 = .ok (.if_icmp .eq 5, 3) := by decide +kernel
theorem dL_law_694 : decode cL_law 694 = .ok (.iconst 0, 1) := by decide +kernel
theorem dL_law_695 : decode cL_law 695 = .ok (.ireturn, 1) := by decide +kernel
theorem dL_law_696 : decode cL_law 696 = .ok (.iload 5, 2) := by decide +kernel
theorem dL_law_698 : decode cL_law 698 = .ok (.ifCond .ne 15, 3) := by decide +kernel
theorem dL_law_701 : decode cL_law 701 = .ok (.aload_n 3, 1) := by decide +kernel
theorem dL_law_702 : decode cL_law 702 = .ok (.iconst 0, 1) := by decide +kernel
theorem dL_law_703 : decode cL_law 703 = .ok (.laload, 1) := by decide +kernel
theorem dL_law_704 : decode cL_law 704 = .ok (.iload 6, 2) := by decide +kernel
theorem dL_law_706 : decode cL_law 706 = .ok (.i2l, 1) := by decide +kernel
theorem dL_law_707 : decode cL_law 707 = .ok (.lcmp, 1) := by decide +kernel
theorem dL_law_708 : decode cL_law 708 = .ok (.ifCond .eq 5, 3) := by decide +kernel
theorem dL_law_711 : decode cL_law 711 = .ok (.iconst 0, 1) := by decide +kernel
theorem dL_law_712 : decode cL_law 712 = .ok (.ireturn, 1) := by decide +kernel
theorem dL_law_713 : decode cL_law 713 = .ok (.goto 754, 3) := by decide +kernel
theorem dL_law_716 : decode cL_law 716 = .ok (.aload_n 1, 1) := by decide +kernel
theorem dL_law_717 : decode cL_law 717 = .ok (.aload_n 0, 1) := by decide +kernel
theorem dL_law_718 : decode cL_law 718 = .ok (.iload 4, 2) := by decide +kernel
theorem dL_law_720 : decode cL_law 720 = .ok (.iconst 1, 1) := by decide +kernel
theorem dL_law_721 : decode cL_law 721 = .ok (.iadd, 1) := by decide +kernel
theorem dL_law_722 : decode cL_law 722 = .ok (.iaload, 1) := by decide +kernel
theorem dL_law_723 : decode cL_law 723 = .ok (.aload_n 3, 1) := by decide +kernel
theorem dL_law_724 : decode cL_law 724 = .ok (.invokestatic 111, 3) := by decide +kernel
theorem dL_law_727 : decode cL_law 727 = .ok (.istore 5, 2) := by decide +kernel
theorem dL_law_729 : decode cL_law 729 = .ok (.aload_n 2, 1) := by decide +kernel
theorem dL_law_730 : decode cL_law 730 = .ok (.aload_n 0, 1) := by decide +kernel
theorem dL_law_731 : decode cL_law 731 = .ok (.iload 4, 2) := by decide +kernel
theorem dL_law_733 : decode cL_law 733 = .ok (.iconst 1, 1) := by decide +kernel
theorem dL_law_734 : decode cL_law 734 = .ok (.iadd, 1) := by decide +kernel
theorem dL_law_735 : decode cL_law 735 = .ok (.iaload, 1) := by decide +kernel
theorem dL_law_736 : decode cL_law 736 = .ok (.invokevirtual 113, 3) := by decide +kernel
theorem dL_law_739 : decode cL_law 739 = .ok (.istore 6, 2) := by decide +kernel
theorem dL_law_741 : decode cL_law 741 = .ok (.aload_n 2, 1) := by decide +kernel
theorem dL_law_742 : decode cL_law 742 = .ok (.invokevirtual 83, 3) := by decide +kernel
theorem dL_law_745 : decode cL_law 745 = .ok (.iload 5, 2) := by decide +kernel
theorem dL_law_747 : decode cL_law 747 = .ok (.if_icmp .eq 5, 3) := by decide +kernel
theorem dL_law_750 : decode cL_law 750 = .ok (.iconst 0, 1) := by decide +kernel
theorem dL_law_751 : decode cL_law 751 = .ok (.ireturn, 1) := by decide +kernel
theorem dL_law_752 : decode cL_law 752 = .ok (.iload 5, 2) := by decide +kernel
theorem dL_law_754 : decode cL_law 754 = .ok (.ifCond .ne 15, 3) := by decide +kernel
theorem dL_law_757 : decode cL_law 757 = .ok (.aload_n 3, 1) := by decide +kernel
theorem dL_law_758 : decode cL_law 758 = .ok (.iconst 0, 1) := by decide +kernel
theorem dL_law_759 : decode cL_law 759 = .ok (.laload, 1) := by decide +kernel
theorem dL_law_760 : decode cL_law 760 = .ok (.iload 6, 2) := by decide +kernel
theorem dL_law_762 : decode cL_law 762 = .ok (.i2l, 1) := by decide +kernel
theorem dL_law_763 : decode cL_law 763 = .ok (.lcmp, 1) := by decide +kernel
theorem dL_law_764 : decode cL_law 764 = .ok (.ifCond .eq 5, 3) := by decide +kernel
theorem dL_law_767 : decode cL_law 767 = .ok (.iconst 0, 1) := by decide +kernel
theorem dL_law_768 : decode cL_law 768 = .ok (.ireturn, 1) := by decide +kernel
theorem dL_law_769 : decode cL_law 769 = .ok (.goto 698, 3) := by decide +kernel
theorem dL_law_772 : decode cL_law 772 = .ok (.aload_n 1, 1) := by decide +kernel
theorem dL_law_773 : decode cL_law 773 = .ok (.aload_n 0, 1) := by decide +kernel
theorem dL_law_774 : decode cL_law 774 = .ok (.iload 4, 2) := by decide +kernel
theorem dL_law_776 : decode cL_law 776 = .ok (.iconst 1, 1) := by decide +kernel
theorem dL_law_777 : decode cL_law 777 = .ok (.iadd, 1) := by decide +kernel
theorem dL_law_778 : decode cL_law 778 = .ok (.iaload, 1) := by decide +kernel
theorem dL_law_779 : decode cL_law 779 = .ok (.aload_n 0, 1) := by decide +kernel
theorem dL_law_780 : decode cL_law 780 = .ok (.iload 4, 2) := by decide +kernel
theorem dL_law_782 : decode cL_law 782 = .ok (.iconst 2, 1) := by decide +kernel
theorem dL_law_783 : decode cL_law 783 = .ok (.iadd, 1) := by decide +kernel
theorem dL_law_784 : decode cL_law 784 = .ok (.iaload, 1) := by decide +kernel
theorem dL_law_785 : decode cL_law 785 = .ok (.aload_n 0, 1) := by decide +kernel
theorem dL_law_786 : decode cL_law 786 = .ok (.iload 4, 2) := by decide +kernel
theorem dL_law_788 : decode cL_law 788 = .ok (.iconst 3, 1) := by decide +kernel
theorem dL_law_789 : decode cL_law 789 = .ok (.iadd, 1) := by decide +kernel
theorem dL_law_790 : decode cL_law 790 = .ok (.iaload, 1) := by decide +kernel
theorem dL_law_791 : decode cL_law 791 = .ok (.ifCond .eq 7, 3) := by decide +kernel
theorem dL_law_794 : decode cL_law 794 = .ok (.iconst 1, 1) := by decide +kernel
theorem dL_law_795 : decode cL_law 795 = .ok (.goto 4, 3) := by decide +kernel
theorem dL_law_798 : decode cL_law 798 = .ok (.iconst 0, 1) := by decide +kernel
theorem dL_law_799 : decode cL_law 799 = .ok (.aload_n 3, 1) := by decide +kernel
theorem dL_law_800 : decode cL_law 800 = .ok (.invokestatic 114, 3) := by decide +kernel
theorem dL_law_803 : decode cL_law 803 = .ok (.istore 5, 2) := by decide +kernel
theorem dL_law_805 : decode cL_law 805 = .ok (.aload_n 2, 1) := by decide +kernel
theorem dL_law_806 : decode cL_law 806 = .ok (.aload_n 0, 1) := by decide +kernel
theorem dL_law_807 : decode cL_law 807 = .ok (.iload 4, 2) := by decide +kernel
theorem dL_law_809 : decode cL_law 809 = .ok (.iconst 1, 1) := by decide +kernel
theorem dL_law_810 : decode cL_law 810 = .ok (.iadd, 1) := by decide +kernel
theorem dL_law_811 : decode cL_law 811 = .ok (.iaload, 1) := by decide +kernel
theorem dL_law_812 : decode cL_law 812 = .ok (.aload_n 0, 1) := by decide +kernel
theorem dL_law_813 : decode cL_law 813 = .ok (.iload 4, 2) := by decide +kernel
theorem dL_law_815 : decode cL_law 815 = .ok (.iconst 2, 1) := by decide +kernel
theorem dL_law_816 : decode cL_law 816 = .ok (.iadd, 1) := by decide +kernel
theorem dL_law_817 : decode cL_law 817 = .ok (.iaload, 1) := by decide +kernel
theorem dL_law_818 : decode cL_law 818 = .ok (.aload_n 0, 1) := by decide +kernel
theorem dL_law_819 : decode cL_law 819 = .ok (.iload 4, 2) := by decide +kernel
theorem dL_law_821 : decode cL_law 821 = .ok (.iconst 3, 1) := by decide +kernel
theorem dL_law_822 : decode cL_law 822 = .ok (.iadd, 1) := by decide +kernel
theorem dL_law_823 : decode cL_law 823 = .ok (.iaload, 1) := by decide +kernel
theorem dL_law_824 : decode cL_law 824 = .ok (.ifCond .eq 7, 3) := by decide +kernel
theorem dL_law_827 : decode cL_law 827 = .ok (.iconst 1, 1) := by decide +kernel
theorem dL_law_828 : decode cL_law 828 = .ok (.goto 4, 3) := by decide +kernel
theorem dL_law_831 : decode cL_law 831 = .ok (.iconst 0, 1) := by decide +kernel
theorem dL_law_832 : decode cL_law 832 = .ok (.invokevirtual 117, 3) := by decide +kernel
theorem dL_law_835 : decode cL_law 835 = .ok (.istore 6, 2) := by decide +kernel
theorem dL_law_837 : decode cL_law 837 = .ok (.aload_n 2, 1) := by decide +kernel
theorem dL_law_838 : decode cL_law 838 = .ok (.invokevirtual 83, 3) := by decide +kernel
theorem dL_law_841 : decode cL_law 841 = .ok (.iload 5, 2) := by decide +kernel
theorem dL_law_843 : decode cL_law 843 = .ok (.if_icmp .eq 5, 3) := by decide +kernel
theorem dL_law_846 : decode cL_law 846 = .ok (.iconst 0, 1) := by decide +kernel
theorem dL_law_847 : decode cL_law 847 = .ok (.ireturn, 1) := by decide +kernel
theorem dL_law_848 : decode cL_law 848 = .ok (.iload 5, 2) := by decide +kernel
theorem dL_law_850 : decode cL_law 850 = .ok (.ifCond .ne 22, 3) := by decide +kernel
theorem dL_law_853 : decode cL_law 853 = .ok (.aload_n 3, 1) := by decide +kernel
theorem dL_law_854 : decode cL_law 854 = .ok (.iconst 0, 1) := by decide +kernel
theorem dL_law_855 : decode cL_law 855 = .ok (.laload, 1) := by decide +kernel
theorem dL_law_856 : decode cL_law 856 = .ok (.iload 6, 2) := by decide +kernel
theorem dL_law_858 : decode cL_law 858 = .ok (.ifCond .eq 7, 3) := by decide +kernel
theorem dL_law_861 : decode cL_law 861 = .ok (.lconst 1, 1) := by decide +kernel
theorem dL_law_862 : decode cL_law 862 = .ok (.goto 4, 3) := by decide +kernel
theorem dL_law_865 : decode cL_law 865 = .ok (.lconst 0, 1) := by decide +kernel
theorem dL_law_866 : decode cL_law 866 = .ok (.lcmp, 1) := by decide +kernel
theorem dL_law_867 : decode cL_law 867 = .ok (.ifCond .eq 5, 3) := by decide +kernel
theorem dL_law_870 : decode cL_law 870 = .ok (.iconst 0, 1) := by decide +kernel
theorem dL_law_871 : decode cL_law 871 = .ok (.ireturn, 1) := by decide +kernel
theorem dL_law_872 : decode cL_law 872 = .ok (.goto 595, 3) := by decide +kernel
theorem dL_law_875 : decode cL_law 875 = .ok (.aload_n 1, 1) := by decide +kernel
theorem dL_law_876 : decode cL_law 876 = .ok (.aload_n 0, 1) := by decide +kernel
theorem dL_law_877 : decode cL_law 877 = .ok (.iload 4, 2) := by decide +kernel
theorem dL_law_879 : decode cL_law 879 = .ok (.iconst 1, 1) := by decide +kernel
theorem dL_law_880 : decode cL_law 880 = .ok (.iadd, 1) := by decide +kernel
theorem dL_law_881 : decode cL_law 881 = .ok (.iaload, 1) := by decide +kernel
theorem dL_law_882 : decode cL_law 882 = .ok (.aload_n 0, 1) := by decide +kernel
theorem dL_law_883 : decode cL_law 883 = .ok (.iload 4, 2) := by decide +kernel
theorem dL_law_885 : decode cL_law 885 = .ok (.iconst 2, 1) := by decide +kernel
theorem dL_law_886 : decode cL_law 886 = .ok (.iadd, 1) := by decide +kernel
theorem dL_law_887 : decode cL_law 887 = .ok (.iaload, 1) := by decide +kernel
theorem dL_law_888 : decode cL_law 888 = .ok (.aload_n 0, 1) := by decide +kernel
theorem dL_law_889 : decode cL_law 889 = .ok (.iload 4, 2) := by decide +kernel
theorem dL_law_891 : decode cL_law 891 = .ok (.iconst 3, 1) := by decide +kernel
theorem dL_law_892 : decode cL_law 892 = .ok (.iadd, 1) := by decide +kernel
theorem dL_law_893 : decode cL_law 893 = .ok (.iaload, 1) := by decide +kernel
theorem dL_law_894 : decode cL_law 894 = .ok (.aload_n 3, 1) := by decide +kernel
theorem dL_law_895 : decode cL_law 895 = .ok (.invokestatic 118, 3) := by decide +kernel
theorem dL_law_898 : decode cL_law 898 = .ok (.istore 5, 2) := by decide +kernel
theorem dL_law_900 : decode cL_law 900 = .ok (.aload_n 2, 1) := by decide +kernel
theorem dL_law_901 : decode cL_law 901 = .ok (.aload_n 0, 1) := by decide +kernel
theorem dL_law_902 : decode cL_law 902 = .ok (.iload 4, 2) := by decide +kernel
theorem dL_law_904 : decode cL_law 904 = .ok (.iconst 1, 1) := by decide +kernel
theorem dL_law_905 : decode cL_law 905 = .ok (.iadd, 1) := by decide +kernel
theorem dL_law_906 : decode cL_law 906 = .ok (.iaload, 1) := by decide +kernel
theorem dL_law_907 : decode cL_law 907 = .ok (.aload_n 0, 1) := by decide +kernel
theorem dL_law_908 : decode cL_law 908 = .ok (.iload 4, 2) := by decide +kernel
theorem dL_law_910 : decode cL_law 910 = .ok (.iconst 2, 1) := by decide +kernel
theorem dL_law_911 : decode cL_law 911 = .ok (.iadd, 1) := by decide +kernel
theorem dL_law_912 : decode cL_law 912 = .ok (.iaload, 1) := by decide +kernel
theorem dL_law_913 : decode cL_law 913 = .ok (.aload_n 0, 1) := by decide +kernel
theorem dL_law_914 : decode cL_law 914 = .ok (.iload 4, 2) := by decide +kernel
theorem dL_law_916 : decode cL_law 916 = .ok (.iconst 3, 1) := by decide +kernel
theorem dL_law_917 : decode cL_law 917 = .ok (.iadd, 1) := by decide +kernel
theorem dL_law_918 : decode cL_law 918 = .ok (.iaload, 1) := by decide +kernel
theorem dL_law_919 : decode cL_law 919 = .ok (.invokevirtual 120, 3) := by decide +kernel
theorem dL_law_922 : decode cL_law 922 = .ok (.istore 6, 2) := by decide +kernel
theorem dL_law_924 : decode cL_law 924 = .ok (.aload_n 2, 1) := by decide +kernel
theorem dL_law_925 : decode cL_law 925 = .ok (.invokevirtual 83, 3) := by decide +kernel
theorem dL_law_928 : decode cL_law 928 = .ok (.iload 5, 2) := by decide +kernel
theorem dL_law_930 : decode cL_law 930 = .ok (.if_icmp .eq 5, 3) := by decide +kernel
theorem dL_law_933 : decode cL_law 933 = .ok (.iconst 0, 1) := by decide +kernel
theorem dL_law_934 : decode cL_law 934 = .ok (.ireturn, 1) := by decide +kernel
theorem dL_law_935 : decode cL_law 935 = .ok (.iload 5, 2) := by decide +kernel
theorem dL_law_937 : decode cL_law 937 = .ok (.ifCond .ne 15, 3) := by decide +kernel
theorem dL_law_940 : decode cL_law 940 = .ok (.aload_n 3, 1) := by decide +kernel
theorem dL_law_941 : decode cL_law 941 = .ok (.iconst 0, 1) := by decide +kernel
theorem dL_law_942 : decode cL_law 942 = .ok (.laload, 1) := by decide +kernel
theorem dL_law_943 : decode cL_law 943 = .ok (.iload 6, 2) := by decide +kernel
theorem dL_law_945 : decode cL_law 945 = .ok (.i2l, 1) := by decide +kernel
theorem dL_law_946 : decode cL_law 946 = .ok (.lcmp, 1) := by decide +kernel
theorem dL_law_947 : decode cL_law 947 = .ok (.ifCond .eq 5, 3) := by decide +kernel
theorem dL_law_950 : decode cL_law 950 = .ok (.iconst 0, 1) := by decide +kernel
theorem dL_law_951 : decode cL_law 951 = .ok (.ireturn, 1) := by decide +kernel
theorem dL_law_952 : decode cL_law 952 = .ok (.goto 515, 3) := by decide +kernel
theorem dL_law_955 : decode cL_law 955 = .ok (.aload_n 1, 1) := by decide +kernel
theorem dL_law_956 : decode cL_law 956 = .ok (.aload_n 0, 1) := by decide +kernel
theorem dL_law_957 : decode cL_law 957 = .ok (.iload 4, 2) := by decide +kernel
theorem dL_law_959 : decode cL_law 959 = .ok (.iconst 1, 1) := by decide +kernel
theorem dL_law_960 : decode cL_law 960 = .ok (.iadd, 1) := by decide +kernel
theorem dL_law_961 : decode cL_law 961 = .ok (.iaload, 1) := by decide +kernel
theorem dL_law_962 : decode cL_law 962 = .ok (.aload_n 0, 1) := by decide +kernel
theorem dL_law_963 : decode cL_law 963 = .ok (.iload 4, 2) := by decide +kernel
theorem dL_law_965 : decode cL_law 965 = .ok (.iconst 2, 1) := by decide +kernel
theorem dL_law_966 : decode cL_law 966 = .ok (.iadd, 1) := by decide +kernel
theorem dL_law_967 : decode cL_law 967 = .ok (.iaload, 1) := by decide +kernel
theorem dL_law_968 : decode cL_law 968 = .ok (.aload_n 0, 1) := by decide +kernel
theorem dL_law_969 : decode cL_law 969 = .ok (.iload 4, 2) := by decide +kernel
theorem dL_law_971 : decode cL_law 971 = .ok (.iconst 3, 1) := by decide +kernel
theorem dL_law_972 : decode cL_law 972 = .ok (.iadd, 1) := by decide +kernel
theorem dL_law_973 : decode cL_law 973 = .ok (.iaload, 1) := by decide +kernel
theorem dL_law_974 : decode cL_law 974 = .ok (.aload_n 3, 1) := by decide +kernel
theorem dL_law_975 : decode cL_law 975 = .ok (.invokestatic 121, 3) := by decide +kernel
theorem dL_law_978 : decode cL_law 978 = .ok (.istore 5, 2) := by decide +kernel
theorem dL_law_980 : decode cL_law 980 = .ok (.aload_n 2, 1) := by decide +kernel
theorem dL_law_981 : decode cL_law 981 = .ok (.aload_n 0, 1) := by decide +kernel
theorem dL_law_982 : decode cL_law 982 = .ok (.iload 4, 2) := by decide +kernel
theorem dL_law_984 : decode cL_law 984 = .ok (.iconst 1, 1) := by decide +kernel
theorem dL_law_985 : decode cL_law 985 = .ok (.iadd, 1) := by decide +kernel
theorem dL_law_986 : decode cL_law 986 = .ok (.iaload, 1) := by decide +kernel
theorem dL_law_987 : decode cL_law 987 = .ok (.aload_n 0, 1) := by decide +kernel
theorem dL_law_988 : decode cL_law 988 = .ok (.iload 4, 2) := by decide +kernel
theorem dL_law_990 : decode cL_law 990 = .ok (.iconst 2, 1) := by decide +kernel
theorem dL_law_991 : decode cL_law 991 = .ok (.iadd, 1) := by decide +kernel
theorem dL_law_992 : decode cL_law 992 = .ok (.iaload, 1) := by decide +kernel
theorem dL_law_993 : decode cL_law 993 = .ok (.aload_n 0, 1) := by decide +kernel
theorem dL_law_994 : decode cL_law 994 = .ok (.iload 4, 2) := by decide +kernel
theorem dL_law_996 : decode cL_law 996 = .ok (.iconst 3, 1) := by decide +kernel
theorem dL_law_997 : decode cL_law 997 = .ok (.iadd, 1) := by decide +kernel
theorem dL_law_998 : decode cL_law 998 = .ok (.iaload, 1) := by decide +kernel
theorem dL_law_999 : decode cL_law 999 = .ok (.invokevirtual 123, 3) := by decide +kernel
theorem dL_law_1002 : decode cL_law 1002 = .ok (.istore 6, 2) := by decide +kernel
theorem dL_law_1004 : decode cL_law 1004 = .ok (.aload_n 2, 1) := by decide +kernel
theorem dL_law_1005 : decode cL_law 1005 = .ok (.invokevirtual 83, 3) := by decide +kernel
theorem dL_law_1008 : decode cL_law 1008 = .ok (.iload 5, 2) := by decide +kernel
theorem dL_law_1010 : decode cL_law 1010 = .ok (.if_icmp .eq 5, 3) := by decide +kernel
theorem dL_law_1013 : decode cL_law 1013 = .ok (.iconst 0, 1) := by decide +kernel
theorem dL_law_1014 : decode cL_law 1014 = .ok (.ireturn, 1) := by decide +kernel
theorem dL_law_1015 : decode cL_law 1015 = .ok (.iload 5, 2) := by decide +kernel
theorem dL_law_1017 : decode cL_law 1017 = .ok (.ifCond .ne 15, 3) := by decide +kernel
theorem dL_law_1020 : decode cL_law 1020 = .ok (.aload_n 3, 1) := by decide +kernel
theorem dL_law_1021 : decode cL_law 1021 = .ok (.iconst 0, 1) := by decide +kernel
theorem dL_law_1022 : decode cL_law 1022 = .ok (.laload, 1) := by decide +kernel
theorem dL_law_1023 : decode cL_law 1023 = .ok (.iload 6, 2) := by decide +kernel
theorem dL_law_1025 : decode cL_law 1025 = .ok (.i2l, 1) := by decide +kernel
theorem dL_law_1026 : decode cL_law 1026 = .ok (.lcmp, 1) := by decide +kernel
theorem dL_law_1027 : decode cL_law 1027 = .ok (.ifCond .eq 5, 3) := by decide +kernel
theorem dL_law_1030 : decode cL_law 1030 = .ok (.iconst 0, 1) := by decide +kernel
theorem dL_law_1031 : decode cL_law 1031 = .ok (.ireturn, 1) := by decide +kernel
theorem dL_law_1032 : decode cL_law 1032 = .ok (.goto 435, 3) := by decide +kernel
theorem dL_law_1035 : decode cL_law 1035 = .ok (.aload_n 1, 1) := by decide +kernel
theorem dL_law_1036 : decode cL_law 1036 = .ok (.aload_n 0, 1) := by decide +kernel
theorem dL_law_1037 : decode cL_law 1037 = .ok (.iload 4, 2) := by decide +kernel
theorem dL_law_1039 : decode cL_law 1039 = .ok (.iconst 1, 1) := by decide +kernel
theorem dL_law_1040 : decode cL_law 1040 = .ok (.iadd, 1) := by decide +kernel
theorem dL_law_1041 : decode cL_law 1041 = .ok (.iaload, 1) := by decide +kernel
theorem dL_law_1042 : decode cL_law 1042 = .ok (.aload_n 0, 1) := by decide +kernel
theorem dL_law_1043 : decode cL_law 1043 = .ok (.iload 4, 2) := by decide +kernel
theorem dL_law_1045 : decode cL_law 1045 = .ok (.iconst 2, 1) := by decide +kernel
theorem dL_law_1046 : decode cL_law 1046 = .ok (.iadd, 1) := by decide +kernel
theorem dL_law_1047 : decode cL_law 1047 = .ok (.iaload, 1) := by decide +kernel
theorem dL_law_1048 : decode cL_law 1048 = .ok (.aload_n 3, 1) := by decide +kernel
theorem dL_law_1049 : decode cL_law 1049 = .ok (.invokestatic 124, 3) := by decide +kernel
theorem dL_law_1052 : decode cL_law 1052 = .ok (.istore 5, 2) := by decide +kernel
theorem dL_law_1054 : decode cL_law 1054 = .ok (.aload_n 2, 1) := by decide +kernel
theorem dL_law_1055 : decode cL_law 1055 = .ok (.aload_n 0, 1) := by decide +kernel
theorem dL_law_1056 : decode cL_law 1056 = .ok (.iload 4, 2) := by decide +kernel
theorem dL_law_1058 : decode cL_law 1058 = .ok (.iconst 1, 1) := by decide +kernel
theorem dL_law_1059 : decode cL_law 1059 = .ok (.iadd, 1) := by decide +kernel
theorem dL_law_1060 : decode cL_law 1060 = .ok (.iaload, 1) := by decide +kernel
theorem dL_law_1061 : decode cL_law 1061 = .ok (.aload_n 0, 1) := by decide +kernel
theorem dL_law_1062 : decode cL_law 1062 = .ok (.iload 4, 2) := by decide +kernel
theorem dL_law_1064 : decode cL_law 1064 = .ok (.iconst 2, 1) := by decide +kernel
theorem dL_law_1065 : decode cL_law 1065 = .ok (.iadd, 1) := by decide +kernel
theorem dL_law_1066 : decode cL_law 1066 = .ok (.iaload, 1) := by decide +kernel
theorem dL_law_1067 : decode cL_law 1067 = .ok (.invokevirtual 126, 3) := by decide +kernel
theorem dL_law_1070 : decode cL_law 1070 = .ok (.istore 6, 2) := by decide +kernel
theorem dL_law_1072 : decode cL_law 1072 = .ok (.aload_n 2, 1) := by decide +kernel
theorem dL_law_1073 : decode cL_law 1073 = .ok (.invokevirtual 83, 3) := by decide +kernel
theorem dL_law_1076 : decode cL_law 1076 = .ok (.iload 5, 2) := by decide +kernel
theorem dL_law_1078 : decode cL_law 1078 = .ok (.if_icmp .eq 5, 3) := by decide +kernel
theorem dL_law_1081 : decode cL_law 1081 = .ok (.iconst 0, 1) := by decide +kernel
theorem dL_law_1082 : decode cL_law 1082 = .ok (.ireturn, 1) := by decide +kernel
theorem dL_law_1083 : decode cL_law 1083 = .ok (.iload 5, 2) := by decide +kernel
theorem dL_law_1085 : decode cL_law 1085 = .ok (.ifCond .ne 15, 3) := by decide +kernel
theorem dL_law_1088 : decode cL_law 1088 = .ok (.aload_n 3, 1) := by decide +kernel
theorem dL_law_1089 : decode cL_law 1089 = .ok (.iconst 0, 1) := by decide +kernel
theorem dL_law_1090 : decode cL_law 1090 = .ok (.laload, 1) := by decide +kernel
theorem dL_law_1091 : decode cL_law 1091 = .ok (.iload 6, 2) := by decide +kernel
theorem dL_law_1093 : decode cL_law 1093 = .ok (.i2l, 1) := by decide +kernel
theorem dL_law_1094 : decode cL_law 1094 = .ok (.lcmp, 1) := by decide +kernel
theorem dL_law_1095 : decode cL_law 1095 = .ok (.ifCond .eq 5, 3) := by decide +kernel
theorem dL_law_1098 : decode cL_law 1098 = .ok (.iconst 0, 1) := by decide +kernel
theorem dL_law_1099 : decode cL_law 1099 = .ok (.ireturn, 1) := by decide +kernel
theorem dL_law_1100 : decode cL_law 1100 = .ok (.goto 367, 3) := by decide +kernel
theorem dL_law_1103 : decode cL_law 1103 = .ok (.aload_n 1, 1) := by decide +kernel
theorem dL_law_1104 : decode cL_law 1104 = .ok (.aload_n 0, 1) := by decide +kernel
theorem dL_law_1105 : decode cL_law 1105 = .ok (.iload 4, 2) := by decide +kernel
theorem dL_law_1107 : decode cL_law 1107 = .ok (.iconst 1, 1) := by decide +kernel
theorem dL_law_1108 : decode cL_law 1108 = .ok (.iadd, 1) := by decide +kernel
theorem dL_law_1109 : decode cL_law 1109 = .ok (.iaload, 1) := by decide +kernel
theorem dL_law_1110 : decode cL_law 1110 = .ok (.aload_n 0, 1) := by decide +kernel
theorem dL_law_1111 : decode cL_law 1111 = .ok (.iload 4, 2) := by decide +kernel
theorem dL_law_1113 : decode cL_law 1113 = .ok (.iconst 2, 1) := by decide +kernel
theorem dL_law_1114 : decode cL_law 1114 = .ok (.iadd, 1) := by decide +kernel
theorem dL_law_1115 : decode cL_law 1115 = .ok (.iaload, 1) := by decide +kernel
theorem dL_law_1116 : decode cL_law 1116 = .ok (.aload_n 3, 1) := by decide +kernel
theorem dL_law_1117 : decode cL_law 1117 = .ok (.invokestatic 127, 3) := by decide +kernel
theorem dL_law_1120 : decode cL_law 1120 = .ok (.istore 5, 2) := by decide +kernel
theorem dL_law_1122 : decode cL_law 1122 = .ok (.aload_n 2, 1) := by decide +kernel
theorem dL_law_1123 : decode cL_law 1123 = .ok (.aload_n 0, 1) := by decide +kernel
theorem dL_law_1124 : decode cL_law 1124 = .ok (.iload 4, 2) := by decide +kernel
theorem dL_law_1126 : decode cL_law 1126 = .ok (.iconst 1, 1) := by decide +kernel
theorem dL_law_1127 : decode cL_law 1127 = .ok (.iadd, 1) := by decide +kernel
theorem dL_law_1128 : decode cL_law 1128 = .ok (.iaload, 1) := by decide +kernel
theorem dL_law_1129 : decode cL_law 1129 = .ok (.aload_n 0, 1) := by decide +kernel
theorem dL_law_1130 : decode cL_law 1130 = .ok (.iload 4, 2) := by decide +kernel
theorem dL_law_1132 : decode cL_law 1132 = .ok (.iconst 2, 1) := by decide +kernel
theorem dL_law_1133 : decode cL_law 1133 = .ok (.iadd, 1) := by decide +kernel
theorem dL_law_1134 : decode cL_law 1134 = .ok (.iaload, 1) := by decide +kernel
theorem dL_law_1135 : decode cL_law 1135 = .ok (.invokevirtual 129, 3) := by decide +kernel
theorem dL_law_1138 : decode cL_law 1138 = .ok (.istore 6, 2) := by decide +kernel
theorem dL_law_1140 : decode cL_law 1140 = .ok (.aload_n 2, 1) := by decide +kernel
theorem dL_law_1141 : decode cL_law 1141 = .ok (.invokevirtual 83, 3) := by decide +kernel
theorem dL_law_1144 : decode cL_law 1144 = .ok (.iload 5, 2) := by decide +kernel
theorem dL_law_1146 : decode cL_law 1146 = .ok (.if_icmp .eq 5, 3) := by decide +kernel
theorem dL_law_1149 : decode cL_law 1149 = .ok (.iconst 0, 1) := by decide +kernel
theorem dL_law_1150 : decode cL_law 1150 = .ok (.ireturn, 1) := by decide +kernel
theorem dL_law_1151 : decode cL_law 1151 = .ok (.iload 5, 2) := by decide +kernel
theorem dL_law_1153 : decode cL_law 1153 = .ok (.ifCond .ne 15, 3) := by decide +kernel
theorem dL_law_1156 : decode cL_law 1156 = .ok (.aload_n 3, 1) := by decide +kernel
theorem dL_law_1157 : decode cL_law 1157 = .ok (.iconst 0, 1) := by decide +kernel
theorem dL_law_1158 : decode cL_law 1158 = .ok (.laload, 1) := by decide +kernel
theorem dL_law_1159 : decode cL_law 1159 = .ok (.iload 6, 2) := by decide +kernel
theorem dL_law_1161 : decode cL_law 1161 = .ok (.i2l, 1) := by decide +kernel
theorem dL_law_1162 : decode cL_law 1162 = .ok (.lcmp, 1) := by decide +kernel
theorem dL_law_1163 : decode cL_law 1163 = .ok (.ifCond .eq 5, 3) := by decide +kernel
theorem dL_law_1166 : decode cL_law 1166 = .ok (.iconst 0, 1) := by decide +kernel
theorem dL_law_1167 : decode cL_law 1167 = .ok (.ireturn, 1) := by decide +kernel
theorem dL_law_1168 : decode cL_law 1168 = .ok (.goto 299, 3) := by decide +kernel
theorem dL_law_1171 : decode cL_law 1171 = .ok (.aload_n 1, 1) := by decide +kernel
theorem dL_law_1172 : decode cL_law 1172 = .ok (.invokevirtual 130, 3) := by decide +kernel
theorem dL_law_1175 : decode cL_law 1175 = .ok (.aload_n 2, 1) := by decide +kernel
theorem dL_law_1176 : decode cL_law 1176 = .ok (.invokevirtual 133, 3) := by decide +kernel
theorem dL_law_1179 : decode cL_law 1179 = .ok (.if_icmp .eq 288, 3) := by decide +kernel
theorem dL_law_1182 : decode cL_law 1182 = .ok (.iconst 0, 1) := by decide +kernel
theorem dL_law_1183 : decode cL_law 1183 = .ok (.ireturn, 1) := by decide +kernel
theorem dL_law_1184 : decode cL_law 1184 = .ok (.aload_n 1, 1) := by decide +kernel
theorem dL_law_1185 : decode cL_law 1185 = .ok (.aload_n 0, 1) := by decide +kernel
theorem dL_law_1186 : decode cL_law 1186 = .ok (.iload 4, 2) := by decide +kernel
theorem dL_law_1188 : decode cL_law 1188 = .ok (.iconst 1, 1) := by decide +kernel
theorem dL_law_1189 : decode cL_law 1189 = .ok (.iadd, 1) := by decide +kernel
theorem dL_law_1190 : decode cL_law 1190 = .ok (.iaload, 1) := by decide +kernel
theorem dL_law_1191 : decode cL_law 1191 = .ok (.aload_n 0, 1) := by decide +kernel
theorem dL_law_1192 : decode cL_law 1192 = .ok (.iload 4, 2) := by decide +kernel
theorem dL_law_1194 : decode cL_law 1194 = .ok (.iconst 2, 1) := by decide +kernel
theorem dL_law_1195 : decode cL_law 1195 = .ok (.iadd, 1) := by decide +kernel
theorem dL_law_1196 : decode cL_law 1196 = .ok (.iaload, 1) := by decide +kernel
theorem dL_law_1197 : decode cL_law 1197 = .ok (.aload_n 0, 1) := by decide +kernel
theorem dL_law_1198 : decode cL_law 1198 = .ok (.iload 4, 2) := by decide +kernel
theorem dL_law_1200 : decode cL_law 1200 = .ok (.iconst 3, 1) := by decide +kernel
theorem dL_law_1201 : decode cL_law 1201 = .ok (.iadd, 1) := by decide +kernel
theorem dL_law_1202 : decode cL_law 1202 = .ok (.iaload, 1) := by decide +kernel
theorem dL_law_1203 : decode cL_law 1203 = .ok (.aload_n 3, 1) := by decide +kernel
theorem dL_law_1204 : decode cL_law 1204 = .ok (.invokestatic 134, 3) := by decide +kernel
theorem dL_law_1207 : decode cL_law 1207 = .ok (.istore 5, 2) := by decide +kernel
theorem dL_law_1209 : decode cL_law 1209 = .ok (.aload_n 2, 1) := by decide +kernel
theorem dL_law_1210 : decode cL_law 1210 = .ok (.aload_n 0, 1) := by decide +kernel
theorem dL_law_1211 : decode cL_law 1211 = .ok (.iload 4, 2) := by decide +kernel
theorem dL_law_1213 : decode cL_law 1213 = .ok (.iconst 1, 1) := by decide +kernel
theorem dL_law_1214 : decode cL_law 1214 = .ok (.iadd, 1) := by decide +kernel
theorem dL_law_1215 : decode cL_law 1215 = .ok (.iaload, 1) := by decide +kernel
theorem dL_law_1216 : decode cL_law 1216 = .ok (.aload_n 0, 1) := by decide +kernel
theorem dL_law_1217 : decode cL_law 1217 = .ok (.iload 4, 2) := by decide +kernel
theorem dL_law_1219 : decode cL_law 1219 = .ok (.iconst 2, 1) := by decide +kernel
theorem dL_law_1220 : decode cL_law 1220 = .ok (.iadd, 1) := by decide +kernel
theorem dL_law_1221 : decode cL_law 1221 = .ok (.iaload, 1) := by decide +kernel
theorem dL_law_1222 : decode cL_law 1222 = .ok (.aload_n 0, 1) := by decide +kernel
theorem dL_law_1223 : decode cL_law 1223 = .ok (.iload 4, 2) := by decide +kernel
theorem dL_law_1225 : decode cL_law 1225 = .ok (.iconst 3, 1) := by decide +kernel
theorem dL_law_1226 : decode cL_law 1226 = .ok (.iadd, 1) := by decide +kernel
theorem dL_law_1227 : decode cL_law 1227 = .ok (.iaload, 1) := by decide +kernel
theorem dL_law_1228 : decode cL_law 1228 = .ok (.invokevirtual 136, 3) := by decide +kernel
theorem dL_law_1231 : decode cL_law 1231 = .ok (.istore 6, 2) := by decide +kernel
theorem dL_law_1233 : decode cL_law 1233 = .ok (.aload_n 2, 1) := by decide +kernel
theorem dL_law_1234 : decode cL_law 1234 = .ok (.invokevirtual 83, 3) := by decide +kernel
theorem dL_law_1237 : decode cL_law 1237 = .ok (.iload 5, 2) := by decide +kernel
theorem dL_law_1239 : decode cL_law 1239 = .ok (.if_icmp .eq 5, 3) := by decide +kernel
theorem dL_law_1242 : decode cL_law 1242 = .ok (.iconst 0, 1) := by decide +kernel
theorem dL_law_1243 : decode cL_law 1243 = .ok (.ireturn, 1) := by decide +kernel
theorem dL_law_1244 : decode cL_law 1244 = .ok (.iload 5, 2) := by decide +kernel
theorem dL_law_1246 : decode cL_law 1246 = .ok (.ifCond .ne 15, 3) := by decide +kernel
theorem dL_law_1249 : decode cL_law 1249 = .ok (.aload_n 3, 1) := by decide +kernel
theorem dL_law_1250 : decode cL_law 1250 = .ok (.iconst 0, 1) := by decide +kernel
theorem dL_law_1251 : decode cL_law 1251 = .ok (.laload, 1) := by decide +kernel
theorem dL_law_1252 : decode cL_law 1252 = .ok (.iload 6, 2) := by decide +kernel
theorem dL_law_1254 : decode cL_law 1254 = .ok (.i2l, 1) := by decide +kernel
theorem dL_law_1255 : decode cL_law 1255 = .ok (.lcmp, 1) := by decide +kernel
theorem dL_law_1256 : decode cL_law 1256 = .ok (.ifCond .eq 5, 3) := by decide +kernel
theorem dL_law_1259 : decode cL_law 1259 = .ok (.iconst 0, 1) := by decide +kernel
theorem dL_law_1260 : decode cL_law 1260 = .ok (.ireturn, 1) := by decide +kernel
theorem dL_law_1261 : decode cL_law 1261 = .ok (.goto 206, 3) := by decide +kernel
theorem dL_law_1264 : decode cL_law 1264 = .ok (.aload_n 1, 1) := by decide +kernel
theorem dL_law_1265 : decode cL_law 1265 = .ok (.aload_n 0, 1) := by decide +kernel
theorem dL_law_1266 : decode cL_law 1266 = .ok (.iload 4, 2) := by decide +kernel
theorem dL_law_1268 : decode cL_law 1268 = .ok (.iconst 1, 1) := by decide +kernel
theorem dL_law_1269 : decode cL_law 1269 = .ok (.iadd, 1) := by decide +kernel
theorem dL_law_1270 : decode cL_law 1270 = .ok (.iaload, 1) := by decide +kernel
theorem dL_law_1271 : decode cL_law 1271 = .ok (.aload_n 0, 1) := by decide +kernel
theorem dL_law_1272 : decode cL_law 1272 = .ok (.iload 4, 2) := by decide +kernel
theorem dL_law_1274 : decode cL_law 1274 = .ok (.iconst 2, 1) := by decide +kernel
theorem dL_law_1275 : decode cL_law 1275 = .ok (.iadd, 1) := by decide +kernel
theorem dL_law_1276 : decode cL_law 1276 = .ok (.iaload, 1) := by decide +kernel
theorem dL_law_1277 : decode cL_law 1277 = .ok (.aload_n 3, 1) := by decide +kernel
theorem dL_law_1278 : decode cL_law 1278 = .ok (.invokestatic 137, 3) := by decide +kernel
theorem dL_law_1281 : decode cL_law 1281 = .ok (.istore 5, 2) := by decide +kernel
theorem dL_law_1283 : decode cL_law 1283 = .ok (.aload_n 2, 1) := by decide +kernel
theorem dL_law_1284 : decode cL_law 1284 = .ok (.aload_n 0, 1) := by decide +kernel
theorem dL_law_1285 : decode cL_law 1285 = .ok (.iload 4, 2) := by decide +kernel
theorem dL_law_1287 : decode cL_law 1287 = .ok (.iconst 1, 1) := by decide +kernel
theorem dL_law_1288 : decode cL_law 1288 = .ok (.iadd, 1) := by decide +kernel
theorem dL_law_1289 : decode cL_law 1289 = .ok (.iaload, 1) := by decide +kernel
theorem dL_law_1290 : decode cL_law 1290 = .ok (.aload_n 0, 1) := by decide +kernel
theorem dL_law_1291 : decode cL_law 1291 = .ok (.iload 4, 2) := by decide +kernel
theorem dL_law_1293 : decode cL_law 1293 = .ok (.iconst 2, 1) := by decide +kernel
theorem dL_law_1294 : decode cL_law 1294 = .ok (.iadd, 1) := by decide +kernel
theorem dL_law_1295 : decode cL_law 1295 = .ok (.iaload, 1) := by decide +kernel
theorem dL_law_1296 : decode cL_law 1296 = .ok (.invokevirtual 139, 3) := by decide +kernel
theorem dL_law_1299 : decode cL_law 1299 = .ok (.istore 6, 2) := by decide +kernel
theorem dL_law_1301 : decode cL_law 1301 = .ok (.aload_n 2, 1) := by decide +kernel
theorem dL_law_1302 : decode cL_law 1302 = .ok (.invokevirtual 83, 3) := by decide +kernel
theorem dL_law_1305 : decode cL_law 1305 = .ok (.iload 5, 2) := by decide +kernel
theorem dL_law_1307 : decode cL_law 1307 = .ok (.if_icmp .eq 5, 3) := by decide +kernel
theorem dL_law_1310 : decode cL_law 1310 = .ok (.iconst 0, 1) := by decide +kernel
theorem dL_law_1311 : decode cL_law 1311 = .ok (.ireturn, 1) := by decide +kernel
theorem dL_law_1312 : decode cL_law 1312 = .ok (.iload 5, 2) := by decide +kernel
theorem dL_law_1314 : decode cL_law 1314 = .ok (.ifCond .ne 15, 3) := by decide +kernel
theorem dL_law_1317 : decode cL_law 1317 = .ok (.aload_n 3, 1) := by decide +kernel
theorem dL_law_1318 : decode cL_law 1318 = .ok (.iconst 0, 1) := by decide +kernel
theorem dL_law_1319 : decode cL_law 1319 = .ok (.laload, 1) := by decide +kernel
theorem dL_law_1320 : decode cL_law 1320 = .ok (.iload 6, 2) := by decide +kernel
theorem dL_law_1322 : decode cL_law 1322 = .ok (.i2l, 1) := by decide +kernel
theorem dL_law_1323 : decode cL_law 1323 = .ok (.lcmp, 1) := by decide +kernel
theorem dL_law_1324 : decode cL_law 1324 = .ok (.ifCond .eq 5, 3) := by decide +kernel
theorem dL_law_1327 : decode cL_law 1327 = .ok (.iconst 0, 1) := by decide +kernel
theorem dL_law_1328 : decode cL_law 1328 = .ok (.ireturn, 1) := by decide +kernel
theorem dL_law_1329 : decode cL_law 1329 = .ok (.goto 138, 3) := by decide +kernel
theorem dL_law_1332 : decode cL_law 1332 = .ok (.aload_n 1, 1) := by decide +kernel
theorem dL_law_1333 : decode cL_law 1333 = .ok (.invokevirtual 140, 3) := by decide +kernel
theorem dL_law_1336 : decode cL_law 1336 = .ok (.aload_n 2, 1) := by decide +kernel
theorem dL_law_1337 : decode cL_law 1337 = .ok (.invokevirtual 143, 3) := by decide +kernel
theorem dL_law_1340 : decode cL_law 1340 = .ok (.if_icmp .eq 127, 3) := by decide +kernel
theorem dL_law_1343 : decode cL_law 1343 = .ok (.iconst 0, 1) := by decide +kernel
theorem dL_law_1344 : decode cL_law 1344 = .ok (.ireturn, 1) := by decide +kernel
theorem dL_law_1345 : decode cL_law 1345 = .ok (.aload_n 1, 1) := by decide +kernel
theorem dL_law_1346 : decode cL_law 1346 = .ok (.aload_n 0, 1) := by decide +kernel
theorem dL_law_1347 : decode cL_law 1347 = .ok (.iload 4, 2) := by decide +kernel
theorem dL_law_1349 : decode cL_law 1349 = .ok (.iconst 1, 1) := by decide +kernel
theorem dL_law_1350 : decode cL_law 1350 = .ok (.iadd, 1) := by decide +kernel
theorem dL_law_1351 : decode cL_law 1351 = .ok (.iaload, 1) := by decide +kernel
theorem dL_law_1352 : decode cL_law 1352 = .ok (.aload_n 0, 1) := by decide +kernel
theorem dL_law_1353 : decode cL_law 1353 = .ok (.iload 4, 2) := by decide +kernel
theorem dL_law_1355 : decode cL_law 1355 = .ok (.iconst 2, 1) := by decide +kernel
theorem dL_law_1356 : decode cL_law 1356 = .ok (.iadd, 1) := by decide +kernel
theorem dL_law_1357 : decode cL_law 1357 = .ok (.iaload, 1) := by decide +kernel
theorem dL_law_1358 : decode cL_law 1358 = .ok (.aload_n 3, 1) := by decide +kernel
theorem dL_law_1359 : decode cL_law 1359 = .ok (.invokestatic 144, 3) := by decide +kernel
theorem dL_law_1362 : decode cL_law 1362 = .ok (.istore 5, 2) := by decide +kernel
theorem dL_law_1364 : decode cL_law 1364 = .ok (.aload_n 2, 1) := by decide +kernel
theorem dL_law_1365 : decode cL_law 1365 = .ok (.aload_n 0, 1) := by decide +kernel
theorem dL_law_1366 : decode cL_law 1366 = .ok (.iload 4, 2) := by decide +kernel
theorem dL_law_1368 : decode cL_law 1368 = .ok (.iconst 1, 1) := by decide +kernel
theorem dL_law_1369 : decode cL_law 1369 = .ok (.iadd, 1) := by decide +kernel
theorem dL_law_1370 : decode cL_law 1370 = .ok (.iaload, 1) := by decide +kernel
theorem dL_law_1371 : decode cL_law 1371 = .ok (.aload_n 0, 1) := by decide +kernel
theorem dL_law_1372 : decode cL_law 1372 = .ok (.iload 4, 2) := by decide +kernel
theorem dL_law_1374 : decode cL_law 1374 = .ok (.iconst 2, 1) := by decide +kernel
theorem dL_law_1375 : decode cL_law 1375 = .ok (.iadd, 1) := by decide +kernel
theorem dL_law_1376 : decode cL_law 1376 = .ok (.iaload, 1) := by decide +kernel
theorem dL_law_1377 : decode cL_law 1377 = .ok (.invokevirtual 146, 3) := by decide +kernel
theorem dL_law_1380 : decode cL_law 1380 = .ok (.lstore 6, 2) := by decide +kernel
theorem dL_law_1382 : decode cL_law 1382 = .ok (.aload_n 2, 1) := by decide +kernel
theorem dL_law_1383 : decode cL_law 1383 = .ok (.invokevirtual 83, 3) := by decide +kernel
theorem dL_law_1386 : decode cL_law 1386 = .ok (.iload 5, 2) := by decide +kernel
theorem dL_law_1388 : decode cL_law 1388 = .ok (.if_icmp .eq 5, 3) := by decide +kernel
theorem dL_law_1391 : decode cL_law 1391 = .ok (.iconst 0, 1) := by decide +kernel
theorem dL_law_1392 : decode cL_law 1392 = .ok (.ireturn, 1) := by decide +kernel
theorem dL_law_1393 : decode cL_law 1393 = .ok (.iload 5, 2) := by decide +kernel
theorem dL_law_1395 : decode cL_law 1395 = .ok (.ifCond .ne 14, 3) := by decide +kernel
theorem dL_law_1398 : decode cL_law 1398 = .ok (.aload_n 3, 1) := by decide +kernel
theorem dL_law_1399 : decode cL_law 1399 = .ok (.iconst 0, 1) := by decide +kernel
theorem dL_law_1400 : decode cL_law 1400 = .ok (.laload, 1) := by decide +kernel
theorem dL_law_1401 : decode cL_law 1401 = .ok (.lload 6, 2) := by decide +kernel
theorem dL_law_1403 : decode cL_law 1403 = .ok (.lcmp, 1) := by decide +kernel
theorem dL_law_1404 : decode cL_law 1404 = .ok (.ifCond .eq 5, 3) := by decide +kernel
theorem dL_law_1407 : decode cL_law 1407 = .ok (.iconst 0, 1) := by decide +kernel
theorem dL_law_1408 : decode cL_law 1408 = .ok (.ireturn, 1) := by decide +kernel
theorem dL_law_1409 : decode cL_law 1409 = .ok (.goto 58, 3) := by decide +kernel
theorem dL_law_1412 : decode cL_law 1412 = .ok (.aload_n 1, 1) := by decide +kernel
theorem dL_law_1413 : decode cL_law 1413 = .ok (.invokevirtual 147, 3) := by decide +kernel
theorem dL_law_1416 : decode cL_law 1416 = .ok (.dstore 5, 2) := by decide +kernel
theorem dL_law_1418 : decode cL_law 1418 = .ok (.aload_n 2, 1) := by decide +kernel
theorem dL_law_1419 : decode cL_law 1419 = .ok (.invokevirtual 151, 3) := by decide +kernel
theorem dL_law_1422 : decode cL_law 1422 = .ok (.dstore 7, 2) := by decide +kernel
theorem dL_law_1424 : decode cL_law 1424 = .ok (.dload 5, 2) := by decide +kernel
theorem dL_law_1426 : decode cL_law 1426 = .ok (.dload 7, 2) := by decide +kernel
theorem dL_law_1428 : decode cL_law 1428 = .ok (.dcmp .l, 1) := by decide +kernel
theorem dL_law_1429 : decode cL_law 1429 = .ok (.ifCond .eq 21, 3) := by decide +kernel
theorem dL_law_1432 : decode cL_law 1432 = .ok (.dload 5, 2) := by decide +kernel
theorem dL_law_1434 : decode cL_law 1434 = .ok (.dload 5, 2) := by decide +kernel
theorem dL_law_1436 : decode cL_law 1436 = .ok (.dcmp .l, 1) := by decide +kernel
theorem dL_law_1437 : decode cL_law 1437 = .ok (.ifCond .eq 11, 3) := by decide +kernel
theorem dL_law_1440 : decode cL_law 1440 = .ok (.dload 7, 2) := by decide +kernel
theorem dL_law_1442 : decode cL_law 1442 = .ok (.dload 7, 2) := by decide +kernel
theorem dL_law_1444 : decode cL_law 1444 = .ok (.dcmp .l, 1) := by decide +kernel
theorem dL_law_1445 : decode cL_law 1445 = .ok (.ifCond .ne 5, 3) := by decide +kernel
theorem dL_law_1448 : decode cL_law 1448 = .ok (.iconst 0, 1) := by decide +kernel
theorem dL_law_1449 : decode cL_law 1449 = .ok (.ireturn, 1) := by decide +kernel
theorem dL_law_1450 : decode cL_law 1450 = .ok (.goto 17, 3) := by decide +kernel
theorem dL_law_1453 : decode cL_law 1453 = .ok (.aload_n 1, 1) := by decide +kernel
theorem dL_law_1454 : decode cL_law 1454 = .ok (.invokevirtual 152, 3) := by decide +kernel
theorem dL_law_1457 : decode cL_law 1457 = .ok (.aload_n 2, 1) := by decide +kernel
theorem dL_law_1458 : decode cL_law 1458 = .ok (.invokevirtual 156, 3) := by decide +kernel
theorem dL_law_1461 : decode cL_law 1461 = .ok (.lcmp, 1) := by decide +kernel
theorem dL_law_1462 : decode cL_law 1462 = .ok (.ifCond .eq 5, 3) := by decide +kernel
theorem dL_law_1465 : decode cL_law 1465 = .ok (.iconst 0, 1) := by decide +kernel
theorem dL_law_1466 : decode cL_law 1466 = .ok (.ireturn, 1) := by decide +kernel
theorem dL_law_1467 : decode cL_law 1467 = .ok (.iinc 4 8, 3) := by decide +kernel
theorem dL_law_1470 : decode cL_law 1470 = .ok (.goto (-1447), 3) := by decide +kernel
theorem dL_law_1473 : decode cL_law 1473 = .ok (.iconst 1, 1) := by decide +kernel
theorem dL_law_1474 : decode cL_law 1474 = .ok (.ireturn, 1) := by decide +kernel
