theorem dX0_init_0 : decode cX0_init 0 = .ok (.aload_n 0, 1) := by decide +kernel
theorem dX0_init_1 : decode cX0_init 1 = .ok (.invokespecial 3, 3) := by decide +kernel
theorem dX0_init_4 : decode cX0_init 4 = .ok (.aload_n 0, 1) := by decide +kernel
theorem dX0_init_5 : decode cX0_init 5 = .ok (.new 9, 3) := by decide +kernel
theorem dX0_init_8 : decode cX0_init 8 = .ok (.dup, 1) := by decide +kernel
theorem dX0_init_9 : decode cX0_init 9 = .ok (.invokespecial 11, 3) := by decide +kernel
theorem dX0_init_12 : decode cX0_init 12 = .ok (.putfield 12, 3) := by decide +kernel
theorem dX0_init_15 : decode cX0_init 15 = .ok (.aload_n 0, 1) := by decide +kernel
theorem dX0_init_16 : decode cX0_init 16 = .ok (.new 9, 3) := by decide +kernel
theorem dX0_init_19 : decode cX0_init 19 = .ok (.dup, 1) := by decide +kernel
theorem dX0_init_20 : decode cX0_init 20 = .ok (.invokespecial 11, 3) := by decide +kernel
theorem dX0_init_23 : decode cX0_init 23 = .ok (.putfield 18, 3) := by decide +kernel
theorem dX0_init_26 : decode cX0_init 26 = .ok (.aload_n 0, 1) := by decide +kernel
theorem dX0_init_27 : decode cX0_init 27 = .ok (.sipush 300, 3) := by decide +kernel
theorem dX0_init_30 : decode cX0_init 30 = .ok (.newarray .int, 2) := by decide +kernel
theorem dX0_init_32 : decode cX0_init 32 = .ok (.putfield 21, 3) := by decide +kernel
theorem dX0_init_35 : decode cX0_init 35 = .ok (.aload_n 0, 1) := by decide +kernel
theorem dX0_init_36 : decode cX0_init 36 = .ok (.iconst (-1), 1) := by decide +kernel
theorem dX0_init_37 : decode cX0_init 37 = .ok (.putfield 25, 3) := by decide +kernel
theorem dX0_init_40 : decode cX0_init 40 = .ok (.return_, 1) := by decide +kernel
theorem dX0_partOf_0 : decode cX0_partOf 0 = .ok (.iload_n 1, 1) := by decide +kernel
theorem dX0_partOf_1 : decode cX0_partOf 1 = .ok (.ifCond .lt 18, 3) := by decide +kernel
theorem dX0_partOf_4 : decode cX0_partOf 4 = .ok (.iload_n 1, 1) := by decide +kernel
theorem dX0_partOf_5 : decode cX0_partOf 5 = .ok (.bipush 60, 2) := by decide +kernel
theorem dX0_partOf_7 : decode cX0_partOf 7 = .ok (.if_icmp .ge 12, 3) := by decide +kernel
theorem dX0_partOf_10 : decode cX0_partOf 10 = .ok (.iload_n 2, 1) := by decide +kernel
theorem dX0_partOf_11 : decode cX0_partOf 11 = .ok (.ifCond .lt 8, 3) := by decide +kernel
theorem dX0_partOf_14 : decode cX0_partOf 14 = .ok (.iload_n 2, 1) := by decide +kernel
theorem dX0_partOf_15 : decode cX0_partOf 15 = .ok (.iconst 5, 1) := by decide +kernel
theorem dX0_partOf_16 : decode cX0_partOf 16 = .ok (.if_icmp .lt 5, 3) := by decide +kernel
theorem dX0_partOf_19 : decode cX0_partOf 19 = .ok (.iconst 0, 1) := by decide +kernel
theorem dX0_partOf_20 : decode cX0_partOf 20 = .ok (.ireturn, 1) := by decide +kernel
theorem dX0_partOf_21 : decode cX0_partOf 21 = .ok (.aload_n 0, 1) := by decide +kernel
theorem dX0_partOf_22 : decode cX0_partOf 22 = .ok (.getfield 21, 3) := by decide +kernel
theorem dX0_partOf_25 : decode cX0_partOf 25 = .ok (.iload_n 1, 1) := by decide +kernel
theorem dX0_partOf_26 : decode cX0_partOf 26 = .ok (.iconst 5, 1) := by decide +kernel
theorem dX0_partOf_27 : decode cX0_partOf 27 = .ok (.imul, 1) := by decide +kernel
theorem dX0_partOf_28 : decode cX0_partOf 28 = .ok (.iload_n 2, 1) := by decide +kernel
theorem dX0_partOf_29 : decode cX0_partOf 29 = .ok (.iadd, 1) := by decide +kernel
theorem dX0_partOf_30 : decode cX0_partOf 30 = .ok (.iaload, 1) := by decide +kernel
theorem dX0_partOf_31 : decode cX0_partOf 31 = .ok (.ireturn, 1) := by decide +kernel
theorem dX0_record_0 : decode cX0_record 0 = .ok (.aload_n 0, 1) := by decide +kernel
theorem dX0_record_1 : decode cX0_record 1 = .ok (.getfield 29, 3) := by decide +kernel
theorem dX0_record_4 : decode cX0_record 4 = .ok (.ifCond .lt 12, 3) := by decide +kernel
theorem dX0_record_7 : decode cX0_record 7 = .ok (.aload_n 0, 1) := by decide +kernel
theorem dX0_record_8 : decode cX0_record 8 = .ok (.getfield 29, 3) := by decide +kernel
theorem dX0_record_11 : decode cX0_record 11 = .ok (.bipush 60, 2) := by decide +kernel
theorem dX0_record_13 : decode cX0_record 13 = .ok (.if_icmp .lt 4, 3) := by decide +kernel
theorem dX0_record_16 : decode cX0_record 16 = .ok (.return_, 1) := by decide +kernel
theorem dX0_record_17 : decode cX0_record 17 = .ok (.aload_n 0, 1) := by decide +kernel
theorem dX0_record_18 : decode cX0_record 18 = .ok (.getfield 29, 3) := by decide +kernel
theorem dX0_record_21 : decode cX0_record 21 = .ok (.iconst 5, 1) := by decide +kernel
theorem dX0_record_22 : decode cX0_record 22 = .ok (.imul, 1) := by decide +kernel
theorem dX0_record_23 : decode cX0_record 23 = .ok (.istore 6, 2) := by decide +kernel
theorem dX0_record_25 : decode cX0_record 25 = .ok (.aload_n 0, 1) := by decide +kernel
theorem dX0_record_26 : decode cX0_record 26 = .ok (.getfield 21, 3) := by decide +kernel
theorem dX0_record_29 : decode cX0_record 29 = .ok (.iload 6, 2) := by decide +kernel
theorem dX0_record_31 : decode cX0_record 31 = .ok (.iload_n 1, 1) := by decide +kernel
theorem dX0_record_32 : decode cX0_record 32 = .ok (.iastore, 1) := by decide +kernel
theorem dX0_record_33 : decode cX0_record 33 = .ok (.aload_n 0, 1) := by decide +kernel
theorem dX0_record_34 : decode cX0_record 34 = .ok (.getfield 21, 3) := by decide +kernel
theorem dX0_record_37 : decode cX0_record 37 = .ok (.iload 6, 2) := by decide +kernel
theorem dX0_record_39 : decode cX0_record 39 = .ok (.iconst 1, 1) := by decide +kernel
theorem dX0_record_40 : decode cX0_record 40 = .ok (.iadd, 1) := by decide +kernel
theorem dX0_record_41 : decode cX0_record 41 = .ok (.iload_n 2, 1) := by decide +kernel
theorem dX0_record_42 : decode cX0_record 42 = .ok (.iastore, 1) := by decide +kernel
theorem dX0_record_43 : decode cX0_record 43 = .ok (.aload_n 0, 1) := by decide +kernel
theorem dX0_record_44 : decode cX0_record 44 = .ok (.getfield 21, 3) := by decide +kernel
theorem dX0_record_47 : decode cX0_record 47 = .ok (.iload 6, 2) := by decide +kernel
theorem dX0_record_49 : decode cX0_record 49 = .ok (.iconst 2, 1) := by decide +kernel
theorem dX0_record_50 : decode cX0_record 50 = .ok (.iadd, 1) := by decide +kernel
theorem dX0_record_51 : decode cX0_record 51 = .ok (.iload_n 3, 1) := by decide +kernel
theorem dX0_record_52 : decode cX0_record 52 = .ok (.iastore, 1) := by decide +kernel
theorem dX0_record_53 : decode cX0_record 53 = .ok (.aload_n 0, 1) := by decide +kernel
theorem dX0_record_54 : decode cX0_record 54 = .ok (.getfield 21, 3) := by decide +kernel
theorem dX0_record_57 : decode cX0_record 57 = .ok (.iload 6, 2) := by decide +kernel
theorem dX0_record_59 : decode cX0_record 59 = .ok (.iconst 3, 1) := by decide +kernel
theorem dX0_record_60 : decode cX0_record 60 = .ok (.iadd, 1) := by decide +kernel
theorem dX0_record_61 : decode cX0_record 61 = .ok (.iload 4, 2) := by decide +kernel
theorem dX0_record_63 : decode cX0_record 63 = .ok (.iastore, 1) := by decide +kernel
theorem dX0_record_64 : decode cX0_record 64 = .ok (.aload_n 0, 1) := by decide +kernel
theorem dX0_record_65 : decode cX0_record 65 = .ok (.getfield 21, 3) := by decide +kernel
theorem dX0_record_68 : decode cX0_record 68 = .ok (.iload 6, 2) := by decide +kernel
theorem dX0_record_70 : decode cX0_record 70 = .ok (.iconst 4, 1) := by decide +kernel
theorem dX0_record_71 : decode cX0_record 71 = .ok (.iadd, 1) := by decide +kernel
theorem dX0_record_72 : decode cX0_record 72 = .ok (.iload 5, 2) := by decide +kernel
theorem dX0_record_74 : decode cX0_record 74 = .ok (.iastore, 1) := by decide +kernel
theorem dX0_record_75 : decode cX0_record 75 = .ok (.aload_n 0, 1) := by decide +kernel
theorem dX0_record_76 : decode cX0_record 76 = .ok (.dup, 1) := by decide +kernel
theorem dX0_record_77 : decode cX0_record 77 = .ok (.getfield 29, 3) := by decide +kernel
theorem dX0_record_80 : decode cX0_record 80 = .ok (.iconst 1, 1) := by decide +kernel
theorem dX0_record_81 : decode cX0_record 81 = .ok (.iadd, 1) := by decide +kernel
theorem dX0_record_82 : decode cX0_record 82 = .ok (.putfield 29, 3) := by decide +kernel
theorem dX0_record_85 : decode cX0_record 85 = .ok (.return_, 1) := by decide +kernel
theorem dX0_recordAllOf_0 : decode cX0_recordAllOf 0 = .ok (.iconst 0, 1) := by decide +kernel
theorem dX0_recordAllOf_1 : decode cX0_recordAllOf 1 = .ok (.istore_n 2, 1) := by decide +kernel
theorem dX0_recordAllOf_2 : decode cX0_recordAllOf 2 = .ok (.iload_n 2, 1) := by decide +kernel
theorem dX0_recordAllOf_3 : decode cX0_recordAllOf 3 = .ok (.aload_n 1, 1) := by decide +kernel
theorem dX0_recordAllOf_4 : decode cX0_recordAllOf 4 = .ok (.getfield 29, 3) := by decide +kernel
theorem dX0_recordAllOf_7 : decode cX0_recordAllOf 7 = .ok (.if_icmp .ge 43, 3) := by decide +kernel
theorem dX0_recordAllOf_10 : decode cX0_recordAllOf 10 = .ok (.aload_n 0, 1) := by decide +kernel
theorem dX0_recordAllOf_11 : decode cX0_recordAllOf 11 = .ok (.aload_n 1, 1) := by decide +kernel
theorem dX0_recordAllOf_12 : decode cX0_recordAllOf 12 = .ok (.iload_n 2, 1) := by decide +kernel
theorem dX0_recordAllOf_13 : decode cX0_recordAllOf 13 = .ok (.iconst 0, 1) := by decide +kernel
theorem dX0_recordAllOf_14 : decode cX0_recordAllOf 14 = .ok (.invokevirtual 32, 3) := by decide +kernel
theorem dX0_recordAllOf_17 : decode cX0_recordAllOf 17 = .ok (.aload_n 1, 1) := by decide +kernel
theorem dX0_recordAllOf_18 : decode cX0_recordAllOf 18 = .ok (.iload_n 2, 1) := by decide +kernel
theorem dX0_recordAllOf_19 : decode cX0_recordAllOf 19 = .ok (.iconst 1, 1) := by decide +kernel
theorem dX0_recordAllOf_20 : decode cX0_recordAllOf 20 = .ok (.invokevirtual 32, 3) := by decide +kernel
theorem dX0_recordAllOf_23 : decode cX0_recordAllOf 23 = .ok (.aload_n 1, 1) := by decide +kernel
theorem dX0_recordAllOf_24 : decode cX0_recordAllOf 24 = .ok (.iload_n 2, 1) := by decide +kernel
theorem dX0_recordAllOf_25 : decode cX0_recordAllOf 25 = .ok (.iconst 2, 1) := by decide +kernel
theorem dX0_recordAllOf_26 : decode cX0_recordAllOf 26 = .ok (.invokevirtual 32, 3) := by decide +kernel
theorem dX0_recordAllOf_29 : decode cX0_recordAllOf 29 = .ok (.aload_n 1, 1) := by decide +kernel
theorem dX0_recordAllOf_30 : decode cX0_recordAllOf 30 = .ok (.iload_n 2, 1) := by decide +kernel
theorem dX0_recordAllOf_31 : decode cX0_recordAllOf 31 = .ok (.iconst 3, 1) := by decide +kernel
theorem dX0_recordAllOf_32 : decode cX0_recordAllOf 32 = .ok (.invokevirtual 32, 3) := by decide +kernel
theorem dX0_recordAllOf_35 : decode cX0_recordAllOf 35 = .ok (.aload_n 1, 1) := by decide +kernel
theorem dX0_recordAllOf_36 : decode cX0_recordAllOf 36 = .ok (.iload_n 2, 1) := by decide +kernel
theorem dX0_recordAllOf_37 : decode cX0_recordAllOf 37 = .ok (.iconst 4, 1) := by decide +kernel
theorem dX0_recordAllOf_38 : decode cX0_recordAllOf 38 = .ok (.invokevirtual 32, 3) := by decide +kernel
theorem dX0_recordAllOf_41 : decode cX0_recordAllOf 41 = .ok (.invokevirtual 36, 3) := by decide +kernel
theorem dX0_recordAllOf_44 : decode cX0_recordAllOf 44 = .ok (.iinc 2 1, 3) := by decide +kernel
theorem dX0_recordAllOf_47 : decode cX0_recordAllOf 47 = .ok (.goto (-45), 3) := by decide +kernel
theorem dX0_recordAllOf_50 : decode cX0_recordAllOf 50 = .ok (.return_, 1) := by decide +kernel
theorem dX0_forget_0 : decode cX0_forget 0 = .ok (.iload_n 1, 1) := by decide +kernel
theorem dX0_forget_1 : decode cX0_forget 1 = .ok (.ifCond .lt 20, 3) := by decide +kernel
theorem dX0_forget_4 : decode cX0_forget 4 = .ok (.iload_n 1, 1) := by decide +kernel
theorem dX0_forget_5 : decode cX0_forget 5 = .ok (.aload_n 0, 1) := by decide +kernel
theorem dX0_forget_6 : decode cX0_forget 6 = .ok (.getfield 29, 3) := by decide +kernel
theorem dX0_forget_9 : decode cX0_forget 9 = .ok (.if_icmp .ge 12, 3) := by decide +kernel
theorem dX0_forget_12 : decode cX0_forget 12 = .ok (.aload_n 0, 1) := by decide +kernel
theorem dX0_forget_13 : decode cX0_forget 13 = .ok (.getfield 29, 3) := by decide +kernel
theorem dX0_forget_16 : decode cX0_forget 16 = .ok (.bipush 60, 2) := by decide +kernel
theorem dX0_forget_18 : decode cX0_forget 18 = .ok (.if_icmp .le 4, 3) := by decide +kernel
theorem dX0_forget_21 : decode cX0_forget 21 = .ok (.return_, 1) := by decide +kernel
theorem dX0_forget_22 : decode cX0_forget 22 = .ok (.iload_n 1, 1) := by decide +kernel
theorem dX0_forget_23 : decode cX0_forget 23 = .ok (.iconst 5, 1) := by decide +kernel
theorem dX0_forget_24 : decode cX0_forget 24 = .ok (.imul, 1) := by decide +kernel
theorem dX0_forget_25 : decode cX0_forget 25 = .ok (.istore_n 2, 1) := by decide +kernel
theorem dX0_forget_26 : decode cX0_forget 26 = .ok (.iload_n 2, 1) := by decide +kernel
theorem dX0_forget_27 : decode cX0_forget 27 = .ok (.iconst 5, 1) := by decide +kernel
theorem dX0_forget_28 : decode cX0_forget 28 = .ok (.iadd, 1) := by decide +kernel
theorem dX0_forget_29 : decode cX0_forget 29 = .ok (.aload_n 0, 1) := by decide +kernel
theorem dX0_forget_30 : decode cX0_forget 30 = .ok (.getfield 29, 3) := by decide +kernel
theorem dX0_forget_33 : decode cX0_forget 33 = .ok (.iconst 5, 1) := by decide +kernel
theorem dX0_forget_34 : decode cX0_forget 34 = .ok (.imul, 1) := by decide +kernel
theorem dX0_forget_35 : decode cX0_forget 35 = .ok (.if_icmp .ge 23, 3) := by decide +kernel
theorem dX0_forget_38 : decode cX0_forget 38 = .ok (.aload_n 0, 1) := by decide +kernel
theorem dX0_forget_39 : decode cX0_forget 39 = .ok (.getfield 21, 3) := by decide +kernel
theorem dX0_forget_42 : decode cX0_forget 42 = .ok (.iload_n 2, 1) := by decide +kernel
theorem dX0_forget_43 : decode cX0_forget 43 = .ok (.aload_n 0, 1) := by decide +kernel
theorem dX0_forget_44 : decode cX0_forget 44 = .ok (.getfield 21, 3) := by decide +kernel
theorem dX0_forget_47 : decode cX0_forget 47 = .ok (.iload_n 2, 1) := by decide +kernel
theorem dX0_forget_48 : decode cX0_forget 48 = .ok (.iconst 5, 1) := by decide +kernel
theorem dX0_forget_49 : decode cX0_forget 49 = .ok (.iadd, 1) := by decide +kernel
theorem dX0_forget_50 : decode cX0_forget 50 = .ok (.iaload, 1) := by decide +kernel
theorem dX0_forget_51 : decode cX0_forget 51 = .ok (.iastore, 1) := by decide +kernel
theorem dX0_forget_52 : decode cX0_forget 52 = .ok (.iinc 2 1, 3) := by decide +kernel
theorem dX0_forget_55 : decode cX0_forget 55 = .ok (.goto (-29), 3) := by decide +kernel
theorem dX0_forget_58 : decode cX0_forget 58 = .ok (.aload_n 0, 1) := by decide +kernel
theorem dX0_forget_59 : decode cX0_forget 59 = .ok (.dup, 1) := by decide +kernel
theorem dX0_forget_60 : decode cX0_forget 60 = .ok (.getfield 29, 3) := by decide +kernel
theorem dX0_forget_63 : decode cX0_forget 63 = .ok (.iconst 1, 1) := by decide +kernel
theorem dX0_forget_64 : decode cX0_forget 64 = .ok (.isub, 1) := by decide +kernel
theorem dX0_forget_65 : decode cX0_forget 65 = .ok (.putfield 29, 3) := by decide +kernel
theorem dX0_forget_68 : decode cX0_forget 68 = .ok (.return_, 1) := by decide +kernel
theorem dX0_beginWith_0 : decode cX0_beginWith 0 = .ok (.aload_n 0, 1) := by decide +kernel
theorem dX0_beginWith_1 : decode cX0_beginWith 1 = .ok (.getfield 12, 3) := by decide +kernel
theorem dX0_beginWith_4 : decode cX0_beginWith 4 = .ok (.aload_n 1, 1) := by decide +kernel
theorem dX0_beginWith_5 : decode cX0_beginWith 5 = .ok (.invokevirtual 40, 3) := by decide +kernel
theorem dX0_beginWith_8 : decode cX0_beginWith 8 = .ok (.aload_n 0, 1) := by decide +kernel
theorem dX0_beginWith_9 : decode cX0_beginWith 9 = .ok (.getfield 18, 3) := by decide +kernel
theorem dX0_beginWith_12 : decode cX0_beginWith 12 = .ok (.aload_n 1, 1) := by decide +kernel
theorem dX0_beginWith_13 : decode cX0_beginWith 13 = .ok (.invokevirtual 40, 3) := by decide +kernel
theorem dX0_beginWith_16 : decode cX0_beginWith 16 = .ok (.aload_n 0, 1) := by decide +kernel
theorem dX0_beginWith_17 : decode cX0_beginWith 17 = .ok (.iconst 0, 1) := by decide +kernel
theorem dX0_beginWith_18 : decode cX0_beginWith 18 = .ok (.putfield 29, 3) := by decide +kernel
theorem dX0_beginWith_21 : decode cX0_beginWith 21 = .ok (.aload_n 0, 1) := by decide +kernel
theorem dX0_beginWith_22 : decode cX0_beginWith 22 = .ok (.iload_n 2, 1) := by decide +kernel
theorem dX0_beginWith_23 : decode cX0_beginWith 23 = .ok (.putfield 25, 3) := by decide +kernel
theorem dX0_beginWith_26 : decode cX0_beginWith 26 = .ok (.aload_n 0, 1) := by decide +kernel
theorem dX0_beginWith_27 : decode cX0_beginWith 27 = .ok (.iconst 1, 1) := by decide +kernel
theorem dX0_beginWith_28 : decode cX0_beginWith 28 = .ok (.putfield 44, 3) := by decide +kernel
theorem dX0_beginWith_31 : decode cX0_beginWith 31 = .ok (.return_, 1) := by decide +kernel
theorem dX0_copyFrom_0 : decode cX0_copyFrom 0 = .ok (.aload_n 0, 1) := by decide +kernel
theorem dX0_copyFrom_1 : decode cX0_copyFrom 1 = .ok (.getfield 12, 3) := by decide +kernel
theorem dX0_copyFrom_4 : decode cX0_copyFrom 4 = .ok (.aload_n 1, 1) := by decide +kernel
theorem dX0_copyFrom_5 : decode cX0_copyFrom 5 = .ok (.getfield 12, 3) := by decide +kernel
theorem dX0_copyFrom_8 : decode cX0_copyFrom 8 = .ok (.invokevirtual 40, 3) := by decide +kernel
theorem dX0_copyFrom_11 : decode cX0_copyFrom 11 = .ok (.aload_n 0, 1) := by decide +kernel
theorem dX0_copyFrom_12 : decode cX0_copyFrom 12 = .ok (.getfield 18, 3) := by decide +kernel
theorem dX0_copyFrom_15 : decode cX0_copyFrom 15 = .ok (.aload_n 1, 1) := by decide +kernel
theorem dX0_copyFrom_16 : decode cX0_copyFrom 16 = .ok (.getfield 18, 3) := by decide +kernel
theorem dX0_copyFrom_19 : decode cX0_copyFrom 19 = .ok (.invokevirtual 40, 3) := by decide +kernel
theorem dX0_copyFrom_22 : decode cX0_copyFrom 22 = .ok (.aload_n 1, 1) := by decide +kernel
theorem dX0_copyFrom_23 : decode cX0_copyFrom 23 = .ok (.getfield 21, 3) := by decide +kernel
theorem dX0_copyFrom_26 : decode cX0_copyFrom 26 = .ok (.iconst 0, 1) := by decide +kernel
theorem dX0_copyFrom_27 : decode cX0_copyFrom 27 = .ok (.aload_n 0, 1) := by decide +kernel
theorem dX0_copyFrom_28 : decode cX0_copyFrom 28 = .ok (.getfield 21, 3) := by decide +kernel
theorem dX0_copyFrom_31 : decode cX0_copyFrom 31 = .ok (.iconst 0, 1) := by decide +kernel
theorem dX0_copyFrom_32 : decode cX0_copyFrom 32 = .ok (.sipush 300, 3) := by decide +kernel
theorem dX0_copyFrom_35 : decode cX0_copyFrom 35 = .ok (.invokestatic 48, 3) := by decide +kernel
theorem dX0_copyFrom_38 : decode cX0_copyFrom 38 = .ok (.aload_n 0, 1) := by decide +kernel
theorem dX0_copyFrom_39 : decode cX0_copyFrom 39 = .ok (.aload_n 1, 1) := by decide +kernel
theorem dX0_copyFrom_40 : decode cX0_copyFrom 40 = .ok (.getfield 29, 3) := by decide +kernel
theorem dX0_copyFrom_43 : decode cX0_copyFrom 43 = .ok (.putfield 29, 3) := by decide +kernel
theorem dX0_copyFrom_46 : decode cX0_copyFrom 46 = .ok (.aload_n 0, 1) := by decide +kernel
theorem dX0_copyFrom_47 : decode cX0_copyFrom 47 = .ok (.aload_n 1, 1) := by decide +kernel
theorem dX0_copyFrom_48 : decode cX0_copyFrom 48 = .ok (.getfield 25, 3) := by decide +kernel
theorem dX0_copyFrom_51 : decode cX0_copyFrom 51 = .ok (.putfield 25, 3) := by decide +kernel
theorem dX0_copyFrom_54 : decode cX0_copyFrom 54 = .ok (.aload_n 0, 1) := by decide +kernel
theorem dX0_copyFrom_55 : decode cX0_copyFrom 55 = .ok (.aload_n 1, 1) := by decide +kernel
theorem dX0_copyFrom_56 : decode cX0_copyFrom 56 = .ok (.getfield 44, 3) := by decide +kernel
theorem dX0_copyFrom_59 : decode cX0_copyFrom 59 = .ok (.putfield 44, 3) := by decide +kernel
theorem dX0_copyFrom_62 : decode cX0_copyFrom 62 = .ok (.return_, 1) := by decide +kernel
theorem dX1_init_0 : decode cX1_init 0 = .ok (.aload_n 0, 1) := by decide +kernel
theorem dX1_init_1 : decode cX1_init 1 = .ok (.invokespecial 3, 3) := by decide +kernel
theorem dX1_init_4 : decode cX1_init 4 = .ok (.aload_n 0, 1) := by decide +kernel
theorem dX1_init_5 : decode cX1_init 5 = .ok (.new 9, 3) := by decide +kernel
theorem dX1_init_8 : decode cX1_init 8 = .ok (.dup, 1) := by decide +kernel
theorem dX1_init_9 : decode cX1_init 9 = .ok (.invokespecial 11, 3) := by decide +kernel
theorem dX1_init_12 : decode cX1_init 12 = .ok (.putfield 12, 3) := by decide +kernel
theorem dX1_init_15 : decode cX1_init 15 = .ok (.aload_n 0, 1) := by decide +kernel
theorem dX1_init_16 : decode cX1_init 16 = .ok (.bipush 6, 2) := by decide +kernel
theorem dX1_init_18 : decode cX1_init 18 = .ok (.anewarray 9, 3) := by decide +kernel
theorem dX1_init_21 : decode cX1_init 21 = .ok (.putfield 18, 3) := by decide +kernel
theorem dX1_init_24 : decode cX1_init 24 = .ok (.aload_n 0, 1) := by decide +kernel
theorem dX1_init_25 : decode cX1_init 25 = .ok (.getfield 12, 3) := by decide +kernel
theorem dX1_init_28 : decode cX1_init 28 = .ok (.iconst 1, 1) := by decide +kernel
theorem dX1_init_29 : decode cX1_init 29 = .ok (.putfield 22, 3) := by decide +kernel
theorem dX1_init_32 : decode cX1_init 32 = .ok (.aload_n 0, 1) := by decide +kernel
theorem dX1_init_33 : decode cX1_init 33 = .ok (.getfield 18, 3) := by decide +kernel
theorem dX1_init_36 : decode cX1_init 36 = .ok (.iconst 0, 1) := by decide +kernel
theorem dX1_init_37 : decode cX1_init 37 = .ok (.aload_n 0, 1) := by decide +kernel
theorem dX1_init_38 : decode cX1_init 38 = .ok (.getfield 12, 3) := by decide +kernel
theorem dX1_init_41 : decode cX1_init 41 = .ok (.aastore, 1) := by decide +kernel
theorem dX1_init_42 : decode cX1_init 42 = .ok (.iconst 1, 1) := by decide +kernel
theorem dX1_init_43 : decode cX1_init 43 = .ok (.istore_n 1, 1) := by decide +kernel
theorem dX1_init_44 : decode cX1_init 44 = .ok (.iload_n 1, 1) := by decide +kernel
theorem dX1_init_45 : decode cX1_init 45 = .ok (.bipush 6, 2) := by decide +kernel
theorem dX1_init_47 : decode cX1_init 47 = .ok (.if_icmp .ge 22, 3) := by decide +kernel
theorem dX1_init_50 : decode cX1_init 50 = .ok (.aload_n 0, 1) := by decide +kernel
theorem dX1_init_51 : decode cX1_init 51 = .ok (.getfield 18, 3) := by decide +kernel
theorem dX1_init_54 : decode cX1_init 54 = .ok (.iload_n 1, 1) := by decide +kernel
theorem dX1_init_55 : decode cX1_init 55 = .ok (.new 9, 3) := by decide +kernel
theorem dX1_init_58 : decode cX1_init 58 = .ok (.dup, 1) := by decide +kernel
theorem dX1_init_59 : decode cX1_init 59 = .ok (.invokespecial 11, 3) := by decide +kernel
theorem dX1_init_62 : decode cX1_init 62 = .ok (.aastore, 1) := by decide +kernel
theorem dX1_init_63 : decode cX1_init 63 = .ok (.iinc 1 1, 3) := by decide +kernel
theorem dX1_init_66 : decode cX1_init 66 = .ok (.goto (-22), 3) := by decide +kernel
theorem dX1_init_69 : decode cX1_init 69 = .ok (.return_, 1) := by decide +kernel
theorem dX1_branchOrNull_0 : decode cX1_branchOrNull 0 = .ok (.iload_n 1, 1) := by decide +kernel
theorem dX1_branchOrNull_1 : decode cX1_branchOrNull 1 = .ok (.ifCond .lt 9, 3) := by decide +kernel
theorem dX1_branchOrNull_4 : decode cX1_branchOrNull 4 = .ok (.iload_n 1, 1) := by decide +kernel
theorem dX1_branchOrNull_5 : decode cX1_branchOrNull 5 = .ok (.bipush 6, 2) := by decide +kernel
theorem dX1_branchOrNull_7 : decode cX1_branchOrNull 7 = .ok (.if_icmp .lt 5, 3) := by decide +kernel
theorem dX1_branchOrNull_10 : decode cX1_branchOrNull 10 = .ok (.aconst_null, 1) := by decide +kernel
theorem dX1_branchOrNull_11 : decode cX1_branchOrNull 11 = .ok (.areturn, 1) := by decide +kernel
theorem dX1_branchOrNull_12 : decode cX1_branchOrNull 12 = .ok (.aload_n 0, 1) := by decide +kernel
theorem dX1_branchOrNull_13 : decode cX1_branchOrNull 13 = .ok (.getfield 18, 3) := by decide +kernel
theorem dX1_branchOrNull_16 : decode cX1_branchOrNull 16 = .ok (.iload_n 1, 1) := by decide +kernel
theorem dX1_branchOrNull_17 : decode cX1_branchOrNull 17 = .ok (.aaload, 1) := by decide +kernel
theorem dX1_branchOrNull_18 : decode cX1_branchOrNull 18 = .ok (.astore_n 2, 1) := by decide +kernel
theorem dX1_branchOrNull_19 : decode cX1_branchOrNull 19 = .ok (.aload_n 2, 1) := by decide +kernel
theorem dX1_branchOrNull_20 : decode cX1_branchOrNull 20 = .ok (.ifnull 14, 3) := by decide +kernel
theorem dX1_branchOrNull_23 : decode cX1_branchOrNull 23 = .ok (.aload_n 2, 1) := by decide +kernel
theorem dX1_branchOrNull_24 : decode cX1_branchOrNull 24 = .ok (.getfield 22, 3) := by decide +kernel
theorem dX1_branchOrNull_27 : decode cX1_branchOrNull 27 = .ok (.ifCond .eq 7, 3) := by decide +kernel
theorem dX1_branchOrNull_30 : decode cX1_branchOrNull 30 = .ok (.aload_n 2, 1) := by decide +kernel
theorem dX1_branchOrNull_31 : decode cX1_branchOrNull 31 = .ok (.goto 4, 3) := by decide +kernel
theorem dX1_branchOrNull_34 : decode cX1_branchOrNull 34 = .ok (.aconst_null, 1) := by decide +kernel
theorem dX1_branchOrNull_35 : decode cX1_branchOrNull 35 = .ok (.areturn, 1) := by decide +kernel
theorem dX1_here_0 : decode cX1_here 0 = .ok (.aload_n 0, 1) := by decide +kernel
theorem dX1_here_1 : decode cX1_here 1 = .ok (.aload_n 0, 1) := by decide +kernel
theorem dX1_here_2 : decode cX1_here 2 = .ok (.getfield 26, 3) := by decide +kernel
theorem dX1_here_5 : decode cX1_here 5 = .ok (.invokevirtual 30, 3) := by decide +kernel
theorem dX1_here_8 : decode cX1_here 8 = .ok (.astore_n 1, 1) := by decide +kernel
theorem dX1_here_9 : decode cX1_here 9 = .ok (.aload_n 1, 1) := by decide +kernel
theorem dX1_here_10 : decode cX1_here 10 = .ok (.ifnull 7, 3) := by decide +kernel
theorem dX1_here_13 : decode cX1_here 13 = .ok (.aload_n 1, 1) := by decide +kernel
theorem dX1_here_14 : decode cX1_here 14 = .ok (.goto 7, 3) := by decide +kernel
theorem dX1_here_17 : decode cX1_here 17 = .ok (.aload_n 0, 1) := by decide +kernel
theorem dX1_here_18 : decode cX1_here 18 = .ok (.getfield 12, 3) := by decide +kernel
theorem dX1_here_21 : decode cX1_here 21 = .ok (.areturn, 1) := by decide +kernel
theorem dX1_count_0 : decode cX1_count 0 = .ok (.iconst 0, 1) := by decide +kernel
theorem dX1_count_1 : decode cX1_count 1 = .ok (.istore_n 1, 1) := by decide +kernel
theorem dX1_count_2 : decode cX1_count 2 = .ok (.iconst 0, 1) := by decide +kernel
theorem dX1_count_3 : decode cX1_count 3 = .ok (.istore_n 2, 1) := by decide +kernel
theorem dX1_count_4 : decode cX1_count 4 = .ok (.iload_n 2, 1) := by decide +kernel
theorem dX1_count_5 : decode cX1_count 5 = .ok (.bipush 6, 2) := by decide +kernel
theorem dX1_count_7 : decode cX1_count 7 = .ok (.if_icmp .ge 20, 3) := by decide +kernel
theorem dX1_count_10 : decode cX1_count 10 = .ok (.aload_n 0, 1) := by decide +kernel
theorem dX1_count_11 : decode cX1_count 11 = .ok (.iload_n 2, 1) := by decide +kernel
theorem dX1_count_12 : decode cX1_count 12 = .ok (.invokevirtual 30, 3) := by decide +kernel
theorem dX1_count_15 : decode cX1_count 15 = .ok (.ifnull 6, 3) := by decide +kernel
theorem dX1_count_18 : decode cX1_count 18 = .ok (.iinc 1 1, 3) := by decide +kernel
theorem dX1_count_21 : decode cX1_count 21 = .ok (.iinc 2 1, 3) := by decide +kernel
theorem dX1_count_24 : decode cX1_count 24 = .ok (.goto (-20), 3) := by decide +kernel
theorem dX1_count_27 : decode cX1_count 27 = .ok (.iload_n 1, 1) := by decide +kernel
theorem dX1_count_28 : decode cX1_count 28 = .ok (.ireturn, 1) := by decide +kernel
theorem dX1_childrenOf_0 : decode cX1_childrenOf 0 = .ok (.iconst 0, 1) := by decide +kernel
theorem dX1_childrenOf_1 : decode cX1_childrenOf 1 = .ok (.istore_n 2, 1) := by decide +kernel
theorem dX1_childrenOf_2 : decode cX1_childrenOf 2 = .ok (.iconst 0, 1) := by decide +kernel
theorem dX1_childrenOf_3 : decode cX1_childrenOf 3 = .ok (.istore_n 3, 1) := by decide +kernel
theorem dX1_childrenOf_4 : decode cX1_childrenOf 4 = .ok (.iload_n 3, 1) := by decide +kernel
theorem dX1_childrenOf_5 : decode cX1_childrenOf 5 = .ok (.bipush 6, 2) := by decide +kernel
theorem dX1_childrenOf_7 : decode cX1_childrenOf 7 = .ok (.if_icmp .ge 33, 3) := by decide +kernel
theorem dX1_childrenOf_10 : decode cX1_childrenOf 10 = .ok (.aload_n 0, 1) := by decide +kernel
theorem dX1_childrenOf_11 : decode cX1_childrenOf 11 = .ok (.iload_n 3, 1) := by decide +kernel
theorem dX1_childrenOf_12 : decode cX1_childrenOf 12 = .ok (.invokevirtual 30, 3) := by decide +kernel
theorem dX1_childrenOf_15 : decode cX1_childrenOf 15 = .ok (.astore 4, 2) := by decide +kernel
theorem dX1_childrenOf_17 : decode cX1_childrenOf 17 = .ok (.aload 4, 2) := by decide +kernel
theorem dX1_childrenOf_19 : decode cX1_childrenOf 19 = .ok (.ifnull 15, 3) := by decide +kernel
theorem dX1_childrenOf_22 : decode cX1_childrenOf 22 = .ok (.aload 4, 2) := by decide +kernel
theorem dX1_childrenOf_24 : decode cX1_childrenOf 24 = .ok (.getfield 34, 3) := by decide +kernel
theorem dX1_childrenOf_27 : decode cX1_childrenOf 27 = .ok (.iload_n 1, 1) := by decide +kernel
theorem dX1_childrenOf_28 : decode cX1_childrenOf 28 = .ok (.if_icmp .ne 6, 3) := by decide +kernel
theorem dX1_childrenOf_31 : decode cX1_childrenOf 31 = .ok (.iinc 2 1, 3) := by decide +kernel
theorem dX1_childrenOf_34 : decode cX1_childrenOf 34 = .ok (.iinc 3 1, 3) := by decide +kernel
theorem dX1_childrenOf_37 : decode cX1_childrenOf 37 = .ok (.goto (-33), 3) := by decide +kernel
theorem dX1_childrenOf_40 : decode cX1_childrenOf 40 = .ok (.iload_n 2, 1) := by decide +kernel
theorem dX1_childrenOf_41 : decode cX1_childrenOf 41 = .ok (.ireturn, 1) := by decide +kernel
theorem dX1_isRemovable_0 : decode cX1_isRemovable 0 = .ok (.iload_n 1, 1) := by decide +kernel
theorem dX1_isRemovable_1 : decode cX1_isRemovable 1 = .ok (.ifCond .eq 23, 3) := by decide +kernel
theorem dX1_isRemovable_4 : decode cX1_isRemovable 4 = .ok (.iload_n 1, 1) := by decide +kernel
theorem dX1_isRemovable_5 : decode cX1_isRemovable 5 = .ok (.aload_n 0, 1) := by decide +kernel
theorem dX1_isRemovable_6 : decode cX1_isRemovable 6 = .ok (.getfield 26, 3) := by decide +kernel
theorem dX1_isRemovable_9 : decode cX1_isRemovable 9 = .ok (.if_icmp .eq 15, 3) := by decide +kernel
theorem dX1_isRemovable_12 : decode cX1_isRemovable 12 = .ok (.aload_n 0, 1) := by decide +kernel
theorem dX1_isRemovable_13 : decode cX1_isRemovable 13 = .ok (.iload_n 1, 1) := by decide +kernel
theorem dX1_isRemovable_14 : decode cX1_isRemovable 14 = .ok (.invokevirtual 37, 3) := by decide +kernel
theorem dX1_isRemovable_17 : decode cX1_isRemovable 17 = .ok (.ifCond .ne 7, 3) := by decide +kernel
theorem dX1_isRemovable_20 : decode cX1_isRemovable 20 = .ok (.iconst 1, 1) := by decide +kernel
theorem dX1_isRemovable_21 : decode cX1_isRemovable 21 = .ok (.goto 4, 3) := by decide +kernel
theorem dX1_isRemovable_24 : decode cX1_isRemovable 24 = .ok (.iconst 0, 1) := by decide +kernel
theorem dX1_isRemovable_25 : decode cX1_isRemovable 25 = .ok (.ireturn, 1) := by decide +kernel
theorem dX1_firstFree_0 : decode cX1_firstFree 0 = .ok (.iconst 0, 1) := by decide +kernel
theorem dX1_firstFree_1 : decode cX1_firstFree 1 = .ok (.istore_n 1, 1) := by decide +kernel
theorem dX1_firstFree_2 : decode cX1_firstFree 2 = .ok (.iload_n 1, 1) := by decide +kernel
theorem dX1_firstFree_3 : decode cX1_firstFree 3 = .ok (.bipush 6, 2) := by decide +kernel
theorem dX1_firstFree_5 : decode cX1_firstFree 5 = .ok (.if_icmp .ge 19, 3) := by decide +kernel
theorem dX1_firstFree_8 : decode cX1_firstFree 8 = .ok (.aload_n 0, 1) := by decide +kernel
theorem dX1_firstFree_9 : decode cX1_firstFree 9 = .ok (.iload_n 1, 1) := by decide +kernel
theorem dX1_firstFree_10 : decode cX1_firstFree 10 = .ok (.invokevirtual 30, 3) := by decide +kernel
theorem dX1_firstFree_13 : decode cX1_firstFree 13 = .ok (.ifnonnull 5, 3) := by decide +kernel
theorem dX1_firstFree_16 : decode cX1_firstFree 16 = .ok (.iload_n 1, 1) := by decide +kernel
theorem dX1_firstFree_17 : decode cX1_firstFree 17 = .ok (.ireturn, 1) := by decide +kernel
theorem dX1_firstFree_18 : decode cX1_firstFree 18 = .ok (.iinc 1 1, 3) := by decide +kernel
theorem dX1_firstFree_21 : decode cX1_firstFree 21 = .ok (.goto (-19), 3) := by decide +kernel
theorem dX1_firstFree_24 : decode cX1_firstFree 24 = .ok (.iconst (-1), 1) := by decide +kernel
theorem dX1_firstFree_25 : decode cX1_firstFree 25 = .ok (.ireturn, 1) := by decide +kernel
theorem dX1_open_0 : decode cX1_open 0 = .ok (.iload_n 1, 1) := by decide +kernel
theorem dX1_open_1 : decode cX1_open 1 = .ok (.ifCond .lt 9, 3) := by decide +kernel
theorem dX1_open_4 : decode cX1_open 4 = .ok (.iload_n 1, 1) := by decide +kernel
theorem dX1_open_5 : decode cX1_open 5 = .ok (.bipush 6, 2) := by decide +kernel
theorem dX1_open_7 : decode cX1_open 7 = .ok (.if_icmp .lt 4, 3) := by decide +kernel
theorem dX1_open_10 : decode cX1_open 10 = .ok (.return_, 1) := by decide +kernel
theorem dX1_open_11 : decode cX1_open 11 = .ok (.aload_n 0, 1) := by decide +kernel
theorem dX1_open_12 : decode cX1_open 12 = .ok (.getfield 18, 3) := by decide +kernel
theorem dX1_open_15 : decode cX1_open 15 = .ok (.iload_n 1, 1) := by decide +kernel
theorem dX1_open_16 : decode cX1_open 16 = .ok (.aaload, 1) := by decide +kernel
theorem dX1_open_17 : decode cX1_open 17 = .ok (.astore_n 2, 1) := by decide +kernel
theorem dX1_open_18 : decode cX1_open 18 = .ok (.aload_n 2, 1) := by decide +kernel
theorem dX1_open_19 : decode cX1_open 19 = .ok (.ifnull 18, 3) := by decide +kernel
theorem dX1_open_22 : decode cX1_open 22 = .ok (.aload_n 2, 1) := by decide +kernel
theorem dX1_open_23 : decode cX1_open 23 = .ok (.aload_n 0, 1) := by decide +kernel
theorem dX1_open_24 : decode cX1_open 24 = .ok (.invokevirtual 41, 3) := by decide +kernel
theorem dX1_open_27 : decode cX1_open 27 = .ok (.getfield 45, 3) := by decide +kernel
theorem dX1_open_30 : decode cX1_open 30 = .ok (.aload_n 0, 1) := by decide +kernel
theorem dX1_open_31 : decode cX1_open 31 = .ok (.getfield 26, 3) := by decide +kernel
theorem dX1_open_34 : decode cX1_open 34 = .ok (.invokevirtual 49, 3) := by decide +kernel
theorem dX1_open_37 : decode cX1_open 37 = .ok (.return_, 1) := by decide +kernel
theorem dX1_copyFrom_0 : decode cX1_copyFrom 0 = .ok (.iconst 0, 1) := by decide +kernel
theorem dX1_copyFrom_1 : decode cX1_copyFrom 1 = .ok (.istore_n 2, 1) := by decide +kernel
theorem dX1_copyFrom_2 : decode cX1_copyFrom 2 = .ok (.iload_n 2, 1) := by decide +kernel
theorem dX1_copyFrom_3 : decode cX1_copyFrom 3 = .ok (.bipush 6, 2) := by decide +kernel
theorem dX1_copyFrom_5 : decode cX1_copyFrom 5 = .ok (.if_icmp .ge 39, 3) := by decide +kernel
theorem dX1_copyFrom_8 : decode cX1_copyFrom 8 = .ok (.aload_n 0, 1) := by decide +kernel
theorem dX1_copyFrom_9 : decode cX1_copyFrom 9 = .ok (.getfield 18, 3) := by decide +kernel
theorem dX1_copyFrom_12 : decode cX1_copyFrom 12 = .ok (.iload_n 2, 1) := by decide +kernel
theorem dX1_copyFrom_13 : decode cX1_copyFrom 13 = .ok (.aaload, 1) := by decide +kernel
theorem dX1_copyFrom_14 : decode cX1_copyFrom 14 = .ok (.astore_n 3, 1) := by decide +kernel
theorem dX1_copyFrom_15 : decode cX1_copyFrom 15 = .ok (.aload_n 1, 1) := by decide +kernel
theorem dX1_copyFrom_16 : decode cX1_copyFrom 16 = .ok (.getfield 18, 3) := by decide +kernel
theorem dX1_copyFrom_19 : decode cX1_copyFrom 19 = .ok (.iload_n 2, 1) := by decide +kernel
theorem dX1_copyFrom_20 : decode cX1_copyFrom 20 = .ok (.aaload, 1) := by decide +kernel
theorem dX1_copyFrom_21 : decode cX1_copyFrom 21 = .ok (.astore 4, 2) := by decide +kernel
theorem dX1_copyFrom_23 : decode cX1_copyFrom 23 = .ok (.aload_n 3, 1) := by decide +kernel
theorem dX1_copyFrom_24 : decode cX1_copyFrom 24 = .ok (.ifnull 14, 3) := by decide +kernel
theorem dX1_copyFrom_27 : decode cX1_copyFrom 27 = .ok (.aload 4, 2) := by decide +kernel
theorem dX1_copyFrom_29 : decode cX1_copyFrom 29 = .ok (.ifnull 9, 3) := by decide +kernel
theorem dX1_copyFrom_32 : decode cX1_copyFrom 32 = .ok (.aload_n 3, 1) := by decide +kernel
theorem dX1_copyFrom_33 : decode cX1_copyFrom 33 = .ok (.aload 4, 2) := by decide +kernel
theorem dX1_copyFrom_35 : decode cX1_copyFrom 35 = .ok (.invokevirtual 53, 3) := by decide +kernel
theorem dX1_copyFrom_38 : decode cX1_copyFrom 38 = .ok (.iinc 2 1, 3) := by decide +kernel
theorem dX1_copyFrom_41 : decode cX1_copyFrom 41 = .ok (.goto (-39), 3) := by decide +kernel
theorem dX1_copyFrom_44 : decode cX1_copyFrom 44 = .ok (.aload_n 0, 1) := by decide +kernel
theorem dX1_copyFrom_45 : decode cX1_copyFrom 45 = .ok (.aload_n 1, 1) := by decide +kernel
theorem dX1_copyFrom_46 : decode cX1_copyFrom 46 = .ok (.getfield 26, 3) := by decide +kernel
theorem dX1_copyFrom_49 : decode cX1_copyFrom 49 = .ok (.putfield 26, 3) := by decide +kernel
theorem dX1_copyFrom_52 : decode cX1_copyFrom 52 = .ok (.return_, 1) := by decide +kernel
theorem dX2_init_0 : decode cX2_init 0 = .ok (.aload_n 0, 1) := by decide +kernel
theorem dX2_init_1 : decode cX2_init 1 = .ok (.invokespecial 3, 3) := by decide +kernel
theorem dX2_init_4 : decode cX2_init 4 = .ok (.aload_n 0, 1) := by decide +kernel
theorem dX2_init_5 : decode cX2_init 5 = .ok (.bipush 10, 2) := by decide +kernel
theorem dX2_init_7 : decode cX2_init 7 = .ok (.newarray .long, 2) := by decide +kernel
theorem dX2_init_9 : decode cX2_init 9 = .ok (.putfield 9, 3) := by decide +kernel
theorem dX2_init_12 : decode cX2_init 12 = .ok (.aload_n 0, 1) := by decide +kernel
theorem dX2_init_13 : decode cX2_init 13 = .ok (.bipush 10, 2) := by decide +kernel
theorem dX2_init_15 : decode cX2_init 15 = .ok (.newarray .int, 2) := by decide +kernel
theorem dX2_init_17 : decode cX2_init 17 = .ok (.putfield 15, 3) := by decide +kernel
theorem dX2_init_20 : decode cX2_init 20 = .ok (.aload_n 0, 1) := by decide +kernel
theorem dX2_init_21 : decode cX2_init 21 = .ok (.bipush 10, 2) := by decide +kernel
theorem dX2_init_23 : decode cX2_init 23 = .ok (.newarray .int, 2) := by decide +kernel
theorem dX2_init_25 : decode cX2_init 25 = .ok (.putfield 19, 3) := by decide +kernel
theorem dX2_init_28 : decode cX2_init 28 = .ok (.aload_n 0, 1) := by decide +kernel
theorem dX2_init_29 : decode cX2_init 29 = .ok (.bipush 10, 2) := by decide +kernel
theorem dX2_init_31 : decode cX2_init 31 = .ok (.newarray .long, 2) := by decide +kernel
theorem dX2_init_33 : decode cX2_init 33 = .ok (.putfield 22, 3) := by decide +kernel
theorem dX2_init_36 : decode cX2_init 36 = .ok (.return_, 1) := by decide +kernel
theorem dX2_has_0 : decode cX2_has 0 = .ok (.iload_n 1, 1) := by decide +kernel
theorem dX2_has_1 : decode cX2_has 1 = .ok (.ifCond .lt 21, 3) := by decide +kernel
theorem dX2_has_4 : decode cX2_has 4 = .ok (.iload_n 1, 1) := by decide +kernel
theorem dX2_has_5 : decode cX2_has 5 = .ok (.aload_n 0, 1) := by decide +kernel
theorem dX2_has_6 : decode cX2_has 6 = .ok (.getfield 25, 3) := by decide +kernel
theorem dX2_has_9 : decode cX2_has 9 = .ok (.if_icmp .ge 13, 3) := by decide +kernel
theorem dX2_has_12 : decode cX2_has 12 = .ok (.iload_n 1, 1) := by decide +kernel
theorem dX2_has_13 : decode cX2_has 13 = .ok (.bipush 10, 2) := by decide +kernel
theorem dX2_has_15 : decode cX2_has 15 = .ok (.if_icmp .ge 7, 3) := by decide +kernel
theorem dX2_has_18 : decode cX2_has 18 = .ok (.iconst 1, 1) := by decide +kernel
theorem dX2_has_19 : decode cX2_has 19 = .ok (.goto 4, 3) := by decide +kernel
theorem dX2_has_22 : decode cX2_has 22 = .ok (.iconst 0, 1) := by decide +kernel
theorem dX2_has_23 : decode cX2_has 23 = .ok (.ireturn, 1) := by decide +kernel
theorem dX2_append_0 : decode cX2_append 0 = .ok (.aload_n 0, 1) := by decide +kernel
theorem dX2_append_1 : decode cX2_append 1 = .ok (.getfield 25, 3) := by decide +kernel
theorem dX2_append_4 : decode cX2_append 4 = .ok (.istore_n 3, 1) := by decide +kernel
theorem dX2_append_5 : decode cX2_append 5 = .ok (.iload_n 3, 1) := by decide +kernel
theorem dX2_append_6 : decode cX2_append 6 = .ok (.ifCond .lt 9, 3) := by decide +kernel
theorem dX2_append_9 : decode cX2_append 9 = .ok (.iload_n 3, 1) := by decide +kernel
theorem dX2_append_10 : decode cX2_append 10 = .ok (.bipush 10, 2) := by decide +kernel
theorem dX2_append_12 : decode cX2_append 12 = .ok (.if_icmp .lt 5, 3) := by decide +kernel
theorem dX2_append_15 : decode cX2_append 15 = .ok (.iload_n 3, 1) := by decide +kernel
theorem dX2_append_16 : decode cX2_append 16 = .ok (.ireturn, 1) := by decide +kernel
theorem dX2_append_17 : decode cX2_append 17 = .ok (.aload_n 0, 1) := by decide +kernel
theorem dX2_append_18 : decode cX2_append 18 = .ok (.getfield 9, 3) := by decide +kernel
theorem dX2_append_21 : decode cX2_append 21 = .ok (.iload_n 3, 1) := by decide +kernel
theorem dX2_append_22 : decode cX2_append 22 = .ok (.lconst 0, 1) := by decide +kernel
theorem dX2_append_23 : decode cX2_append 23 = .ok (.lastore, 1) := by decide +kernel
theorem dX2_append_24 : decode cX2_append 24 = .ok (.aload_n 0, 1) := by decide +kernel
theorem dX2_append_25 : decode cX2_append 25 = .ok (.getfield 15, 3) := by decide +kernel
theorem dX2_append_28 : decode cX2_append 28 = .ok (.iload_n 3, 1) := by decide +kernel
theorem dX2_append_29 : decode cX2_append 29 = .ok (.iload_n 1, 1) := by decide +kernel
theorem dX2_append_30 : decode cX2_append 30 = .ok (.iastore, 1) := by decide +kernel
theorem dX2_append_31 : decode cX2_append 31 = .ok (.aload_n 0, 1) := by decide +kernel
theorem dX2_append_32 : decode cX2_append 32 = .ok (.getfield 19, 3) := by decide +kernel
theorem dX2_append_35 : decode cX2_append 35 = .ok (.iload_n 3, 1) := by decide +kernel
theorem dX2_append_36 : decode cX2_append 36 = .ok (.iload_n 2, 1) := by decide +kernel
theorem dX2_append_37 : decode cX2_append 37 = .ok (.iastore, 1) := by decide +kernel
theorem dX2_append_38 : decode cX2_append 38 = .ok (.aload_n 0, 1) := by decide +kernel
theorem dX2_append_39 : decode cX2_append 39 = .ok (.getfield 22, 3) := by decide +kernel
theorem dX2_append_42 : decode cX2_append 42 = .ok (.iload_n 3, 1) := by decide +kernel
theorem dX2_append_43 : decode cX2_append 43 = .ok (.lconst 0, 1) := by decide +kernel
theorem dX2_append_44 : decode cX2_append 44 = .ok (.lastore, 1) := by decide +kernel
theorem dX2_append_45 : decode cX2_append 45 = .ok (.aload_n 0, 1) := by decide +kernel
theorem dX2_append_46 : decode cX2_append 46 = .ok (.dup, 1) := by decide +kernel
theorem dX2_append_47 : decode cX2_append 47 = .ok (.getfield 25, 3) := by decide +kernel
theorem dX2_append_50 : decode cX2_append 50 = .ok (.iconst 1, 1) := by decide +kernel
theorem dX2_append_51 : decode cX2_append 51 = .ok (.iadd, 1) := by decide +kernel
theorem dX2_append_52 : decode cX2_append 52 = .ok (.putfield 25, 3) := by decide +kernel
theorem dX2_append_55 : decode cX2_append 55 = .ok (.iload_n 3, 1) := by decide +kernel
theorem dX2_append_56 : decode cX2_append 56 = .ok (.ireturn, 1) := by decide +kernel
theorem dX2_changeCap_0 : decode cX2_changeCap 0 = .ok (.aload_n 0, 1) := by decide +kernel
theorem dX2_changeCap_1 : decode cX2_changeCap 1 = .ok (.iload_n 1, 1) := by decide +kernel
theorem dX2_changeCap_2 : decode cX2_changeCap 2 = .ok (.invokevirtual 29, 3) := by decide +kernel
theorem dX2_changeCap_5 : decode cX2_changeCap 5 = .ok (.ifCond .ne 5, 3) := by decide +kernel
theorem dX2_changeCap_8 : decode cX2_changeCap 8 = .ok (.iconst 0, 1) := by decide +kernel
theorem dX2_changeCap_9 : decode cX2_changeCap 9 = .ok (.ireturn, 1) := by decide +kernel
theorem dX2_changeCap_10 : decode cX2_changeCap 10 = .ok (.aload_n 0, 1) := by decide +kernel
theorem dX2_changeCap_11 : decode cX2_changeCap 11 = .ok (.getfield 15, 3) := by decide +kernel
theorem dX2_changeCap_14 : decode cX2_changeCap 14 = .ok (.iload_n 1, 1) := by decide +kernel
theorem dX2_changeCap_15 : decode cX2_changeCap 15 = .ok (.iaload, 1) := by decide +kernel
theorem dX2_changeCap_16 : decode cX2_changeCap 16 = .ok (.istore_n 3, 1) := by decide +kernel
theorem dX2_changeCap_17 : decode cX2_changeCap 17 = .ok (.aload_n 0, 1) := by decide +kernel
theorem dX2_changeCap_18 : decode cX2_changeCap 18 = .ok (.getfield 15, 3) := by decide +kernel
theorem dX2_changeCap_21 : decode cX2_changeCap 21 = .ok (.iload_n 1, 1) := by decide +kernel
theorem dX2_changeCap_22 : decode cX2_changeCap 22 = .ok (.iload_n 2, 1) := by decide +kernel
theorem dX2_changeCap_23 : decode cX2_changeCap 23 = .ok (.iastore, 1) := by decide +kernel
theorem dX2_changeCap_24 : decode cX2_changeCap 24 = .ok (.iload_n 3, 1) := by decide +kernel
theorem dX2_changeCap_25 : decode cX2_changeCap 25 = .ok (.ireturn, 1) := by decide +kernel
theorem dX2_changeRollover_0 : decode cX2_changeRollover 0 = .ok (.aload_n 0, 1) := by decide +kernel
theorem dX2_changeRollover_1 : decode cX2_changeRollover 1 = .ok (.iload_n 1, 1) := by decide +kernel
theorem dX2_changeRollover_2 : decode cX2_changeRollover 2 = .ok (.invokevirtual 29, 3) := by decide +kernel
theorem dX2_changeRollover_5 : decode cX2_changeRollover 5 = .ok (.ifCond .ne 5, 3) := by decide +kernel
theorem dX2_changeRollover_8 : decode cX2_changeRollover 8 = .ok (.iconst 0, 1) := by decide +kernel
theorem dX2_changeRollover_9 : decode cX2_changeRollover 9 = .ok (.ireturn, 1) := by decide +kernel
theorem dX2_changeRollover_10 : decode cX2_changeRollover 10 = .ok (.aload_n 0, 1) := by decide +kernel
theorem dX2_changeRollover_11 : decode cX2_changeRollover 11 = .ok (.getfield 19, 3) := by decide +kernel
theorem dX2_changeRollover_14 : decode cX2_changeRollover 14 = .ok (.iload_n 1, 1) := by decide +kernel
theorem dX2_changeRollover_15 : decode cX2_changeRollover 15 = .ok (.iaload, 1) := by decide +kernel
theorem dX2_changeRollover_16 : decode cX2_changeRollover 16 = .ok (.istore_n 3, 1) := by decide +kernel
theorem dX2_changeRollover_17 : decode cX2_changeRollover 17 = .ok (.aload_n 0, 1) := by decide +kernel
theorem dX2_changeRollover_18 : decode cX2_changeRollover 18 = .ok (.getfield 19, 3) := by decide +kernel
theorem dX2_changeRollover_21 : decode cX2_changeRollover 21 = .ok (.iload_n 1, 1) := by decide +kernel
theorem dX2_changeRollover_22 : decode cX2_changeRollover 22 = .ok (.iload_n 2, 1) := by decide +kernel
theorem dX2_changeRollover_23 : decode cX2_changeRollover 23 = .ok (.iastore, 1) := by decide +kernel
theorem dX2_changeRollover_24 : decode cX2_changeRollover 24 = .ok (.iload_n 3, 1) := by decide +kernel
theorem dX2_changeRollover_25 : decode cX2_changeRollover 25 = .ok (.ireturn, 1) := by decide +kernel
theorem dX2_isCapped_0 : decode cX2_isCapped 0 = .ok (.iload_n 1, 1) := by decide +kernel
theorem dX2_isCapped_1 : decode cX2_isCapped 1 = .ok (.ifCond .lt 31, 3) := by decide +kernel
theorem dX2_isCapped_4 : decode cX2_isCapped 4 = .ok (.iload_n 1, 1) := by decide +kernel
theorem dX2_isCapped_5 : decode cX2_isCapped 5 = .ok (.aload_n 0, 1) := by decide +kernel
theorem dX2_isCapped_6 : decode cX2_isCapped 6 = .ok (.getfield 25, 3) := by decide +kernel
theorem dX2_isCapped_9 : decode cX2_isCapped 9 = .ok (.if_icmp .ge 23, 3) := by decide +kernel
theorem dX2_isCapped_12 : decode cX2_isCapped 12 = .ok (.iload_n 1, 1) := by decide +kernel
theorem dX2_isCapped_13 : decode cX2_isCapped 13 = .ok (.bipush 10, 2) := by decide +kernel
theorem dX2_isCapped_15 : decode cX2_isCapped 15 = .ok (.if_icmp .ge 17, 3) := by decide +kernel
theorem dX2_isCapped_18 : decode cX2_isCapped 18 = .ok (.aload_n 0, 1) := by decide +kernel
theorem dX2_isCapped_19 : decode cX2_isCapped 19 = .ok (.getfield 15, 3) := by decide +kernel
theorem dX2_isCapped_22 : decode cX2_isCapped 22 = .ok (.iload_n 1, 1) := by decide +kernel
theorem dX2_isCapped_23 : decode cX2_isCapped 23 = .ok (.iaload, 1) := by decide +kernel
theorem dX2_isCapped_24 : decode cX2_isCapped 24 = .ok (.iconst (-1), 1) := by decide +kernel
theorem dX2_isCapped_25 : decode cX2_isCapped 25 = .ok (.if_icmp .eq 7, 3) := by decide +kernel
theorem dX2_isCapped_28 : decode cX2_isCapped 28 = .ok (.iconst 1, 1) := by decide +kernel
theorem dX2_isCapped_29 : decode cX2_isCapped 29 = .ok (.goto 4, 3) := by decide +kernel
theorem dX2_isCapped_32 : decode cX2_isCapped 32 = .ok (.iconst 0, 1) := by decide +kernel
theorem dX2_isCapped_33 : decode cX2_isCapped 33 = .ok (.ireturn, 1) := by decide +kernel
theorem dX2_balanceOf_0 : decode cX2_balanceOf 0 = .ok (.iload_n 1, 1) := by decide +kernel
theorem dX2_balanceOf_1 : decode cX2_balanceOf 1 = .ok (.ifCond .lt 26, 3) := by decide +kernel
theorem dX2_balanceOf_4 : decode cX2_balanceOf 4 = .ok (.iload_n 1, 1) := by decide +kernel
theorem dX2_balanceOf_5 : decode cX2_balanceOf 5 = .ok (.aload_n 0, 1) := by decide +kernel
theorem dX2_balanceOf_6 : decode cX2_balanceOf 6 = .ok (.getfield 25, 3) := by decide +kernel
theorem dX2_balanceOf_9 : decode cX2_balanceOf 9 = .ok (.if_icmp .ge 18, 3) := by decide +kernel
theorem dX2_balanceOf_12 : decode cX2_balanceOf 12 = .ok (.iload_n 1, 1) := by decide +kernel
theorem dX2_balanceOf_13 : decode cX2_balanceOf 13 = .ok (.bipush 10, 2) := by decide +kernel
theorem dX2_balanceOf_15 : decode cX2_balanceOf 15 = .ok (.if_icmp .ge 12, 3) := by decide +kernel
theorem dX2_balanceOf_18 : decode cX2_balanceOf 18 = .ok (.aload_n 0, 1) := by decide +kernel
theorem dX2_balanceOf_19 : decode cX2_balanceOf 19 = .ok (.getfield 9, 3) := by decide +kernel
theorem dX2_balanceOf_22 : decode cX2_balanceOf 22 = .ok (.iload_n 1, 1) := by decide +kernel
theorem dX2_balanceOf_23 : decode cX2_balanceOf 23 = .ok (.laload, 1) := by decide +kernel
theorem dX2_balanceOf_24 : decode cX2_balanceOf 24 = .ok (.goto 4, 3) := by decide +kernel
theorem dX2_balanceOf_27 : decode cX2_balanceOf 27 = .ok (.lconst 0, 1) := by decide +kernel
theorem dX2_balanceOf_28 : decode cX2_balanceOf 28 = .ok (.lreturn, 1) := by decide +kernel
theorem dX2_putWhatFits_0 : decode cX2_putWhatFits 0 = .ok (.iload_n 1, 1) := by decide +kernel
theorem dX2_putWhatFits_1 : decode cX2_putWhatFits 1 = .ok (.ifCond .lt 17, 3) := by decide +kernel
theorem dX2_putWhatFits_4 : decode cX2_putWhatFits 4 = .ok (.iload_n 1, 1) := by decide +kernel
theorem dX2_putWhatFits_5 : decode cX2_putWhatFits 5 = .ok (.aload_n 0, 1) := by decide +kernel
theorem dX2_putWhatFits_6 : decode cX2_putWhatFits 6 = .ok (.getfield 25, 3) := by decide +kernel
theorem dX2_putWhatFits_9 : decode cX2_putWhatFits 9 = .ok (.if_icmp .ge 9, 3) := by decide +kernel
theorem dX2_putWhatFits_12 : decode cX2_putWhatFits 12 = .ok (.iload_n 1, 1) := by decide +kernel
theorem dX2_putWhatFits_13 : decode cX2_putWhatFits 13 = .ok (.bipush 10, 2) := by decide +kernel
theorem dX2_putWhatFits_15 : decode cX2_putWhatFits 15 = .ok (.if_icmp .lt 5, 3) := by decide +kernel
theorem dX2_putWhatFits_18 : decode cX2_putWhatFits 18 = .ok (.lconst 0, 1) := by decide +kernel
theorem dX2_putWhatFits_19 : decode cX2_putWhatFits 19 = .ok (.lreturn, 1) := by decide +kernel
theorem dX2_putWhatFits_20 : decode cX2_putWhatFits 20 = .ok (.lload_n 2, 1) := by decide +kernel
theorem dX2_putWhatFits_21 : decode cX2_putWhatFits 21 = .ok (.lstore 4, 2) := by decide +kernel
theorem dX2_putWhatFits_23 : decode cX2_putWhatFits 23 = .ok (.aload_n 0, 1) := by decide +kernel
theorem dX2_putWhatFits_24 : decode cX2_putWhatFits 24 = .ok (.getfield 15, 3) := by decide +kernel
theorem dX2_putWhatFits_27 : decode cX2_putWhatFits 27 = .ok (.iload_n 1, 1) := by decide +kernel
theorem dX2_putWhatFits_28 : decode cX2_putWhatFits 28 = .ok (.iaload, 1) := by decide +kernel
theorem dX2_putWhatFits_29 : decode cX2_putWhatFits 29 = .ok (.iconst (-1), 1) := by decide +kernel
theorem dX2_putWhatFits_30 : decode cX2_putWhatFits 30 = .ok (.if_icmp .eq 59, 3) := by decide +kernel
theorem dX2_putWhatFits_33 : decode cX2_putWhatFits 33 = .ok (.aload_n 0, 1) := by decide +kernel
theorem dX2_putWhatFits_34 : decode cX2_putWhatFits 34 = .ok (.getfield 15, 3) := by decide +kernel
theorem dX2_putWhatFits_37 : decode cX2_putWhatFits 37 = .ok (.iload_n 1, 1) := by decide +kernel
theorem dX2_putWhatFits_38 : decode cX2_putWhatFits 38 = .ok (.iaload, 1) := by decide +kernel
theorem dX2_putWhatFits_39 : decode cX2_putWhatFits 39 = .ok (.i2l, 1) := by decide +kernel
theorem dX2_putWhatFits_40 : decode cX2_putWhatFits 40 = .ok (.aload_n 0, 1) := by decide +kernel
theorem dX2_putWhatFits_41 : decode cX2_putWhatFits 41 = .ok (.getfield 9, 3) := by decide +kernel
theorem dX2_putWhatFits_44 : decode cX2_putWhatFits 44 = .ok (.iload_n 1, 1) := by decide +kernel
theorem dX2_putWhatFits_45 : decode cX2_putWhatFits 45 = .ok (.laload, 1) := by decide +kernel
theorem dX2_putWhatFits_46 : decode cX2_putWhatFits 46 = .ok (.lsub, 1) := by decide +kernel
theorem dX2_putWhatFits_47 : decode cX2_putWhatFits 47 = .ok (.lload_n 2, 1) := by decide +kernel
theorem dX2_putWhatFits_48 : decode cX2_putWhatFits 48 = .ok (.lcmp, 1) := by decide +kernel
theorem dX2_putWhatFits_49 : decode cX2_putWhatFits 49 = .ok (.ifCond .ge 40, 3) := by decide +kernel
theorem dX2_putWhatFits_52 : decode cX2_putWhatFits 52 = .ok (.aload_n 0, 1) := by decide +kernel
theorem dX2_putWhatFits_53 : decode cX2_putWhatFits 53 = .ok (.getfield 15, 3) := by decide +kernel
theorem dX2_putWhatFits_56 : decode cX2_putWhatFits 56 = .ok (.iload_n 1, 1) := by decide +kernel
theorem dX2_putWhatFits_57 : decode cX2_putWhatFits 57 = .ok (.iaload, 1) := by decide +kernel
theorem dX2_putWhatFits_58 : decode cX2_putWhatFits 58 = .ok (.i2l, 1) := by decide +kernel
theorem dX2_putWhatFits_59 : decode cX2_putWhatFits 59 = .ok (.aload_n 0, 1) := by decide +kernel
theorem dX2_putWhatFits_60 : decode cX2_putWhatFits 60 = .ok (.getfield 9, 3) := by decide +kernel
theorem dX2_putWhatFits_63 : decode cX2_putWhatFits 63 = .ok (.iload_n 1, 1) := by decide +kernel
theorem dX2_putWhatFits_64 : decode cX2_putWhatFits 64 = .ok (.laload, 1) := by decide +kernel
theorem dX2_putWhatFits_65 : decode cX2_putWhatFits 65 = .ok (.lcmp, 1) := by decide +kernel
theorem dX2_putWhatFits_66 : decode cX2_putWhatFits 66 = .ok (.ifCond .le 20, 3) := by decide +kernel
theorem dX2_putWhatFits_69 : decode cX2_putWhatFits 69 = .ok (.aload_n 0, 1) := by decide +kernel
theorem dX2_putWhatFits_70 : decode cX2_putWhatFits 70 = .ok (.getfield 15, 3) := by decide +kernel
theorem dX2_putWhatFits_73 : decode cX2_putWhatFits 73 = .ok (.iload_n 1, 1) := by decide +kernel
theorem dX2_putWhatFits_74 : decode cX2_putWhatFits 74 = .ok (.iaload, 1) := by decide +kernel
theorem dX2_putWhatFits_75 : decode cX2_putWhatFits 75 = .ok (.i2l, 1) := by decide +kernel
theorem dX2_putWhatFits_76 : decode cX2_putWhatFits 76 = .ok (.aload_n 0, 1) := by decide +kernel
theorem dX2_putWhatFits_77 : decode cX2_putWhatFits 77 = .ok (.getfield 9, 3) := by decide +kernel
theorem dX2_putWhatFits_80 : decode cX2_putWhatFits 80 = .ok (.iload_n 1, 1) := by decide +kernel
theorem dX2_putWhatFits_81 : decode cX2_putWhatFits 81 = .ok (.laload, 1) := by decide +kernel
theorem dX2_putWhatFits_82 : decode cX2_putWhatFits 82 = .ok (.lsub, 1) := by decide +kernel
theorem dX2_putWhatFits_83 : decode cX2_putWhatFits 83 = .ok (.goto 4, 3) := by decide +kernel
theorem dX2_putWhatFits_86 : decode cX2_putWhatFits 86 = .ok (.lconst 0, 1) := by decide +kernel
theorem dX2_putWhatFits_87 : decode cX2_putWhatFits 87 = .ok (.lstore 4, 2) := by decide +kernel
theorem dX2_putWhatFits_89 : decode cX2_putWhatFits 89 = .ok (.aload_n 0, 1) := by decide +kernel
theorem dX2_putWhatFits_90 : decode cX2_putWhatFits 90 = .ok (.getfield 9, 3) := by decide +kernel
theorem dX2_putWhatFits_93 : decode cX2_putWhatFits 93 = .ok (.iload_n 1, 1) := by decide +kernel
theorem dX2_putWhatFits_94 : decode cX2_putWhatFits 94 = .ok (.dup2, 1) := by decide +kernel
theorem dX2_putWhatFits_95 : decode cX2_putWhatFits 95 = .ok (.laload, 1) := by decide +kernel
theorem dX2_putWhatFits_96 : decode cX2_putWhatFits 96 = .ok (.lload 4, 2) := by decide +kernel
theorem dX2_putWhatFits_98 : decode cX2_putWhatFits 98 = .ok (.ladd, 1) := by decide +kernel
theorem dX2_putWhatFits_99 : decode cX2_putWhatFits 99 = .ok (.lastore, 1) := by decide +kernel
theorem dX2_putWhatFits_100 : decode cX2_putWhatFits 100 = .ok (.lload 4, 2) := by decide +kernel
theorem dX2_putWhatFits_102 : decode cX2_putWhatFits 102 = .ok (.lreturn, 1) := by decide +kernel
theorem dX2_take_0 : decode cX2_take 0 = .ok (.iload_n 1, 1) := by decide +kernel
theorem dX2_take_1 : decode cX2_take 1 = .ok (.ifCond .lt 27, 3) := by decide +kernel
theorem dX2_take_4 : decode cX2_take 4 = .ok (.iload_n 1, 1) := by decide +kernel
theorem dX2_take_5 : decode cX2_take 5 = .ok (.aload_n 0, 1) := by decide +kernel
theorem dX2_take_6 : decode cX2_take 6 = .ok (.getfield 25, 3) := by decide +kernel
theorem dX2_take_9 : decode cX2_take 9 = .ok (.if_icmp .ge 19, 3) := by decide +kernel
theorem dX2_take_12 : decode cX2_take 12 = .ok (.iload_n 1, 1) := by decide +kernel
theorem dX2_take_13 : decode cX2_take 13 = .ok (.bipush 10, 2) := by decide +kernel
theorem dX2_take_15 : decode cX2_take 15 = .ok (.if_icmp .ge 13, 3) := by decide +kernel
theorem dX2_take_18 : decode cX2_take 18 = .ok (.aload_n 0, 1) := by decide +kernel
theorem dX2_take_19 : decode cX2_take 19 = .ok (.getfield 9, 3) := by decide +kernel
theorem dX2_take_22 : decode cX2_take 22 = .ok (.iload_n 1, 1) := by decide +kernel
theorem dX2_take_23 : decode cX2_take 23 = .ok (.dup2, 1) := by decide +kernel
theorem dX2_take_24 : decode cX2_take 24 = .ok (.laload, 1) := by decide +kernel
theorem dX2_take_25 : decode cX2_take 25 = .ok (.lload_n 2, 1) := by decide +kernel
theorem dX2_take_26 : decode cX2_take 26 = .ok (.lsub, 1) := by decide +kernel
theorem dX2_take_27 : decode cX2_take 27 = .ok (.lastore, 1) := by decide +kernel
theorem dX2_take_28 : decode cX2_take 28 = .ok (.return_, 1) := by decide +kernel
theorem dX2_spendWhatIsThere_0 : decode cX2_spendWhatIsThere 0 = .ok (.iload_n 1, 1) := by decide +kernel
theorem dX2_spendWhatIsThere_1 : decode cX2_spendWhatIsThere 1 = .ok (.ifCond .lt 17, 3) := by decide +kernel
theorem dX2_spendWhatIsThere_4 : decode cX2_spendWhatIsThere 4 = .ok (.iload_n 1, 1) := by decide +kernel
theorem dX2_spendWhatIsThere_5 : decode cX2_spendWhatIsThere 5 = .ok (.aload_n 0, 1) := by decide +kernel
theorem dX2_spendWhatIsThere_6 : decode cX2_spendWhatIsThere 6 = .ok (.getfield 25, 3) := by decide +kernel
theorem dX2_spendWhatIsThere_9 : decode cX2_spendWhatIsThere 9 = .ok (.if_icmp .ge 9, 3) := by decide +kernel
theorem dX2_spendWhatIsThere_12 : decode cX2_spendWhatIsThere 12 = .ok (.iload_n 1, 1) := by decide +kernel
theorem dX2_spendWhatIsThere_13 : decode cX2_spendWhatIsThere 13 = .ok (.bipush 10, 2) := by decide +kernel
theorem dX2_spendWhatIsThere_15 : decode cX2_spendWhatIsThere 15 = .ok (.if_icmp .lt 5, 3) := by decide +kernel
theorem dX2_spendWhatIsThere_18 : decode cX2_spendWhatIsThere 18 = .ok (.lconst 0, 1) := by decide +kernel
theorem dX2_spendWhatIsThere_19 : decode cX2_spendWhatIsThere 19 = .ok (.lreturn, 1) := by decide +kernel
theorem dX2_spendWhatIsThere_20 : decode cX2_spendWhatIsThere 20 = .ok (.aload_n 0, 1) := by decide +kernel
theorem dX2_spendWhatIsThere_21 : decode cX2_spendWhatIsThere 21 = .ok (.getfield 9, 3) := by decide +kernel
theorem dX2_spendWhatIsThere_24 : decode cX2_spendWhatIsThere 24 = .ok (.iload_n 1, 1) := by decide +kernel
theorem dX2_spendWhatIsThere_25 : decode cX2_spendWhatIsThere 25 = .ok (.laload, 1) := by decide +kernel
theorem dX2_spendWhatIsThere_26 : decode cX2_spendWhatIsThere 26 = .ok (.lload_n 2, 1) := by decide +kernel
theorem dX2_spendWhatIsThere_27 : decode cX2_spendWhatIsThere 27 = .ok (.lcmp, 1) := by decide +kernel
theorem dX2_spendWhatIsThere_28 : decode cX2_spendWhatIsThere 28 = .ok (.ifCond .ge 12, 3) := by decide +kernel
theorem dX2_spendWhatIsThere_31 : decode cX2_spendWhatIsThere 31 = .ok (.aload_n 0, 1) := by decide +kernel
theorem dX2_spendWhatIsThere_32 : decode cX2_spendWhatIsThere 32 = .ok (.getfield 9, 3) := by decide +kernel
theorem dX2_spendWhatIsThere_35 : decode cX2_spendWhatIsThere 35 = .ok (.iload_n 1, 1) := by decide +kernel
theorem dX2_spendWhatIsThere_36 : decode cX2_spendWhatIsThere 36 = .ok (.laload, 1) := by decide +kernel
theorem dX2_spendWhatIsThere_37 : decode cX2_spendWhatIsThere 37 = .ok (.goto 4, 3) := by decide +kernel
theorem dX2_spendWhatIsThere_40 : decode cX2_spendWhatIsThere 40 = .ok (.lload_n 2, 1) := by decide +kernel
theorem dX2_spendWhatIsThere_41 : decode cX2_spendWhatIsThere 41 = .ok (.lstore 4, 2) := by decide +kernel
theorem dX2_spendWhatIsThere_43 : decode cX2_spendWhatIsThere 43 = .ok (.aload_n 0, 1) := by decide +kernel
theorem dX2_spendWhatIsThere_44 : decode cX2_spendWhatIsThere 44 = .ok (.getfield 9, 3) := by decide +kernel
theorem dX2_spendWhatIsThere_47 : decode cX2_spendWhatIsThere 47 = .ok (.iload_n 1, 1) := by decide +kernel
theorem dX2_spendWhatIsThere_48 : decode cX2_spendWhatIsThere 48 = .ok (.dup2, 1) := by decide +kernel
theorem dX2_spendWhatIsThere_49 : decode cX2_spendWhatIsThere 49 = .ok (.laload, 1) := by decide +kernel
theorem dX2_spendWhatIsThere_50 : decode cX2_spendWhatIsThere 50 = .ok (.lload 4, 2) := by decide +kernel
theorem dX2_spendWhatIsThere_52 : decode cX2_spendWhatIsThere 52 = .ok (.lsub, 1) := by decide +kernel
theorem dX2_spendWhatIsThere_53 : decode cX2_spendWhatIsThere 53 = .ok (.lastore, 1) := by decide +kernel
theorem dX2_spendWhatIsThere_54 : decode cX2_spendWhatIsThere 54 = .ok (.aload_n 0, 1) := by decide +kernel
theorem dX2_spendWhatIsThere_55 : decode cX2_spendWhatIsThere 55 = .ok (.getfield 22, 3) := by decide +kernel
theorem dX2_spendWhatIsThere_58 : decode cX2_spendWhatIsThere 58 = .ok (.iload_n 1, 1) := by decide +kernel
theorem dX2_spendWhatIsThere_59 : decode cX2_spendWhatIsThere 59 = .ok (.dup2, 1) := by decide +kernel
theorem dX2_spendWhatIsThere_60 : decode cX2_spendWhatIsThere 60 = .ok (.laload, 1) := by decide +kernel
theorem dX2_spendWhatIsThere_61 : decode cX2_spendWhatIsThere 61 = .ok (.lload 4, 2) := by decide +kernel
theorem dX2_spendWhatIsThere_63 : decode cX2_spendWhatIsThere 63 = .ok (.ladd, 1) := by decide +kernel
theorem dX2_spendWhatIsThere_64 : decode cX2_spendWhatIsThere 64 = .ok (.lastore, 1) := by decide +kernel
theorem dX2_spendWhatIsThere_65 : decode cX2_spendWhatIsThere 65 = .ok (.lload 4, 2) := by decide +kernel
theorem dX2_spendWhatIsThere_67 : decode cX2_spendWhatIsThere 67 = .ok (.lreturn, 1) := by decide +kernel
theorem dX2_release_0 : decode cX2_release 0 = .ok (.iload_n 1, 1) := by decide +kernel
theorem dX2_release_1 : decode cX2_release 1 = .ok (.ifCond .lt 26, 3) := by decide +kernel
theorem dX2_release_4 : decode cX2_release 4 = .ok (.iload_n 1, 1) := by decide +kernel
theorem dX2_release_5 : decode cX2_release 5 = .ok (.aload_n 0, 1) := by decide +kernel
theorem dX2_release_6 : decode cX2_release 6 = .ok (.getfield 25, 3) := by decide +kernel
theorem dX2_release_9 : decode cX2_release 9 = .ok (.if_icmp .ge 18, 3) := by decide +kernel
theorem dX2_release_12 : decode cX2_release 12 = .ok (.iload_n 1, 1) := by decide +kernel
theorem dX2_release_13 : decode cX2_release 13 = .ok (.bipush 10, 2) := by decide +kernel
theorem dX2_release_15 : decode cX2_release 15 = .ok (.if_icmp .ge 12, 3) := by decide +kernel
theorem dX2_release_18 : decode cX2_release 18 = .ok (.aload_n 0, 1) := by decide +kernel
theorem dX2_release_19 : decode cX2_release 19 = .ok (.getfield 19, 3) := by decide +kernel
theorem dX2_release_22 : decode cX2_release 22 = .ok (.iload_n 1, 1) := by decide +kernel
theorem dX2_release_23 : decode cX2_release 23 = .ok (.iaload, 1) := by decide +kernel
theorem dX2_release_24 : decode cX2_release 24 = .ok (.ifCond .ne 5, 3) := by decide +kernel
theorem dX2_release_27 : decode cX2_release 27 = .ok (.lconst 0, 1) := by decide +kernel
theorem dX2_release_28 : decode cX2_release 28 = .ok (.lreturn, 1) := by decide +kernel
theorem dX2_release_29 : decode cX2_release 29 = .ok (.aload_n 0, 1) := by decide +kernel
theorem dX2_release_30 : decode cX2_release 30 = .ok (.getfield 19, 3) := by decide +kernel
theorem dX2_release_33 : decode cX2_release 33 = .ok (.iload_n 1, 1) := by decide +kernel
theorem dX2_release_34 : decode cX2_release 34 = .ok (.iaload, 1) := by decide +kernel
theorem dX2_release_35 : decode cX2_release 35 = .ok (.iconst 1, 1) := by decide +kernel
theorem dX2_release_36 : decode cX2_release 36 = .ok (.if_icmp .ne 12, 3) := by decide +kernel
theorem dX2_release_39 : decode cX2_release 39 = .ok (.aload_n 0, 1) := by decide +kernel
theorem dX2_release_40 : decode cX2_release 40 = .ok (.getfield 9, 3) := by decide +kernel
theorem dX2_release_43 : decode cX2_release 43 = .ok (.iload_n 1, 1) := by decide +kernel
theorem dX2_release_44 : decode cX2_release 44 = .ok (.laload, 1) := by decide +kernel
theorem dX2_release_45 : decode cX2_release 45 = .ok (.goto 13, 3) := by decide +kernel
theorem dX2_release_48 : decode cX2_release 48 = .ok (.aload_n 0, 1) := by decide +kernel
theorem dX2_release_49 : decode cX2_release 49 = .ok (.getfield 9, 3) := by decide +kernel
theorem dX2_release_52 : decode cX2_release 52 = .ok (.iload_n 1, 1) := by decide +kernel
theorem dX2_release_53 : decode cX2_release 53 = .ok (.laload, 1) := by decide +kernel
theorem dX2_release_54 : decode cX2_release 54 = .ok (.ldc2_w 33, 3) := by decide +kernel
theorem dX2_release_57 : decode cX2_release 57 = .ok (.ldiv, 1) := by decide +kernel
theorem dX2_release_58 : decode cX2_release 58 = .ok (.lstore_n 2, 1) := by decide +kernel
theorem dX2_release_59 : decode cX2_release 59 = .ok (.aload_n 0, 1) := by decide +kernel
theorem dX2_release_60 : decode cX2_release 60 = .ok (.getfield 9, 3) := by decide +kernel
theorem dX2_release_63 : decode cX2_release 63 = .ok (.iload_n 1, 1) := by decide +kernel
theorem dX2_release_64 : decode cX2_release 64 = .ok (.dup2, 1) := by decide +kernel
theorem dX2_release_65 : decode cX2_release 65 = .ok (.laload, 1) := by decide +kernel
theorem dX2_release_66 : decode cX2_release 66 = .ok (.lload_n 2, 1) := by decide +kernel
theorem dX2_release_67 : decode cX2_release 67 = .ok (.lsub, 1) := by decide +kernel
theorem dX2_release_68 : decode cX2_release 68 = .ok (.lastore, 1) := by decide +kernel
theorem dX2_release_69 : decode cX2_release 69 = .ok (.lload_n 2, 1) := by decide +kernel
theorem dX2_release_70 : decode cX2_release 70 = .ok (.lreturn, 1) := by decide +kernel
theorem dX2_sum_0 : decode cX2_sum 0 = .ok (.lconst 0, 1) := by decide +kernel
theorem dX2_sum_1 : decode cX2_sum 1 = .ok (.lstore_n 1, 1) := by decide +kernel
theorem dX2_sum_2 : decode cX2_sum 2 = .ok (.iconst 0, 1) := by decide +kernel
theorem dX2_sum_3 : decode cX2_sum 3 = .ok (.istore_n 3, 1) := by decide +kernel
theorem dX2_sum_4 : decode cX2_sum 4 = .ok (.iload_n 3, 1) := by decide +kernel
theorem dX2_sum_5 : decode cX2_sum 5 = .ok (.aload_n 0, 1) := by decide +kernel
theorem dX2_sum_6 : decode cX2_sum 6 = .ok (.getfield 25, 3) := by decide +kernel
theorem dX2_sum_9 : decode cX2_sum 9 = .ok (.if_icmp .ge 24, 3) := by decide +kernel
theorem dX2_sum_12 : decode cX2_sum 12 = .ok (.iload_n 3, 1) := by decide +kernel
theorem dX2_sum_13 : decode cX2_sum 13 = .ok (.bipush 10, 2) := by decide +kernel
theorem dX2_sum_15 : decode cX2_sum 15 = .ok (.if_icmp .ge 18, 3) := by decide +kernel
theorem dX2_sum_18 : decode cX2_sum 18 = .ok (.lload_n 1, 1) := by decide +kernel
theorem dX2_sum_19 : decode cX2_sum 19 = .ok (.aload_n 0, 1) := by decide +kernel
theorem dX2_sum_20 : decode cX2_sum 20 = .ok (.getfield 9, 3) := by decide +kernel
theorem dX2_sum_23 : decode cX2_sum 23 = .ok (.iload_n 3, 1) := by decide +kernel
theorem dX2_sum_24 : decode cX2_sum 24 = .ok (.laload, 1) := by decide +kernel
theorem dX2_sum_25 : decode cX2_sum 25 = .ok (.ladd, 1) := by decide +kernel
theorem dX2_sum_26 : decode cX2_sum 26 = .ok (.lstore_n 1, 1) := by decide +kernel
theorem dX2_sum_27 : decode cX2_sum 27 = .ok (.iinc 3 1, 3) := by decide +kernel
theorem dX2_sum_30 : decode cX2_sum 30 = .ok (.goto (-26), 3) := by decide +kernel
theorem dX2_sum_33 : decode cX2_sum 33 = .ok (.lload_n 1, 1) := by decide +kernel
theorem dX2_sum_34 : decode cX2_sum 34 = .ok (.lreturn, 1) := by decide +kernel
theorem dX2_numberOf_0 : decode cX2_numberOf 0 = .ok (.aload_n 0, 1) := by decide +kernel
theorem dX2_numberOf_1 : decode cX2_numberOf 1 = .ok (.iload_n 1, 1) := by decide +kernel
theorem dX2_numberOf_2 : decode cX2_numberOf 2 = .ok (.invokevirtual 29, 3) := by decide +kernel
theorem dX2_numberOf_5 : decode cX2_numberOf 5 = .ok (.ifCond .ne 5, 3) := by decide +kernel
theorem dX2_numberOf_8 : decode cX2_numberOf 8 = .ok (.lconst 0, 1) := by decide +kernel
theorem dX2_numberOf_9 : decode cX2_numberOf 9 = .ok (.lreturn, 1) := by decide +kernel
theorem dX2_numberOf_10 : decode cX2_numberOf 10 = .ok (.iload_n 2, 1) := by decide +kernel
theorem dX2_numberOf_11 : decode cX2_numberOf 11 = .ok (.tableswitch 87 0 3 #[29, 36, 44, 52], 29) := by decide +kernel
theorem dX2_numberOf_40 : decode cX2_numberOf 40 = .ok (.aload_n 0, 1) := by decide +kernel
theorem dX2_numberOf_41 : decode cX2_numberOf 41 = .ok (.getfield 9, 3) := by decide +kernel
theorem dX2_numberOf_44 : decode cX2_numberOf 44 = .ok (.iload_n 1, 1) := by decide +kernel
theorem dX2_numberOf_45 : decode cX2_numberOf 45 = .ok (.laload, 1) := by decide +kernel
theorem dX2_numberOf_46 : decode cX2_numberOf 46 = .ok (.lreturn, 1) := by decide +kernel
theorem dX2_numberOf_47 : decode cX2_numberOf 47 = .ok (.aload_n 0, 1) := by decide +kernel
theorem dX2_numberOf_48 : decode cX2_numberOf 48 = .ok (.getfield 15, 3) := by decide +kernel
theorem dX2_numberOf_51 : decode cX2_numberOf 51 = .ok (.iload_n 1, 1) := by decide +kernel
theorem dX2_numberOf_52 : decode cX2_numberOf 52 = .ok (.iaload, 1) := by decide +kernel
theorem dX2_numberOf_53 : decode cX2_numberOf 53 = .ok (.i2l, 1) := by decide +kernel
theorem dX2_numberOf_54 : decode cX2_numberOf 54 = .ok (.lreturn, 1) := by decide +kernel
theorem dX2_numberOf_55 : decode cX2_numberOf 55 = .ok (.aload_n 0, 1) := by decide +kernel
theorem dX2_numberOf_56 : decode cX2_numberOf 56 = .ok (.getfield 19, 3) := by decide +kernel
theorem dX2_numberOf_59 : decode cX2_numberOf 59 = .ok (.iload_n 1, 1) := by decide +kernel
theorem dX2_numberOf_60 : decode cX2_numberOf 60 = .ok (.iaload, 1) := by decide +kernel
theorem dX2_numberOf_61 : decode cX2_numberOf 61 = .ok (.i2l, 1) := by decide +kernel
theorem dX2_numberOf_62 : decode cX2_numberOf 62 = .ok (.lreturn, 1) := by decide +kernel
theorem dX2_numberOf_63 : decode cX2_numberOf 63 = .ok (.aload_n 0, 1) := by decide +kernel
theorem dX2_numberOf_64 : decode cX2_numberOf 64 = .ok (.getfield 15, 3) := by decide +kernel
theorem dX2_numberOf_67 : decode cX2_numberOf 67 = .ok (.iload_n 1, 1) := by decide +kernel
theorem dX2_numberOf_68 : decode cX2_numberOf 68 = .ok (.iaload, 1) := by decide +kernel
theorem dX2_numberOf_69 : decode cX2_numberOf 69 = .ok (.iconst (-1), 1) := by decide +kernel
theorem dX2_numberOf_70 : decode cX2_numberOf 70 = .ok (.if_icmp .ne 9, 3) := by decide +kernel
theorem dX2_numberOf_73 : decode cX2_numberOf 73 = .ok (.ldc2_w 35, 3) := by decide +kernel
theorem dX2_numberOf_76 : decode cX2_numberOf 76 = .ok (.goto 21, 3) := by decide +kernel
theorem dX2_numberOf_79 : decode cX2_numberOf 79 = .ok (.lconst 0, 1) := by decide +kernel
theorem dX2_numberOf_80 : decode cX2_numberOf 80 = .ok (.aload_n 0, 1) := by decide +kernel
theorem dX2_numberOf_81 : decode cX2_numberOf 81 = .ok (.getfield 15, 3) := by decide +kernel
theorem dX2_numberOf_84 : decode cX2_numberOf 84 = .ok (.iload_n 1, 1) := by decide +kernel
theorem dX2_numberOf_85 : decode cX2_numberOf 85 = .ok (.iaload, 1) := by decide +kernel
theorem dX2_numberOf_86 : decode cX2_numberOf 86 = .ok (.i2l, 1) := by decide +kernel
theorem dX2_numberOf_87 : decode cX2_numberOf 87 = .ok (.aload_n 0, 1) := by decide +kernel
theorem dX2_numberOf_88 : decode cX2_numberOf 88 = .ok (.getfield 9, 3) := by decide +kernel
theorem dX2_numberOf_91 : decode cX2_numberOf 91 = .ok (.iload_n 1, 1) := by decide +kernel
theorem dX2_numberOf_92 : decode cX2_numberOf 92 = .ok (.laload, 1) := by decide +kernel
theorem dX2_numberOf_93 : decode cX2_numberOf 93 = .ok (.lsub, 1) := by decide +kernel
theorem dX2_numberOf_94 : decode cX2_numberOf 94 = .ok (.invokestatic 37, 3) := by decide +kernel
theorem dX2_numberOf_97 : decode cX2_numberOf 97 = .ok (.lreturn, 1) := by decide +kernel
theorem dX2_numberOf_98 : decode cX2_numberOf 98 = .ok (.aload_n 0, 1) := by decide +kernel
theorem dX2_numberOf_99 : decode cX2_numberOf 99 = .ok (.getfield 22, 3) := by decide +kernel
theorem dX2_numberOf_102 : decode cX2_numberOf 102 = .ok (.iload_n 1, 1) := by decide +kernel
theorem dX2_numberOf_103 : decode cX2_numberOf 103 = .ok (.laload, 1) := by decide +kernel
theorem dX2_numberOf_104 : decode cX2_numberOf 104 = .ok (.lreturn, 1) := by decide +kernel
theorem dX2_copyFrom_0 : decode cX2_copyFrom 0 = .ok (.aload_n 1, 1) := by decide +kernel
theorem dX2_copyFrom_1 : decode cX2_copyFrom 1 = .ok (.getfield 9, 3) := by decide +kernel
theorem dX2_copyFrom_4 : decode cX2_copyFrom 4 = .ok (.iconst 0, 1) := by decide +kernel
theorem dX2_copyFrom_5 : decode cX2_copyFrom 5 = .ok (.aload_n 0, 1) := by decide +kernel
theorem dX2_copyFrom_6 : decode cX2_copyFrom 6 = .ok (.getfield 9, 3) := by decide +kernel
theorem dX2_copyFrom_9 : decode cX2_copyFrom 9 = .ok (.iconst 0, 1) := by decide +kernel
theorem dX2_copyFrom_10 : decode cX2_copyFrom 10 = .ok (.bipush 10, 2) := by decide +kernel
theorem dX2_copyFrom_12 : decode cX2_copyFrom 12 = .ok (.invokestatic 43, 3) := by decide +kernel
theorem dX2_copyFrom_15 : decode cX2_copyFrom 15 = .ok (.aload_n 1, 1) := by decide +kernel
theorem dX2_copyFrom_16 : decode cX2_copyFrom 16 = .ok (.getfield 15, 3) := by decide +kernel
theorem dX2_copyFrom_19 : decode cX2_copyFrom 19 = .ok (.iconst 0, 1) := by decide +kernel
theorem dX2_copyFrom_20 : decode cX2_copyFrom 20 = .ok (.aload_n 0, 1) := by decide +kernel
theorem dX2_copyFrom_21 : decode cX2_copyFrom 21 = .ok (.getfield 15, 3) := by decide +kernel
theorem dX2_copyFrom_24 : decode cX2_copyFrom 24 = .ok (.iconst 0, 1) := by decide +kernel
theorem dX2_copyFrom_25 : decode cX2_copyFrom 25 = .ok (.bipush 10, 2) := by decide +kernel
theorem dX2_copyFrom_27 : decode cX2_copyFrom 27 = .ok (.invokestatic 43, 3) := by decide +kernel
theorem dX2_copyFrom_30 : decode cX2_copyFrom 30 = .ok (.aload_n 1, 1) := by decide +kernel
theorem dX2_copyFrom_31 : decode cX2_copyFrom 31 = .ok (.getfield 19, 3) := by decide +kernel
theorem dX2_copyFrom_34 : decode cX2_copyFrom 34 = .ok (.iconst 0, 1) := by decide +kernel
theorem dX2_copyFrom_35 : decode cX2_copyFrom 35 = .ok (.aload_n 0, 1) := by decide +kernel
theorem dX2_copyFrom_36 : decode cX2_copyFrom 36 = .ok (.getfield 19, 3) := by decide +kernel
theorem dX2_copyFrom_39 : decode cX2_copyFrom 39 = .ok (.iconst 0, 1) := by decide +kernel
theorem dX2_copyFrom_40 : decode cX2_copyFrom 40 = .ok (.bipush 10, 2) := by decide +kernel
theorem dX2_copyFrom_42 : decode cX2_copyFrom 42 = .ok (.invokestatic 43, 3) := by decide +kernel
theorem dX2_copyFrom_45 : decode cX2_copyFrom 45 = .ok (.aload_n 1, 1) := by decide +kernel
theorem dX2_copyFrom_46 : decode cX2_copyFrom 46 = .ok (.getfield 22, 3) := by decide +kernel
theorem dX2_copyFrom_49 : decode cX2_copyFrom 49 = .ok (.iconst 0, 1) := by decide +kernel
theorem dX2_copyFrom_50 : decode cX2_copyFrom 50 = .ok (.aload_n 0, 1) := by decide +kernel
theorem dX2_copyFrom_51 : decode cX2_copyFrom 51 = .ok (.getfield 22, 3) := by decide +kernel
theorem dX2_copyFrom_54 : decode cX2_copyFrom 54 = .ok (.iconst 0, 1) := by decide +kernel
theorem dX2_copyFrom_55 : decode cX2_copyFrom 55 = .ok (.bipush 10, 2) := by decide +kernel
theorem dX2_copyFrom_57 : decode cX2_copyFrom 57 = .ok (.invokestatic 43, 3) := by decide +kernel
theorem dX2_copyFrom_60 : decode cX2_copyFrom 60 = .ok (.aload_n 0, 1) := by decide +kernel
theorem dX2_copyFrom_61 : decode cX2_copyFrom 61 = .ok (.aload_n 1, 1) := by decide +kernel
theorem dX2_copyFrom_62 : decode cX2_copyFrom 62 = .ok (.getfield 25, 3) := by decide +kernel
theorem dX2_copyFrom_65 : decode cX2_copyFrom 65 = .ok (.putfield 25, 3) := by decide +kernel
theorem dX2_copyFrom_68 : decode cX2_copyFrom 68 = .ok (.return_, 1) := by decide +kernel
theorem dX3_init_0 : decode cX3_init 0 = .ok (.aload_n 0, 1) := by decide +kernel
theorem dX3_init_1 : decode cX3_init 1 = .ok (.invokespecial 3, 3) := by decide +kernel
theorem dX3_init_4 : decode cX3_init 4 = .ok (.aload_n 0, 1) := by decide +kernel
theorem dX3_init_5 : decode cX3_init 5 = .ok (.bipush 8, 2) := by decide +kernel
theorem dX3_init_7 : decode cX3_init 7 = .ok (.newarray .int, 2) := by decide +kernel
theorem dX3_init_9 : decode cX3_init 9 = .ok (.putfield 9, 3) := by decide +kernel
theorem dX3_init_12 : decode cX3_init 12 = .ok (.aload_n 0, 1) := by decide +kernel
theorem dX3_init_13 : decode cX3_init 13 = .ok (.bipush 8, 2) := by decide +kernel
theorem dX3_init_15 : decode cX3_init 15 = .ok (.newarray .int, 2) := by decide +kernel
theorem dX3_init_17 : decode cX3_init 17 = .ok (.putfield 15, 3) := by decide +kernel
theorem dX3_init_20 : decode cX3_init 20 = .ok (.aload_n 0, 1) := by decide +kernel
theorem dX3_init_21 : decode cX3_init 21 = .ok (.bipush 8, 2) := by decide +kernel
theorem dX3_init_23 : decode cX3_init 23 = .ok (.newarray .int, 2) := by decide +kernel
theorem dX3_init_25 : decode cX3_init 25 = .ok (.putfield 18, 3) := by decide +kernel
theorem dX3_init_28 : decode cX3_init 28 = .ok (.aload_n 0, 1) := by decide +kernel
theorem dX3_init_29 : decode cX3_init 29 = .ok (.bipush 8, 2) := by decide +kernel
theorem dX3_init_31 : decode cX3_init 31 = .ok (.newarray .int, 2) := by decide +kernel
theorem dX3_init_33 : decode cX3_init 33 = .ok (.putfield 21, 3) := by decide +kernel
theorem dX3_init_36 : decode cX3_init 36 = .ok (.aload_n 0, 1) := by decide +kernel
theorem dX3_init_37 : decode cX3_init 37 = .ok (.bipush 8, 2) := by decide +kernel
theorem dX3_init_39 : decode cX3_init 39 = .ok (.newarray .int, 2) := by decide +kernel
theorem dX3_init_41 : decode cX3_init 41 = .ok (.putfield 24, 3) := by decide +kernel
theorem dX3_init_44 : decode cX3_init 44 = .ok (.aload_n 0, 1) := by decide +kernel
theorem dX3_init_45 : decode cX3_init 45 = .ok (.bipush 8, 2) := by decide +kernel
theorem dX3_init_47 : decode cX3_init 47 = .ok (.newarray .int, 2) := by decide +kernel
theorem dX3_init_49 : decode cX3_init 49 = .ok (.putfield 27, 3) := by decide +kernel
theorem dX3_init_52 : decode cX3_init 52 = .ok (.return_, 1) := by decide +kernel
theorem dX3_has_0 : decode cX3_has 0 = .ok (.iload_n 1, 1) := by decide +kernel
theorem dX3_has_1 : decode cX3_has 1 = .ok (.ifCond .lt 21, 3) := by decide +kernel
theorem dX3_has_4 : decode cX3_has 4 = .ok (.iload_n 1, 1) := by decide +kernel
theorem dX3_has_5 : decode cX3_has 5 = .ok (.aload_n 0, 1) := by decide +kernel
theorem dX3_has_6 : decode cX3_has 6 = .ok (.getfield 30, 3) := by decide +kernel
theorem dX3_has_9 : decode cX3_has 9 = .ok (.if_icmp .ge 13, 3) := by decide +kernel
theorem dX3_has_12 : decode cX3_has 12 = .ok (.iload_n 1, 1) := by decide +kernel
theorem dX3_has_13 : decode cX3_has 13 = .ok (.bipush 8, 2) := by decide +kernel
theorem dX3_has_15 : decode cX3_has 15 = .ok (.if_icmp .ge 7, 3) := by decide +kernel
theorem dX3_has_18 : decode cX3_has 18 = .ok (.iconst 1, 1) := by decide +kernel
theorem dX3_has_19 : decode cX3_has 19 = .ok (.goto 4, 3) := by decide +kernel
theorem dX3_has_22 : decode cX3_has 22 = .ok (.iconst 0, 1) := by decide +kernel
theorem dX3_has_23 : decode cX3_has 23 = .ok (.ireturn, 1) := by decide +kernel
theorem dX3_append_0 : decode cX3_append 0 = .ok (.aload_n 0, 1) := by decide +kernel
theorem dX3_append_1 : decode cX3_append 1 = .ok (.getfield 30, 3) := by decide +kernel
theorem dX3_append_4 : decode cX3_append 4 = .ok (.istore 6, 2) := by decide +kernel
theorem dX3_append_6 : decode cX3_append 6 = .ok (.iload 6, 2) := by decide +kernel
theorem dX3_append_8 : decode cX3_append 8 = .ok (.ifCond .lt 10, 3) := by decide +kernel
theorem dX3_append_11 : decode cX3_append 11 = .ok (.iload 6, 2) := by decide +kernel
theorem dX3_append_13 : decode cX3_append 13 = .ok (.bipush 8, 2) := by decide +kernel
theorem dX3_append_15 : decode cX3_append 15 = .ok (.if_icmp .lt 6, 3) := by decide +kernel
theorem dX3_append_18 : decode cX3_append 18 = .ok (.iload 6, 2) := by decide +kernel
theorem dX3_append_20 : decode cX3_append 20 = .ok (.ireturn, 1) := by decide +kernel
theorem dX3_append_21 : decode cX3_append 21 = .ok (.aload_n 0, 1) := by decide +kernel
theorem dX3_append_22 : decode cX3_append 22 = .ok (.getfield 9, 3) := by decide +kernel
theorem dX3_append_25 : decode cX3_append 25 = .ok (.iload 6, 2) := by decide +kernel
theorem dX3_append_27 : decode cX3_append 27 = .ok (.iload_n 1, 1) := by decide +kernel
theorem dX3_append_28 : decode cX3_append 28 = .ok (.iastore, 1) := by decide +kernel
theorem dX3_append_29 : decode cX3_append 29 = .ok (.aload_n 0, 1) := by decide +kernel
theorem dX3_append_30 : decode cX3_append 30 = .ok (.getfield 15, 3) := by decide +kernel
theorem dX3_append_33 : decode cX3_append 33 = .ok (.iload 6, 2) := by decide +kernel
theorem dX3_append_35 : decode cX3_append 35 = .ok (.iload_n 2, 1) := by decide +kernel
theorem dX3_append_36 : decode cX3_append 36 = .ok (.iastore, 1) := by decide +kernel
theorem dX3_append_37 : decode cX3_append 37 = .ok (.aload_n 0, 1) := by decide +kernel
theorem dX3_append_38 : decode cX3_append 38 = .ok (.getfield 18, 3) := by decide +kernel
theorem dX3_append_41 : decode cX3_append 41 = .ok (.iload 6, 2) := by decide +kernel
theorem dX3_append_43 : decode cX3_append 43 = .ok (.iload_n 3, 1) := by decide +kernel
theorem dX3_append_44 : decode cX3_append 44 = .ok (.iastore, 1) := by decide +kernel
theorem dX3_append_45 : decode cX3_append 45 = .ok (.aload_n 0, 1) := by decide +kernel
theorem dX3_append_46 : decode cX3_append 46 = .ok (.getfield 21, 3) := by decide +kernel
theorem dX3_append_49 : decode cX3_append 49 = .ok (.iload 6, 2) := by decide +kernel
theorem dX3_append_51 : decode cX3_append 51 = .ok (.iload 4, 2) := by decide +kernel
theorem dX3_append_53 : decode cX3_append 53 = .ok (.iastore, 1) := by decide +kernel
theorem dX3_append_54 : decode cX3_append 54 = .ok (.aload_n 0, 1) := by decide +kernel
theorem dX3_append_55 : decode cX3_append 55 = .ok (.getfield 24, 3) := by decide +kernel
theorem dX3_append_58 : decode cX3_append 58 = .ok (.iload 6, 2) := by decide +kernel
theorem dX3_append_60 : decode cX3_append 60 = .ok (.iload 5, 2) := by decide +kernel
theorem dX3_append_62 : decode cX3_append 62 = .ok (.iload 4, 2) := by decide +kernel
theorem dX3_append_64 : decode cX3_append 64 = .ok (.iadd, 1) := by decide +kernel
theorem dX3_append_65 : decode cX3_append 65 = .ok (.iastore, 1) := by decide +kernel
theorem dX3_append_66 : decode cX3_append 66 = .ok (.aload_n 0, 1) := by decide +kernel
theorem dX3_append_67 : decode cX3_append 67 = .ok (.getfield 27, 3) := by decide +kernel
theorem dX3_append_70 : decode cX3_append 70 = .ok (.iload 6, 2) := by decide +kernel
theorem dX3_append_72 : decode cX3_append 72 = .ok (.iconst 0, 1) := by decide +kernel
theorem dX3_append_73 : decode cX3_append 73 = .ok (.iastore, 1) := by decide +kernel
theorem dX3_append_74 : decode cX3_append 74 = .ok (.aload_n 0, 1) := by decide +kernel
theorem dX3_append_75 : decode cX3_append 75 = .ok (.dup, 1) := by decide +kernel
theorem dX3_append_76 : decode cX3_append 76 = .ok (.getfield 30, 3) := by decide +kernel
theorem dX3_append_79 : decode cX3_append 79 = .ok (.iconst 1, 1) := by decide +kernel
theorem dX3_append_80 : decode cX3_append 80 = .ok (.iadd, 1) := by decide +kernel
theorem dX3_append_81 : decode cX3_append 81 = .ok (.putfield 30, 3) := by decide +kernel
theorem dX3_append_84 : decode cX3_append 84 = .ok (.iload 6, 2) := by decide +kernel
theorem dX3_append_86 : decode cX3_append 86 = .ok (.ireturn, 1) := by decide +kernel
theorem dX3_remove_0 : decode cX3_remove 0 = .ok (.aload_n 0, 1) := by decide +kernel
theorem dX3_remove_1 : decode cX3_remove 1 = .ok (.iload_n 1, 1) := by decide +kernel
theorem dX3_remove_2 : decode cX3_remove 2 = .ok (.invokevirtual 34, 3) := by decide +kernel
theorem dX3_remove_5 : decode cX3_remove 5 = .ok (.ifCond .ne 8, 3) := by decide +kernel
theorem dX3_remove_8 : decode cX3_remove 8 = .ok (.aload_n 0, 1) := by decide +kernel
theorem dX3_remove_9 : decode cX3_remove 9 = .ok (.getfield 30, 3) := by decide +kernel
theorem dX3_remove_12 : decode cX3_remove 12 = .ok (.ireturn, 1) := by decide +kernel
theorem dX3_remove_13 : decode cX3_remove 13 = .ok (.iload_n 1, 1) := by decide +kernel
theorem dX3_remove_14 : decode cX3_remove 14 = .ok (.istore_n 2, 1) := by decide +kernel
theorem dX3_remove_15 : decode cX3_remove 15 = .ok (.iload_n 2, 1) := by decide +kernel
theorem dX3_remove_16 : decode cX3_remove 16 = .ok (.iconst 1, 1) := by decide +kernel
theorem dX3_remove_17 : decode cX3_remove 17 = .ok (.iadd, 1) := by decide +kernel
theorem dX3_remove_18 : decode cX3_remove 18 = .ok (.aload_n 0, 1) := by decide +kernel
theorem dX3_remove_19 : decode cX3_remove 19 = .ok (.getfield 30, 3) := by decide +kernel
theorem dX3_remove_22 : decode cX3_remove 22 = .ok (.if_icmp .ge 101, 3) := by decide +kernel
theorem dX3_remove_25 : decode cX3_remove 25 = .ok (.iload_n 2, 1) := by decide +kernel
theorem dX3_remove_26 : decode cX3_remove 26 = .ok (.iconst 1, 1) := by decide +kernel
theorem dX3_remove_27 : decode cX3_remove 27 = .ok (.iadd, 1) := by decide +kernel
theorem dX3_remove_28 : decode cX3_remove 28 = .ok (.bipush 8, 2) := by decide +kernel
theorem dX3_remove_30 : decode cX3_remove 30 = .ok (.if_icmp .ge 93, 3) := by decide +kernel
theorem dX3_remove_33 : decode cX3_remove 33 = .ok (.aload_n 0, 1) := by decide +kernel
theorem dX3_remove_34 : decode cX3_remove 34 = .ok (.getfield 9, 3) := by decide +kernel
theorem dX3_remove_37 : decode cX3_remove 37 = .ok (.iload_n 2, 1) := by decide +kernel
theorem dX3_remove_38 : decode cX3_remove 38 = .ok (.aload_n 0, 1) := by decide +kernel
theorem dX3_remove_39 : decode cX3_remove 39 = .ok (.getfield 9, 3) := by decide +kernel
theorem dX3_remove_42 : decode cX3_remove 42 = .ok (.iload_n 2, 1) := by decide +kernel
theorem dX3_remove_43 : decode cX3_remove 43 = .ok (.iconst 1, 1) := by decide +kernel
theorem dX3_remove_44 : decode cX3_remove 44 = .ok (.iadd, 1) := by decide +kernel
theorem dX3_remove_45 : decode cX3_remove 45 = .ok (.iaload, 1) := by decide +kernel
theorem dX3_remove_46 : decode cX3_remove 46 = .ok (.iastore, 1) := by decide +kernel
theorem dX3_remove_47 : decode cX3_remove 47 = .ok (.aload_n 0, 1) := by decide +kernel
theorem dX3_remove_48 : decode cX3_remove 48 = .ok (.getfield 15, 3) := by decide +kernel
theorem dX3_remove_51 : decode cX3_remove 51 = .ok (.iload_n 2, 1) := by decide +kernel
theorem dX3_remove_52 : decode cX3_remove 52 = .ok (.aload_n 0, 1) := by decide +kernel
theorem dX3_remove_53 : decode cX3_remove 53 = .ok (.getfield 15, 3) := by decide +kernel
theorem dX3_remove_56 : decode cX3_remove 56 = .ok (.iload_n 2, 1) := by decide +kernel
theorem dX3_remove_57 : decode cX3_remove 57 = .ok (.iconst 1, 1) := by decide +kernel
theorem dX3_remove_58 : decode cX3_remove 58 = .ok (.iadd, 1) := by decide +kernel
theorem dX3_remove_59 : decode cX3_remove 59 = .ok (.iaload, 1) := by decide +kernel
theorem dX3_remove_60 : decode cX3_remove 60 = .ok (.iastore, 1) := by decide +kernel
theorem dX3_remove_61 : decode cX3_remove 61 = .ok (.aload_n 0, 1) := by decide +kernel
theorem dX3_remove_62 : decode cX3_remove 62 = .ok (.getfield 18, 3) := by decide +kernel
theorem dX3_remove_65 : decode cX3_remove 65 = .ok (.iload_n 2, 1) := by decide +kernel
theorem dX3_remove_66 : decode cX3_remove 66 = .ok (.aload_n 0, 1) := by decide +kernel
theorem dX3_remove_67 : decode cX3_remove 67 = .ok (.getfield 18, 3) := by decide +kernel
theorem dX3_remove_70 : decode cX3_remove 70 = .ok (.iload_n 2, 1) := by decide +kernel
theorem dX3_remove_71 : decode cX3_remove 71 = .ok (.iconst 1, 1) := by decide +kernel
theorem dX3_remove_72 : decode cX3_remove 72 = .ok (.iadd, 1) := by decide +kernel
theorem dX3_remove_73 : decode cX3_remove 73 = .ok (.iaload, 1) := by decide +kernel
theorem dX3_remove_74 : decode cX3_remove 74 = .ok (.iastore, 1) := by decide +kernel
theorem dX3_remove_75 : decode cX3_remove 75 = .ok (.aload_n 0, 1) := by decide +kernel
theorem dX3_remove_76 : decode cX3_remove 76 = .ok (.getfield 21, 3) := by decide +kernel
theorem dX3_remove_79 : decode cX3_remove 79 = .ok (.iload_n 2, 1) := by decide +kernel
theorem dX3_remove_80 : decode cX3_remove 80 = .ok (.aload_n 0, 1) := by decide +kernel
theorem dX3_remove_81 : decode cX3_remove 81 = .ok (.getfield 21, 3) := by decide +kernel
theorem dX3_remove_84 : decode cX3_remove 84 = .ok (.iload_n 2, 1) := by decide +kernel
theorem dX3_remove_85 : decode cX3_remove 85 = .ok (.iconst 1, 1) := by decide +kernel
theorem dX3_remove_86 : decode cX3_remove 86 = .ok (.iadd, 1) := by decide +kernel
theorem dX3_remove_87 : decode cX3_remove 87 = .ok (.iaload, 1) := by decide +kernel
theorem dX3_remove_88 : decode cX3_remove 88 = .ok (.iastore, 1) := by decide +kernel
theorem dX3_remove_89 : decode cX3_remove 89 = .ok (.aload_n 0, 1) := by decide +kernel
theorem dX3_remove_90 : decode cX3_remove 90 = .ok (.getfield 24, 3) := by decide +kernel
theorem dX3_remove_93 : decode cX3_remove 93 = .ok (.iload_n 2, 1) := by decide +kernel
theorem dX3_remove_94 : decode cX3_remove 94 = .ok (.aload_n 0, 1) := by decide +kernel
theorem dX3_remove_95 : decode cX3_remove 95 = .ok (.getfield 24, 3) := by decide +kernel
theorem dX3_remove_98 : decode cX3_remove 98 = .ok (.iload_n 2, 1) := by decide +kernel
theorem dX3_remove_99 : decode cX3_remove 99 = .ok (.iconst 1, 1) := by decide +kernel
theorem dX3_remove_100 : decode cX3_remove 100 = .ok (.iadd, 1) := by decide +kernel
theorem dX3_remove_101 : decode cX3_remove 101 = .ok (.iaload, 1) := by decide +kernel
theorem dX3_remove_102 : decode cX3_remove 102 = .ok (.iastore, 1) := by decide +kernel
theorem dX3_remove_103 : decode cX3_remove 103 = .ok (.aload_n 0, 1) := by decide +kernel
theorem dX3_remove_104 : decode cX3_remove 104 = .ok (.getfield 27, 3) := by decide +kernel
theorem dX3_remove_107 : decode cX3_remove 107 = .ok (.iload_n 2, 1) := by decide +kernel
theorem dX3_remove_108 : decode cX3_remove 108 = .ok (.aload_n 0, 1) := by decide +kernel
theorem dX3_remove_109 : decode cX3_remove 109 = .ok (.getfield 27, 3) := by decide +kernel
theorem dX3_remove_112 : decode cX3_remove 112 = .ok (.iload_n 2, 1) := by decide +kernel
theorem dX3_remove_113 : decode cX3_remove 113 = .ok (.iconst 1, 1) := by decide +kernel
theorem dX3_remove_114 : decode cX3_remove 114 = .ok (.iadd, 1) := by decide +kernel
theorem dX3_remove_115 : decode cX3_remove 115 = .ok (.iaload, 1) := by decide +kernel
theorem dX3_remove_116 : decode cX3_remove 116 = .ok (.iastore, 1) := by decide +kernel
theorem dX3_remove_117 : decode cX3_remove 117 = .ok (.iinc 2 1, 3) := by decide +kernel
theorem dX3_remove_120 : decode cX3_remove 120 = .ok (.goto (-105), 3) := by decide +kernel
theorem dX3_remove_123 : decode cX3_remove 123 = .ok (.aload_n 0, 1) := by decide +kernel
theorem dX3_remove_124 : decode cX3_remove 124 = .ok (.dup, 1) := by decide +kernel
theorem dX3_remove_125 : decode cX3_remove 125 = .ok (.getfield 30, 3) := by decide +kernel
theorem dX3_remove_128 : decode cX3_remove 128 = .ok (.iconst 1, 1) := by decide +kernel
theorem dX3_remove_129 : decode cX3_remove 129 = .ok (.isub, 1) := by decide +kernel
theorem dX3_remove_130 : decode cX3_remove 130 = .ok (.putfield 30, 3) := by decide +kernel
theorem dX3_remove_133 : decode cX3_remove 133 = .ok (.aload_n 0, 1) := by decide +kernel
theorem dX3_remove_134 : decode cX3_remove 134 = .ok (.getfield 30, 3) := by decide +kernel
theorem dX3_remove_137 : decode cX3_remove 137 = .ok (.ireturn, 1) := by decide +kernel
theorem dX3_numberOf_0 : decode cX3_numberOf 0 = .ok (.aload_n 0, 1) := by decide +kernel
theorem dX3_numberOf_1 : decode cX3_numberOf 1 = .ok (.iload_n 1, 1) := by decide +kernel
theorem dX3_numberOf_2 : decode cX3_numberOf 2 = .ok (.invokevirtual 34, 3) := by decide +kernel
theorem dX3_numberOf_5 : decode cX3_numberOf 5 = .ok (.ifCond .ne 5, 3) := by decide +kernel
theorem dX3_numberOf_8 : decode cX3_numberOf 8 = .ok (.iconst 0, 1) := by decide +kernel
theorem dX3_numberOf_9 : decode cX3_numberOf 9 = .ok (.ireturn, 1) := by decide +kernel
theorem dX3_numberOf_10 : decode cX3_numberOf 10 = .ok (.iload_n 2, 1) := by decide +kernel
theorem dX3_numberOf_11 : decode cX3_numberOf 11 = .ok (.tableswitch 68 0 4 #[33, 40, 47, 54, 61], 33) := by decide +kernel
theorem dX3_numberOf_44 : decode cX3_numberOf 44 = .ok (.aload_n 0, 1) := by decide +kernel
theorem dX3_numberOf_45 : decode cX3_numberOf 45 = .ok (.getfield 9, 3) := by decide +kernel
theorem dX3_numberOf_48 : decode cX3_numberOf 48 = .ok (.iload_n 1, 1) := by decide +kernel
theorem dX3_numberOf_49 : decode cX3_numberOf 49 = .ok (.iaload, 1) := by decide +kernel
theorem dX3_numberOf_50 : decode cX3_numberOf 50 = .ok (.ireturn, 1) := by decide +kernel
theorem dX3_numberOf_51 : decode cX3_numberOf 51 = .ok (.aload_n 0, 1) := by decide +kernel
theorem dX3_numberOf_52 : decode cX3_numberOf 52 = .ok (.getfield 15, 3) := by decide +kernel
theorem dX3_numberOf_55 : decode cX3_numberOf 55 = .ok (.iload_n 1, 1) := by decide +kernel
theorem dX3_numberOf_56 : decode cX3_numberOf 56 = .ok (.iaload, 1) := by decide +kernel
theorem dX3_numberOf_57 : decode cX3_numberOf 57 = .ok (.ireturn, 1) := by decide +kernel
theorem dX3_numberOf_58 : decode cX3_numberOf 58 = .ok (.aload_n 0, 1) := by decide +kernel
theorem dX3_numberOf_59 : decode cX3_numberOf 59 = .ok (.getfield 18, 3) := by decide +kernel
theorem dX3_numberOf_62 : decode cX3_numberOf 62 = .ok (.iload_n 1, 1) := by decide +kernel
theorem dX3_numberOf_63 : decode cX3_numberOf 63 = .ok (.iaload, 1) := by decide +kernel
theorem dX3_numberOf_64 : decode cX3_numberOf 64 = .ok (.ireturn, 1) := by decide +kernel
theorem dX3_numberOf_65 : decode cX3_numberOf 65 = .ok (.aload_n 0, 1) := by decide +kernel
theorem dX3_numberOf_66 : decode cX3_numberOf 66 = .ok (.getfield 21, 3) := by decide +kernel
theorem dX3_numberOf_69 : decode cX3_numberOf 69 = .ok (.iload_n 1, 1) := by decide +kernel
theorem dX3_numberOf_70 : decode cX3_numberOf 70 = .ok (.iaload, 1) := by decide +kernel
theorem dX3_numberOf_71 : decode cX3_numberOf 71 = .ok (.ireturn, 1) := by decide +kernel
theorem dX3_numberOf_72 : decode cX3_numberOf 72 = .ok (.aload_n 0, 1) := by decide +kernel
theorem dX3_numberOf_73 : decode cX3_numberOf 73 = .ok (.getfield 24, 3) := by decide +kernel
theorem dX3_numberOf_76 : decode cX3_numberOf 76 = .ok (.iload_n 1, 1) := by decide +kernel
theorem dX3_numberOf_77 : decode cX3_numberOf 77 = .ok (.iaload, 1) := by decide +kernel
theorem dX3_numberOf_78 : decode cX3_numberOf 78 = .ok (.ireturn, 1) := by decide +kernel
theorem dX3_numberOf_79 : decode cX3_numberOf 79 = .ok (.aload_n 0, 1) := by decide +kernel
theorem dX3_numberOf_80 : decode cX3_numberOf 80 = .ok (.getfield 27, 3) := by decide +kernel
theorem dX3_numberOf_83 : decode cX3_numberOf 83 = .ok (.iload_n 1, 1) := by decide +kernel
theorem dX3_numberOf_84 : decode cX3_numberOf 84 = .ok (.iaload, 1) := by decide +kernel
theorem dX3_numberOf_85 : decode cX3_numberOf 85 = .ok (.ireturn, 1) := by decide +kernel
theorem dX3_copyFrom_0 : decode cX3_copyFrom 0 = .ok (.aload_n 1, 1) := by decide +kernel
theorem dX3_copyFrom_1 : decode cX3_copyFrom 1 = .ok (.getfield 9, 3) := by decide +kernel
theorem dX3_copyFrom_4 : decode cX3_copyFrom 4 = .ok (.iconst 0, 1) := by decide +kernel
theorem dX3_copyFrom_5 : decode cX3_copyFrom 5 = .ok (.aload_n 0, 1) := by decide +kernel
theorem dX3_copyFrom_6 : decode cX3_copyFrom 6 = .ok (.getfield 9, 3) := by decide +kernel
theorem dX3_copyFrom_9 : decode cX3_copyFrom 9 = .ok (.iconst 0, 1) := by decide +kernel
theorem dX3_copyFrom_10 : decode cX3_copyFrom 10 = .ok (.bipush 8, 2) := by decide +kernel
theorem dX3_copyFrom_12 : decode cX3_copyFrom 12 = .ok (.invokestatic 38, 3) := by decide +kernel
theorem dX3_copyFrom_15 : decode cX3_copyFrom 15 = .ok (.aload_n 1, 1) := by decide +kernel
theorem dX3_copyFrom_16 : decode cX3_copyFrom 16 = .ok (.getfield 15, 3) := by decide +kernel
theorem dX3_copyFrom_19 : decode cX3_copyFrom 19 = .ok (.iconst 0, 1) := by decide +kernel
theorem dX3_copyFrom_20 : decode cX3_copyFrom 20 = .ok (.aload_n 0, 1) := by decide +kernel
theorem dX3_copyFrom_21 : decode cX3_copyFrom 21 = .ok (.getfield 15, 3) := by decide +kernel
theorem dX3_copyFrom_24 : decode cX3_copyFrom 24 = .ok (.iconst 0, 1) := by decide +kernel
theorem dX3_copyFrom_25 : decode cX3_copyFrom 25 = .ok (.bipush 8, 2) := by decide +kernel
theorem dX3_copyFrom_27 : decode cX3_copyFrom 27 = .ok (.invokestatic 38, 3) := by decide +kernel
theorem dX3_copyFrom_30 : decode cX3_copyFrom 30 = .ok (.aload_n 1, 1) := by decide +kernel
theorem dX3_copyFrom_31 : decode cX3_copyFrom 31 = .ok (.getfield 18, 3) := by decide +kernel
theorem dX3_copyFrom_34 : decode cX3_copyFrom 34 = .ok (.iconst 0, 1) := by decide +kernel
theorem dX3_copyFrom_35 : decode cX3_copyFrom 35 = .ok (.aload_n 0, 1) := by decide +kernel
theorem dX3_copyFrom_36 : decode cX3_copyFrom 36 = .ok (.getfield 18, 3) := by decide +kernel
theorem dX3_copyFrom_39 : decode cX3_copyFrom 39 = .ok (.iconst 0, 1) := by decide +kernel
theorem dX3_copyFrom_40 : decode cX3_copyFrom 40 = .ok (.bipush 8, 2) := by decide +kernel
theorem dX3_copyFrom_42 : decode cX3_copyFrom 42 = .ok (.invokestatic 38, 3) := by decide +kernel
theorem dX3_copyFrom_45 : decode cX3_copyFrom 45 = .ok (.aload_n 1, 1) := by decide +kernel
theorem dX3_copyFrom_46 : decode cX3_copyFrom 46 = .ok (.getfield 21, 3) := by decide +kernel
theorem dX3_copyFrom_49 : decode cX3_copyFrom 49 = .ok (.iconst 0, 1) := by decide +kernel
theorem dX3_copyFrom_50 : decode cX3_copyFrom 50 = .ok (.aload_n 0, 1) := by decide +kernel
theorem dX3_copyFrom_51 : decode cX3_copyFrom 51 = .ok (.getfield 21, 3) := by decide +kernel
theorem dX3_copyFrom_54 : decode cX3_copyFrom 54 = .ok (.iconst 0, 1) := by decide +kernel
theorem dX3_copyFrom_55 : decode cX3_copyFrom 55 = .ok (.bipush 8, 2) := by decide +kernel
theorem dX3_copyFrom_57 : decode cX3_copyFrom 57 = .ok (.invokestatic 38, 3) := by decide +kernel
theorem dX3_copyFrom_60 : decode cX3_copyFrom 60 = .ok (.aload_n 1, 1) := by decide +kernel
theorem dX3_copyFrom_61 : decode cX3_copyFrom 61 = .ok (.getfield 24, 3) := by decide +kernel
theorem dX3_copyFrom_64 : decode cX3_copyFrom 64 = .ok (.iconst 0, 1) := by decide +kernel
theorem dX3_copyFrom_65 : decode cX3_copyFrom 65 = .ok (.aload_n 0, 1) := by decide +kernel
theorem dX3_copyFrom_66 : decode cX3_copyFrom 66 = .ok (.getfield 24, 3) := by decide +kernel
theorem dX3_copyFrom_69 : decode cX3_copyFrom 69 = .ok (.iconst 0, 1) := by decide +kernel
theorem dX3_copyFrom_70 : decode cX3_copyFrom 70 = .ok (.bipush 8, 2) := by decide +kernel
theorem dX3_copyFrom_72 : decode cX3_copyFrom 72 = .ok (.invokestatic 38, 3) := by decide +kernel
theorem dX3_copyFrom_75 : decode cX3_copyFrom 75 = .ok (.aload_n 1, 1) := by decide +kernel
theorem dX3_copyFrom_76 : decode cX3_copyFrom 76 = .ok (.getfield 27, 3) := by decide +kernel
theorem dX3_copyFrom_79 : decode cX3_copyFrom 79 = .ok (.iconst 0, 1) := by decide +kernel
theorem dX3_copyFrom_80 : decode cX3_copyFrom 80 = .ok (.aload_n 0, 1) := by decide +kernel
theorem dX3_copyFrom_81 : decode cX3_copyFrom 81 = .ok (.getfield 27, 3) := by decide +kernel
theorem dX3_copyFrom_84 : decode cX3_copyFrom 84 = .ok (.iconst 0, 1) := by decide +kernel
theorem dX3_copyFrom_85 : decode cX3_copyFrom 85 = .ok (.bipush 8, 2) := by decide +kernel
theorem dX3_copyFrom_87 : decode cX3_copyFrom 87 = .ok (.invokestatic 38, 3) := by decide +kernel
theorem dX3_copyFrom_90 : decode cX3_copyFrom 90 = .ok (.aload_n 0, 1) := by decide +kernel
theorem dX3_copyFrom_91 : decode cX3_copyFrom 91 = .ok (.aload_n 1, 1) := by decide +kernel
theorem dX3_copyFrom_92 : decode cX3_copyFrom 92 = .ok (.getfield 30, 3) := by decide +kernel
theorem dX3_copyFrom_95 : decode cX3_copyFrom 95 = .ok (.putfield 30, 3) := by decide +kernel
theorem dX3_copyFrom_98 : decode cX3_copyFrom 98 = .ok (.return_, 1) := by decide +kernel
theorem dX4_init_0 : decode cX4_init 0 = .ok (.aload_n 0, 1) := by decide +kernel
theorem dX4_init_1 : decode cX4_init 1 = .ok (.invokespecial 3, 3) := by decide +kernel
theorem dX4_init_4 : decode cX4_init 4 = .ok (.aload_n 0, 1) := by decide +kernel
theorem dX4_init_5 : decode cX4_init 5 = .ok (.bipush 6, 2) := by decide +kernel
theorem dX4_init_7 : decode cX4_init 7 = .ok (.newarray .int, 2) := by decide +kernel
theorem dX4_init_9 : decode cX4_init 9 = .ok (.putfield 9, 3) := by decide +kernel
theorem dX4_init_12 : decode cX4_init 12 = .ok (.aload_n 0, 1) := by decide +kernel
theorem dX4_init_13 : decode cX4_init 13 = .ok (.bipush 6, 2) := by decide +kernel
theorem dX4_init_15 : decode cX4_init 15 = .ok (.newarray .int, 2) := by decide +kernel
theorem dX4_init_17 : decode cX4_init 17 = .ok (.putfield 15, 3) := by decide +kernel
theorem dX4_init_20 : decode cX4_init 20 = .ok (.aload_n 0, 1) := by decide +kernel
theorem dX4_init_21 : decode cX4_init 21 = .ok (.bipush 6, 2) := by decide +kernel
theorem dX4_init_23 : decode cX4_init 23 = .ok (.newarray .int, 2) := by decide +kernel
theorem dX4_init_25 : decode cX4_init 25 = .ok (.putfield 18, 3) := by decide +kernel
theorem dX4_init_28 : decode cX4_init 28 = .ok (.aload_n 0, 1) := by decide +kernel
theorem dX4_init_29 : decode cX4_init 29 = .ok (.bipush 6, 2) := by decide +kernel
theorem dX4_init_31 : decode cX4_init 31 = .ok (.newarray .int, 2) := by decide +kernel
theorem dX4_init_33 : decode cX4_init 33 = .ok (.putfield 21, 3) := by decide +kernel
theorem dX4_init_36 : decode cX4_init 36 = .ok (.aload_n 0, 1) := by decide +kernel
theorem dX4_init_37 : decode cX4_init 37 = .ok (.bipush 6, 2) := by decide +kernel
theorem dX4_init_39 : decode cX4_init 39 = .ok (.newarray .long, 2) := by decide +kernel
theorem dX4_init_41 : decode cX4_init 41 = .ok (.putfield 24, 3) := by decide +kernel
theorem dX4_init_44 : decode cX4_init 44 = .ok (.return_, 1) := by decide +kernel
theorem dX4_has_0 : decode cX4_has 0 = .ok (.iload_n 1, 1) := by decide +kernel
theorem dX4_has_1 : decode cX4_has 1 = .ok (.ifCond .lt 21, 3) := by decide +kernel
theorem dX4_has_4 : decode cX4_has 4 = .ok (.iload_n 1, 1) := by decide +kernel
theorem dX4_has_5 : decode cX4_has 5 = .ok (.aload_n 0, 1) := by decide +kernel
theorem dX4_has_6 : decode cX4_has 6 = .ok (.getfield 28, 3) := by decide +kernel
theorem dX4_has_9 : decode cX4_has 9 = .ok (.if_icmp .ge 13, 3) := by decide +kernel
theorem dX4_has_12 : decode cX4_has 12 = .ok (.iload_n 1, 1) := by decide +kernel
theorem dX4_has_13 : decode cX4_has 13 = .ok (.bipush 6, 2) := by decide +kernel
theorem dX4_has_15 : decode cX4_has 15 = .ok (.if_icmp .ge 7, 3) := by decide +kernel
theorem dX4_has_18 : decode cX4_has 18 = .ok (.iconst 1, 1) := by decide +kernel
theorem dX4_has_19 : decode cX4_has 19 = .ok (.goto 4, 3) := by decide +kernel
theorem dX4_has_22 : decode cX4_has 22 = .ok (.iconst 0, 1) := by decide +kernel
theorem dX4_has_23 : decode cX4_has 23 = .ok (.ireturn, 1) := by decide +kernel
theorem dX4_append_0 : decode cX4_append 0 = .ok (.aload_n 0, 1) := by decide +kernel
theorem dX4_append_1 : decode cX4_append 1 = .ok (.getfield 28, 3) := by decide +kernel
theorem dX4_append_4 : decode cX4_append 4 = .ok (.istore 5, 2) := by decide +kernel
theorem dX4_append_6 : decode cX4_append 6 = .ok (.iload 5, 2) := by decide +kernel
theorem dX4_append_8 : decode cX4_append 8 = .ok (.ifCond .lt 10, 3) := by decide +kernel
theorem dX4_append_11 : decode cX4_append 11 = .ok (.iload 5, 2) := by decide +kernel
theorem dX4_append_13 : decode cX4_append 13 = .ok (.bipush 6, 2) := by decide +kernel
theorem dX4_append_15 : decode cX4_append 15 = .ok (.if_icmp .lt 6, 3) := by decide +kernel
theorem dX4_append_18 : decode cX4_append 18 = .ok (.iload 5, 2) := by decide +kernel
theorem dX4_append_20 : decode cX4_append 20 = .ok (.ireturn, 1) := by decide +kernel
theorem dX4_append_21 : decode cX4_append 21 = .ok (.aload_n 0, 1) := by decide +kernel
theorem dX4_append_22 : decode cX4_append 22 = .ok (.getfield 9, 3) := by decide +kernel
theorem dX4_append_25 : decode cX4_append 25 = .ok (.iload 5, 2) := by decide +kernel
theorem dX4_append_27 : decode cX4_append 27 = .ok (.iload_n 1, 1) := by decide +kernel
theorem dX4_append_28 : decode cX4_append 28 = .ok (.iastore, 1) := by decide +kernel
theorem dX4_append_29 : decode cX4_append 29 = .ok (.aload_n 0, 1) := by decide +kernel
theorem dX4_append_30 : decode cX4_append 30 = .ok (.getfield 15, 3) := by decide +kernel
theorem dX4_append_33 : decode cX4_append 33 = .ok (.iload 5, 2) := by decide +kernel
theorem dX4_append_35 : decode cX4_append 35 = .ok (.iload_n 2, 1) := by decide +kernel
theorem dX4_append_36 : decode cX4_append 36 = .ok (.iastore, 1) := by decide +kernel
theorem dX4_append_37 : decode cX4_append 37 = .ok (.aload_n 0, 1) := by decide +kernel
theorem dX4_append_38 : decode cX4_append 38 = .ok (.getfield 18, 3) := by decide +kernel
theorem dX4_append_41 : decode cX4_append 41 = .ok (.iload 5, 2) := by decide +kernel
theorem dX4_append_43 : decode cX4_append 43 = .ok (.iload_n 3, 1) := by decide +kernel
theorem dX4_append_44 : decode cX4_append 44 = .ok (.iastore, 1) := by decide +kernel
theorem dX4_append_45 : decode cX4_append 45 = .ok (.aload_n 0, 1) := by decide +kernel
theorem dX4_append_46 : decode cX4_append 46 = .ok (.getfield 21, 3) := by decide +kernel
theorem dX4_append_49 : decode cX4_append 49 = .ok (.iload 5, 2) := by decide +kernel
theorem dX4_append_51 : decode cX4_append 51 = .ok (.iload 4, 2) := by decide +kernel
theorem dX4_append_53 : decode cX4_append 53 = .ok (.iastore, 1) := by decide +kernel
theorem dX4_append_54 : decode cX4_append 54 = .ok (.aload_n 0, 1) := by decide +kernel
theorem dX4_append_55 : decode cX4_append 55 = .ok (.getfield 24, 3) := by decide +kernel
theorem dX4_append_58 : decode cX4_append 58 = .ok (.iload 5, 2) := by decide +kernel
theorem dX4_append_60 : decode cX4_append 60 = .ok (.lconst 0, 1) := by decide +kernel
theorem dX4_append_61 : decode cX4_append 61 = .ok (.lastore, 1) := by decide +kernel
theorem dX4_append_62 : decode cX4_append 62 = .ok (.aload_n 0, 1) := by decide +kernel
theorem dX4_append_63 : decode cX4_append 63 = .ok (.dup, 1) := by decide +kernel
theorem dX4_append_64 : decode cX4_append 64 = .ok (.getfield 28, 3) := by decide +kernel
theorem dX4_append_67 : decode cX4_append 67 = .ok (.iconst 1, 1) := by decide +kernel
theorem dX4_append_68 : decode cX4_append 68 = .ok (.iadd, 1) := by decide +kernel
theorem dX4_append_69 : decode cX4_append 69 = .ok (.putfield 28, 3) := by decide +kernel
theorem dX4_append_72 : decode cX4_append 72 = .ok (.iload 5, 2) := by decide +kernel
theorem dX4_append_74 : decode cX4_append 74 = .ok (.ireturn, 1) := by decide +kernel
theorem dX4_remove_0 : decode cX4_remove 0 = .ok (.aload_n 0, 1) := by decide +kernel
theorem dX4_remove_1 : decode cX4_remove 1 = .ok (.iload_n 1, 1) := by decide +kernel
theorem dX4_remove_2 : decode cX4_remove 2 = .ok (.invokevirtual 32, 3) := by decide +kernel
theorem dX4_remove_5 : decode cX4_remove 5 = .ok (.ifCond .ne 8, 3) := by decide +kernel
theorem dX4_remove_8 : decode cX4_remove 8 = .ok (.aload_n 0, 1) := by decide +kernel
theorem dX4_remove_9 : decode cX4_remove 9 = .ok (.getfield 28, 3) := by decide +kernel
theorem dX4_remove_12 : decode cX4_remove 12 = .ok (.ireturn, 1) := by decide +kernel
theorem dX4_remove_13 : decode cX4_remove 13 = .ok (.iload_n 1, 1) := by decide +kernel
theorem dX4_remove_14 : decode cX4_remove 14 = .ok (.istore_n 2, 1) := by decide +kernel
theorem dX4_remove_15 : decode cX4_remove 15 = .ok (.iload_n 2, 1) := by decide +kernel
theorem dX4_remove_16 : decode cX4_remove 16 = .ok (.iconst 1, 1) := by decide +kernel
theorem dX4_remove_17 : decode cX4_remove 17 = .ok (.iadd, 1) := by decide +kernel
theorem dX4_remove_18 : decode cX4_remove 18 = .ok (.aload_n 0, 1) := by decide +kernel
theorem dX4_remove_19 : decode cX4_remove 19 = .ok (.getfield 28, 3) := by decide +kernel
theorem dX4_remove_22 : decode cX4_remove 22 = .ok (.if_icmp .ge 87, 3) := by decide +kernel
theorem dX4_remove_25 : decode cX4_remove 25 = .ok (.iload_n 2, 1) := by decide +kernel
theorem dX4_remove_26 : decode cX4_remove 26 = .ok (.iconst 1, 1) := by decide +kernel
theorem dX4_remove_27 : decode cX4_remove 27 = .ok (.iadd, 1) := by decide +kernel
theorem dX4_remove_28 : decode cX4_remove 28 = .ok (.bipush 6, 2) := by decide +kernel
theorem dX4_remove_30 : decode cX4_remove 30 = .ok (.if_icmp .ge 79, 3) := by decide +kernel
theorem dX4_remove_33 : decode cX4_remove 33 = .ok (.aload_n 0, 1) := by decide +kernel
theorem dX4_remove_34 : decode cX4_remove 34 = .ok (.getfield 9, 3) := by decide +kernel
theorem dX4_remove_37 : decode cX4_remove 37 = .ok (.iload_n 2, 1) := by decide +kernel
theorem dX4_remove_38 : decode cX4_remove 38 = .ok (.aload_n 0, 1) := by decide +kernel
theorem dX4_remove_39 : decode cX4_remove 39 = .ok (.getfield 9, 3) := by decide +kernel
theorem dX4_remove_42 : decode cX4_remove 42 = .ok (.iload_n 2, 1) := by decide +kernel
theorem dX4_remove_43 : decode cX4_remove 43 = .ok (.iconst 1, 1) := by decide +kernel
theorem dX4_remove_44 : decode cX4_remove 44 = .ok (.iadd, 1) := by decide +kernel
theorem dX4_remove_45 : decode cX4_remove 45 = .ok (.iaload, 1) := by decide +kernel
theorem dX4_remove_46 : decode cX4_remove 46 = .ok (.iastore, 1) := by decide +kernel
theorem dX4_remove_47 : decode cX4_remove 47 = .ok (.aload_n 0, 1) := by decide +kernel
theorem dX4_remove_48 : decode cX4_remove 48 = .ok (.getfield 15, 3) := by decide +kernel
theorem dX4_remove_51 : decode cX4_remove 51 = .ok (.iload_n 2, 1) := by decide +kernel
theorem dX4_remove_52 : decode cX4_remove 52 = .ok (.aload_n 0, 1) := by decide +kernel
theorem dX4_remove_53 : decode cX4_remove 53 = .ok (.getfield 15, 3) := by decide +kernel
theorem dX4_remove_56 : decode cX4_remove 56 = .ok (.iload_n 2, 1) := by decide +kernel
theorem dX4_remove_57 : decode cX4_remove 57 = .ok (.iconst 1, 1) := by decide +kernel
theorem dX4_remove_58 : decode cX4_remove 58 = .ok (.iadd, 1) := by decide +kernel
theorem dX4_remove_59 : decode cX4_remove 59 = .ok (.iaload, 1) := by decide +kernel
theorem dX4_remove_60 : decode cX4_remove 60 = .ok (.iastore, 1) := by decide +kernel
theorem dX4_remove_61 : decode cX4_remove 61 = .ok (.aload_n 0, 1) := by decide +kernel
theorem dX4_remove_62 : decode cX4_remove 62 = .ok (.getfield 18, 3) := by decide +kernel
theorem dX4_remove_65 : decode cX4_remove 65 = .ok (.iload_n 2, 1) := by decide +kernel
theorem dX4_remove_66 : decode cX4_remove 66 = .ok (.aload_n 0, 1) := by decide +kernel
theorem dX4_remove_67 : decode cX4_remove 67 = .ok (.getfield 18, 3) := by decide +kernel
theorem dX4_remove_70 : decode cX4_remove 70 = .ok (.iload_n 2, 1) := by decide +kernel
theorem dX4_remove_71 : decode cX4_remove 71 = .ok (.iconst 1, 1) := by decide +kernel
theorem dX4_remove_72 : decode cX4_remove 72 = .ok (.iadd, 1) := by decide +kernel
theorem dX4_remove_73 : decode cX4_remove 73 = .ok (.iaload, 1) := by decide +kernel
theorem dX4_remove_74 : decode cX4_remove 74 = .ok (.iastore, 1) := by decide +kernel
theorem dX4_remove_75 : decode cX4_remove 75 = .ok (.aload_n 0, 1) := by decide +kernel
theorem dX4_remove_76 : decode cX4_remove 76 = .ok (.getfield 21, 3) := by decide +kernel
theorem dX4_remove_79 : decode cX4_remove 79 = .ok (.iload_n 2, 1) := by decide +kernel
theorem dX4_remove_80 : decode cX4_remove 80 = .ok (.aload_n 0, 1) := by decide +kernel
theorem dX4_remove_81 : decode cX4_remove 81 = .ok (.getfield 21, 3) := by decide +kernel
theorem dX4_remove_84 : decode cX4_remove 84 = .ok (.iload_n 2, 1) := by decide +kernel
theorem dX4_remove_85 : decode cX4_remove 85 = .ok (.iconst 1, 1) := by decide +kernel
theorem dX4_remove_86 : decode cX4_remove 86 = .ok (.iadd, 1) := by decide +kernel
theorem dX4_remove_87 : decode cX4_remove 87 = .ok (.iaload, 1) := by decide +kernel
theorem dX4_remove_88 : decode cX4_remove 88 = .ok (.iastore, 1) := by decide +kernel
theorem dX4_remove_89 : decode cX4_remove 89 = .ok (.aload_n 0, 1) := by decide +kernel
theorem dX4_remove_90 : decode cX4_remove 90 = .ok (.getfield 24, 3) := by decide +kernel
theorem dX4_remove_93 : decode cX4_remove 93 = .ok (.iload_n 2, 1) := by decide +kernel
theorem dX4_remove_94 : decode cX4_remove 94 = .ok (.aload_n 0, 1) := by decide +kernel
theorem dX4_remove_95 : decode cX4_remove 95 = .ok (.getfield 24, 3) := by decide +kernel
theorem dX4_remove_98 : decode cX4_remove 98 = .ok (.iload_n 2, 1) := by decide +kernel
theorem dX4_remove_99 : decode cX4_remove 99 = .ok (.iconst 1, 1) := by decide +kernel
theorem dX4_remove_100 : decode cX4_remove 100 = .ok (.iadd, 1) := by decide +kernel
theorem dX4_remove_101 : decode cX4_remove 101 = .ok (.laload, 1) := by decide +kernel
theorem dX4_remove_102 : decode cX4_remove 102 = .ok (.lastore, 1) := by decide +kernel
theorem dX4_remove_103 : decode cX4_remove 103 = .ok (.iinc 2 1, 3) := by decide +kernel
theorem dX4_remove_106 : decode cX4_remove 106 = .ok (.goto (-91), 3) := by decide +kernel
theorem dX4_remove_109 : decode cX4_remove 109 = .ok (.aload_n 0, 1) := by decide +kernel
theorem dX4_remove_110 : decode cX4_remove 110 = .ok (.dup, 1) := by decide +kernel
theorem dX4_remove_111 : decode cX4_remove 111 = .ok (.getfield 28, 3) := by decide +kernel
theorem dX4_remove_114 : decode cX4_remove 114 = .ok (.iconst 1, 1) := by decide +kernel
theorem dX4_remove_115 : decode cX4_remove 115 = .ok (.isub, 1) := by decide +kernel
theorem dX4_remove_116 : decode cX4_remove 116 = .ok (.putfield 28, 3) := by decide +kernel
theorem dX4_remove_119 : decode cX4_remove 119 = .ok (.aload_n 0, 1) := by decide +kernel
theorem dX4_remove_120 : decode cX4_remove 120 = .ok (.getfield 28, 3) := by decide +kernel
theorem dX4_remove_123 : decode cX4_remove 123 = .ok (.ireturn, 1) := by decide +kernel
theorem dX4_numberOf_0 : decode cX4_numberOf 0 = .ok (.aload_n 0, 1) := by decide +kernel
theorem dX4_numberOf_1 : decode cX4_numberOf 1 = .ok (.iload_n 1, 1) := by decide +kernel
theorem dX4_numberOf_2 : decode cX4_numberOf 2 = .ok (.invokevirtual 32, 3) := by decide +kernel
theorem dX4_numberOf_5 : decode cX4_numberOf 5 = .ok (.ifCond .ne 5, 3) := by decide +kernel
theorem dX4_numberOf_8 : decode cX4_numberOf 8 = .ok (.lconst 0, 1) := by decide +kernel
theorem dX4_numberOf_9 : decode cX4_numberOf 9 = .ok (.lreturn, 1) := by decide +kernel
theorem dX4_numberOf_10 : decode cX4_numberOf 10 = .ok (.iload_n 2, 1) := by decide +kernel
theorem dX4_numberOf_11 : decode cX4_numberOf 11 = .ok (.tableswitch 61 0 3 #[29, 37, 45, 53], 29) := by decide +kernel
theorem dX4_numberOf_40 : decode cX4_numberOf 40 = .ok (.aload_n 0, 1) := by decide +kernel
theorem dX4_numberOf_41 : decode cX4_numberOf 41 = .ok (.getfield 9, 3) := by decide +kernel
theorem dX4_numberOf_44 : decode cX4_numberOf 44 = .ok (.iload_n 1, 1) := by decide +kernel
theorem dX4_numberOf_45 : decode cX4_numberOf 45 = .ok (.iaload, 1) := by decide +kernel
theorem dX4_numberOf_46 : decode cX4_numberOf 46 = .ok (.i2l, 1) := by decide +kernel
theorem dX4_numberOf_47 : decode cX4_numberOf 47 = .ok (.lreturn, 1) := by decide +kernel
theorem dX4_numberOf_48 : decode cX4_numberOf 48 = .ok (.aload_n 0, 1) := by decide +kernel
theorem dX4_numberOf_49 : decode cX4_numberOf 49 = .ok (.getfield 15, 3) := by decide +kernel
theorem dX4_numberOf_52 : decode cX4_numberOf 52 = .ok (.iload_n 1, 1) := by decide +kernel
theorem dX4_numberOf_53 : decode cX4_numberOf 53 = .ok (.iaload, 1) := by decide +kernel
theorem dX4_numberOf_54 : decode cX4_numberOf 54 = .ok (.i2l, 1) := by decide +kernel
theorem dX4_numberOf_55 : decode cX4_numberOf 55 = .ok (.lreturn, 1) := by decide +kernel
theorem dX4_numberOf_56 : decode cX4_numberOf 56 = .ok (.aload_n 0, 1) := by decide +kernel
theorem dX4_numberOf_57 : decode cX4_numberOf 57 = .ok (.getfield 18, 3) := by decide +kernel
theorem dX4_numberOf_60 : decode cX4_numberOf 60 = .ok (.iload_n 1, 1) := by decide +kernel
theorem dX4_numberOf_61 : decode cX4_numberOf 61 = .ok (.iaload, 1) := by decide +kernel
theorem dX4_numberOf_62 : decode cX4_numberOf 62 = .ok (.i2l, 1) := by decide +kernel
theorem dX4_numberOf_63 : decode cX4_numberOf 63 = .ok (.lreturn, 1) := by decide +kernel
theorem dX4_numberOf_64 : decode cX4_numberOf 64 = .ok (.aload_n 0, 1) := by decide +kernel
theorem dX4_numberOf_65 : decode cX4_numberOf 65 = .ok (.getfield 21, 3) := by decide +kernel
theorem dX4_numberOf_68 : decode cX4_numberOf 68 = .ok (.iload_n 1, 1) := by decide +kernel
theorem dX4_numberOf_69 : decode cX4_numberOf 69 = .ok (.iaload, 1) := by decide +kernel
theorem dX4_numberOf_70 : decode cX4_numberOf 70 = .ok (.i2l, 1) := by decide +kernel
theorem dX4_numberOf_71 : decode cX4_numberOf 71 = .ok (.lreturn, 1) := by decide +kernel
theorem dX4_numberOf_72 : decode cX4_numberOf 72 = .ok (.aload_n 0, 1) := by decide +kernel
theorem dX4_numberOf_73 : decode cX4_numberOf 73 = .ok (.getfield 24, 3) := by decide +kernel
theorem dX4_numberOf_76 : decode cX4_numberOf 76 = .ok (.iload_n 1, 1) := by decide +kernel
theorem dX4_numberOf_77 : decode cX4_numberOf 77 = .ok (.laload, 1) := by decide +kernel
theorem dX4_numberOf_78 : decode cX4_numberOf 78 = .ok (.lreturn, 1) := by decide +kernel
theorem dX4_copyFrom_0 : decode cX4_copyFrom 0 = .ok (.aload_n 1, 1) := by decide +kernel
theorem dX4_copyFrom_1 : decode cX4_copyFrom 1 = .ok (.getfield 9, 3) := by decide +kernel
theorem dX4_copyFrom_4 : decode cX4_copyFrom 4 = .ok (.iconst 0, 1) := by decide +kernel
theorem dX4_copyFrom_5 : decode cX4_copyFrom 5 = .ok (.aload_n 0, 1) := by decide +kernel
theorem dX4_copyFrom_6 : decode cX4_copyFrom 6 = .ok (.getfield 9, 3) := by decide +kernel
theorem dX4_copyFrom_9 : decode cX4_copyFrom 9 = .ok (.iconst 0, 1) := by decide +kernel
theorem dX4_copyFrom_10 : decode cX4_copyFrom 10 = .ok (.bipush 6, 2) := by decide +kernel
theorem dX4_copyFrom_12 : decode cX4_copyFrom 12 = .ok (.invokestatic 36, 3) := by decide +kernel
theorem dX4_copyFrom_15 : decode cX4_copyFrom 15 = .ok (.aload_n 1, 1) := by decide +kernel
theorem dX4_copyFrom_16 : decode cX4_copyFrom 16 = .ok (.getfield 15, 3) := by decide +kernel
theorem dX4_copyFrom_19 : decode cX4_copyFrom 19 = .ok (.iconst 0, 1) := by decide +kernel
theorem dX4_copyFrom_20 : decode cX4_copyFrom 20 = .ok (.aload_n 0, 1) := by decide +kernel
theorem dX4_copyFrom_21 : decode cX4_copyFrom 21 = .ok (.getfield 15, 3) := by decide +kernel
theorem dX4_copyFrom_24 : decode cX4_copyFrom 24 = .ok (.iconst 0, 1) := by decide +kernel
theorem dX4_copyFrom_25 : decode cX4_copyFrom 25 = .ok (.bipush 6, 2) := by decide +kernel
theorem dX4_copyFrom_27 : decode cX4_copyFrom 27 = .ok (.invokestatic 36, 3) := by decide +kernel
theorem dX4_copyFrom_30 : decode cX4_copyFrom 30 = .ok (.aload_n 1, 1) := by decide +kernel
theorem dX4_copyFrom_31 : decode cX4_copyFrom 31 = .ok (.getfield 18, 3) := by decide +kernel
theorem dX4_copyFrom_34 : decode cX4_copyFrom 34 = .ok (.iconst 0, 1) := by decide +kernel
theorem dX4_copyFrom_35 : decode cX4_copyFrom 35 = .ok (.aload_n 0, 1) := by decide +kernel
theorem dX4_copyFrom_36 : decode cX4_copyFrom 36 = .ok (.getfield 18, 3) := by decide +kernel
theorem dX4_copyFrom_39 : decode cX4_copyFrom 39 = .ok (.iconst 0, 1) := by decide +kernel
theorem dX4_copyFrom_40 : decode cX4_copyFrom 40 = .ok (.bipush 6, 2) := by decide +kernel
theorem dX4_copyFrom_42 : decode cX4_copyFrom 42 = .ok (.invokestatic 36, 3) := by decide +kernel
theorem dX4_copyFrom_45 : decode cX4_copyFrom 45 = .ok (.aload_n 1, 1) := by decide +kernel
theorem dX4_copyFrom_46 : decode cX4_copyFrom 46 = .ok (.getfield 21, 3) := by decide +kernel
theorem dX4_copyFrom_49 : decode cX4_copyFrom 49 = .ok (.iconst 0, 1) := by decide +kernel
theorem dX4_copyFrom_50 : decode cX4_copyFrom 50 = .ok (.aload_n 0, 1) := by decide +kernel
theorem dX4_copyFrom_51 : decode cX4_copyFrom 51 = .ok (.getfield 21, 3) := by decide +kernel
theorem dX4_copyFrom_54 : decode cX4_copyFrom 54 = .ok (.iconst 0, 1) := by decide +kernel
theorem dX4_copyFrom_55 : decode cX4_copyFrom 55 = .ok (.bipush 6, 2) := by decide +kernel
theorem dX4_copyFrom_57 : decode cX4_copyFrom 57 = .ok (.invokestatic 36, 3) := by decide +kernel
theorem dX4_copyFrom_60 : decode cX4_copyFrom 60 = .ok (.aload_n 1, 1) := by decide +kernel
theorem dX4_copyFrom_61 : decode cX4_copyFrom 61 = .ok (.getfield 24, 3) := by decide +kernel
theorem dX4_copyFrom_64 : decode cX4_copyFrom 64 = .ok (.iconst 0, 1) := by decide +kernel
theorem dX4_copyFrom_65 : decode cX4_copyFrom 65 = .ok (.aload_n 0, 1) := by decide +kernel
theorem dX4_copyFrom_66 : decode cX4_copyFrom 66 = .ok (.getfield 24, 3) := by decide +kernel
theorem dX4_copyFrom_69 : decode cX4_copyFrom 69 = .ok (.iconst 0, 1) := by decide +kernel
theorem dX4_copyFrom_70 : decode cX4_copyFrom 70 = .ok (.bipush 6, 2) := by decide +kernel
theorem dX4_copyFrom_72 : decode cX4_copyFrom 72 = .ok (.invokestatic 36, 3) := by decide +kernel
theorem dX4_copyFrom_75 : decode cX4_copyFrom 75 = .ok (.aload_n 0, 1) := by decide +kernel
theorem dX4_copyFrom_76 : decode cX4_copyFrom 76 = .ok (.aload_n 1, 1) := by decide +kernel
theorem dX4_copyFrom_77 : decode cX4_copyFrom 77 = .ok (.getfield 28, 3) := by decide +kernel
theorem dX4_copyFrom_80 : decode cX4_copyFrom 80 = .ok (.putfield 28, 3) := by decide +kernel
theorem dX4_copyFrom_83 : decode cX4_copyFrom 83 = .ok (.return_, 1) := by decide +kernel
theorem dX5_init_0 : decode cX5_init 0 = .ok (.aload_n 0, 1) := by decide +kernel
theorem dX5_init_1 : decode cX5_init 1 = .ok (.invokespecial 3, 3) := by decide +kernel
theorem dX5_init_4 : decode cX5_init 4 = .ok (.aload_n 0, 1) := by decide +kernel
theorem dX5_init_5 : decode cX5_init 5 = .ok (.new 9, 3) := by decide +kernel
theorem dX5_init_8 : decode cX5_init 8 = .ok (.dup, 1) := by decide +kernel
theorem dX5_init_9 : decode cX5_init 9 = .ok (.invokespecial 11, 3) := by decide +kernel
theorem dX5_init_12 : decode cX5_init 12 = .ok (.putfield 12, 3) := by decide +kernel
theorem dX5_init_15 : decode cX5_init 15 = .ok (.aload_n 0, 1) := by decide +kernel
theorem dX5_init_16 : decode cX5_init 16 = .ok (.new 18, 3) := by decide +kernel
theorem dX5_init_19 : decode cX5_init 19 = .ok (.dup, 1) := by decide +kernel
theorem dX5_init_20 : decode cX5_init 20 = .ok (.invokespecial 20, 3) := by decide +kernel
theorem dX5_init_23 : decode cX5_init 23 = .ok (.putfield 21, 3) := by decide +kernel
theorem dX5_init_26 : decode cX5_init 26 = .ok (.aload_n 0, 1) := by decide +kernel
theorem dX5_init_27 : decode cX5_init 27 = .ok (.new 25, 3) := by decide +kernel
theorem dX5_init_30 : decode cX5_init 30 = .ok (.dup, 1) := by decide +kernel
theorem dX5_init_31 : decode cX5_init 31 = .ok (.invokespecial 27, 3) := by decide +kernel
theorem dX5_init_34 : decode cX5_init 34 = .ok (.putfield 28, 3) := by decide +kernel
theorem dX5_init_37 : decode cX5_init 37 = .ok (.aload_n 0, 1) := by decide +kernel
theorem dX5_init_38 : decode cX5_init 38 = .ok (.new 32, 3) := by decide +kernel
theorem dX5_init_41 : decode cX5_init 41 = .ok (.dup, 1) := by decide +kernel
theorem dX5_init_42 : decode cX5_init 42 = .ok (.invokespecial 34, 3) := by decide +kernel
theorem dX5_init_45 : decode cX5_init 45 = .ok (.putfield 35, 3) := by decide +kernel
theorem dX5_init_48 : decode cX5_init 48 = .ok (.return_, 1) := by decide +kernel
theorem dX5_copyFrom_0 : decode cX5_copyFrom 0 = .ok (.aload_n 0, 1) := by decide +kernel
theorem dX5_copyFrom_1 : decode cX5_copyFrom 1 = .ok (.getfield 12, 3) := by decide +kernel
theorem dX5_copyFrom_4 : decode cX5_copyFrom 4 = .ok (.aload_n 1, 1) := by decide +kernel
theorem dX5_copyFrom_5 : decode cX5_copyFrom 5 = .ok (.getfield 12, 3) := by decide +kernel
theorem dX5_copyFrom_8 : decode cX5_copyFrom 8 = .ok (.invokevirtual 39, 3) := by decide +kernel
theorem dX5_copyFrom_11 : decode cX5_copyFrom 11 = .ok (.aload_n 0, 1) := by decide +kernel
theorem dX5_copyFrom_12 : decode cX5_copyFrom 12 = .ok (.getfield 21, 3) := by decide +kernel
theorem dX5_copyFrom_15 : decode cX5_copyFrom 15 = .ok (.aload_n 1, 1) := by decide +kernel
theorem dX5_copyFrom_16 : decode cX5_copyFrom 16 = .ok (.getfield 21, 3) := by decide +kernel
theorem dX5_copyFrom_19 : decode cX5_copyFrom 19 = .ok (.invokevirtual 43, 3) := by decide +kernel
theorem dX5_copyFrom_22 : decode cX5_copyFrom 22 = .ok (.aload_n 0, 1) := by decide +kernel
theorem dX5_copyFrom_23 : decode cX5_copyFrom 23 = .ok (.getfield 28, 3) := by decide +kernel
theorem dX5_copyFrom_26 : decode cX5_copyFrom 26 = .ok (.aload_n 1, 1) := by decide +kernel
theorem dX5_copyFrom_27 : decode cX5_copyFrom 27 = .ok (.getfield 28, 3) := by decide +kernel
theorem dX5_copyFrom_30 : decode cX5_copyFrom 30 = .ok (.invokevirtual 46, 3) := by decide +kernel
theorem dX5_copyFrom_33 : decode cX5_copyFrom 33 = .ok (.aload_n 0, 1) := by decide +kernel
theorem dX5_copyFrom_34 : decode cX5_copyFrom 34 = .ok (.getfield 35, 3) := by decide +kernel
theorem dX5_copyFrom_37 : decode cX5_copyFrom 37 = .ok (.aload_n 1, 1) := by decide +kernel
theorem dX5_copyFrom_38 : decode cX5_copyFrom 38 = .ok (.getfield 35, 3) := by decide +kernel
theorem dX5_copyFrom_41 : decode cX5_copyFrom 41 = .ok (.invokevirtual 49, 3) := by decide +kernel
theorem dX5_copyFrom_44 : decode cX5_copyFrom 44 = .ok (.aload_n 0, 1) := by decide +kernel
theorem dX5_copyFrom_45 : decode cX5_copyFrom 45 = .ok (.aload_n 1, 1) := by decide +kernel
theorem dX5_copyFrom_46 : decode cX5_copyFrom 46 = .ok (.getfield 52, 3) := by decide +kernel
theorem dX5_copyFrom_49 : decode cX5_copyFrom 49 = .ok (.putfield 52, 3) := by decide +kernel
theorem dX5_copyFrom_52 : decode cX5_copyFrom 52 = .ok (.aload_n 0, 1) := by decide +kernel
theorem dX5_copyFrom_53 : decode cX5_copyFrom 53 = .ok (.aload_n 1, 1) := by decide +kernel
theorem dX5_copyFrom_54 : decode cX5_copyFrom 54 = .ok (.getfield 56, 3) := by decide +kernel
theorem dX5_copyFrom_57 : decode cX5_copyFrom 57 = .ok (.putfield 56, 3) := by decide +kernel
theorem dX5_copyFrom_60 : decode cX5_copyFrom 60 = .ok (.aload_n 0, 1) := by decide +kernel
theorem dX5_copyFrom_61 : decode cX5_copyFrom 61 = .ok (.aload_n 1, 1) := by decide +kernel
theorem dX5_copyFrom_62 : decode cX5_copyFrom 62 = .ok (.getfield 60, 3) := by decide +kernel
theorem dX5_copyFrom_65 : decode cX5_copyFrom 65 = .ok (.putfield 60, 3) := by decide +kernel
theorem dX5_copyFrom_68 : decode cX5_copyFrom 68 = .ok (.aload_n 0, 1) := by decide +kernel
theorem dX5_copyFrom_69 : decode cX5_copyFrom 69 = .ok (.aload_n 1, 1) := by decide +kernel
theorem dX5_copyFrom_70 : decode cX5_copyFrom 70 = .ok (.getfield 63, 3) := by decide +kernel
theorem dX5_copyFrom_73 : decode cX5_copyFrom 73 = .ok (.putfield 63, 3) := by decide +kernel
theorem dX5_copyFrom_76 : decode cX5_copyFrom 76 = .ok (.aload_n 0, 1) := by decide +kernel
theorem dX5_copyFrom_77 : decode cX5_copyFrom 77 = .ok (.aload_n 1, 1) := by decide +kernel
theorem dX5_copyFrom_78 : decode cX5_copyFrom 78 = .ok (.getfield 66, 3) := by decide +kernel
theorem dX5_copyFrom_81 : decode cX5_copyFrom 81 = .ok (.putfield 66, 3) := by decide +kernel
theorem dX5_copyFrom_84 : decode cX5_copyFrom 84 = .ok (.aload_n 0, 1) := by decide +kernel
theorem dX5_copyFrom_85 : decode cX5_copyFrom 85 = .ok (.aload_n 1, 1) := by decide +kernel
theorem dX5_copyFrom_86 : decode cX5_copyFrom 86 = .ok (.getfield 69, 3) := by decide +kernel
theorem dX5_copyFrom_89 : decode cX5_copyFrom 89 = .ok (.putfield 69, 3) := by decide +kernel
theorem dX5_copyFrom_92 : decode cX5_copyFrom 92 = .ok (.aload_n 0, 1) := by decide +kernel
theorem dX5_copyFrom_93 : decode cX5_copyFrom 93 = .ok (.aload_n 1, 1) := by decide +kernel
theorem dX5_copyFrom_94 : decode cX5_copyFrom 94 = .ok (.getfield 72, 3) := by decide +kernel
theorem dX5_copyFrom_97 : decode cX5_copyFrom 97 = .ok (.putfield 72, 3) := by decide +kernel
theorem dX5_copyFrom_100 : decode cX5_copyFrom 100 = .ok (.return_, 1) := by decide +kernel
theorem dX5_isPlace_0 : decode cX5_isPlace 0 = .ok (.iload_n 1, 1) := by decide +kernel
theorem dX5_isPlace_1 : decode cX5_isPlace 1 = .ok (.iconst (-1), 1) := by decide +kernel
theorem dX5_isPlace_2 : decode cX5_isPlace 2 = .ok (.if_icmp .eq 14, 3) := by decide +kernel
theorem dX5_isPlace_5 : decode cX5_isPlace 5 = .ok (.aload_n 0, 1) := by decide +kernel
theorem dX5_isPlace_6 : decode cX5_isPlace 6 = .ok (.getfield 12, 3) := by decide +kernel
theorem dX5_isPlace_9 : decode cX5_isPlace 9 = .ok (.iload_n 1, 1) := by decide +kernel
theorem dX5_isPlace_10 : decode cX5_isPlace 10 = .ok (.invokevirtual 75, 3) := by decide +kernel
theorem dX5_isPlace_13 : decode cX5_isPlace 13 = .ok (.ifCond .eq 7, 3) := by decide +kernel
theorem dX5_isPlace_16 : decode cX5_isPlace 16 = .ok (.iconst 1, 1) := by decide +kernel
theorem dX5_isPlace_17 : decode cX5_isPlace 17 = .ok (.goto 4, 3) := by decide +kernel
theorem dX5_isPlace_20 : decode cX5_isPlace 20 = .ok (.iconst 0, 1) := by decide +kernel
theorem dX5_isPlace_21 : decode cX5_isPlace 21 = .ok (.ireturn, 1) := by decide +kernel
theorem dX5_moneyIn_0 : decode cX5_moneyIn 0 = .ok (.iload_n 1, 1) := by decide +kernel
theorem dX5_moneyIn_1 : decode cX5_moneyIn 1 = .ok (.iconst (-1), 1) := by decide +kernel
theorem dX5_moneyIn_2 : decode cX5_moneyIn 2 = .ok (.if_icmp .ne 10, 3) := by decide +kernel
theorem dX5_moneyIn_5 : decode cX5_moneyIn 5 = .ok (.aload_n 0, 1) := by decide +kernel
theorem dX5_moneyIn_6 : decode cX5_moneyIn 6 = .ok (.getfield 52, 3) := by decide +kernel
theorem dX5_moneyIn_9 : decode cX5_moneyIn 9 = .ok (.goto 11, 3) := by decide +kernel
theorem dX5_moneyIn_12 : decode cX5_moneyIn 12 = .ok (.aload_n 0, 1) := by decide +kernel
theorem dX5_moneyIn_13 : decode cX5_moneyIn 13 = .ok (.getfield 12, 3) := by decide +kernel
theorem dX5_moneyIn_16 : decode cX5_moneyIn 16 = .ok (.iload_n 1, 1) := by decide +kernel
theorem dX5_moneyIn_17 : decode cX5_moneyIn 17 = .ok (.invokevirtual 79, 3) := by decide +kernel
theorem dX5_moneyIn_20 : decode cX5_moneyIn 20 = .ok (.lreturn, 1) := by decide +kernel
theorem dX5_numberOf_0 : decode cX5_numberOf 0 = .ok (.iload_n 1, 1) := by decide +kernel
theorem dX5_numberOf_1 : decode cX5_numberOf 1 = .ok (.tableswitch 131 0 10 #[59, 64, 72, 77, 82, 88, 94, 99, 104, 113, 122], 59) := by decide +kernel
theorem dX5_numberOf_60 : decode cX5_numberOf 60 = .ok (.aload_n 0, 1) := by decide +kernel
theorem dX5_numberOf_61 : decode cX5_numberOf 61 = .ok (.getfield 52, 3) := by decide +kernel
theorem dX5_numberOf_64 : decode cX5_numberOf 64 = .ok (.lreturn, 1) := by decide +kernel
theorem dX5_numberOf_65 : decode cX5_numberOf 65 = .ok (.aload_n 0, 1) := by decide +kernel
theorem dX5_numberOf_66 : decode cX5_numberOf 66 = .ok (.getfield 12, 3) := by decide +kernel
theorem dX5_numberOf_69 : decode cX5_numberOf 69 = .ok (.invokevirtual 83, 3) := by decide +kernel
theorem dX5_numberOf_72 : decode cX5_numberOf 72 = .ok (.lreturn, 1) := by decide +kernel
theorem dX5_numberOf_73 : decode cX5_numberOf 73 = .ok (.aload_n 0, 1) := by decide +kernel
theorem dX5_numberOf_74 : decode cX5_numberOf 74 = .ok (.getfield 60, 3) := by decide +kernel
theorem dX5_numberOf_77 : decode cX5_numberOf 77 = .ok (.lreturn, 1) := by decide +kernel
theorem dX5_numberOf_78 : decode cX5_numberOf 78 = .ok (.aload_n 0, 1) := by decide +kernel
theorem dX5_numberOf_79 : decode cX5_numberOf 79 = .ok (.getfield 63, 3) := by decide +kernel
theorem dX5_numberOf_82 : decode cX5_numberOf 82 = .ok (.lreturn, 1) := by decide +kernel
theorem dX5_numberOf_83 : decode cX5_numberOf 83 = .ok (.aload_n 0, 1) := by decide +kernel
theorem dX5_numberOf_84 : decode cX5_numberOf 84 = .ok (.getfield 66, 3) := by decide +kernel
theorem dX5_numberOf_87 : decode cX5_numberOf 87 = .ok (.i2l, 1) := by decide +kernel
theorem dX5_numberOf_88 : decode cX5_numberOf 88 = .ok (.lreturn, 1) := by decide +kernel
theorem dX5_numberOf_89 : decode cX5_numberOf 89 = .ok (.aload_n 0, 1) := by decide +kernel
theorem dX5_numberOf_90 : decode cX5_numberOf 90 = .ok (.getfield 56, 3) := by decide +kernel
theorem dX5_numberOf_93 : decode cX5_numberOf 93 = .ok (.i2l, 1) := by decide +kernel
theorem dX5_numberOf_94 : decode cX5_numberOf 94 = .ok (.lreturn, 1) := by decide +kernel
theorem dX5_numberOf_95 : decode cX5_numberOf 95 = .ok (.aload_n 0, 1) := by decide +kernel
theorem dX5_numberOf_96 : decode cX5_numberOf 96 = .ok (.getfield 69, 3) := by decide +kernel
theorem dX5_numberOf_99 : decode cX5_numberOf 99 = .ok (.lreturn, 1) := by decide +kernel
theorem dX5_numberOf_100 : decode cX5_numberOf 100 = .ok (.aload_n 0, 1) := by decide +kernel
theorem dX5_numberOf_101 : decode cX5_numberOf 101 = .ok (.getfield 72, 3) := by decide +kernel
theorem dX5_numberOf_104 : decode cX5_numberOf 104 = .ok (.lreturn, 1) := by decide +kernel
theorem dX5_numberOf_105 : decode cX5_numberOf 105 = .ok (.aload_n 0, 1) := by decide +kernel
theorem dX5_numberOf_106 : decode cX5_numberOf 106 = .ok (.getfield 12, 3) := by decide +kernel
theorem dX5_numberOf_109 : decode cX5_numberOf 109 = .ok (.getfield 87, 3) := by decide +kernel
theorem dX5_numberOf_112 : decode cX5_numberOf 112 = .ok (.i2l, 1) := by decide +kernel
theorem dX5_numberOf_113 : decode cX5_numberOf 113 = .ok (.lreturn, 1) := by decide +kernel
theorem dX5_numberOf_114 : decode cX5_numberOf 114 = .ok (.aload_n 0, 1) := by decide +kernel
theorem dX5_numberOf_115 : decode cX5_numberOf 115 = .ok (.getfield 21, 3) := by decide +kernel
theorem dX5_numberOf_118 : decode cX5_numberOf 118 = .ok (.getfield 90, 3) := by decide +kernel
theorem dX5_numberOf_121 : decode cX5_numberOf 121 = .ok (.i2l, 1) := by decide +kernel
theorem dX5_numberOf_122 : decode cX5_numberOf 122 = .ok (.lreturn, 1) := by decide +kernel
theorem dX5_numberOf_123 : decode cX5_numberOf 123 = .ok (.aload_n 0, 1) := by decide +kernel
theorem dX5_numberOf_124 : decode cX5_numberOf 124 = .ok (.getfield 28, 3) := by decide +kernel
theorem dX5_numberOf_127 : decode cX5_numberOf 127 = .ok (.getfield 91, 3) := by decide +kernel
theorem dX5_numberOf_130 : decode cX5_numberOf 130 = .ok (.i2l, 1) := by decide +kernel
theorem dX5_numberOf_131 : decode cX5_numberOf 131 = .ok (.lreturn, 1) := by decide +kernel
theorem dX5_numberOf_132 : decode cX5_numberOf 132 = .ok (.aload_n 0, 1) := by decide +kernel
theorem dX5_numberOf_133 : decode cX5_numberOf 133 = .ok (.getfield 35, 3) := by decide +kernel
theorem dX5_numberOf_136 : decode cX5_numberOf 136 = .ok (.getfield 92, 3) := by decide +kernel
theorem dX5_numberOf_139 : decode cX5_numberOf 139 = .ok (.i2l, 1) := by decide +kernel
theorem dX5_numberOf_140 : decode cX5_numberOf 140 = .ok (.lreturn, 1) := by decide +kernel
theorem dX5_refusalOf_0 : decode cX5_refusalOf 0 = .ok (.aload_n 0, 1) := by decide +kernel
theorem dX5_refusalOf_1 : decode cX5_refusalOf 1 = .ok (.iload_n 1, 1) := by decide +kernel
theorem dX5_refusalOf_2 : decode cX5_refusalOf 2 = .ok (.iload_n 2, 1) := by decide +kernel
theorem dX5_refusalOf_3 : decode cX5_refusalOf 3 = .ok (.iload_n 3, 1) := by decide +kernel
theorem dX5_refusalOf_4 : decode cX5_refusalOf 4 = .ok (.invokevirtual 93, 3) := by decide +kernel
theorem dX5_refusalOf_7 : decode cX5_refusalOf 7 = .ok (.ifCond .ne 5, 3) := by decide +kernel
theorem dX5_refusalOf_10 : decode cX5_refusalOf 10 = .ok (.iconst 1, 1) := by decide +kernel
theorem dX5_refusalOf_11 : decode cX5_refusalOf 11 = .ok (.ireturn, 1) := by decide +kernel
theorem dX5_refusalOf_12 : decode cX5_refusalOf 12 = .ok (.aload_n 0, 1) := by decide +kernel
theorem dX5_refusalOf_13 : decode cX5_refusalOf 13 = .ok (.iload_n 1, 1) := by decide +kernel
theorem dX5_refusalOf_14 : decode cX5_refusalOf 14 = .ok (.iload_n 2, 1) := by decide +kernel
theorem dX5_refusalOf_15 : decode cX5_refusalOf 15 = .ok (.iload_n 3, 1) := by decide +kernel
theorem dX5_refusalOf_16 : decode cX5_refusalOf 16 = .ok (.iload 4, 2) := by decide +kernel
theorem dX5_refusalOf_18 : decode cX5_refusalOf 18 = .ok (.iload 5, 2) := by decide +kernel
theorem dX5_refusalOf_20 : decode cX5_refusalOf 20 = .ok (.invokevirtual 97, 3) := by decide +kernel
theorem dX5_refusalOf_23 : decode cX5_refusalOf 23 = .ok (.ifCond .ne 5, 3) := by decide +kernel
theorem dX5_refusalOf_26 : decode cX5_refusalOf 26 = .ok (.iconst 2, 1) := by decide +kernel
theorem dX5_refusalOf_27 : decode cX5_refusalOf 27 = .ok (.ireturn, 1) := by decide +kernel
theorem dX5_refusalOf_28 : decode cX5_refusalOf 28 = .ok (.iload 6, 2) := by decide +kernel
theorem dX5_refusalOf_30 : decode cX5_refusalOf 30 = .ok (.ifCond .ne 11, 3) := by decide +kernel
theorem dX5_refusalOf_33 : decode cX5_refusalOf 33 = .ok (.aload_n 0, 1) := by decide +kernel
theorem dX5_refusalOf_34 : decode cX5_refusalOf 34 = .ok (.iload_n 1, 1) := by decide +kernel
theorem dX5_refusalOf_35 : decode cX5_refusalOf 35 = .ok (.invokevirtual 101, 3) := by decide +kernel
theorem dX5_refusalOf_38 : decode cX5_refusalOf 38 = .ok (.ifCond .ne 5, 3) := by decide +kernel
theorem dX5_refusalOf_41 : decode cX5_refusalOf 41 = .ok (.iconst 3, 1) := by decide +kernel
theorem dX5_refusalOf_42 : decode cX5_refusalOf 42 = .ok (.ireturn, 1) := by decide +kernel
theorem dX5_refusalOf_43 : decode cX5_refusalOf 43 = .ok (.aload_n 0, 1) := by decide +kernel
theorem dX5_refusalOf_44 : decode cX5_refusalOf 44 = .ok (.iload_n 1, 1) := by decide +kernel
theorem dX5_refusalOf_45 : decode cX5_refusalOf 45 = .ok (.iload_n 2, 1) := by decide +kernel
theorem dX5_refusalOf_46 : decode cX5_refusalOf 46 = .ok (.iload_n 3, 1) := by decide +kernel
theorem dX5_refusalOf_47 : decode cX5_refusalOf 47 = .ok (.iload 4, 2) := by decide +kernel
theorem dX5_refusalOf_49 : decode cX5_refusalOf 49 = .ok (.invokevirtual 104, 3) := by decide +kernel
theorem dX5_refusalOf_52 : decode cX5_refusalOf 52 = .ok (.ifCond .eq 7, 3) := by decide +kernel
theorem dX5_refusalOf_55 : decode cX5_refusalOf 55 = .ok (.iconst 0, 1) := by decide +kernel
theorem dX5_refusalOf_56 : decode cX5_refusalOf 56 = .ok (.goto 4, 3) := by decide +kernel
theorem dX5_refusalOf_59 : decode cX5_refusalOf 59 = .ok (.iconst 4, 1) := by decide +kernel
theorem dX5_refusalOf_60 : decode cX5_refusalOf 60 = .ok (.ireturn, 1) := by decide +kernel
theorem dX5_namesParts_0 : decode cX5_namesParts 0 = .ok (.iload_n 1, 1) := by decide +kernel
theorem dX5_namesParts_1 : decode cX5_namesParts 1 = .ok (.tableswitch 176 1 11 #[59, 59, 68, 77, 86, 114, 123, 145, 176, 59, 154], 59) := by decide +kernel
theorem dX5_namesParts_60 : decode cX5_namesParts 60 = .ok (.aload_n 0, 1) := by decide +kernel
theorem dX5_namesParts_61 : decode cX5_namesParts 61 = .ok (.getfield 12, 3) := by decide +kernel
theorem dX5_namesParts_64 : decode cX5_namesParts 64 = .ok (.iload_n 2, 1) := by decide +kernel
theorem dX5_namesParts_65 : decode cX5_namesParts 65 = .ok (.invokevirtual 75, 3) := by decide +kernel
theorem dX5_namesParts_68 : decode cX5_namesParts 68 = .ok (.ireturn, 1) := by decide +kernel
theorem dX5_namesParts_69 : decode cX5_namesParts 69 = .ok (.aload_n 0, 1) := by decide +kernel
theorem dX5_namesParts_70 : decode cX5_namesParts 70 = .ok (.getfield 12, 3) := by decide +kernel
theorem dX5_namesParts_73 : decode cX5_namesParts 73 = .ok (.iload_n 3, 1) := by decide +kernel
theorem dX5_namesParts_74 : decode cX5_namesParts 74 = .ok (.invokevirtual 75, 3) := by decide +kernel
theorem dX5_namesParts_77 : decode cX5_namesParts 77 = .ok (.ireturn, 1) := by decide +kernel
theorem dX5_namesParts_78 : decode cX5_namesParts 78 = .ok (.aload_n 0, 1) := by decide +kernel
theorem dX5_namesParts_79 : decode cX5_namesParts 79 = .ok (.getfield 21, 3) := by decide +kernel
theorem dX5_namesParts_82 : decode cX5_namesParts 82 = .ok (.iload_n 2, 1) := by decide +kernel
theorem dX5_namesParts_83 : decode cX5_namesParts 83 = .ok (.invokevirtual 108, 3) := by decide +kernel
theorem dX5_namesParts_86 : decode cX5_namesParts 86 = .ok (.ireturn, 1) := by decide +kernel
theorem dX5_namesParts_87 : decode cX5_namesParts 87 = .ok (.aload_n 0, 1) := by decide +kernel
theorem dX5_namesParts_88 : decode cX5_namesParts 88 = .ok (.getfield 12, 3) := by decide +kernel
theorem dX5_namesParts_91 : decode cX5_namesParts 91 = .ok (.iload_n 2, 1) := by decide +kernel
theorem dX5_namesParts_92 : decode cX5_namesParts 92 = .ok (.invokevirtual 75, 3) := by decide +kernel
theorem dX5_namesParts_95 : decode cX5_namesParts 95 = .ok (.ifCond .eq 18, 3) := by decide +kernel
theorem dX5_namesParts_98 : decode cX5_namesParts 98 = .ok (.aload_n 0, 1) := by decide +kernel
theorem dX5_namesParts_99 : decode cX5_namesParts 99 = .ok (.getfield 12, 3) := by decide +kernel
theorem dX5_namesParts_102 : decode cX5_namesParts 102 = .ok (.iload_n 3, 1) := by decide +kernel
theorem dX5_namesParts_103 : decode cX5_namesParts 103 = .ok (.invokevirtual 75, 3) := by decide +kernel
theorem dX5_namesParts_106 : decode cX5_namesParts 106 = .ok (.ifCond .eq 7, 3) := by decide +kernel
theorem dX5_namesParts_109 : decode cX5_namesParts 109 = .ok (.iconst 1, 1) := by decide +kernel
theorem dX5_namesParts_110 : decode cX5_namesParts 110 = .ok (.goto 4, 3) := by decide +kernel
theorem dX5_namesParts_113 : decode cX5_namesParts 113 = .ok (.iconst 0, 1) := by decide +kernel
theorem dX5_namesParts_114 : decode cX5_namesParts 114 = .ok (.ireturn, 1) := by decide +kernel
theorem dX5_namesParts_115 : decode cX5_namesParts 115 = .ok (.aload_n 0, 1) := by decide +kernel
theorem dX5_namesParts_116 : decode cX5_namesParts 116 = .ok (.getfield 28, 3) := by decide +kernel
theorem dX5_namesParts_119 : decode cX5_namesParts 119 = .ok (.iload_n 2, 1) := by decide +kernel
theorem dX5_namesParts_120 : decode cX5_namesParts 120 = .ok (.invokevirtual 109, 3) := by decide +kernel
theorem dX5_namesParts_123 : decode cX5_namesParts 123 = .ok (.ireturn, 1) := by decide +kernel
theorem dX5_namesParts_124 : decode cX5_namesParts 124 = .ok (.iload_n 2, 1) := by decide +kernel
theorem dX5_namesParts_125 : decode cX5_namesParts 125 = .ok (.iconst 1, 1) := by decide +kernel
theorem dX5_namesParts_126 : decode cX5_namesParts 126 = .ok (.if_icmp .ne 14, 3) := by decide +kernel
theorem dX5_namesParts_129 : decode cX5_namesParts 129 = .ok (.aload_n 0, 1) := by decide +kernel
theorem dX5_namesParts_130 : decode cX5_namesParts 130 = .ok (.getfield 12, 3) := by decide +kernel
theorem dX5_namesParts_133 : decode cX5_namesParts 133 = .ok (.iload_n 3, 1) := by decide +kernel
theorem dX5_namesParts_134 : decode cX5_namesParts 134 = .ok (.invokevirtual 75, 3) := by decide +kernel
theorem dX5_namesParts_137 : decode cX5_namesParts 137 = .ok (.ifCond .eq 7, 3) := by decide +kernel
theorem dX5_namesParts_140 : decode cX5_namesParts 140 = .ok (.iconst 1, 1) := by decide +kernel
theorem dX5_namesParts_141 : decode cX5_namesParts 141 = .ok (.goto 4, 3) := by decide +kernel
theorem dX5_namesParts_144 : decode cX5_namesParts 144 = .ok (.iconst 0, 1) := by decide +kernel
theorem dX5_namesParts_145 : decode cX5_namesParts 145 = .ok (.ireturn, 1) := by decide +kernel
theorem dX5_namesParts_146 : decode cX5_namesParts 146 = .ok (.aload_n 0, 1) := by decide +kernel
theorem dX5_namesParts_147 : decode cX5_namesParts 147 = .ok (.getfield 35, 3) := by decide +kernel
theorem dX5_namesParts_150 : decode cX5_namesParts 150 = .ok (.iload_n 2, 1) := by decide +kernel
theorem dX5_namesParts_151 : decode cX5_namesParts 151 = .ok (.invokevirtual 110, 3) := by decide +kernel
theorem dX5_namesParts_154 : decode cX5_namesParts 154 = .ok (.ireturn, 1) := by decide +kernel
theorem dX5_namesParts_155 : decode cX5_namesParts 155 = .ok (.aload_n 0, 1) := by decide +kernel
theorem dX5_namesParts_156 : decode cX5_namesParts 156 = .ok (.iload_n 2, 1) := by decide +kernel
theorem dX5_namesParts_157 : decode cX5_namesParts 157 = .ok (.invokevirtual 111, 3) := by decide +kernel
theorem dX5_namesParts_160 : decode cX5_namesParts 160 = .ok (.ifCond .eq 15, 3) := by decide +kernel
theorem dX5_namesParts_163 : decode cX5_namesParts 163 = .ok (.aload_n 0, 1) := by decide +kernel
theorem dX5_namesParts_164 : decode cX5_namesParts 164 = .ok (.iload_n 3, 1) := by decide +kernel
theorem dX5_namesParts_165 : decode cX5_namesParts 165 = .ok (.invokevirtual 111, 3) := by decide +kernel
theorem dX5_namesParts_168 : decode cX5_namesParts 168 = .ok (.ifCond .eq 7, 3) := by decide +kernel
theorem dX5_namesParts_171 : decode cX5_namesParts 171 = .ok (.iconst 1, 1) := by decide +kernel
theorem dX5_namesParts_172 : decode cX5_namesParts 172 = .ok (.goto 4, 3) := by decide +kernel
theorem dX5_namesParts_175 : decode cX5_namesParts 175 = .ok (.iconst 0, 1) := by decide +kernel
theorem dX5_namesParts_176 : decode cX5_namesParts 176 = .ok (.ireturn, 1) := by decide +kernel
theorem dX5_namesParts_177 : decode cX5_namesParts 177 = .ok (.iconst 1, 1) := by decide +kernel
theorem dX5_namesParts_178 : decode cX5_namesParts 178 = .ok (.ireturn, 1) := by decide +kernel
theorem dX5_isInRange_0 : decode cX5_isInRange 0 = .ok (.iload_n 1, 1) := by decide +kernel
theorem dX5_isInRange_1 : decode cX5_isInRange 1 = .ok (.tableswitch 235 0 12 #[67, 92, 100, 107, 235, 115, 235, 148, 235, 189, 197, 205, 227], 67) := by decide +kernel
theorem dX5_isInRange_68 : decode cX5_isInRange 68 = .ok (.iload_n 2, 1) := by decide +kernel
theorem dX5_isInRange_69 : decode cX5_isInRange 69 = .ok (.iconst (-1), 1) := by decide +kernel
theorem dX5_isInRange_70 : decode cX5_isInRange 70 = .ok (.ldc 114, 2) := by decide +kernel
theorem dX5_isInRange_72 : decode cX5_isInRange 72 = .ok (.invokestatic 115, 3) := by decide +kernel
theorem dX5_isInRange_75 : decode cX5_isInRange 75 = .ok (.ifCond .eq 16, 3) := by decide +kernel
theorem dX5_isInRange_78 : decode cX5_isInRange 78 = .ok (.iload_n 3, 1) := by decide +kernel
theorem dX5_isInRange_79 : decode cX5_isInRange 79 = .ok (.iconst 0, 1) := by decide +kernel
theorem dX5_isInRange_80 : decode cX5_isInRange 80 = .ok (.iconst 2, 1) := by decide +kernel
theorem dX5_isInRange_81 : decode cX5_isInRange 81 = .ok (.invokestatic 115, 3) := by decide +kernel
theorem dX5_isInRange_84 : decode cX5_isInRange 84 = .ok (.ifCond .eq 7, 3) := by decide +kernel
theorem dX5_isInRange_87 : decode cX5_isInRange 87 = .ok (.iconst 1, 1) := by decide +kernel
theorem dX5_isInRange_88 : decode cX5_isInRange 88 = .ok (.goto 4, 3) := by decide +kernel
theorem dX5_isInRange_91 : decode cX5_isInRange 91 = .ok (.iconst 0, 1) := by decide +kernel
theorem dX5_isInRange_92 : decode cX5_isInRange 92 = .ok (.ireturn, 1) := by decide +kernel
theorem dX5_isInRange_93 : decode cX5_isInRange 93 = .ok (.iload_n 3, 1) := by decide +kernel
theorem dX5_isInRange_94 : decode cX5_isInRange 94 = .ok (.iconst (-1), 1) := by decide +kernel
theorem dX5_isInRange_95 : decode cX5_isInRange 95 = .ok (.ldc 114, 2) := by decide +kernel
theorem dX5_isInRange_97 : decode cX5_isInRange 97 = .ok (.invokestatic 115, 3) := by decide +kernel
theorem dX5_isInRange_100 : decode cX5_isInRange 100 = .ok (.ireturn, 1) := by decide +kernel
theorem dX5_isInRange_101 : decode cX5_isInRange 101 = .ok (.iload_n 3, 1) := by decide +kernel
theorem dX5_isInRange_102 : decode cX5_isInRange 102 = .ok (.iconst 0, 1) := by decide +kernel
theorem dX5_isInRange_103 : decode cX5_isInRange 103 = .ok (.iconst 2, 1) := by decide +kernel
theorem dX5_isInRange_104 : decode cX5_isInRange 104 = .ok (.invokestatic 115, 3) := by decide +kernel
theorem dX5_isInRange_107 : decode cX5_isInRange 107 = .ok (.ireturn, 1) := by decide +kernel
theorem dX5_isInRange_108 : decode cX5_isInRange 108 = .ok (.aload_n 0, 1) := by decide +kernel
theorem dX5_isInRange_109 : decode cX5_isInRange 109 = .ok (.iload_n 2, 1) := by decide +kernel
theorem dX5_isInRange_110 : decode cX5_isInRange 110 = .ok (.iload 4, 2) := by decide +kernel
theorem dX5_isInRange_112 : decode cX5_isInRange 112 = .ok (.invokevirtual 118, 3) := by decide +kernel
theorem dX5_isInRange_115 : decode cX5_isInRange 115 = .ok (.ireturn, 1) := by decide +kernel
theorem dX5_isInRange_116 : decode cX5_isInRange 116 = .ok (.iload_n 2, 1) := by decide +kernel
theorem dX5_isInRange_117 : decode cX5_isInRange 117 = .ok (.iload_n 3, 1) := by decide +kernel
theorem dX5_isInRange_118 : decode cX5_isInRange 118 = .ok (.if_icmp .eq 29, 3) := by decide +kernel
theorem dX5_isInRange_121 : decode cX5_isInRange 121 = .ok (.iload 4, 2) := by decide +kernel
theorem dX5_isInRange_123 : decode cX5_isInRange 123 = .ok (.iconst 0, 1) := by decide +kernel
theorem dX5_isInRange_124 : decode cX5_isInRange 124 = .ok (.ldc 114, 2) := by decide +kernel
theorem dX5_isInRange_126 : decode cX5_isInRange 126 = .ok (.invokestatic 115, 3) := by decide +kernel
theorem dX5_isInRange_129 : decode cX5_isInRange 129 = .ok (.ifCond .eq 18, 3) := by decide +kernel
theorem dX5_isInRange_132 : decode cX5_isInRange 132 = .ok (.iload 5, 2) := by decide +kernel
theorem dX5_isInRange_134 : decode cX5_isInRange 134 = .ok (.iconst 1, 1) := by decide +kernel
theorem dX5_isInRange_135 : decode cX5_isInRange 135 = .ok (.bipush 100, 2) := by decide +kernel
theorem dX5_isInRange_137 : decode cX5_isInRange 137 = .ok (.invokestatic 115, 3) := by decide +kernel
theorem dX5_isInRange_140 : decode cX5_isInRange 140 = .ok (.ifCond .eq 7, 3) := by decide +kernel
theorem dX5_isInRange_143 : decode cX5_isInRange 143 = .ok (.iconst 1, 1) := by decide +kernel
theorem dX5_isInRange_144 : decode cX5_isInRange 144 = .ok (.goto 4, 3) := by decide +kernel
theorem dX5_isInRange_147 : decode cX5_isInRange 147 = .ok (.iconst 0, 1) := by decide +kernel
theorem dX5_isInRange_148 : decode cX5_isInRange 148 = .ok (.ireturn, 1) := by decide +kernel
theorem dX5_isInRange_149 : decode cX5_isInRange 149 = .ok (.iload_n 2, 1) := by decide +kernel
theorem dX5_isInRange_150 : decode cX5_isInRange 150 = .ok (.iconst 1, 1) := by decide +kernel
theorem dX5_isInRange_151 : decode cX5_isInRange 151 = .ok (.if_icmp .eq 11, 3) := by decide +kernel
theorem dX5_isInRange_154 : decode cX5_isInRange 154 = .ok (.iload_n 2, 1) := by decide +kernel
theorem dX5_isInRange_155 : decode cX5_isInRange 155 = .ok (.ifCond .ne 33, 3) := by decide +kernel
theorem dX5_isInRange_158 : decode cX5_isInRange 158 = .ok (.iload_n 3, 1) := by decide +kernel
theorem dX5_isInRange_159 : decode cX5_isInRange 159 = .ok (.ifCond .ne 29, 3) := by decide +kernel
theorem dX5_isInRange_162 : decode cX5_isInRange 162 = .ok (.iload 4, 2) := by decide +kernel
theorem dX5_isInRange_164 : decode cX5_isInRange 164 = .ok (.iconst 1, 1) := by decide +kernel
theorem dX5_isInRange_165 : decode cX5_isInRange 165 = .ok (.ldc 122, 2) := by decide +kernel
theorem dX5_isInRange_167 : decode cX5_isInRange 167 = .ok (.invokestatic 115, 3) := by decide +kernel
theorem dX5_isInRange_170 : decode cX5_isInRange 170 = .ok (.ifCond .eq 18, 3) := by decide +kernel
theorem dX5_isInRange_173 : decode cX5_isInRange 173 = .ok (.iload 5, 2) := by decide +kernel
theorem dX5_isInRange_175 : decode cX5_isInRange 175 = .ok (.iconst 1, 1) := by decide +kernel
theorem dX5_isInRange_176 : decode cX5_isInRange 176 = .ok (.bipush 60, 2) := by decide +kernel
theorem dX5_isInRange_178 : decode cX5_isInRange 178 = .ok (.invokestatic 115, 3) := by decide +kernel
theorem dX5_isInRange_181 : decode cX5_isInRange 181 = .ok (.ifCond .eq 7, 3) := by decide +kernel
theorem dX5_isInRange_184 : decode cX5_isInRange 184 = .ok (.iconst 1, 1) := by decide +kernel
theorem dX5_isInRange_185 : decode cX5_isInRange 185 = .ok (.goto 4, 3) := by decide +kernel
theorem dX5_isInRange_188 : decode cX5_isInRange 188 = .ok (.iconst 0, 1) := by decide +kernel
theorem dX5_isInRange_189 : decode cX5_isInRange 189 = .ok (.ireturn, 1) := by decide +kernel
theorem dX5_isInRange_190 : decode cX5_isInRange 190 = .ok (.iload_n 2, 1) := by decide +kernel
theorem dX5_isInRange_191 : decode cX5_isInRange 191 = .ok (.iconst 1, 1) := by decide +kernel
theorem dX5_isInRange_192 : decode cX5_isInRange 192 = .ok (.ldc 122, 2) := by decide +kernel
theorem dX5_isInRange_194 : decode cX5_isInRange 194 = .ok (.invokestatic 115, 3) := by decide +kernel
theorem dX5_isInRange_197 : decode cX5_isInRange 197 = .ok (.ireturn, 1) := by decide +kernel
theorem dX5_isInRange_198 : decode cX5_isInRange 198 = .ok (.iload_n 3, 1) := by decide +kernel
theorem dX5_isInRange_199 : decode cX5_isInRange 199 = .ok (.iconst 1, 1) := by decide +kernel
theorem dX5_isInRange_200 : decode cX5_isInRange 200 = .ok (.ldc 122, 2) := by decide +kernel
theorem dX5_isInRange_202 : decode cX5_isInRange 202 = .ok (.invokestatic 115, 3) := by decide +kernel
theorem dX5_isInRange_205 : decode cX5_isInRange 205 = .ok (.ireturn, 1) := by decide +kernel
theorem dX5_isInRange_206 : decode cX5_isInRange 206 = .ok (.iload_n 2, 1) := by decide +kernel
theorem dX5_isInRange_207 : decode cX5_isInRange 207 = .ok (.iload_n 3, 1) := by decide +kernel
theorem dX5_isInRange_208 : decode cX5_isInRange 208 = .ok (.if_icmp .eq 18, 3) := by decide +kernel
theorem dX5_isInRange_211 : decode cX5_isInRange 211 = .ok (.iload 4, 2) := by decide +kernel
theorem dX5_isInRange_213 : decode cX5_isInRange 213 = .ok (.iconst 1, 1) := by decide +kernel
theorem dX5_isInRange_214 : decode cX5_isInRange 214 = .ok (.ldc 122, 2) := by decide +kernel
theorem dX5_isInRange_216 : decode cX5_isInRange 216 = .ok (.invokestatic 115, 3) := by decide +kernel
theorem dX5_isInRange_219 : decode cX5_isInRange 219 = .ok (.ifCond .eq 7, 3) := by decide +kernel
theorem dX5_isInRange_222 : decode cX5_isInRange 222 = .ok (.iconst 1, 1) := by decide +kernel
theorem dX5_isInRange_223 : decode cX5_isInRange 223 = .ok (.goto 4, 3) := by decide +kernel
theorem dX5_isInRange_226 : decode cX5_isInRange 226 = .ok (.iconst 0, 1) := by decide +kernel
theorem dX5_isInRange_227 : decode cX5_isInRange 227 = .ok (.ireturn, 1) := by decide +kernel
theorem dX5_isInRange_228 : decode cX5_isInRange 228 = .ok (.iload_n 2, 1) := by decide +kernel
theorem dX5_isInRange_229 : decode cX5_isInRange 229 = .ok (.iconst 1, 1) := by decide +kernel
theorem dX5_isInRange_230 : decode cX5_isInRange 230 = .ok (.bipush 60, 2) := by decide +kernel
theorem dX5_isInRange_232 : decode cX5_isInRange 232 = .ok (.invokestatic 115, 3) := by decide +kernel
theorem dX5_isInRange_235 : decode cX5_isInRange 235 = .ok (.ireturn, 1) := by decide +kernel
theorem dX5_isInRange_236 : decode cX5_isInRange 236 = .ok (.iconst 1, 1) := by decide +kernel
theorem dX5_isInRange_237 : decode cX5_isInRange 237 = .ok (.ireturn, 1) := by decide +kernel
theorem dX5_isRuleNumber_0 : decode cX5_isRuleNumber 0 = .ok (.iload_n 1, 1) := by decide +kernel
theorem dX5_isRuleNumber_1 : decode cX5_isRuleNumber 1 = .ok (.tableswitch 69 0 4 #[35, 43, 43, 51, 61], 35) := by decide +kernel
theorem dX5_isRuleNumber_36 : decode cX5_isRuleNumber 36 = .ok (.iload_n 2, 1) := by decide +kernel
theorem dX5_isRuleNumber_37 : decode cX5_isRuleNumber 37 = .ok (.iconst 1, 1) := by decide +kernel
theorem dX5_isRuleNumber_38 : decode cX5_isRuleNumber 38 = .ok (.ldc 122, 2) := by decide +kernel
theorem dX5_isRuleNumber_40 : decode cX5_isRuleNumber 40 = .ok (.invokestatic 115, 3) := by decide +kernel
theorem dX5_isRuleNumber_43 : decode cX5_isRuleNumber 43 = .ok (.ireturn, 1) := by decide +kernel
theorem dX5_isRuleNumber_44 : decode cX5_isRuleNumber 44 = .ok (.iload_n 2, 1) := by decide +kernel
theorem dX5_isRuleNumber_45 : decode cX5_isRuleNumber 45 = .ok (.iconst 1, 1) := by decide +kernel
theorem dX5_isRuleNumber_46 : decode cX5_isRuleNumber 46 = .ok (.bipush 100, 2) := by decide +kernel
theorem dX5_isRuleNumber_48 : decode cX5_isRuleNumber 48 = .ok (.invokestatic 115, 3) := by decide +kernel
theorem dX5_isRuleNumber_51 : decode cX5_isRuleNumber 51 = .ok (.ireturn, 1) := by decide +kernel
theorem dX5_isRuleNumber_52 : decode cX5_isRuleNumber 52 = .ok (.iload_n 2, 1) := by decide +kernel
theorem dX5_isRuleNumber_53 : decode cX5_isRuleNumber 53 = .ok (.ifCond .ne 7, 3) := by decide +kernel
theorem dX5_isRuleNumber_56 : decode cX5_isRuleNumber 56 = .ok (.iconst 1, 1) := by decide +kernel
theorem dX5_isRuleNumber_57 : decode cX5_isRuleNumber 57 = .ok (.goto 4, 3) := by decide +kernel
theorem dX5_isRuleNumber_60 : decode cX5_isRuleNumber 60 = .ok (.iconst 0, 1) := by decide +kernel
theorem dX5_isRuleNumber_61 : decode cX5_isRuleNumber 61 = .ok (.ireturn, 1) := by decide +kernel
theorem dX5_isRuleNumber_62 : decode cX5_isRuleNumber 62 = .ok (.iload_n 2, 1) := by decide +kernel
theorem dX5_isRuleNumber_63 : decode cX5_isRuleNumber 63 = .ok (.iconst 1, 1) := by decide +kernel
theorem dX5_isRuleNumber_64 : decode cX5_isRuleNumber 64 = .ok (.bipush 99, 2) := by decide +kernel
theorem dX5_isRuleNumber_66 : decode cX5_isRuleNumber 66 = .ok (.invokestatic 115, 3) := by decide +kernel
theorem dX5_isRuleNumber_69 : decode cX5_isRuleNumber 69 = .ok (.ireturn, 1) := by decide +kernel
theorem dX5_isRuleNumber_70 : decode cX5_isRuleNumber 70 = .ok (.iconst 0, 1) := by decide +kernel
theorem dX5_isRuleNumber_71 : decode cX5_isRuleNumber 71 = .ok (.ireturn, 1) := by decide +kernel
theorem dX5_hasRoom_0 : decode cX5_hasRoom 0 = .ok (.iload_n 1, 1) := by decide +kernel
theorem dX5_hasRoom_1 : decode cX5_hasRoom 1 = .ok (.tableswitch 119 0 7 #[47, 119, 119, 65, 119, 83, 119, 101], 47) := by decide +kernel
theorem dX5_hasRoom_48 : decode cX5_hasRoom 48 = .ok (.aload_n 0, 1) := by decide +kernel
theorem dX5_hasRoom_49 : decode cX5_hasRoom 49 = .ok (.getfield 12, 3) := by decide +kernel
theorem dX5_hasRoom_52 : decode cX5_hasRoom 52 = .ok (.getfield 87, 3) := by decide +kernel
theorem dX5_hasRoom_55 : decode cX5_hasRoom 55 = .ok (.bipush 10, 2) := by decide +kernel
theorem dX5_hasRoom_57 : decode cX5_hasRoom 57 = .ok (.if_icmp .ge 7, 3) := by decide +kernel
theorem dX5_hasRoom_60 : decode cX5_hasRoom 60 = .ok (.iconst 1, 1) := by decide +kernel
theorem dX5_hasRoom_61 : decode cX5_hasRoom 61 = .ok (.goto 4, 3) := by decide +kernel
theorem dX5_hasRoom_64 : decode cX5_hasRoom 64 = .ok (.iconst 0, 1) := by decide +kernel
theorem dX5_hasRoom_65 : decode cX5_hasRoom 65 = .ok (.ireturn, 1) := by decide +kernel
theorem dX5_hasRoom_66 : decode cX5_hasRoom 66 = .ok (.aload_n 0, 1) := by decide +kernel
theorem dX5_hasRoom_67 : decode cX5_hasRoom 67 = .ok (.getfield 21, 3) := by decide +kernel
theorem dX5_hasRoom_70 : decode cX5_hasRoom 70 = .ok (.getfield 90, 3) := by decide +kernel
theorem dX5_hasRoom_73 : decode cX5_hasRoom 73 = .ok (.bipush 6, 2) := by decide +kernel
theorem dX5_hasRoom_75 : decode cX5_hasRoom 75 = .ok (.if_icmp .ge 7, 3) := by decide +kernel
theorem dX5_hasRoom_78 : decode cX5_hasRoom 78 = .ok (.iconst 1, 1) := by decide +kernel
theorem dX5_hasRoom_79 : decode cX5_hasRoom 79 = .ok (.goto 4, 3) := by decide +kernel
theorem dX5_hasRoom_82 : decode cX5_hasRoom 82 = .ok (.iconst 0, 1) := by decide +kernel
theorem dX5_hasRoom_83 : decode cX5_hasRoom 83 = .ok (.ireturn, 1) := by decide +kernel
theorem dX5_hasRoom_84 : decode cX5_hasRoom 84 = .ok (.aload_n 0, 1) := by decide +kernel
theorem dX5_hasRoom_85 : decode cX5_hasRoom 85 = .ok (.getfield 28, 3) := by decide +kernel
theorem dX5_hasRoom_88 : decode cX5_hasRoom 88 = .ok (.getfield 91, 3) := by decide +kernel
theorem dX5_hasRoom_91 : decode cX5_hasRoom 91 = .ok (.bipush 6, 2) := by decide +kernel
theorem dX5_hasRoom_93 : decode cX5_hasRoom 93 = .ok (.if_icmp .ge 7, 3) := by decide +kernel
theorem dX5_hasRoom_96 : decode cX5_hasRoom 96 = .ok (.iconst 1, 1) := by decide +kernel
theorem dX5_hasRoom_97 : decode cX5_hasRoom 97 = .ok (.goto 4, 3) := by decide +kernel
theorem dX5_hasRoom_100 : decode cX5_hasRoom 100 = .ok (.iconst 0, 1) := by decide +kernel
theorem dX5_hasRoom_101 : decode cX5_hasRoom 101 = .ok (.ireturn, 1) := by decide +kernel
theorem dX5_hasRoom_102 : decode cX5_hasRoom 102 = .ok (.aload_n 0, 1) := by decide +kernel
theorem dX5_hasRoom_103 : decode cX5_hasRoom 103 = .ok (.getfield 35, 3) := by decide +kernel
theorem dX5_hasRoom_106 : decode cX5_hasRoom 106 = .ok (.getfield 92, 3) := by decide +kernel
theorem dX5_hasRoom_109 : decode cX5_hasRoom 109 = .ok (.bipush 8, 2) := by decide +kernel
theorem dX5_hasRoom_111 : decode cX5_hasRoom 111 = .ok (.if_icmp .ge 7, 3) := by decide +kernel
theorem dX5_hasRoom_114 : decode cX5_hasRoom 114 = .ok (.iconst 1, 1) := by decide +kernel
theorem dX5_hasRoom_115 : decode cX5_hasRoom 115 = .ok (.goto 4, 3) := by decide +kernel
theorem dX5_hasRoom_118 : decode cX5_hasRoom 118 = .ok (.iconst 0, 1) := by decide +kernel
theorem dX5_hasRoom_119 : decode cX5_hasRoom 119 = .ok (.ireturn, 1) := by decide +kernel
theorem dX5_hasRoom_120 : decode cX5_hasRoom 120 = .ok (.iconst 1, 1) := by decide +kernel
theorem dX5_hasRoom_121 : decode cX5_hasRoom 121 = .ok (.ireturn, 1) := by decide +kernel
theorem dX5_hasMoney_0 : decode cX5_hasMoney 0 = .ok (.iload_n 1, 1) := by decide +kernel
theorem dX5_hasMoney_1 : decode cX5_hasMoney 1 = .ok (.lookupswitch 52 #[(10, 27), (11, 34)], 27) := by decide +kernel
theorem dX5_hasMoney_28 : decode cX5_hasMoney 28 = .ok (.aload_n 0, 1) := by decide +kernel
theorem dX5_hasMoney_29 : decode cX5_hasMoney 29 = .ok (.iload_n 2, 1) := by decide +kernel
theorem dX5_hasMoney_30 : decode cX5_hasMoney 30 = .ok (.iload_n 3, 1) := by decide +kernel
theorem dX5_hasMoney_31 : decode cX5_hasMoney 31 = .ok (.invokevirtual 123, 3) := by decide +kernel
theorem dX5_hasMoney_34 : decode cX5_hasMoney 34 = .ok (.ireturn, 1) := by decide +kernel
theorem dX5_hasMoney_35 : decode cX5_hasMoney 35 = .ok (.aload_n 0, 1) := by decide +kernel
theorem dX5_hasMoney_36 : decode cX5_hasMoney 36 = .ok (.iload_n 2, 1) := by decide +kernel
theorem dX5_hasMoney_37 : decode cX5_hasMoney 37 = .ok (.invokevirtual 126, 3) := by decide +kernel
theorem dX5_hasMoney_40 : decode cX5_hasMoney 40 = .ok (.iload 4, 2) := by decide +kernel
theorem dX5_hasMoney_42 : decode cX5_hasMoney 42 = .ok (.i2l, 1) := by decide +kernel
theorem dX5_hasMoney_43 : decode cX5_hasMoney 43 = .ok (.lcmp, 1) := by decide +kernel
theorem dX5_hasMoney_44 : decode cX5_hasMoney 44 = .ok (.ifCond .lt 7, 3) := by decide +kernel
theorem dX5_hasMoney_47 : decode cX5_hasMoney 47 = .ok (.iconst 1, 1) := by decide +kernel
theorem dX5_hasMoney_48 : decode cX5_hasMoney 48 = .ok (.goto 4, 3) := by decide +kernel
theorem dX5_hasMoney_51 : decode cX5_hasMoney 51 = .ok (.iconst 0, 1) := by decide +kernel
theorem dX5_hasMoney_52 : decode cX5_hasMoney 52 = .ok (.ireturn, 1) := by decide +kernel
theorem dX5_hasMoney_53 : decode cX5_hasMoney 53 = .ok (.iconst 1, 1) := by decide +kernel
theorem dX5_hasMoney_54 : decode cX5_hasMoney 54 = .ok (.ireturn, 1) := by decide +kernel
theorem dX5_perform_0 : decode cX5_perform 0 = .ok (.iload_n 1, 1) := by decide +kernel
theorem dX5_perform_1 : decode cX5_perform 1 = .ok (.tableswitch 174 0 12 #[67, 77, 87, 97, 109, 118, 132, 141, 159, 174, 174, 174, 168], 67) := by decide +kernel
theorem dX5_perform_68 : decode cX5_perform 68 = .ok (.aload_n 0, 1) := by decide +kernel
theorem dX5_perform_69 : decode cX5_perform 69 = .ok (.getfield 12, 3) := by decide +kernel
theorem dX5_perform_72 : decode cX5_perform 72 = .ok (.iload_n 2, 1) := by decide +kernel
theorem dX5_perform_73 : decode cX5_perform 73 = .ok (.iload_n 3, 1) := by decide +kernel
theorem dX5_perform_74 : decode cX5_perform 74 = .ok (.invokevirtual 129, 3) := by decide +kernel
theorem dX5_perform_77 : decode cX5_perform 77 = .ok (.ireturn, 1) := by decide +kernel
theorem dX5_perform_78 : decode cX5_perform 78 = .ok (.aload_n 0, 1) := by decide +kernel
theorem dX5_perform_79 : decode cX5_perform 79 = .ok (.getfield 12, 3) := by decide +kernel
theorem dX5_perform_82 : decode cX5_perform 82 = .ok (.iload_n 2, 1) := by decide +kernel
theorem dX5_perform_83 : decode cX5_perform 83 = .ok (.iload_n 3, 1) := by decide +kernel
theorem dX5_perform_84 : decode cX5_perform 84 = .ok (.invokevirtual 133, 3) := by decide +kernel
theorem dX5_perform_87 : decode cX5_perform 87 = .ok (.ireturn, 1) := by decide +kernel
theorem dX5_perform_88 : decode cX5_perform 88 = .ok (.aload_n 0, 1) := by decide +kernel
theorem dX5_perform_89 : decode cX5_perform 89 = .ok (.getfield 12, 3) := by decide +kernel
theorem dX5_perform_92 : decode cX5_perform 92 = .ok (.iload_n 2, 1) := by decide +kernel
theorem dX5_perform_93 : decode cX5_perform 93 = .ok (.iload_n 3, 1) := by decide +kernel
theorem dX5_perform_94 : decode cX5_perform 94 = .ok (.invokevirtual 136, 3) := by decide +kernel
theorem dX5_perform_97 : decode cX5_perform 97 = .ok (.ireturn, 1) := by decide +kernel
theorem dX5_perform_98 : decode cX5_perform 98 = .ok (.aload_n 0, 1) := by decide +kernel
theorem dX5_perform_99 : decode cX5_perform 99 = .ok (.getfield 21, 3) := by decide +kernel
theorem dX5_perform_102 : decode cX5_perform 102 = .ok (.iload_n 2, 1) := by decide +kernel
theorem dX5_perform_103 : decode cX5_perform 103 = .ok (.iload_n 3, 1) := by decide +kernel
theorem dX5_perform_104 : decode cX5_perform 104 = .ok (.iload 4, 2) := by decide +kernel
theorem dX5_perform_106 : decode cX5_perform 106 = .ok (.invokevirtual 139, 3) := by decide +kernel
theorem dX5_perform_109 : decode cX5_perform 109 = .ok (.ireturn, 1) := by decide +kernel
theorem dX5_perform_110 : decode cX5_perform 110 = .ok (.aload_n 0, 1) := by decide +kernel
theorem dX5_perform_111 : decode cX5_perform 111 = .ok (.getfield 21, 3) := by decide +kernel
theorem dX5_perform_114 : decode cX5_perform 114 = .ok (.iload_n 2, 1) := by decide +kernel
theorem dX5_perform_115 : decode cX5_perform 115 = .ok (.invokevirtual 142, 3) := by decide +kernel
theorem dX5_perform_118 : decode cX5_perform 118 = .ok (.ireturn, 1) := by decide +kernel
theorem dX5_perform_119 : decode cX5_perform 119 = .ok (.aload_n 0, 1) := by decide +kernel
theorem dX5_perform_120 : decode cX5_perform 120 = .ok (.getfield 28, 3) := by decide +kernel
theorem dX5_perform_123 : decode cX5_perform 123 = .ok (.iload_n 2, 1) := by decide +kernel
theorem dX5_perform_124 : decode cX5_perform 124 = .ok (.iload_n 3, 1) := by decide +kernel
theorem dX5_perform_125 : decode cX5_perform 125 = .ok (.iload 4, 2) := by decide +kernel
theorem dX5_perform_127 : decode cX5_perform 127 = .ok (.iload 5, 2) := by decide +kernel
theorem dX5_perform_129 : decode cX5_perform 129 = .ok (.invokevirtual 146, 3) := by decide +kernel
theorem dX5_perform_132 : decode cX5_perform 132 = .ok (.ireturn, 1) := by decide +kernel
theorem dX5_perform_133 : decode cX5_perform 133 = .ok (.aload_n 0, 1) := by decide +kernel
theorem dX5_perform_134 : decode cX5_perform 134 = .ok (.getfield 28, 3) := by decide +kernel
theorem dX5_perform_137 : decode cX5_perform 137 = .ok (.iload_n 2, 1) := by decide +kernel
theorem dX5_perform_138 : decode cX5_perform 138 = .ok (.invokevirtual 149, 3) := by decide +kernel
theorem dX5_perform_141 : decode cX5_perform 141 = .ok (.ireturn, 1) := by decide +kernel
theorem dX5_perform_142 : decode cX5_perform 142 = .ok (.aload_n 0, 1) := by decide +kernel
theorem dX5_perform_143 : decode cX5_perform 143 = .ok (.getfield 35, 3) := by decide +kernel
theorem dX5_perform_146 : decode cX5_perform 146 = .ok (.iload_n 2, 1) := by decide +kernel
theorem dX5_perform_147 : decode cX5_perform 147 = .ok (.iload_n 3, 1) := by decide +kernel
theorem dX5_perform_148 : decode cX5_perform 148 = .ok (.iload 4, 2) := by decide +kernel
theorem dX5_perform_150 : decode cX5_perform 150 = .ok (.iload 5, 2) := by decide +kernel
theorem dX5_perform_152 : decode cX5_perform 152 = .ok (.aload_n 0, 1) := by decide +kernel
theorem dX5_perform_153 : decode cX5_perform 153 = .ok (.getfield 56, 3) := by decide +kernel
theorem dX5_perform_156 : decode cX5_perform 156 = .ok (.invokevirtual 150, 3) := by decide +kernel
theorem dX5_perform_159 : decode cX5_perform 159 = .ok (.ireturn, 1) := by decide +kernel
theorem dX5_perform_160 : decode cX5_perform 160 = .ok (.aload_n 0, 1) := by decide +kernel
theorem dX5_perform_161 : decode cX5_perform 161 = .ok (.getfield 35, 3) := by decide +kernel
theorem dX5_perform_164 : decode cX5_perform 164 = .ok (.iload_n 2, 1) := by decide +kernel
theorem dX5_perform_165 : decode cX5_perform 165 = .ok (.invokevirtual 153, 3) := by decide +kernel
theorem dX5_perform_168 : decode cX5_perform 168 = .ok (.ireturn, 1) := by decide +kernel
theorem dX5_perform_169 : decode cX5_perform 169 = .ok (.aload_n 0, 1) := by decide +kernel
theorem dX5_perform_170 : decode cX5_perform 170 = .ok (.iload_n 2, 1) := by decide +kernel
theorem dX5_perform_171 : decode cX5_perform 171 = .ok (.invokevirtual 154, 3) := by decide +kernel
theorem dX5_perform_174 : decode cX5_perform 174 = .ok (.ireturn, 1) := by decide +kernel
theorem dX5_perform_175 : decode cX5_perform 175 = .ok (.aload_n 0, 1) := by decide +kernel
theorem dX5_perform_176 : decode cX5_perform 176 = .ok (.iload_n 1, 1) := by decide +kernel
theorem dX5_perform_177 : decode cX5_perform 177 = .ok (.iload_n 2, 1) := by decide +kernel
theorem dX5_perform_178 : decode cX5_perform 178 = .ok (.iload_n 3, 1) := by decide +kernel
theorem dX5_perform_179 : decode cX5_perform 179 = .ok (.iload 4, 2) := by decide +kernel
theorem dX5_perform_181 : decode cX5_perform 181 = .ok (.invokevirtual 157, 3) := by decide +kernel
theorem dX5_perform_184 : decode cX5_perform 184 = .ok (.ireturn, 1) := by decide +kernel
theorem dX5_moveMoney_0 : decode cX5_moveMoney 0 = .ok (.iload_n 1, 1) := by decide +kernel
theorem dX5_moveMoney_1 : decode cX5_moveMoney 1 = .ok (.lookupswitch 48 #[(9, 27), (10, 37)], 27) := by decide +kernel
theorem dX5_moveMoney_28 : decode cX5_moveMoney 28 = .ok (.aload_n 0, 1) := by decide +kernel
theorem dX5_moveMoney_29 : decode cX5_moveMoney 29 = .ok (.iload_n 2, 1) := by decide +kernel
theorem dX5_moveMoney_30 : decode cX5_moveMoney 30 = .ok (.invokevirtual 160, 3) := by decide +kernel
theorem dX5_moveMoney_33 : decode cX5_moveMoney 33 = .ok (.lstore 5, 2) := by decide +kernel
theorem dX5_moveMoney_35 : decode cX5_moveMoney 35 = .ok (.goto 24, 3) := by decide +kernel
theorem dX5_moveMoney_38 : decode cX5_moveMoney 38 = .ok (.aload_n 0, 1) := by decide +kernel
theorem dX5_moveMoney_39 : decode cX5_moveMoney 39 = .ok (.iload_n 2, 1) := by decide +kernel
theorem dX5_moveMoney_40 : decode cX5_moveMoney 40 = .ok (.iload_n 3, 1) := by decide +kernel
theorem dX5_moveMoney_41 : decode cX5_moveMoney 41 = .ok (.invokevirtual 163, 3) := by decide +kernel
theorem dX5_moveMoney_44 : decode cX5_moveMoney 44 = .ok (.lstore 5, 2) := by decide +kernel
theorem dX5_moveMoney_46 : decode cX5_moveMoney 46 = .ok (.goto 13, 3) := by decide +kernel
theorem dX5_moveMoney_49 : decode cX5_moveMoney 49 = .ok (.aload_n 0, 1) := by decide +kernel
theorem dX5_moveMoney_50 : decode cX5_moveMoney 50 = .ok (.iload_n 2, 1) := by decide +kernel
theorem dX5_moveMoney_51 : decode cX5_moveMoney 51 = .ok (.iload_n 3, 1) := by decide +kernel
theorem dX5_moveMoney_52 : decode cX5_moveMoney 52 = .ok (.iload 4, 2) := by decide +kernel
theorem dX5_moveMoney_54 : decode cX5_moveMoney 54 = .ok (.invokevirtual 167, 3) := by decide +kernel
theorem dX5_moveMoney_57 : decode cX5_moveMoney 57 = .ok (.lstore 5, 2) := by decide +kernel
theorem dX5_moveMoney_59 : decode cX5_moveMoney 59 = .ok (.aload_n 0, 1) := by decide +kernel
theorem dX5_moveMoney_60 : decode cX5_moveMoney 60 = .ok (.invokevirtual 171, 3) := by decide +kernel
theorem dX5_moveMoney_63 : decode cX5_moveMoney 63 = .ok (.lload 5, 2) := by decide +kernel
theorem dX5_moveMoney_65 : decode cX5_moveMoney 65 = .ok (.l2i, 1) := by decide +kernel
theorem dX5_moveMoney_66 : decode cX5_moveMoney 66 = .ok (.ireturn, 1) := by decide +kernel
theorem dX5_takeIncome_0 : decode cX5_takeIncome 0 = .ok (.aload_n 0, 1) := by decide +kernel
theorem dX5_takeIncome_1 : decode cX5_takeIncome 1 = .ok (.dup, 1) := by decide +kernel
theorem dX5_takeIncome_2 : decode cX5_takeIncome 2 = .ok (.getfield 60, 3) := by decide +kernel
theorem dX5_takeIncome_5 : decode cX5_takeIncome 5 = .ok (.iload_n 1, 1) := by decide +kernel
theorem dX5_takeIncome_6 : decode cX5_takeIncome 6 = .ok (.i2l, 1) := by decide +kernel
theorem dX5_takeIncome_7 : decode cX5_takeIncome 7 = .ok (.ladd, 1) := by decide +kernel
theorem dX5_takeIncome_8 : decode cX5_takeIncome 8 = .ok (.putfield 60, 3) := by decide +kernel
theorem dX5_takeIncome_11 : decode cX5_takeIncome 11 = .ok (.iload_n 1, 1) := by decide +kernel
theorem dX5_takeIncome_12 : decode cX5_takeIncome 12 = .ok (.i2l, 1) := by decide +kernel
theorem dX5_takeIncome_13 : decode cX5_takeIncome 13 = .ok (.lstore_n 2, 1) := by decide +kernel
theorem dX5_takeIncome_14 : decode cX5_takeIncome 14 = .ok (.iconst 0, 1) := by decide +kernel
theorem dX5_takeIncome_15 : decode cX5_takeIncome 15 = .ok (.istore 4, 2) := by decide +kernel
theorem dX5_takeIncome_17 : decode cX5_takeIncome 17 = .ok (.iload 4, 2) := by decide +kernel
theorem dX5_takeIncome_19 : decode cX5_takeIncome 19 = .ok (.aload_n 0, 1) := by decide +kernel
theorem dX5_takeIncome_20 : decode cX5_takeIncome 20 = .ok (.getfield 21, 3) := by decide +kernel
theorem dX5_takeIncome_23 : decode cX5_takeIncome 23 = .ok (.getfield 90, 3) := by decide +kernel
theorem dX5_takeIncome_26 : decode cX5_takeIncome 26 = .ok (.if_icmp .ge 103, 3) := by decide +kernel
theorem dX5_takeIncome_29 : decode cX5_takeIncome 29 = .ok (.iload 4, 2) := by decide +kernel
theorem dX5_takeIncome_31 : decode cX5_takeIncome 31 = .ok (.bipush 6, 2) := by decide +kernel
theorem dX5_takeIncome_33 : decode cX5_takeIncome 33 = .ok (.if_icmp .ge 96, 3) := by decide +kernel
theorem dX5_takeIncome_36 : decode cX5_takeIncome 36 = .ok (.aload_n 0, 1) := by decide +kernel
theorem dX5_takeIncome_37 : decode cX5_takeIncome 37 = .ok (.getfield 21, 3) := by decide +kernel
theorem dX5_takeIncome_40 : decode cX5_takeIncome 40 = .ok (.getfield 174, 3) := by decide +kernel
theorem dX5_takeIncome_43 : decode cX5_takeIncome 43 = .ok (.iload 4, 2) := by decide +kernel
theorem dX5_takeIncome_45 : decode cX5_takeIncome 45 = .ok (.iaload, 1) := by decide +kernel
theorem dX5_takeIncome_46 : decode cX5_takeIncome 46 = .ok (.iconst 4, 1) := by decide +kernel
theorem dX5_takeIncome_47 : decode cX5_takeIncome 47 = .ok (.if_icmp .ne 47, 3) := by decide +kernel
theorem dX5_takeIncome_50 : decode cX5_takeIncome 50 = .ok (.aload_n 0, 1) := by decide +kernel
theorem dX5_takeIncome_51 : decode cX5_takeIncome 51 = .ok (.getfield 21, 3) := by decide +kernel
theorem dX5_takeIncome_54 : decode cX5_takeIncome 54 = .ok (.iload 4, 2) := by decide +kernel
theorem dX5_takeIncome_56 : decode cX5_takeIncome 56 = .ok (.invokevirtual 178, 3) := by decide +kernel
theorem dX5_takeIncome_59 : decode cX5_takeIncome 59 = .ok (.istore 5, 2) := by decide +kernel
theorem dX5_takeIncome_61 : decode cX5_takeIncome 61 = .ok (.lload_n 2, 1) := by decide +kernel
theorem dX5_takeIncome_62 : decode cX5_takeIncome 62 = .ok (.aload_n 0, 1) := by decide +kernel
theorem dX5_takeIncome_63 : decode cX5_takeIncome 63 = .ok (.iload 4, 2) := by decide +kernel
theorem dX5_takeIncome_65 : decode cX5_takeIncome 65 = .ok (.iload 5, 2) := by decide +kernel
theorem dX5_takeIncome_67 : decode cX5_takeIncome 67 = .ok (.lload_n 2, 1) := by decide +kernel
theorem dX5_takeIncome_68 : decode cX5_takeIncome 68 = .ok (.invokevirtual 181, 3) := by decide +kernel
theorem dX5_takeIncome_71 : decode cX5_takeIncome 71 = .ok (.lsub, 1) := by decide +kernel
theorem dX5_takeIncome_72 : decode cX5_takeIncome 72 = .ok (.lstore_n 2, 1) := by decide +kernel
theorem dX5_takeIncome_73 : decode cX5_takeIncome 73 = .ok (.iload 5, 2) := by decide +kernel
theorem dX5_takeIncome_75 : decode cX5_takeIncome 75 = .ok (.iload 4, 2) := by decide +kernel
theorem dX5_takeIncome_77 : decode cX5_takeIncome 77 = .ok (.if_icmp .le 8, 3) := by decide +kernel
theorem dX5_takeIncome_80 : decode cX5_takeIncome 80 = .ok (.iload 5, 2) := by decide +kernel
theorem dX5_takeIncome_82 : decode cX5_takeIncome 82 = .ok (.goto 7, 3) := by decide +kernel
theorem dX5_takeIncome_85 : decode cX5_takeIncome 85 = .ok (.iload 4, 2) := by decide +kernel
theorem dX5_takeIncome_87 : decode cX5_takeIncome 87 = .ok (.iconst 1, 1) := by decide +kernel
theorem dX5_takeIncome_88 : decode cX5_takeIncome 88 = .ok (.iadd, 1) := by decide +kernel
theorem dX5_takeIncome_89 : decode cX5_takeIncome 89 = .ok (.istore 4, 2) := by decide +kernel
theorem dX5_takeIncome_91 : decode cX5_takeIncome 91 = .ok (.goto (-74), 3) := by decide +kernel
theorem dX5_takeIncome_94 : decode cX5_takeIncome 94 = .ok (.lload_n 2, 1) := by decide +kernel
theorem dX5_takeIncome_95 : decode cX5_takeIncome 95 = .ok (.aload_n 0, 1) := by decide +kernel
theorem dX5_takeIncome_96 : decode cX5_takeIncome 96 = .ok (.getfield 12, 3) := by decide +kernel
theorem dX5_takeIncome_99 : decode cX5_takeIncome 99 = .ok (.aload_n 0, 1) := by decide +kernel
theorem dX5_takeIncome_100 : decode cX5_takeIncome 100 = .ok (.getfield 21, 3) := by decide +kernel
theorem dX5_takeIncome_103 : decode cX5_takeIncome 103 = .ok (.getfield 185, 3) := by decide +kernel
theorem dX5_takeIncome_106 : decode cX5_takeIncome 106 = .ok (.iload 4, 2) := by decide +kernel
theorem dX5_takeIncome_108 : decode cX5_takeIncome 108 = .ok (.iaload, 1) := by decide +kernel
theorem dX5_takeIncome_109 : decode cX5_takeIncome 109 = .ok (.aload_n 0, 1) := by decide +kernel
theorem dX5_takeIncome_110 : decode cX5_takeIncome 110 = .ok (.iload 4, 2) := by decide +kernel
theorem dX5_takeIncome_112 : decode cX5_takeIncome 112 = .ok (.iload_n 1, 1) := by decide +kernel
theorem dX5_takeIncome_113 : decode cX5_takeIncome 113 = .ok (.i2l, 1) := by decide +kernel
theorem dX5_takeIncome_114 : decode cX5_takeIncome 114 = .ok (.lload_n 2, 1) := by decide +kernel
theorem dX5_takeIncome_115 : decode cX5_takeIncome 115 = .ok (.invokevirtual 188, 3) := by decide +kernel
theorem dX5_takeIncome_118 : decode cX5_takeIncome 118 = .ok (.invokevirtual 192, 3) := by decide +kernel
theorem dX5_takeIncome_121 : decode cX5_takeIncome 121 = .ok (.lsub, 1) := by decide +kernel
theorem dX5_takeIncome_122 : decode cX5_takeIncome 122 = .ok (.lstore_n 2, 1) := by decide +kernel
theorem dX5_takeIncome_123 : decode cX5_takeIncome 123 = .ok (.iinc 4 1, 3) := by decide +kernel
theorem dX5_takeIncome_126 : decode cX5_takeIncome 126 = .ok (.goto (-109), 3) := by decide +kernel
theorem dX5_takeIncome_129 : decode cX5_takeIncome 129 = .ok (.aload_n 0, 1) := by decide +kernel
theorem dX5_takeIncome_130 : decode cX5_takeIncome 130 = .ok (.dup, 1) := by decide +kernel
theorem dX5_takeIncome_131 : decode cX5_takeIncome 131 = .ok (.getfield 52, 3) := by decide +kernel
theorem dX5_takeIncome_134 : decode cX5_takeIncome 134 = .ok (.lload_n 2, 1) := by decide +kernel
theorem dX5_takeIncome_135 : decode cX5_takeIncome 135 = .ok (.ladd, 1) := by decide +kernel
theorem dX5_takeIncome_136 : decode cX5_takeIncome 136 = .ok (.putfield 52, 3) := by decide +kernel
theorem dX5_takeIncome_139 : decode cX5_takeIncome 139 = .ok (.lload_n 2, 1) := by decide +kernel
theorem dX5_takeIncome_140 : decode cX5_takeIncome 140 = .ok (.lreturn, 1) := by decide +kernel
theorem dX5_portionFor_0 : decode cX5_portionFor 0 = .ok (.iload_n 1, 1) := by decide +kernel
theorem dX5_portionFor_1 : decode cX5_portionFor 1 = .ok (.ifCond .lt 9, 3) := by decide +kernel
theorem dX5_portionFor_4 : decode cX5_portionFor 4 = .ok (.iload_n 1, 1) := by decide +kernel
theorem dX5_portionFor_5 : decode cX5_portionFor 5 = .ok (.bipush 6, 2) := by decide +kernel
theorem dX5_portionFor_7 : decode cX5_portionFor 7 = .ok (.if_icmp .lt 5, 3) := by decide +kernel
theorem dX5_portionFor_10 : decode cX5_portionFor 10 = .ok (.lconst 0, 1) := by decide +kernel
theorem dX5_portionFor_11 : decode cX5_portionFor 11 = .ok (.lreturn, 1) := by decide +kernel
theorem dX5_portionFor_12 : decode cX5_portionFor 12 = .ok (.aload_n 0, 1) := by decide +kernel
theorem dX5_portionFor_13 : decode cX5_portionFor 13 = .ok (.getfield 21, 3) := by decide +kernel
theorem dX5_portionFor_16 : decode cX5_portionFor 16 = .ok (.getfield 174, 3) := by decide +kernel
theorem dX5_portionFor_19 : decode cX5_portionFor 19 = .ok (.iload_n 1, 1) := by decide +kernel
theorem dX5_portionFor_20 : decode cX5_portionFor 20 = .ok (.iaload, 1) := by decide +kernel
theorem dX5_portionFor_21 : decode cX5_portionFor 21 = .ok (.tableswitch 85 0 2 #[27, 42, 63], 27) := by decide +kernel
theorem dX5_portionFor_48 : decode cX5_portionFor 48 = .ok (.aload_n 0, 1) := by decide +kernel
theorem dX5_portionFor_49 : decode cX5_portionFor 49 = .ok (.getfield 21, 3) := by decide +kernel
theorem dX5_portionFor_52 : decode cX5_portionFor 52 = .ok (.getfield 196, 3) := by decide +kernel
theorem dX5_portionFor_55 : decode cX5_portionFor 55 = .ok (.iload_n 1, 1) := by decide +kernel
theorem dX5_portionFor_56 : decode cX5_portionFor 56 = .ok (.iaload, 1) := by decide +kernel
theorem dX5_portionFor_57 : decode cX5_portionFor 57 = .ok (.i2l, 1) := by decide +kernel
theorem dX5_portionFor_58 : decode cX5_portionFor 58 = .ok (.lstore 6, 2) := by decide +kernel
theorem dX5_portionFor_60 : decode cX5_portionFor 60 = .ok (.goto 73, 3) := by decide +kernel
theorem dX5_portionFor_63 : decode cX5_portionFor 63 = .ok (.lload_n 2, 1) := by decide +kernel
theorem dX5_portionFor_64 : decode cX5_portionFor 64 = .ok (.aload_n 0, 1) := by decide +kernel
theorem dX5_portionFor_65 : decode cX5_portionFor 65 = .ok (.getfield 21, 3) := by decide +kernel
theorem dX5_portionFor_68 : decode cX5_portionFor 68 = .ok (.getfield 196, 3) := by decide +kernel
theorem dX5_portionFor_71 : decode cX5_portionFor 71 = .ok (.iload_n 1, 1) := by decide +kernel
theorem dX5_portionFor_72 : decode cX5_portionFor 72 = .ok (.iaload, 1) := by decide +kernel
theorem dX5_portionFor_73 : decode cX5_portionFor 73 = .ok (.i2l, 1) := by decide +kernel
theorem dX5_portionFor_74 : decode cX5_portionFor 74 = .ok (.lmul, 1) := by decide +kernel
theorem dX5_portionFor_75 : decode cX5_portionFor 75 = .ok (.ldc2_w 199, 3) := by decide +kernel
theorem dX5_portionFor_78 : decode cX5_portionFor 78 = .ok (.ldiv, 1) := by decide +kernel
theorem dX5_portionFor_79 : decode cX5_portionFor 79 = .ok (.lstore 6, 2) := by decide +kernel
theorem dX5_portionFor_81 : decode cX5_portionFor 81 = .ok (.goto 52, 3) := by decide +kernel
theorem dX5_portionFor_84 : decode cX5_portionFor 84 = .ok (.lload 4, 2) := by decide +kernel
theorem dX5_portionFor_86 : decode cX5_portionFor 86 = .ok (.aload_n 0, 1) := by decide +kernel
theorem dX5_portionFor_87 : decode cX5_portionFor 87 = .ok (.getfield 21, 3) := by decide +kernel
theorem dX5_portionFor_90 : decode cX5_portionFor 90 = .ok (.getfield 196, 3) := by decide +kernel
theorem dX5_portionFor_93 : decode cX5_portionFor 93 = .ok (.iload_n 1, 1) := by decide +kernel
theorem dX5_portionFor_94 : decode cX5_portionFor 94 = .ok (.iaload, 1) := by decide +kernel
theorem dX5_portionFor_95 : decode cX5_portionFor 95 = .ok (.i2l, 1) := by decide +kernel
theorem dX5_portionFor_96 : decode cX5_portionFor 96 = .ok (.lmul, 1) := by decide +kernel
theorem dX5_portionFor_97 : decode cX5_portionFor 97 = .ok (.ldc2_w 199, 3) := by decide +kernel
theorem dX5_portionFor_100 : decode cX5_portionFor 100 = .ok (.ldiv, 1) := by decide +kernel
theorem dX5_portionFor_101 : decode cX5_portionFor 101 = .ok (.lstore 6, 2) := by decide +kernel
theorem dX5_portionFor_103 : decode cX5_portionFor 103 = .ok (.goto 30, 3) := by decide +kernel
theorem dX5_portionFor_106 : decode cX5_portionFor 106 = .ok (.aload_n 0, 1) := by decide +kernel
theorem dX5_portionFor_107 : decode cX5_portionFor 107 = .ok (.getfield 12, 3) := by decide +kernel
theorem dX5_portionFor_110 : decode cX5_portionFor 110 = .ok (.aload_n 0, 1) := by decide +kernel
theorem dX5_portionFor_111 : decode cX5_portionFor 111 = .ok (.getfield 21, 3) := by decide +kernel
theorem dX5_portionFor_114 : decode cX5_portionFor 114 = .ok (.getfield 185, 3) := by decide +kernel
theorem dX5_portionFor_117 : decode cX5_portionFor 117 = .ok (.iload_n 1, 1) := by decide +kernel
theorem dX5_portionFor_118 : decode cX5_portionFor 118 = .ok (.iaload, 1) := by decide +kernel
theorem dX5_portionFor_119 : decode cX5_portionFor 119 = .ok (.invokevirtual 201, 3) := by decide +kernel
theorem dX5_portionFor_122 : decode cX5_portionFor 122 = .ok (.ifCond .eq 8, 3) := by decide +kernel
theorem dX5_portionFor_125 : decode cX5_portionFor 125 = .ok (.lload 4, 2) := by decide +kernel
theorem dX5_portionFor_127 : decode cX5_portionFor 127 = .ok (.goto 4, 3) := by decide +kernel
theorem dX5_portionFor_130 : decode cX5_portionFor 130 = .ok (.lconst 0, 1) := by decide +kernel
theorem dX5_portionFor_131 : decode cX5_portionFor 131 = .ok (.lstore 6, 2) := by decide +kernel
theorem dX5_portionFor_133 : decode cX5_portionFor 133 = .ok (.lload 6, 2) := by decide +kernel
theorem dX5_portionFor_135 : decode cX5_portionFor 135 = .ok (.lload 4, 2) := by decide +kernel
theorem dX5_portionFor_137 : decode cX5_portionFor 137 = .ok (.lcmp, 1) := by decide +kernel
theorem dX5_portionFor_138 : decode cX5_portionFor 138 = .ok (.ifCond .ge 8, 3) := by decide +kernel
theorem dX5_portionFor_141 : decode cX5_portionFor 141 = .ok (.lload 6, 2) := by decide +kernel
theorem dX5_portionFor_143 : decode cX5_portionFor 143 = .ok (.goto 5, 3) := by decide +kernel
theorem dX5_portionFor_146 : decode cX5_portionFor 146 = .ok (.lload 4, 2) := by decide +kernel
theorem dX5_portionFor_148 : decode cX5_portionFor 148 = .ok (.lreturn, 1) := by decide +kernel
theorem dX5_shareOut_0 : decode cX5_shareOut 0 = .ok (.iload_n 1, 1) := by decide +kernel
theorem dX5_shareOut_1 : decode cX5_shareOut 1 = .ok (.ifCond .ge 5, 3) := by decide +kernel
theorem dX5_shareOut_4 : decode cX5_shareOut 4 = .ok (.lconst 0, 1) := by decide +kernel
theorem dX5_shareOut_5 : decode cX5_shareOut 5 = .ok (.lreturn, 1) := by decide +kernel
theorem dX5_shareOut_6 : decode cX5_shareOut 6 = .ok (.lconst 0, 1) := by decide +kernel
theorem dX5_shareOut_7 : decode cX5_shareOut 7 = .ok (.lstore 5, 2) := by decide +kernel
theorem dX5_shareOut_9 : decode cX5_shareOut 9 = .ok (.iload_n 1, 1) := by decide +kernel
theorem dX5_shareOut_10 : decode cX5_shareOut 10 = .ok (.istore 7, 2) := by decide +kernel
theorem dX5_shareOut_12 : decode cX5_shareOut 12 = .ok (.iload 7, 2) := by decide +kernel
theorem dX5_shareOut_14 : decode cX5_shareOut 14 = .ok (.iload_n 2, 1) := by decide +kernel
theorem dX5_shareOut_15 : decode cX5_shareOut 15 = .ok (.if_icmp .ge 32, 3) := by decide +kernel
theorem dX5_shareOut_18 : decode cX5_shareOut 18 = .ok (.iload 7, 2) := by decide +kernel
theorem dX5_shareOut_20 : decode cX5_shareOut 20 = .ok (.bipush 6, 2) := by decide +kernel
theorem dX5_shareOut_22 : decode cX5_shareOut 22 = .ok (.if_icmp .ge 25, 3) := by decide +kernel
theorem dX5_shareOut_25 : decode cX5_shareOut 25 = .ok (.lload 5, 2) := by decide +kernel
theorem dX5_shareOut_27 : decode cX5_shareOut 27 = .ok (.aload_n 0, 1) := by decide +kernel
theorem dX5_shareOut_28 : decode cX5_shareOut 28 = .ok (.getfield 21, 3) := by decide +kernel
theorem dX5_shareOut_31 : decode cX5_shareOut 31 = .ok (.getfield 196, 3) := by decide +kernel
theorem dX5_shareOut_34 : decode cX5_shareOut 34 = .ok (.iload 7, 2) := by decide +kernel
theorem dX5_shareOut_36 : decode cX5_shareOut 36 = .ok (.iaload, 1) := by decide +kernel
theorem dX5_shareOut_37 : decode cX5_shareOut 37 = .ok (.i2l, 1) := by decide +kernel
theorem dX5_shareOut_38 : decode cX5_shareOut 38 = .ok (.ladd, 1) := by decide +kernel
theorem dX5_shareOut_39 : decode cX5_shareOut 39 = .ok (.lstore 5, 2) := by decide +kernel
theorem dX5_shareOut_41 : decode cX5_shareOut 41 = .ok (.iinc 7 1, 3) := by decide +kernel
theorem dX5_shareOut_44 : decode cX5_shareOut 44 = .ok (.goto (-32), 3) := by decide +kernel
theorem dX5_shareOut_47 : decode cX5_shareOut 47 = .ok (.lload 5, 2) := by decide +kernel
theorem dX5_shareOut_49 : decode cX5_shareOut 49 = .ok (.lconst 0, 1) := by decide +kernel
theorem dX5_shareOut_50 : decode cX5_shareOut 50 = .ok (.lcmp, 1) := by decide +kernel
theorem dX5_shareOut_51 : decode cX5_shareOut 51 = .ok (.ifCond .gt 5, 3) := by decide +kernel
theorem dX5_shareOut_54 : decode cX5_shareOut 54 = .ok (.lconst 0, 1) := by decide +kernel
theorem dX5_shareOut_55 : decode cX5_shareOut 55 = .ok (.lreturn, 1) := by decide +kernel
theorem dX5_shareOut_56 : decode cX5_shareOut 56 = .ok (.lload_n 3, 1) := by decide +kernel
theorem dX5_shareOut_57 : decode cX5_shareOut 57 = .ok (.lstore 7, 2) := by decide +kernel
theorem dX5_shareOut_59 : decode cX5_shareOut 59 = .ok (.iload_n 1, 1) := by decide +kernel
theorem dX5_shareOut_60 : decode cX5_shareOut 60 = .ok (.istore 9, 2) := by decide +kernel
theorem dX5_shareOut_62 : decode cX5_shareOut 62 = .ok (.iload 9, 2) := by decide +kernel
theorem dX5_shareOut_64 : decode cX5_shareOut 64 = .ok (.iload_n 2, 1) := by decide +kernel
theorem dX5_shareOut_65 : decode cX5_shareOut 65 = .ok (.if_icmp .ge 37, 3) := by decide +kernel
theorem dX5_shareOut_68 : decode cX5_shareOut 68 = .ok (.iload 9, 2) := by decide +kernel
theorem dX5_shareOut_70 : decode cX5_shareOut 70 = .ok (.bipush 6, 2) := by decide +kernel
theorem dX5_shareOut_72 : decode cX5_shareOut 72 = .ok (.if_icmp .ge 30, 3) := by decide +kernel
theorem dX5_shareOut_75 : decode cX5_shareOut 75 = .ok (.lload 7, 2) := by decide +kernel
theorem dX5_shareOut_77 : decode cX5_shareOut 77 = .ok (.lload_n 3, 1) := by decide +kernel
theorem dX5_shareOut_78 : decode cX5_shareOut 78 = .ok (.aload_n 0, 1) := by decide +kernel
theorem dX5_shareOut_79 : decode cX5_shareOut 79 = .ok (.getfield 21, 3) := by decide +kernel
theorem dX5_shareOut_82 : decode cX5_shareOut 82 = .ok (.getfield 196, 3) := by decide +kernel
theorem dX5_shareOut_85 : decode cX5_shareOut 85 = .ok (.iload 9, 2) := by decide +kernel
theorem dX5_shareOut_87 : decode cX5_shareOut 87 = .ok (.iaload, 1) := by decide +kernel
theorem dX5_shareOut_88 : decode cX5_shareOut 88 = .ok (.i2l, 1) := by decide +kernel
theorem dX5_shareOut_89 : decode cX5_shareOut 89 = .ok (.lmul, 1) := by decide +kernel
theorem dX5_shareOut_90 : decode cX5_shareOut 90 = .ok (.lload 5, 2) := by decide +kernel
theorem dX5_shareOut_92 : decode cX5_shareOut 92 = .ok (.ldiv, 1) := by decide +kernel
theorem dX5_shareOut_93 : decode cX5_shareOut 93 = .ok (.lsub, 1) := by decide +kernel
theorem dX5_shareOut_94 : decode cX5_shareOut 94 = .ok (.lstore 7, 2) := by decide +kernel
theorem dX5_shareOut_96 : decode cX5_shareOut 96 = .ok (.iinc 9 1, 3) := by decide +kernel
theorem dX5_shareOut_99 : decode cX5_shareOut 99 = .ok (.goto (-37), 3) := by decide +kernel
theorem dX5_shareOut_102 : decode cX5_shareOut 102 = .ok (.lconst 0, 1) := by decide +kernel
theorem dX5_shareOut_103 : decode cX5_shareOut 103 = .ok (.lstore 9, 2) := by decide +kernel
theorem dX5_shareOut_105 : decode cX5_shareOut 105 = .ok (.iload_n 1, 1) := by decide +kernel
theorem dX5_shareOut_106 : decode cX5_shareOut 106 = .ok (.istore 11, 2) := by decide +kernel
theorem dX5_shareOut_108 : decode cX5_shareOut 108 = .ok (.iload 11, 2) := by decide +kernel
theorem dX5_shareOut_110 : decode cX5_shareOut 110 = .ok (.iload_n 2, 1) := by decide +kernel
theorem dX5_shareOut_111 : decode cX5_shareOut 111 = .ok (.if_icmp .ge 77, 3) := by decide +kernel
theorem dX5_shareOut_114 : decode cX5_shareOut 114 = .ok (.iload 11, 2) := by decide +kernel
theorem dX5_shareOut_116 : decode cX5_shareOut 116 = .ok (.bipush 6, 2) := by decide +kernel
theorem dX5_shareOut_118 : decode cX5_shareOut 118 = .ok (.if_icmp .ge 70, 3) := by decide +kernel
theorem dX5_shareOut_121 : decode cX5_shareOut 121 = .ok (.lload_n 3, 1) := by decide +kernel
theorem dX5_shareOut_122 : decode cX5_shareOut 122 = .ok (.aload_n 0, 1) := by decide +kernel
theorem dX5_shareOut_123 : decode cX5_shareOut 123 = .ok (.getfield 21, 3) := by decide +kernel
theorem dX5_shareOut_126 : decode cX5_shareOut 126 = .ok (.getfield 196, 3) := by decide +kernel
theorem dX5_shareOut_129 : decode cX5_shareOut 129 = .ok (.iload 11, 2) := by decide +kernel
theorem dX5_shareOut_131 : decode cX5_shareOut 131 = .ok (.iaload, 1) := by decide +kernel
theorem dX5_shareOut_132 : decode cX5_shareOut 132 = .ok (.i2l, 1) := by decide +kernel
theorem dX5_shareOut_133 : decode cX5_shareOut 133 = .ok (.lmul, 1) := by decide +kernel
theorem dX5_shareOut_134 : decode cX5_shareOut 134 = .ok (.lload 5, 2) := by decide +kernel
theorem dX5_shareOut_136 : decode cX5_shareOut 136 = .ok (.ldiv, 1) := by decide +kernel
theorem dX5_shareOut_137 : decode cX5_shareOut 137 = .ok (.lstore 12, 2) := by decide +kernel
theorem dX5_shareOut_139 : decode cX5_shareOut 139 = .ok (.lload 7, 2) := by decide +kernel
theorem dX5_shareOut_141 : decode cX5_shareOut 141 = .ok (.lconst 0, 1) := by decide +kernel
theorem dX5_shareOut_142 : decode cX5_shareOut 142 = .ok (.lcmp, 1) := by decide +kernel
theorem dX5_shareOut_143 : decode cX5_shareOut 143 = .ok (.ifCond .le 15, 3) := by decide +kernel
theorem dX5_shareOut_146 : decode cX5_shareOut 146 = .ok (.lload 12, 2) := by decide +kernel
theorem dX5_shareOut_148 : decode cX5_shareOut 148 = .ok (.lconst 1, 1) := by decide +kernel
theorem dX5_shareOut_149 : decode cX5_shareOut 149 = .ok (.ladd, 1) := by decide +kernel
theorem dX5_shareOut_150 : decode cX5_shareOut 150 = .ok (.lstore 12, 2) := by decide +kernel
theorem dX5_shareOut_152 : decode cX5_shareOut 152 = .ok (.lload 7, 2) := by decide +kernel
theorem dX5_shareOut_154 : decode cX5_shareOut 154 = .ok (.lconst 1, 1) := by decide +kernel
theorem dX5_shareOut_155 : decode cX5_shareOut 155 = .ok (.lsub, 1) := by decide +kernel
theorem dX5_shareOut_156 : decode cX5_shareOut 156 = .ok (.lstore 7, 2) := by decide +kernel
theorem dX5_shareOut_158 : decode cX5_shareOut 158 = .ok (.lload 9, 2) := by decide +kernel
theorem dX5_shareOut_160 : decode cX5_shareOut 160 = .ok (.aload_n 0, 1) := by decide +kernel
theorem dX5_shareOut_161 : decode cX5_shareOut 161 = .ok (.getfield 12, 3) := by decide +kernel
theorem dX5_shareOut_164 : decode cX5_shareOut 164 = .ok (.aload_n 0, 1) := by decide +kernel
theorem dX5_shareOut_165 : decode cX5_shareOut 165 = .ok (.getfield 21, 3) := by decide +kernel
theorem dX5_shareOut_168 : decode cX5_shareOut 168 = .ok (.getfield 185, 3) := by decide +kernel
theorem dX5_shareOut_171 : decode cX5_shareOut 171 = .ok (.iload 11, 2) := by decide +kernel
theorem dX5_shareOut_173 : decode cX5_shareOut 173 = .ok (.iaload, 1) := by decide +kernel
theorem dX5_shareOut_174 : decode cX5_shareOut 174 = .ok (.lload 12, 2) := by decide +kernel
theorem dX5_shareOut_176 : decode cX5_shareOut 176 = .ok (.invokevirtual 192, 3) := by decide +kernel
theorem dX5_shareOut_179 : decode cX5_shareOut 179 = .ok (.ladd, 1) := by decide +kernel
theorem dX5_shareOut_180 : decode cX5_shareOut 180 = .ok (.lstore 9, 2) := by decide +kernel
theorem dX5_shareOut_182 : decode cX5_shareOut 182 = .ok (.iinc 11 1, 3) := by decide +kernel
theorem dX5_shareOut_185 : decode cX5_shareOut 185 = .ok (.goto (-77), 3) := by decide +kernel
theorem dX5_shareOut_188 : decode cX5_shareOut 188 = .ok (.lload 9, 2) := by decide +kernel
theorem dX5_shareOut_190 : decode cX5_shareOut 190 = .ok (.lreturn, 1) := by decide +kernel
theorem dX5_canPay_0 : decode cX5_canPay 0 = .ok (.aload_n 0, 1) := by decide +kernel
theorem dX5_canPay_1 : decode cX5_canPay 1 = .ok (.getfield 12, 3) := by decide +kernel
theorem dX5_canPay_4 : decode cX5_canPay 4 = .ok (.iload_n 1, 1) := by decide +kernel
theorem dX5_canPay_5 : decode cX5_canPay 5 = .ok (.invokevirtual 79, 3) := by decide +kernel
theorem dX5_canPay_8 : decode cX5_canPay 8 = .ok (.aload_n 0, 1) := by decide +kernel
theorem dX5_canPay_9 : decode cX5_canPay 9 = .ok (.getfield 52, 3) := by decide +kernel
theorem dX5_canPay_12 : decode cX5_canPay 12 = .ok (.ladd, 1) := by decide +kernel
theorem dX5_canPay_13 : decode cX5_canPay 13 = .ok (.iload_n 2, 1) := by decide +kernel
theorem dX5_canPay_14 : decode cX5_canPay 14 = .ok (.i2l, 1) := by decide +kernel
theorem dX5_canPay_15 : decode cX5_canPay 15 = .ok (.lcmp, 1) := by decide +kernel
theorem dX5_canPay_16 : decode cX5_canPay 16 = .ok (.ifCond .lt 7, 3) := by decide +kernel
theorem dX5_canPay_19 : decode cX5_canPay 19 = .ok (.iconst 1, 1) := by decide +kernel
theorem dX5_canPay_20 : decode cX5_canPay 20 = .ok (.goto 4, 3) := by decide +kernel
theorem dX5_canPay_23 : decode cX5_canPay 23 = .ok (.iconst 0, 1) := by decide +kernel
theorem dX5_canPay_24 : decode cX5_canPay 24 = .ok (.ireturn, 1) := by decide +kernel
theorem dX5_pay_0 : decode cX5_pay 0 = .ok (.iload_n 2, 1) := by decide +kernel
theorem dX5_pay_1 : decode cX5_pay 1 = .ok (.i2l, 1) := by decide +kernel
theorem dX5_pay_2 : decode cX5_pay 2 = .ok (.aload_n 0, 1) := by decide +kernel
theorem dX5_pay_3 : decode cX5_pay 3 = .ok (.getfield 12, 3) := by decide +kernel
theorem dX5_pay_6 : decode cX5_pay 6 = .ok (.iload_n 1, 1) := by decide +kernel
theorem dX5_pay_7 : decode cX5_pay 7 = .ok (.iload_n 2, 1) := by decide +kernel
theorem dX5_pay_8 : decode cX5_pay 8 = .ok (.i2l, 1) := by decide +kernel
theorem dX5_pay_9 : decode cX5_pay 9 = .ok (.invokevirtual 204, 3) := by decide +kernel
theorem dX5_pay_12 : decode cX5_pay 12 = .ok (.lsub, 1) := by decide +kernel
theorem dX5_pay_13 : decode cX5_pay 13 = .ok (.lstore_n 3, 1) := by decide +kernel
theorem dX5_pay_14 : decode cX5_pay 14 = .ok (.aload_n 0, 1) := by decide +kernel
theorem dX5_pay_15 : decode cX5_pay 15 = .ok (.dup, 1) := by decide +kernel
theorem dX5_pay_16 : decode cX5_pay 16 = .ok (.getfield 52, 3) := by decide +kernel
theorem dX5_pay_19 : decode cX5_pay 19 = .ok (.lload_n 3, 1) := by decide +kernel
theorem dX5_pay_20 : decode cX5_pay 20 = .ok (.lsub, 1) := by decide +kernel
theorem dX5_pay_21 : decode cX5_pay 21 = .ok (.putfield 52, 3) := by decide +kernel
theorem dX5_pay_24 : decode cX5_pay 24 = .ok (.aload_n 0, 1) := by decide +kernel
theorem dX5_pay_25 : decode cX5_pay 25 = .ok (.dup, 1) := by decide +kernel
theorem dX5_pay_26 : decode cX5_pay 26 = .ok (.getfield 63, 3) := by decide +kernel
theorem dX5_pay_29 : decode cX5_pay 29 = .ok (.iload_n 2, 1) := by decide +kernel
theorem dX5_pay_30 : decode cX5_pay 30 = .ok (.i2l, 1) := by decide +kernel
theorem dX5_pay_31 : decode cX5_pay 31 = .ok (.ladd, 1) := by decide +kernel
theorem dX5_pay_32 : decode cX5_pay 32 = .ok (.putfield 63, 3) := by decide +kernel
theorem dX5_pay_35 : decode cX5_pay 35 = .ok (.lload_n 3, 1) := by decide +kernel
theorem dX5_pay_36 : decode cX5_pay 36 = .ok (.lreturn, 1) := by decide +kernel
theorem dX5_carry_0 : decode cX5_carry 0 = .ok (.iload_n 3, 1) := by decide +kernel
theorem dX5_carry_1 : decode cX5_carry 1 = .ok (.i2l, 1) := by decide +kernel
theorem dX5_carry_2 : decode cX5_carry 2 = .ok (.lstore 4, 2) := by decide +kernel
theorem dX5_carry_4 : decode cX5_carry 4 = .ok (.iload_n 2, 1) := by decide +kernel
theorem dX5_carry_5 : decode cX5_carry 5 = .ok (.iconst (-1), 1) := by decide +kernel
theorem dX5_carry_6 : decode cX5_carry 6 = .ok (.if_icmp .ne 17, 3) := by decide +kernel
theorem dX5_carry_9 : decode cX5_carry 9 = .ok (.aload_n 0, 1) := by decide +kernel
theorem dX5_carry_10 : decode cX5_carry 10 = .ok (.dup, 1) := by decide +kernel
theorem dX5_carry_11 : decode cX5_carry 11 = .ok (.getfield 52, 3) := by decide +kernel
theorem dX5_carry_14 : decode cX5_carry 14 = .ok (.lload 4, 2) := by decide +kernel
theorem dX5_carry_16 : decode cX5_carry 16 = .ok (.ladd, 1) := by decide +kernel
theorem dX5_carry_17 : decode cX5_carry 17 = .ok (.putfield 52, 3) := by decide +kernel
theorem dX5_carry_20 : decode cX5_carry 20 = .ok (.goto 15, 3) := by decide +kernel
theorem dX5_carry_23 : decode cX5_carry 23 = .ok (.aload_n 0, 1) := by decide +kernel
theorem dX5_carry_24 : decode cX5_carry 24 = .ok (.getfield 12, 3) := by decide +kernel
theorem dX5_carry_27 : decode cX5_carry 27 = .ok (.iload_n 2, 1) := by decide +kernel
theorem dX5_carry_28 : decode cX5_carry 28 = .ok (.iload_n 3, 1) := by decide +kernel
theorem dX5_carry_29 : decode cX5_carry 29 = .ok (.i2l, 1) := by decide +kernel
theorem dX5_carry_30 : decode cX5_carry 30 = .ok (.invokevirtual 192, 3) := by decide +kernel
theorem dX5_carry_33 : decode cX5_carry 33 = .ok (.lstore 4, 2) := by decide +kernel
theorem dX5_carry_35 : decode cX5_carry 35 = .ok (.iload_n 1, 1) := by decide +kernel
theorem dX5_carry_36 : decode cX5_carry 36 = .ok (.iconst (-1), 1) := by decide +kernel
theorem dX5_carry_37 : decode cX5_carry 37 = .ok (.if_icmp .ne 17, 3) := by decide +kernel
theorem dX5_carry_40 : decode cX5_carry 40 = .ok (.aload_n 0, 1) := by decide +kernel
theorem dX5_carry_41 : decode cX5_carry 41 = .ok (.dup, 1) := by decide +kernel
theorem dX5_carry_42 : decode cX5_carry 42 = .ok (.getfield 52, 3) := by decide +kernel
theorem dX5_carry_45 : decode cX5_carry 45 = .ok (.lload 4, 2) := by decide +kernel
theorem dX5_carry_47 : decode cX5_carry 47 = .ok (.lsub, 1) := by decide +kernel
theorem dX5_carry_48 : decode cX5_carry 48 = .ok (.putfield 52, 3) := by decide +kernel
theorem dX5_carry_51 : decode cX5_carry 51 = .ok (.goto 13, 3) := by decide +kernel
theorem dX5_carry_54 : decode cX5_carry 54 = .ok (.aload_n 0, 1) := by decide +kernel
theorem dX5_carry_55 : decode cX5_carry 55 = .ok (.getfield 12, 3) := by decide +kernel
theorem dX5_carry_58 : decode cX5_carry 58 = .ok (.iload_n 1, 1) := by decide +kernel
theorem dX5_carry_59 : decode cX5_carry 59 = .ok (.lload 4, 2) := by decide +kernel
theorem dX5_carry_61 : decode cX5_carry 61 = .ok (.invokevirtual 207, 3) := by decide +kernel
theorem dX5_carry_64 : decode cX5_carry 64 = .ok (.lload 4, 2) := by decide +kernel
theorem dX5_carry_66 : decode cX5_carry 66 = .ok (.lreturn, 1) := by decide +kernel
theorem dX5_settle_0 : decode cX5_settle 0 = .ok (.iconst 0, 1) := by decide +kernel
theorem dX5_settle_1 : decode cX5_settle 1 = .ok (.istore_n 1, 1) := by decide +kernel
theorem dX5_settle_2 : decode cX5_settle 2 = .ok (.iconst 0, 1) := by decide +kernel
theorem dX5_settle_3 : decode cX5_settle 3 = .ok (.istore_n 2, 1) := by decide +kernel
theorem dX5_settle_4 : decode cX5_settle 4 = .ok (.iload_n 2, 1) := by decide +kernel
theorem dX5_settle_5 : decode cX5_settle 5 = .ok (.bipush 6, 2) := by decide +kernel
theorem dX5_settle_7 : decode cX5_settle 7 = .ok (.if_icmp .gt 71, 3) := by decide +kernel
theorem dX5_settle_10 : decode cX5_settle 10 = .ok (.iconst 1, 1) := by decide +kernel
theorem dX5_settle_11 : decode cX5_settle 11 = .ok (.istore_n 3, 1) := by decide +kernel
theorem dX5_settle_12 : decode cX5_settle 12 = .ok (.iconst 0, 1) := by decide +kernel
theorem dX5_settle_13 : decode cX5_settle 13 = .ok (.istore 4, 2) := by decide +kernel
theorem dX5_settle_15 : decode cX5_settle 15 = .ok (.iload 4, 2) := by decide +kernel
theorem dX5_settle_17 : decode cX5_settle 17 = .ok (.aload_n 0, 1) := by decide +kernel
theorem dX5_settle_18 : decode cX5_settle 18 = .ok (.getfield 28, 3) := by decide +kernel
theorem dX5_settle_21 : decode cX5_settle 21 = .ok (.getfield 91, 3) := by decide +kernel
theorem dX5_settle_24 : decode cX5_settle 24 = .ok (.if_icmp .ge 43, 3) := by decide +kernel
theorem dX5_settle_27 : decode cX5_settle 27 = .ok (.iload 4, 2) := by decide +kernel
theorem dX5_settle_29 : decode cX5_settle 29 = .ok (.bipush 6, 2) := by decide +kernel
theorem dX5_settle_31 : decode cX5_settle 31 = .ok (.if_icmp .ge 36, 3) := by decide +kernel
theorem dX5_settle_34 : decode cX5_settle 34 = .ok (.iload_n 1, 1) := by decide +kernel
theorem dX5_settle_35 : decode cX5_settle 35 = .ok (.iload 4, 2) := by decide +kernel
theorem dX5_settle_37 : decode cX5_settle 37 = .ok (.ishr, 1) := by decide +kernel
theorem dX5_settle_38 : decode cX5_settle 38 = .ok (.iconst 1, 1) := by decide +kernel
theorem dX5_settle_39 : decode cX5_settle 39 = .ok (.iand, 1) := by decide +kernel
theorem dX5_settle_40 : decode cX5_settle 40 = .ok (.ifCond .ne 21, 3) := by decide +kernel
theorem dX5_settle_43 : decode cX5_settle 43 = .ok (.aload_n 0, 1) := by decide +kernel
theorem dX5_settle_44 : decode cX5_settle 44 = .ok (.iload 4, 2) := by decide +kernel
theorem dX5_settle_46 : decode cX5_settle 46 = .ok (.invokevirtual 211, 3) := by decide +kernel
theorem dX5_settle_49 : decode cX5_settle 49 = .ok (.ifCond .eq 12, 3) := by decide +kernel
theorem dX5_settle_52 : decode cX5_settle 52 = .ok (.iload_n 1, 1) := by decide +kernel
theorem dX5_settle_53 : decode cX5_settle 53 = .ok (.iconst 1, 1) := by decide +kernel
theorem dX5_settle_54 : decode cX5_settle 54 = .ok (.iload 4, 2) := by decide +kernel
theorem dX5_settle_56 : decode cX5_settle 56 = .ok (.ishl, 1) := by decide +kernel
theorem dX5_settle_57 : decode cX5_settle 57 = .ok (.ior, 1) := by decide +kernel
theorem dX5_settle_58 : decode cX5_settle 58 = .ok (.istore_n 1, 1) := by decide +kernel
theorem dX5_settle_59 : decode cX5_settle 59 = .ok (.iconst 0, 1) := by decide +kernel
theorem dX5_settle_60 : decode cX5_settle 60 = .ok (.istore_n 3, 1) := by decide +kernel
theorem dX5_settle_61 : decode cX5_settle 61 = .ok (.iinc 4 1, 3) := by decide +kernel
theorem dX5_settle_64 : decode cX5_settle 64 = .ok (.goto (-49), 3) := by decide +kernel
theorem dX5_settle_67 : decode cX5_settle 67 = .ok (.iload_n 3, 1) := by decide +kernel
theorem dX5_settle_68 : decode cX5_settle 68 = .ok (.ifCond .eq 4, 3) := by decide +kernel
theorem dX5_settle_71 : decode cX5_settle 71 = .ok (.return_, 1) := by decide +kernel
theorem dX5_settle_72 : decode cX5_settle 72 = .ok (.iinc 2 1, 3) := by decide +kernel
theorem dX5_settle_75 : decode cX5_settle 75 = .ok (.goto (-71), 3) := by decide +kernel
theorem dX5_settle_78 : decode cX5_settle 78 = .ok (.return_, 1) := by decide +kernel
theorem dX5_passOn_0 : decode cX5_passOn 0 = .ok (.iload_n 1, 1) := by decide +kernel
theorem dX5_passOn_1 : decode cX5_passOn 1 = .ok (.ifCond .lt 9, 3) := by decide +kernel
theorem dX5_passOn_4 : decode cX5_passOn 4 = .ok (.iload_n 1, 1) := by decide +kernel
theorem dX5_passOn_5 : decode cX5_passOn 5 = .ok (.bipush 6, 2) := by decide +kernel
theorem dX5_passOn_7 : decode cX5_passOn 7 = .ok (.if_icmp .lt 5, 3) := by decide +kernel
theorem dX5_passOn_10 : decode cX5_passOn 10 = .ok (.iconst 0, 1) := by decide +kernel
theorem dX5_passOn_11 : decode cX5_passOn 11 = .ok (.ireturn, 1) := by decide +kernel
theorem dX5_passOn_12 : decode cX5_passOn 12 = .ok (.aload_n 0, 1) := by decide +kernel
theorem dX5_passOn_13 : decode cX5_passOn 13 = .ok (.getfield 12, 3) := by decide +kernel
theorem dX5_passOn_16 : decode cX5_passOn 16 = .ok (.aload_n 0, 1) := by decide +kernel
theorem dX5_passOn_17 : decode cX5_passOn 17 = .ok (.getfield 28, 3) := by decide +kernel
theorem dX5_passOn_20 : decode cX5_passOn 20 = .ok (.getfield 214, 3) := by decide +kernel
theorem dX5_passOn_23 : decode cX5_passOn 23 = .ok (.iload_n 1, 1) := by decide +kernel
theorem dX5_passOn_24 : decode cX5_passOn 24 = .ok (.iaload, 1) := by decide +kernel
theorem dX5_passOn_25 : decode cX5_passOn 25 = .ok (.invokevirtual 79, 3) := by decide +kernel
theorem dX5_passOn_28 : decode cX5_passOn 28 = .ok (.aload_n 0, 1) := by decide +kernel
theorem dX5_passOn_29 : decode cX5_passOn 29 = .ok (.getfield 28, 3) := by decide +kernel
theorem dX5_passOn_32 : decode cX5_passOn 32 = .ok (.getfield 217, 3) := by decide +kernel
theorem dX5_passOn_35 : decode cX5_passOn 35 = .ok (.iload_n 1, 1) := by decide +kernel
theorem dX5_passOn_36 : decode cX5_passOn 36 = .ok (.iaload, 1) := by decide +kernel
theorem dX5_passOn_37 : decode cX5_passOn 37 = .ok (.i2l, 1) := by decide +kernel
theorem dX5_passOn_38 : decode cX5_passOn 38 = .ok (.lsub, 1) := by decide +kernel
theorem dX5_passOn_39 : decode cX5_passOn 39 = .ok (.lstore_n 2, 1) := by decide +kernel
theorem dX5_passOn_40 : decode cX5_passOn 40 = .ok (.lload_n 2, 1) := by decide +kernel
theorem dX5_passOn_41 : decode cX5_passOn 41 = .ok (.lconst 0, 1) := by decide +kernel
theorem dX5_passOn_42 : decode cX5_passOn 42 = .ok (.lcmp, 1) := by decide +kernel
theorem dX5_passOn_43 : decode cX5_passOn 43 = .ok (.ifCond .gt 5, 3) := by decide +kernel
theorem dX5_passOn_46 : decode cX5_passOn 46 = .ok (.iconst 0, 1) := by decide +kernel
theorem dX5_passOn_47 : decode cX5_passOn 47 = .ok (.ireturn, 1) := by decide +kernel
theorem dX5_passOn_48 : decode cX5_passOn 48 = .ok (.aload_n 0, 1) := by decide +kernel
theorem dX5_passOn_49 : decode cX5_passOn 49 = .ok (.getfield 12, 3) := by decide +kernel
theorem dX5_passOn_52 : decode cX5_passOn 52 = .ok (.aload_n 0, 1) := by decide +kernel
theorem dX5_passOn_53 : decode cX5_passOn 53 = .ok (.getfield 28, 3) := by decide +kernel
theorem dX5_passOn_56 : decode cX5_passOn 56 = .ok (.getfield 220, 3) := by decide +kernel
theorem dX5_passOn_59 : decode cX5_passOn 59 = .ok (.iload_n 1, 1) := by decide +kernel
theorem dX5_passOn_60 : decode cX5_passOn 60 = .ok (.iaload, 1) := by decide +kernel
theorem dX5_passOn_61 : decode cX5_passOn 61 = .ok (.lload_n 2, 1) := by decide +kernel
theorem dX5_passOn_62 : decode cX5_passOn 62 = .ok (.aload_n 0, 1) := by decide +kernel
theorem dX5_passOn_63 : decode cX5_passOn 63 = .ok (.getfield 28, 3) := by decide +kernel
theorem dX5_passOn_66 : decode cX5_passOn 66 = .ok (.getfield 221, 3) := by decide +kernel
theorem dX5_passOn_69 : decode cX5_passOn 69 = .ok (.iload_n 1, 1) := by decide +kernel
theorem dX5_passOn_70 : decode cX5_passOn 70 = .ok (.iaload, 1) := by decide +kernel
theorem dX5_passOn_71 : decode cX5_passOn 71 = .ok (.i2l, 1) := by decide +kernel
theorem dX5_passOn_72 : decode cX5_passOn 72 = .ok (.lmul, 1) := by decide +kernel
theorem dX5_passOn_73 : decode cX5_passOn 73 = .ok (.ldc2_w 199, 3) := by decide +kernel
theorem dX5_passOn_76 : decode cX5_passOn 76 = .ok (.ldiv, 1) := by decide +kernel
theorem dX5_passOn_77 : decode cX5_passOn 77 = .ok (.invokevirtual 192, 3) := by decide +kernel
theorem dX5_passOn_80 : decode cX5_passOn 80 = .ok (.lstore 4, 2) := by decide +kernel
theorem dX5_passOn_82 : decode cX5_passOn 82 = .ok (.aload_n 0, 1) := by decide +kernel
theorem dX5_passOn_83 : decode cX5_passOn 83 = .ok (.getfield 12, 3) := by decide +kernel
theorem dX5_passOn_86 : decode cX5_passOn 86 = .ok (.aload_n 0, 1) := by decide +kernel
theorem dX5_passOn_87 : decode cX5_passOn 87 = .ok (.getfield 28, 3) := by decide +kernel
theorem dX5_passOn_90 : decode cX5_passOn 90 = .ok (.getfield 214, 3) := by decide +kernel
theorem dX5_passOn_93 : decode cX5_passOn 93 = .ok (.iload_n 1, 1) := by decide +kernel
theorem dX5_passOn_94 : decode cX5_passOn 94 = .ok (.iaload, 1) := by decide +kernel
theorem dX5_passOn_95 : decode cX5_passOn 95 = .ok (.lload 4, 2) := by decide +kernel
theorem dX5_passOn_97 : decode cX5_passOn 97 = .ok (.invokevirtual 207, 3) := by decide +kernel
theorem dX5_passOn_100 : decode cX5_passOn 100 = .ok (.aload_n 0, 1) := by decide +kernel
theorem dX5_passOn_101 : decode cX5_passOn 101 = .ok (.getfield 28, 3) := by decide +kernel
theorem dX5_passOn_104 : decode cX5_passOn 104 = .ok (.getfield 224, 3) := by decide +kernel
theorem dX5_passOn_107 : decode cX5_passOn 107 = .ok (.iload_n 1, 1) := by decide +kernel
theorem dX5_passOn_108 : decode cX5_passOn 108 = .ok (.dup2, 1) := by decide +kernel
theorem dX5_passOn_109 : decode cX5_passOn 109 = .ok (.laload, 1) := by decide +kernel
theorem dX5_passOn_110 : decode cX5_passOn 110 = .ok (.lload 4, 2) := by decide +kernel
theorem dX5_passOn_112 : decode cX5_passOn 112 = .ok (.ladd, 1) := by decide +kernel
theorem dX5_passOn_113 : decode cX5_passOn 113 = .ok (.lastore, 1) := by decide +kernel
theorem dX5_passOn_114 : decode cX5_passOn 114 = .ok (.aload_n 0, 1) := by decide +kernel
theorem dX5_passOn_115 : decode cX5_passOn 115 = .ok (.dup, 1) := by decide +kernel
theorem dX5_passOn_116 : decode cX5_passOn 116 = .ok (.getfield 69, 3) := by decide +kernel
theorem dX5_passOn_119 : decode cX5_passOn 119 = .ok (.lload 4, 2) := by decide +kernel
theorem dX5_passOn_121 : decode cX5_passOn 121 = .ok (.ladd, 1) := by decide +kernel
theorem dX5_passOn_122 : decode cX5_passOn 122 = .ok (.putfield 69, 3) := by decide +kernel
theorem dX5_passOn_125 : decode cX5_passOn 125 = .ok (.lload 4, 2) := by decide +kernel
theorem dX5_passOn_127 : decode cX5_passOn 127 = .ok (.lconst 0, 1) := by decide +kernel
theorem dX5_passOn_128 : decode cX5_passOn 128 = .ok (.lcmp, 1) := by decide +kernel
theorem dX5_passOn_129 : decode cX5_passOn 129 = .ok (.ifCond .le 7, 3) := by decide +kernel
theorem dX5_passOn_132 : decode cX5_passOn 132 = .ok (.iconst 1, 1) := by decide +kernel
theorem dX5_passOn_133 : decode cX5_passOn 133 = .ok (.goto 4, 3) := by decide +kernel
theorem dX5_passOn_136 : decode cX5_passOn 136 = .ok (.iconst 0, 1) := by decide +kernel
theorem dX5_passOn_137 : decode cX5_passOn 137 = .ok (.ireturn, 1) := by decide +kernel
theorem dX5_passDays_0 : decode cX5_passDays 0 = .ok (.aload_n 0, 1) := by decide +kernel
theorem dX5_passDays_1 : decode cX5_passDays 1 = .ok (.getfield 66, 3) := by decide +kernel
theorem dX5_passDays_4 : decode cX5_passDays 4 = .ok (.istore_n 2, 1) := by decide +kernel
theorem dX5_passDays_5 : decode cX5_passDays 5 = .ok (.iconst 0, 1) := by decide +kernel
theorem dX5_passDays_6 : decode cX5_passDays 6 = .ok (.istore_n 3, 1) := by decide +kernel
theorem dX5_passDays_7 : decode cX5_passDays 7 = .ok (.iload_n 3, 1) := by decide +kernel
theorem dX5_passDays_8 : decode cX5_passDays 8 = .ok (.iload_n 1, 1) := by decide +kernel
theorem dX5_passDays_9 : decode cX5_passDays 9 = .ok (.if_icmp .ge 225, 3) := by decide +kernel
theorem dX5_passDays_12 : decode cX5_passDays 12 = .ok (.aload_n 0, 1) := by decide +kernel
theorem dX5_passDays_13 : decode cX5_passDays 13 = .ok (.dup, 1) := by decide +kernel
theorem dX5_passDays_14 : decode cX5_passDays 14 = .ok (.getfield 56, 3) := by decide +kernel
theorem dX5_passDays_17 : decode cX5_passDays 17 = .ok (.iconst 1, 1) := by decide +kernel
theorem dX5_passDays_18 : decode cX5_passDays 18 = .ok (.iadd, 1) := by decide +kernel
theorem dX5_passDays_19 : decode cX5_passDays 19 = .ok (.putfield 56, 3) := by decide +kernel
theorem dX5_passDays_22 : decode cX5_passDays 22 = .ok (.iconst 0, 1) := by decide +kernel
theorem dX5_passDays_23 : decode cX5_passDays 23 = .ok (.istore 4, 2) := by decide +kernel
theorem dX5_passDays_25 : decode cX5_passDays 25 = .ok (.iload 4, 2) := by decide +kernel
theorem dX5_passDays_27 : decode cX5_passDays 27 = .ok (.aload_n 0, 1) := by decide +kernel
theorem dX5_passDays_28 : decode cX5_passDays 28 = .ok (.getfield 35, 3) := by decide +kernel
theorem dX5_passDays_31 : decode cX5_passDays 31 = .ok (.getfield 92, 3) := by decide +kernel
theorem dX5_passDays_34 : decode cX5_passDays 34 = .ok (.if_icmp .ge 176, 3) := by decide +kernel
theorem dX5_passDays_37 : decode cX5_passDays 37 = .ok (.iload 4, 2) := by decide +kernel
theorem dX5_passDays_39 : decode cX5_passDays 39 = .ok (.bipush 8, 2) := by decide +kernel
theorem dX5_passDays_41 : decode cX5_passDays 41 = .ok (.if_icmp .ge 169, 3) := by decide +kernel
theorem dX5_passDays_44 : decode cX5_passDays 44 = .ok (.aload_n 0, 1) := by decide +kernel
theorem dX5_passDays_45 : decode cX5_passDays 45 = .ok (.getfield 35, 3) := by decide +kernel
theorem dX5_passDays_48 : decode cX5_passDays 48 = .ok (.getfield 227, 3) := by decide +kernel
theorem dX5_passDays_51 : decode cX5_passDays 51 = .ok (.iload 4, 2) := by decide +kernel
theorem dX5_passDays_53 : decode cX5_passDays 53 = .ok (.iaload, 1) := by decide +kernel
theorem dX5_passDays_54 : decode cX5_passDays 54 = .ok (.aload_n 0, 1) := by decide +kernel
theorem dX5_passDays_55 : decode cX5_passDays 55 = .ok (.getfield 56, 3) := by decide +kernel
theorem dX5_passDays_58 : decode cX5_passDays 58 = .ok (.if_icmp .eq 6, 3) := by decide +kernel
theorem dX5_passDays_61 : decode cX5_passDays 61 = .ok (.goto 143, 3) := by decide +kernel
theorem dX5_passDays_64 : decode cX5_passDays 64 = .ok (.aload_n 0, 1) := by decide +kernel
theorem dX5_passDays_65 : decode cX5_passDays 65 = .ok (.getfield 35, 3) := by decide +kernel
theorem dX5_passDays_68 : decode cX5_passDays 68 = .ok (.getfield 227, 3) := by decide +kernel
theorem dX5_passDays_71 : decode cX5_passDays 71 = .ok (.iload 4, 2) := by decide +kernel
theorem dX5_passDays_73 : decode cX5_passDays 73 = .ok (.dup2, 1) := by decide +kernel
theorem dX5_passDays_74 : decode cX5_passDays 74 = .ok (.iaload, 1) := by decide +kernel
theorem dX5_passDays_75 : decode cX5_passDays 75 = .ok (.aload_n 0, 1) := by decide +kernel
theorem dX5_passDays_76 : decode cX5_passDays 76 = .ok (.getfield 35, 3) := by decide +kernel
theorem dX5_passDays_79 : decode cX5_passDays 79 = .ok (.getfield 230, 3) := by decide +kernel
theorem dX5_passDays_82 : decode cX5_passDays 82 = .ok (.iload 4, 2) := by decide +kernel
theorem dX5_passDays_84 : decode cX5_passDays 84 = .ok (.iaload, 1) := by decide +kernel
theorem dX5_passDays_85 : decode cX5_passDays 85 = .ok (.iadd, 1) := by decide +kernel
theorem dX5_passDays_86 : decode cX5_passDays 86 = .ok (.iastore, 1) := by decide +kernel
theorem dX5_passDays_87 : decode cX5_passDays 87 = .ok (.aload_n 0, 1) := by decide +kernel
theorem dX5_passDays_88 : decode cX5_passDays 88 = .ok (.getfield 35, 3) := by decide +kernel
theorem dX5_passDays_91 : decode cX5_passDays 91 = .ok (.getfield 233, 3) := by decide +kernel
theorem dX5_passDays_94 : decode cX5_passDays 94 = .ok (.iload 4, 2) := by decide +kernel
theorem dX5_passDays_96 : decode cX5_passDays 96 = .ok (.iaload, 1) := by decide +kernel
theorem dX5_passDays_97 : decode cX5_passDays 97 = .ok (.ifCond .ne 21, 3) := by decide +kernel
theorem dX5_passDays_100 : decode cX5_passDays 100 = .ok (.aload_n 0, 1) := by decide +kernel
theorem dX5_passDays_101 : decode cX5_passDays 101 = .ok (.aload_n 0, 1) := by decide +kernel
theorem dX5_passDays_102 : decode cX5_passDays 102 = .ok (.getfield 35, 3) := by decide +kernel
theorem dX5_passDays_105 : decode cX5_passDays 105 = .ok (.getfield 234, 3) := by decide +kernel
theorem dX5_passDays_108 : decode cX5_passDays 108 = .ok (.iload 4, 2) := by decide +kernel
theorem dX5_passDays_110 : decode cX5_passDays 110 = .ok (.iaload, 1) := by decide +kernel
theorem dX5_passDays_111 : decode cX5_passDays 111 = .ok (.invokevirtual 160, 3) := by decide +kernel
theorem dX5_passDays_114 : decode cX5_passDays 114 = .ok (.pop2, 1) := by decide +kernel
theorem dX5_passDays_115 : decode cX5_passDays 115 = .ok (.goto 85, 3) := by decide +kernel
theorem dX5_passDays_118 : decode cX5_passDays 118 = .ok (.aload_n 0, 1) := by decide +kernel
theorem dX5_passDays_119 : decode cX5_passDays 119 = .ok (.aload_n 0, 1) := by decide +kernel
theorem dX5_passDays_120 : decode cX5_passDays 120 = .ok (.getfield 35, 3) := by decide +kernel
theorem dX5_passDays_123 : decode cX5_passDays 123 = .ok (.getfield 237, 3) := by decide +kernel
theorem dX5_passDays_126 : decode cX5_passDays 126 = .ok (.iload 4, 2) := by decide +kernel
theorem dX5_passDays_128 : decode cX5_passDays 128 = .ok (.iaload, 1) := by decide +kernel
theorem dX5_passDays_129 : decode cX5_passDays 129 = .ok (.aload_n 0, 1) := by decide +kernel
theorem dX5_passDays_130 : decode cX5_passDays 130 = .ok (.getfield 35, 3) := by decide +kernel
theorem dX5_passDays_133 : decode cX5_passDays 133 = .ok (.getfield 234, 3) := by decide +kernel
theorem dX5_passDays_136 : decode cX5_passDays 136 = .ok (.iload 4, 2) := by decide +kernel
theorem dX5_passDays_138 : decode cX5_passDays 138 = .ok (.iaload, 1) := by decide +kernel
theorem dX5_passDays_139 : decode cX5_passDays 139 = .ok (.invokevirtual 123, 3) := by decide +kernel
theorem dX5_passDays_142 : decode cX5_passDays 142 = .ok (.ifCond .eq 31, 3) := by decide +kernel
theorem dX5_passDays_145 : decode cX5_passDays 145 = .ok (.aload_n 0, 1) := by decide +kernel
theorem dX5_passDays_146 : decode cX5_passDays 146 = .ok (.aload_n 0, 1) := by decide +kernel
theorem dX5_passDays_147 : decode cX5_passDays 147 = .ok (.getfield 35, 3) := by decide +kernel
theorem dX5_passDays_150 : decode cX5_passDays 150 = .ok (.getfield 237, 3) := by decide +kernel
theorem dX5_passDays_153 : decode cX5_passDays 153 = .ok (.iload 4, 2) := by decide +kernel
theorem dX5_passDays_155 : decode cX5_passDays 155 = .ok (.iaload, 1) := by decide +kernel
theorem dX5_passDays_156 : decode cX5_passDays 156 = .ok (.aload_n 0, 1) := by decide +kernel
theorem dX5_passDays_157 : decode cX5_passDays 157 = .ok (.getfield 35, 3) := by decide +kernel
theorem dX5_passDays_160 : decode cX5_passDays 160 = .ok (.getfield 234, 3) := by decide +kernel
theorem dX5_passDays_163 : decode cX5_passDays 163 = .ok (.iload 4, 2) := by decide +kernel
theorem dX5_passDays_165 : decode cX5_passDays 165 = .ok (.iaload, 1) := by decide +kernel
theorem dX5_passDays_166 : decode cX5_passDays 166 = .ok (.invokevirtual 163, 3) := by decide +kernel
theorem dX5_passDays_169 : decode cX5_passDays 169 = .ok (.pop2, 1) := by decide +kernel
theorem dX5_passDays_170 : decode cX5_passDays 170 = .ok (.goto 30, 3) := by decide +kernel
theorem dX5_passDays_173 : decode cX5_passDays 173 = .ok (.aload_n 0, 1) := by decide +kernel
theorem dX5_passDays_174 : decode cX5_passDays 174 = .ok (.getfield 35, 3) := by decide +kernel
theorem dX5_passDays_177 : decode cX5_passDays 177 = .ok (.getfield 238, 3) := by decide +kernel
theorem dX5_passDays_180 : decode cX5_passDays 180 = .ok (.iload 4, 2) := by decide +kernel
theorem dX5_passDays_182 : decode cX5_passDays 182 = .ok (.dup2, 1) := by decide +kernel
theorem dX5_passDays_183 : decode cX5_passDays 183 = .ok (.iaload, 1) := by decide +kernel
theorem dX5_passDays_184 : decode cX5_passDays 184 = .ok (.iconst 1, 1) := by decide +kernel
theorem dX5_passDays_185 : decode cX5_passDays 185 = .ok (.iadd, 1) := by decide +kernel
theorem dX5_passDays_186 : decode cX5_passDays 186 = .ok (.iastore, 1) := by decide +kernel
theorem dX5_passDays_187 : decode cX5_passDays 187 = .ok (.aload_n 0, 1) := by decide +kernel
theorem dX5_passDays_188 : decode cX5_passDays 188 = .ok (.dup, 1) := by decide +kernel
theorem dX5_passDays_189 : decode cX5_passDays 189 = .ok (.getfield 66, 3) := by decide +kernel
theorem dX5_passDays_192 : decode cX5_passDays 192 = .ok (.iconst 1, 1) := by decide +kernel
theorem dX5_passDays_193 : decode cX5_passDays 193 = .ok (.iadd, 1) := by decide +kernel
theorem dX5_passDays_194 : decode cX5_passDays 194 = .ok (.putfield 66, 3) := by decide +kernel
theorem dX5_passDays_197 : decode cX5_passDays 197 = .ok (.goto 7, 3) := by decide +kernel
theorem dX5_passDays_200 : decode cX5_passDays 200 = .ok (.aload_n 0, 1) := by decide +kernel
theorem dX5_passDays_201 : decode cX5_passDays 201 = .ok (.invokevirtual 171, 3) := by decide +kernel
theorem dX5_passDays_204 : decode cX5_passDays 204 = .ok (.iinc 4 1, 3) := by decide +kernel
theorem dX5_passDays_207 : decode cX5_passDays 207 = .ok (.goto (-182), 3) := by decide +kernel
theorem dX5_passDays_210 : decode cX5_passDays 210 = .ok (.aload_n 0, 1) := by decide +kernel
theorem dX5_passDays_211 : decode cX5_passDays 211 = .ok (.getfield 56, 3) := by decide +kernel
theorem dX5_passDays_214 : decode cX5_passDays 214 = .ok (.bipush 30, 2) := by decide +kernel
theorem dX5_passDays_216 : decode cX5_passDays 216 = .ok (.irem, 1) := by decide +kernel
theorem dX5_passDays_217 : decode cX5_passDays 217 = .ok (.ifCond .ne 11, 3) := by decide +kernel
theorem dX5_passDays_220 : decode cX5_passDays 220 = .ok (.aload_n 0, 1) := by decide +kernel
theorem dX5_passDays_221 : decode cX5_passDays 221 = .ok (.invokevirtual 240, 3) := by decide +kernel
theorem dX5_passDays_224 : decode cX5_passDays 224 = .ok (.aload_n 0, 1) := by decide +kernel
theorem dX5_passDays_225 : decode cX5_passDays 225 = .ok (.invokevirtual 171, 3) := by decide +kernel
theorem dX5_passDays_228 : decode cX5_passDays 228 = .ok (.iinc 3 1, 3) := by decide +kernel
theorem dX5_passDays_231 : decode cX5_passDays 231 = .ok (.goto (-224), 3) := by decide +kernel
theorem dX5_passDays_234 : decode cX5_passDays 234 = .ok (.aload_n 0, 1) := by decide +kernel
theorem dX5_passDays_235 : decode cX5_passDays 235 = .ok (.getfield 66, 3) := by decide +kernel
theorem dX5_passDays_238 : decode cX5_passDays 238 = .ok (.iload_n 2, 1) := by decide +kernel
theorem dX5_passDays_239 : decode cX5_passDays 239 = .ok (.isub, 1) := by decide +kernel
theorem dX5_passDays_240 : decode cX5_passDays 240 = .ok (.ireturn, 1) := by decide +kernel
theorem dX5_rollOver_0 : decode cX5_rollOver 0 = .ok (.iconst 0, 1) := by decide +kernel
theorem dX5_rollOver_1 : decode cX5_rollOver 1 = .ok (.istore_n 1, 1) := by decide +kernel
theorem dX5_rollOver_2 : decode cX5_rollOver 2 = .ok (.iload_n 1, 1) := by decide +kernel
theorem dX5_rollOver_3 : decode cX5_rollOver 3 = .ok (.aload_n 0, 1) := by decide +kernel
theorem dX5_rollOver_4 : decode cX5_rollOver 4 = .ok (.getfield 12, 3) := by decide +kernel
theorem dX5_rollOver_7 : decode cX5_rollOver 7 = .ok (.getfield 87, 3) := by decide +kernel
theorem dX5_rollOver_10 : decode cX5_rollOver 10 = .ok (.if_icmp .ge 38, 3) := by decide +kernel
theorem dX5_rollOver_13 : decode cX5_rollOver 13 = .ok (.aload_n 0, 1) := by decide +kernel
theorem dX5_rollOver_14 : decode cX5_rollOver 14 = .ok (.getfield 12, 3) := by decide +kernel
theorem dX5_rollOver_17 : decode cX5_rollOver 17 = .ok (.iload_n 1, 1) := by decide +kernel
theorem dX5_rollOver_18 : decode cX5_rollOver 18 = .ok (.invokevirtual 243, 3) := by decide +kernel
theorem dX5_rollOver_21 : decode cX5_rollOver 21 = .ok (.lstore_n 2, 1) := by decide +kernel
theorem dX5_rollOver_22 : decode cX5_rollOver 22 = .ok (.aload_n 0, 1) := by decide +kernel
theorem dX5_rollOver_23 : decode cX5_rollOver 23 = .ok (.dup, 1) := by decide +kernel
theorem dX5_rollOver_24 : decode cX5_rollOver 24 = .ok (.getfield 52, 3) := by decide +kernel
theorem dX5_rollOver_27 : decode cX5_rollOver 27 = .ok (.lload_n 2, 1) := by decide +kernel
theorem dX5_rollOver_28 : decode cX5_rollOver 28 = .ok (.ladd, 1) := by decide +kernel
theorem dX5_rollOver_29 : decode cX5_rollOver 29 = .ok (.putfield 52, 3) := by decide +kernel
theorem dX5_rollOver_32 : decode cX5_rollOver 32 = .ok (.aload_n 0, 1) := by decide +kernel
theorem dX5_rollOver_33 : decode cX5_rollOver 33 = .ok (.dup, 1) := by decide +kernel
theorem dX5_rollOver_34 : decode cX5_rollOver 34 = .ok (.getfield 72, 3) := by decide +kernel
theorem dX5_rollOver_37 : decode cX5_rollOver 37 = .ok (.lload_n 2, 1) := by decide +kernel
theorem dX5_rollOver_38 : decode cX5_rollOver 38 = .ok (.ladd, 1) := by decide +kernel
theorem dX5_rollOver_39 : decode cX5_rollOver 39 = .ok (.putfield 72, 3) := by decide +kernel
theorem dX5_rollOver_42 : decode cX5_rollOver 42 = .ok (.iinc 1 1, 3) := by decide +kernel
theorem dX5_rollOver_45 : decode cX5_rollOver 45 = .ok (.goto (-43), 3) := by decide +kernel
theorem dX5_rollOver_48 : decode cX5_rollOver 48 = .ok (.return_, 1) := by decide +kernel
theorem dX6_init_0 : decode cX6_init 0 = .ok (.aload_n 0, 1) := by decide +kernel
theorem dX6_init_1 : decode cX6_init 1 = .ok (.invokespecial 3, 3) := by decide +kernel
theorem dX6_init_4 : decode cX6_init 4 = .ok (.aload_n 0, 1) := by decide +kernel
theorem dX6_init_5 : decode cX6_init 5 = .ok (.bipush 60, 2) := by decide +kernel
theorem dX6_init_7 : decode cX6_init 7 = .ok (.newarray .char, 2) := by decide +kernel
theorem dX6_init_9 : decode cX6_init 9 = .ok (.putfield 9, 3) := by decide +kernel
theorem dX6_init_12 : decode cX6_init 12 = .ok (.aload_n 0, 1) := by decide +kernel
theorem dX6_init_13 : decode cX6_init 13 = .ok (.bipush 120, 2) := by decide +kernel
theorem dX6_init_15 : decode cX6_init 15 = .ok (.newarray .int, 2) := by decide +kernel
theorem dX6_init_17 : decode cX6_init 17 = .ok (.putfield 15, 3) := by decide +kernel
theorem dX6_init_20 : decode cX6_init 20 = .ok (.return_, 1) := by decide +kernel
theorem dX6_append_0 : decode cX6_append 0 = .ok (.aload_n 0, 1) := by decide +kernel
theorem dX6_append_1 : decode cX6_append 1 = .ok (.getfield 19, 3) := by decide +kernel
theorem dX6_append_4 : decode cX6_append 4 = .ok (.ifCond .lt 12, 3) := by decide +kernel
theorem dX6_append_7 : decode cX6_append 7 = .ok (.aload_n 0, 1) := by decide +kernel
theorem dX6_append_8 : decode cX6_append 8 = .ok (.getfield 19, 3) := by decide +kernel
theorem dX6_append_11 : decode cX6_append 11 = .ok (.bipush 60, 2) := by decide +kernel
theorem dX6_append_13 : decode cX6_append 13 = .ok (.if_icmp .lt 5, 3) := by decide +kernel
theorem dX6_append_16 : decode cX6_append 16 = .ok (.iconst 0, 1) := by decide +kernel
theorem dX6_append_17 : decode cX6_append 17 = .ok (.ireturn, 1) := by decide +kernel
theorem dX6_append_18 : decode cX6_append 18 = .ok (.aload_n 0, 1) := by decide +kernel
theorem dX6_append_19 : decode cX6_append 19 = .ok (.getfield 9, 3) := by decide +kernel
theorem dX6_append_22 : decode cX6_append 22 = .ok (.aload_n 0, 1) := by decide +kernel
theorem dX6_append_23 : decode cX6_append 23 = .ok (.getfield 19, 3) := by decide +kernel
theorem dX6_append_26 : decode cX6_append 26 = .ok (.iload_n 1, 1) := by decide +kernel
theorem dX6_append_27 : decode cX6_append 27 = .ok (.castore, 1) := by decide +kernel
theorem dX6_append_28 : decode cX6_append 28 = .ok (.aload_n 0, 1) := by decide +kernel
theorem dX6_append_29 : decode cX6_append 29 = .ok (.dup, 1) := by decide +kernel
theorem dX6_append_30 : decode cX6_append 30 = .ok (.getfield 19, 3) := by decide +kernel
theorem dX6_append_33 : decode cX6_append 33 = .ok (.iconst 1, 1) := by decide +kernel
theorem dX6_append_34 : decode cX6_append 34 = .ok (.iadd, 1) := by decide +kernel
theorem dX6_append_35 : decode cX6_append 35 = .ok (.putfield 19, 3) := by decide +kernel
theorem dX6_append_38 : decode cX6_append 38 = .ok (.iconst 1, 1) := by decide +kernel
theorem dX6_append_39 : decode cX6_append 39 = .ok (.ireturn, 1) := by decide +kernel
theorem dX6_partOf_0 : decode cX6_partOf 0 = .ok (.iload_n 1, 1) := by decide +kernel
theorem dX6_partOf_1 : decode cX6_partOf 1 = .ok (.ifCond .lt 18, 3) := by decide +kernel
theorem dX6_partOf_4 : decode cX6_partOf 4 = .ok (.iload_n 1, 1) := by decide +kernel
theorem dX6_partOf_5 : decode cX6_partOf 5 = .ok (.bipush 30, 2) := by decide +kernel
theorem dX6_partOf_7 : decode cX6_partOf 7 = .ok (.if_icmp .ge 12, 3) := by decide +kernel
theorem dX6_partOf_10 : decode cX6_partOf 10 = .ok (.iload_n 2, 1) := by decide +kernel
theorem dX6_partOf_11 : decode cX6_partOf 11 = .ok (.ifCond .lt 8, 3) := by decide +kernel
theorem dX6_partOf_14 : decode cX6_partOf 14 = .ok (.iload_n 2, 1) := by decide +kernel
theorem dX6_partOf_15 : decode cX6_partOf 15 = .ok (.iconst 4, 1) := by decide +kernel
theorem dX6_partOf_16 : decode cX6_partOf 16 = .ok (.if_icmp .lt 5, 3) := by decide +kernel
theorem dX6_partOf_19 : decode cX6_partOf 19 = .ok (.iconst 0, 1) := by decide +kernel
theorem dX6_partOf_20 : decode cX6_partOf 20 = .ok (.ireturn, 1) := by decide +kernel
theorem dX6_partOf_21 : decode cX6_partOf 21 = .ok (.aload_n 0, 1) := by decide +kernel
theorem dX6_partOf_22 : decode cX6_partOf 22 = .ok (.getfield 15, 3) := by decide +kernel
theorem dX6_partOf_25 : decode cX6_partOf 25 = .ok (.iload_n 1, 1) := by decide +kernel
theorem dX6_partOf_26 : decode cX6_partOf 26 = .ok (.iconst 4, 1) := by decide +kernel
theorem dX6_partOf_27 : decode cX6_partOf 27 = .ok (.imul, 1) := by decide +kernel
theorem dX6_partOf_28 : decode cX6_partOf 28 = .ok (.iload_n 2, 1) := by decide +kernel
theorem dX6_partOf_29 : decode cX6_partOf 29 = .ok (.iadd, 1) := by decide +kernel
theorem dX6_partOf_30 : decode cX6_partOf 30 = .ok (.iaload, 1) := by decide +kernel
theorem dX6_partOf_31 : decode cX6_partOf 31 = .ok (.ireturn, 1) := by decide +kernel
theorem dX6_readAll_0 : decode cX6_readAll 0 = .ok (.aload_n 0, 1) := by decide +kernel
theorem dX6_readAll_1 : decode cX6_readAll 1 = .ok (.iconst 0, 1) := by decide +kernel
theorem dX6_readAll_2 : decode cX6_readAll 2 = .ok (.putfield 23, 3) := by decide +kernel
theorem dX6_readAll_5 : decode cX6_readAll 5 = .ok (.aload_n 0, 1) := by decide +kernel
theorem dX6_readAll_6 : decode cX6_readAll 6 = .ok (.iconst 0, 1) := by decide +kernel
theorem dX6_readAll_7 : decode cX6_readAll 7 = .ok (.putfield 26, 3) := by decide +kernel
theorem dX6_readAll_10 : decode cX6_readAll 10 = .ok (.aload_n 0, 1) := by decide +kernel
theorem dX6_readAll_11 : decode cX6_readAll 11 = .ok (.invokevirtual 29, 3) := by decide +kernel
theorem dX6_readAll_14 : decode cX6_readAll 14 = .ok (.istore_n 1, 1) := by decide +kernel
theorem dX6_readAll_15 : decode cX6_readAll 15 = .ok (.iconst 0, 1) := by decide +kernel
theorem dX6_readAll_16 : decode cX6_readAll 16 = .ok (.istore_n 2, 1) := by decide +kernel
theorem dX6_readAll_17 : decode cX6_readAll 17 = .ok (.iload_n 2, 1) := by decide +kernel
theorem dX6_readAll_18 : decode cX6_readAll 18 = .ok (.bipush 60, 2) := by decide +kernel
theorem dX6_readAll_20 : decode cX6_readAll 20 = .ok (.if_icmp .ge 46, 3) := by decide +kernel
theorem dX6_readAll_23 : decode cX6_readAll 23 = .ok (.iload_n 1, 1) := by decide +kernel
theorem dX6_readAll_24 : decode cX6_readAll 24 = .ok (.ifCond .eq 42, 3) := by decide +kernel
theorem dX6_readAll_27 : decode cX6_readAll 27 = .ok (.aload_n 0, 1) := by decide +kernel
theorem dX6_readAll_28 : decode cX6_readAll 28 = .ok (.getfield 23, 3) := by decide +kernel
theorem dX6_readAll_31 : decode cX6_readAll 31 = .ok (.aload_n 0, 1) := by decide +kernel
theorem dX6_readAll_32 : decode cX6_readAll 32 = .ok (.getfield 19, 3) := by decide +kernel
theorem dX6_readAll_35 : decode cX6_readAll 35 = .ok (.if_icmp .ge 31, 3) := by decide +kernel
theorem dX6_readAll_38 : decode cX6_readAll 38 = .ok (.aload_n 0, 1) := by decide +kernel
theorem dX6_readAll_39 : decode cX6_readAll 39 = .ok (.bipush 59, 2) := by decide +kernel
theorem dX6_readAll_41 : decode cX6_readAll 41 = .ok (.invokevirtual 33, 3) := by decide +kernel
theorem dX6_readAll_44 : decode cX6_readAll 44 = .ok (.ifCond .eq 14, 3) := by decide +kernel
theorem dX6_readAll_47 : decode cX6_readAll 47 = .ok (.aload_n 0, 1) := by decide +kernel
theorem dX6_readAll_48 : decode cX6_readAll 48 = .ok (.invokevirtual 29, 3) := by decide +kernel
theorem dX6_readAll_51 : decode cX6_readAll 51 = .ok (.ifCond .eq 7, 3) := by decide +kernel
theorem dX6_readAll_54 : decode cX6_readAll 54 = .ok (.iconst 1, 1) := by decide +kernel
theorem dX6_readAll_55 : decode cX6_readAll 55 = .ok (.goto 4, 3) := by decide +kernel
theorem dX6_readAll_58 : decode cX6_readAll 58 = .ok (.iconst 0, 1) := by decide +kernel
theorem dX6_readAll_59 : decode cX6_readAll 59 = .ok (.istore_n 1, 1) := by decide +kernel
theorem dX6_readAll_60 : decode cX6_readAll 60 = .ok (.iinc 2 1, 3) := by decide +kernel
theorem dX6_readAll_63 : decode cX6_readAll 63 = .ok (.goto (-46), 3) := by decide +kernel
theorem dX6_readAll_66 : decode cX6_readAll 66 = .ok (.aload_n 0, 1) := by decide +kernel
theorem dX6_readAll_67 : decode cX6_readAll 67 = .ok (.iconst 0, 1) := by decide +kernel
theorem dX6_readAll_68 : decode cX6_readAll 68 = .ok (.putfield 19, 3) := by decide +kernel
theorem dX6_readAll_71 : decode cX6_readAll 71 = .ok (.iload_n 1, 1) := by decide +kernel
theorem dX6_readAll_72 : decode cX6_readAll 72 = .ok (.ifCond .eq 7, 3) := by decide +kernel
theorem dX6_readAll_75 : decode cX6_readAll 75 = .ok (.iconst (-1), 1) := by decide +kernel
theorem dX6_readAll_76 : decode cX6_readAll 76 = .ok (.goto 7, 3) := by decide +kernel
theorem dX6_readAll_79 : decode cX6_readAll 79 = .ok (.aload_n 0, 1) := by decide +kernel
theorem dX6_readAll_80 : decode cX6_readAll 80 = .ok (.getfield 23, 3) := by decide +kernel
theorem dX6_readAll_83 : decode cX6_readAll 83 = .ok (.ireturn, 1) := by decide +kernel
theorem dX6_readCommand_0 : decode cX6_readCommand 0 = .ok (.aload_n 0, 1) := by decide +kernel
theorem dX6_readCommand_1 : decode cX6_readCommand 1 = .ok (.invokevirtual 37, 3) := by decide +kernel
theorem dX6_readCommand_4 : decode cX6_readCommand 4 = .ok (.istore_n 1, 1) := by decide +kernel
theorem dX6_readCommand_5 : decode cX6_readCommand 5 = .ok (.iload_n 1, 1) := by decide +kernel
theorem dX6_readCommand_6 : decode cX6_readCommand 6 = .ok (.lookupswitch 175 #[(100, 137), (109, 122), (110, 50), (114, 69), (115, 107)], 50) := by decide +kernel
theorem dX6_readCommand_56 : decode cX6_readCommand 56 = .ok (.aload_n 0, 1) := by decide +kernel
theorem dX6_readCommand_57 : decode cX6_readCommand 57 = .ok (.dup, 1) := by decide +kernel
theorem dX6_readCommand_58 : decode cX6_readCommand 58 = .ok (.getfield 23, 3) := by decide +kernel
theorem dX6_readCommand_61 : decode cX6_readCommand 61 = .ok (.iconst 1, 1) := by decide +kernel
theorem dX6_readCommand_62 : decode cX6_readCommand 62 = .ok (.iadd, 1) := by decide +kernel
theorem dX6_readCommand_63 : decode cX6_readCommand 63 = .ok (.putfield 23, 3) := by decide +kernel
theorem dX6_readCommand_66 : decode cX6_readCommand 66 = .ok (.aload_n 0, 1) := by decide +kernel
theorem dX6_readCommand_67 : decode cX6_readCommand 67 = .ok (.iconst 0, 1) := by decide +kernel
theorem dX6_readCommand_68 : decode cX6_readCommand 68 = .ok (.iconst (-1), 1) := by decide +kernel
theorem dX6_readCommand_69 : decode cX6_readCommand 69 = .ok (.iconst 0, 1) := by decide +kernel
theorem dX6_readCommand_70 : decode cX6_readCommand 70 = .ok (.iconst 0, 1) := by decide +kernel
theorem dX6_readCommand_71 : decode cX6_readCommand 71 = .ok (.invokevirtual 41, 3) := by decide +kernel
theorem dX6_readCommand_74 : decode cX6_readCommand 74 = .ok (.ireturn, 1) := by decide +kernel
theorem dX6_readCommand_75 : decode cX6_readCommand 75 = .ok (.aload_n 0, 1) := by decide +kernel
theorem dX6_readCommand_76 : decode cX6_readCommand 76 = .ok (.dup, 1) := by decide +kernel
theorem dX6_readCommand_77 : decode cX6_readCommand 77 = .ok (.getfield 23, 3) := by decide +kernel
theorem dX6_readCommand_80 : decode cX6_readCommand 80 = .ok (.iconst 1, 1) := by decide +kernel
theorem dX6_readCommand_81 : decode cX6_readCommand 81 = .ok (.iadd, 1) := by decide +kernel
theorem dX6_readCommand_82 : decode cX6_readCommand 82 = .ok (.putfield 23, 3) := by decide +kernel
theorem dX6_readCommand_85 : decode cX6_readCommand 85 = .ok (.aload_n 0, 1) := by decide +kernel
theorem dX6_readCommand_86 : decode cX6_readCommand 86 = .ok (.invokevirtual 45, 3) := by decide +kernel
theorem dX6_readCommand_89 : decode cX6_readCommand 89 = .ok (.ifCond .eq 22, 3) := by decide +kernel
theorem dX6_readCommand_92 : decode cX6_readCommand 92 = .ok (.aload_n 0, 1) := by decide +kernel
theorem dX6_readCommand_93 : decode cX6_readCommand 93 = .ok (.bipush 9, 2) := by decide +kernel
theorem dX6_readCommand_95 : decode cX6_readCommand 95 = .ok (.aload_n 0, 1) := by decide +kernel
theorem dX6_readCommand_96 : decode cX6_readCommand 96 = .ok (.getfield 48, 3) := by decide +kernel
theorem dX6_readCommand_99 : decode cX6_readCommand 99 = .ok (.iconst 0, 1) := by decide +kernel
theorem dX6_readCommand_100 : decode cX6_readCommand 100 = .ok (.iconst 0, 1) := by decide +kernel
theorem dX6_readCommand_101 : decode cX6_readCommand 101 = .ok (.invokevirtual 41, 3) := by decide +kernel
theorem dX6_readCommand_104 : decode cX6_readCommand 104 = .ok (.ifCond .eq 7, 3) := by decide +kernel
theorem dX6_readCommand_107 : decode cX6_readCommand 107 = .ok (.iconst 1, 1) := by decide +kernel
theorem dX6_readCommand_108 : decode cX6_readCommand 108 = .ok (.goto 4, 3) := by decide +kernel
theorem dX6_readCommand_111 : decode cX6_readCommand 111 = .ok (.iconst 0, 1) := by decide +kernel
theorem dX6_readCommand_112 : decode cX6_readCommand 112 = .ok (.ireturn, 1) := by decide +kernel
theorem dX6_readCommand_113 : decode cX6_readCommand 113 = .ok (.aload_n 0, 1) := by decide +kernel
theorem dX6_readCommand_114 : decode cX6_readCommand 114 = .ok (.dup, 1) := by decide +kernel
theorem dX6_readCommand_115 : decode cX6_readCommand 115 = .ok (.getfield 23, 3) := by decide +kernel
theorem dX6_readCommand_118 : decode cX6_readCommand 118 = .ok (.iconst 1, 1) := by decide +kernel
theorem dX6_readCommand_119 : decode cX6_readCommand 119 = .ok (.iadd, 1) := by decide +kernel
theorem dX6_readCommand_120 : decode cX6_readCommand 120 = .ok (.putfield 23, 3) := by decide +kernel
theorem dX6_readCommand_123 : decode cX6_readCommand 123 = .ok (.aload_n 0, 1) := by decide +kernel
theorem dX6_readCommand_124 : decode cX6_readCommand 124 = .ok (.invokevirtual 51, 3) := by decide +kernel
theorem dX6_readCommand_127 : decode cX6_readCommand 127 = .ok (.ireturn, 1) := by decide +kernel
theorem dX6_readCommand_128 : decode cX6_readCommand 128 = .ok (.aload_n 0, 1) := by decide +kernel
theorem dX6_readCommand_129 : decode cX6_readCommand 129 = .ok (.dup, 1) := by decide +kernel
theorem dX6_readCommand_130 : decode cX6_readCommand 130 = .ok (.getfield 23, 3) := by decide +kernel
theorem dX6_readCommand_133 : decode cX6_readCommand 133 = .ok (.iconst 1, 1) := by decide +kernel
theorem dX6_readCommand_134 : decode cX6_readCommand 134 = .ok (.iadd, 1) := by decide +kernel
theorem dX6_readCommand_135 : decode cX6_readCommand 135 = .ok (.putfield 23, 3) := by decide +kernel
theorem dX6_readCommand_138 : decode cX6_readCommand 138 = .ok (.aload_n 0, 1) := by decide +kernel
theorem dX6_readCommand_139 : decode cX6_readCommand 139 = .ok (.invokevirtual 54, 3) := by decide +kernel
theorem dX6_readCommand_142 : decode cX6_readCommand 142 = .ok (.ireturn, 1) := by decide +kernel
theorem dX6_readCommand_143 : decode cX6_readCommand 143 = .ok (.aload_n 0, 1) := by decide +kernel
theorem dX6_readCommand_144 : decode cX6_readCommand 144 = .ok (.dup, 1) := by decide +kernel
theorem dX6_readCommand_145 : decode cX6_readCommand 145 = .ok (.getfield 23, 3) := by decide +kernel
theorem dX6_readCommand_148 : decode cX6_readCommand 148 = .ok (.iconst 1, 1) := by decide +kernel
theorem dX6_readCommand_149 : decode cX6_readCommand 149 = .ok (.iadd, 1) := by decide +kernel
theorem dX6_readCommand_150 : decode cX6_readCommand 150 = .ok (.putfield 23, 3) := by decide +kernel
theorem dX6_readCommand_153 : decode cX6_readCommand 153 = .ok (.aload_n 0, 1) := by decide +kernel
theorem dX6_readCommand_154 : decode cX6_readCommand 154 = .ok (.invokevirtual 45, 3) := by decide +kernel
theorem dX6_readCommand_157 : decode cX6_readCommand 157 = .ok (.ifCond .eq 22, 3) := by decide +kernel
theorem dX6_readCommand_160 : decode cX6_readCommand 160 = .ok (.aload_n 0, 1) := by decide +kernel
theorem dX6_readCommand_161 : decode cX6_readCommand 161 = .ok (.bipush 12, 2) := by decide +kernel
theorem dX6_readCommand_163 : decode cX6_readCommand 163 = .ok (.aload_n 0, 1) := by decide +kernel
theorem dX6_readCommand_164 : decode cX6_readCommand 164 = .ok (.getfield 48, 3) := by decide +kernel
theorem dX6_readCommand_167 : decode cX6_readCommand 167 = .ok (.iconst 0, 1) := by decide +kernel
theorem dX6_readCommand_168 : decode cX6_readCommand 168 = .ok (.iconst 0, 1) := by decide +kernel
theorem dX6_readCommand_169 : decode cX6_readCommand 169 = .ok (.invokevirtual 41, 3) := by decide +kernel
theorem dX6_readCommand_172 : decode cX6_readCommand 172 = .ok (.ifCond .eq 7, 3) := by decide +kernel
theorem dX6_readCommand_175 : decode cX6_readCommand 175 = .ok (.iconst 1, 1) := by decide +kernel
theorem dX6_readCommand_176 : decode cX6_readCommand 176 = .ok (.goto 4, 3) := by decide +kernel
theorem dX6_readCommand_179 : decode cX6_readCommand 179 = .ok (.iconst 0, 1) := by decide +kernel
theorem dX6_readCommand_180 : decode cX6_readCommand 180 = .ok (.ireturn, 1) := by decide +kernel
theorem dX6_readCommand_181 : decode cX6_readCommand 181 = .ok (.iconst 0, 1) := by decide +kernel
theorem dX6_readCommand_182 : decode cX6_readCommand 182 = .ok (.ireturn, 1) := by decide +kernel
theorem dX6_readSpending_0 : decode cX6_readSpending 0 = .ok (.aload_n 0, 1) := by decide +kernel
theorem dX6_readSpending_1 : decode cX6_readSpending 1 = .ok (.invokevirtual 37, 3) := by decide +kernel
theorem dX6_readSpending_4 : decode cX6_readSpending 4 = .ok (.bipush 48, 2) := by decide +kernel
theorem dX6_readSpending_6 : decode cX6_readSpending 6 = .ok (.isub, 1) := by decide +kernel
theorem dX6_readSpending_7 : decode cX6_readSpending 7 = .ok (.istore_n 1, 1) := by decide +kernel
theorem dX6_readSpending_8 : decode cX6_readSpending 8 = .ok (.aload_n 0, 1) := by decide +kernel
theorem dX6_readSpending_9 : decode cX6_readSpending 9 = .ok (.invokevirtual 57, 3) := by decide +kernel
theorem dX6_readSpending_12 : decode cX6_readSpending 12 = .ok (.ifCond .eq 38, 3) := by decide +kernel
theorem dX6_readSpending_15 : decode cX6_readSpending 15 = .ok (.aload_n 0, 1) := by decide +kernel
theorem dX6_readSpending_16 : decode cX6_readSpending 16 = .ok (.bipush 58, 2) := by decide +kernel
theorem dX6_readSpending_18 : decode cX6_readSpending 18 = .ok (.invokevirtual 33, 3) := by decide +kernel
theorem dX6_readSpending_21 : decode cX6_readSpending 21 = .ok (.ifCond .eq 29, 3) := by decide +kernel
theorem dX6_readSpending_24 : decode cX6_readSpending 24 = .ok (.aload_n 0, 1) := by decide +kernel
theorem dX6_readSpending_25 : decode cX6_readSpending 25 = .ok (.invokevirtual 45, 3) := by decide +kernel
theorem dX6_readSpending_28 : decode cX6_readSpending 28 = .ok (.ifCond .eq 22, 3) := by decide +kernel
theorem dX6_readSpending_31 : decode cX6_readSpending 31 = .ok (.aload_n 0, 1) := by decide +kernel
theorem dX6_readSpending_32 : decode cX6_readSpending 32 = .ok (.bipush 10, 2) := by decide +kernel
theorem dX6_readSpending_34 : decode cX6_readSpending 34 = .ok (.iload_n 1, 1) := by decide +kernel
theorem dX6_readSpending_35 : decode cX6_readSpending 35 = .ok (.aload_n 0, 1) := by decide +kernel
theorem dX6_readSpending_36 : decode cX6_readSpending 36 = .ok (.getfield 48, 3) := by decide +kernel
theorem dX6_readSpending_39 : decode cX6_readSpending 39 = .ok (.iconst 0, 1) := by decide +kernel
theorem dX6_readSpending_40 : decode cX6_readSpending 40 = .ok (.invokevirtual 41, 3) := by decide +kernel
theorem dX6_readSpending_43 : decode cX6_readSpending 43 = .ok (.ifCond .eq 7, 3) := by decide +kernel
theorem dX6_readSpending_46 : decode cX6_readSpending 46 = .ok (.iconst 1, 1) := by decide +kernel
theorem dX6_readSpending_47 : decode cX6_readSpending 47 = .ok (.goto 4, 3) := by decide +kernel
theorem dX6_readSpending_50 : decode cX6_readSpending 50 = .ok (.iconst 0, 1) := by decide +kernel
theorem dX6_readSpending_51 : decode cX6_readSpending 51 = .ok (.ireturn, 1) := by decide +kernel
theorem dX6_readMove_0 : decode cX6_readMove 0 = .ok (.aload_n 0, 1) := by decide +kernel
theorem dX6_readMove_1 : decode cX6_readMove 1 = .ok (.invokevirtual 37, 3) := by decide +kernel
theorem dX6_readMove_4 : decode cX6_readMove 4 = .ok (.bipush 112, 2) := by decide +kernel
theorem dX6_readMove_6 : decode cX6_readMove 6 = .ok (.if_icmp .ne 7, 3) := by decide +kernel
theorem dX6_readMove_9 : decode cX6_readMove 9 = .ok (.iconst (-1), 1) := by decide +kernel
theorem dX6_readMove_10 : decode cX6_readMove 10 = .ok (.goto 10, 3) := by decide +kernel
theorem dX6_readMove_13 : decode cX6_readMove 13 = .ok (.aload_n 0, 1) := by decide +kernel
theorem dX6_readMove_14 : decode cX6_readMove 14 = .ok (.invokevirtual 37, 3) := by decide +kernel
theorem dX6_readMove_17 : decode cX6_readMove 17 = .ok (.bipush 48, 2) := by decide +kernel
theorem dX6_readMove_19 : decode cX6_readMove 19 = .ok (.isub, 1) := by decide +kernel
theorem dX6_readMove_20 : decode cX6_readMove 20 = .ok (.istore_n 1, 1) := by decide +kernel
theorem dX6_readMove_21 : decode cX6_readMove 21 = .ok (.aload_n 0, 1) := by decide +kernel
theorem dX6_readMove_22 : decode cX6_readMove 22 = .ok (.invokevirtual 60, 3) := by decide +kernel
theorem dX6_readMove_25 : decode cX6_readMove 25 = .ok (.ifCond .eq 12, 3) := by decide +kernel
theorem dX6_readMove_28 : decode cX6_readMove 28 = .ok (.aload_n 0, 1) := by decide +kernel
theorem dX6_readMove_29 : decode cX6_readMove 29 = .ok (.bipush 62, 2) := by decide +kernel
theorem dX6_readMove_31 : decode cX6_readMove 31 = .ok (.invokevirtual 33, 3) := by decide +kernel
theorem dX6_readMove_34 : decode cX6_readMove 34 = .ok (.ifCond .ne 5, 3) := by decide +kernel
theorem dX6_readMove_37 : decode cX6_readMove 37 = .ok (.iconst 0, 1) := by decide +kernel
theorem dX6_readMove_38 : decode cX6_readMove 38 = .ok (.ireturn, 1) := by decide +kernel
theorem dX6_readMove_39 : decode cX6_readMove 39 = .ok (.aload_n 0, 1) := by decide +kernel
theorem dX6_readMove_40 : decode cX6_readMove 40 = .ok (.invokevirtual 37, 3) := by decide +kernel
theorem dX6_readMove_43 : decode cX6_readMove 43 = .ok (.bipush 112, 2) := by decide +kernel
theorem dX6_readMove_45 : decode cX6_readMove 45 = .ok (.if_icmp .ne 7, 3) := by decide +kernel
theorem dX6_readMove_48 : decode cX6_readMove 48 = .ok (.iconst (-1), 1) := by decide +kernel
theorem dX6_readMove_49 : decode cX6_readMove 49 = .ok (.goto 10, 3) := by decide +kernel
theorem dX6_readMove_52 : decode cX6_readMove 52 = .ok (.aload_n 0, 1) := by decide +kernel
theorem dX6_readMove_53 : decode cX6_readMove 53 = .ok (.invokevirtual 37, 3) := by decide +kernel
theorem dX6_readMove_56 : decode cX6_readMove 56 = .ok (.bipush 48, 2) := by decide +kernel
theorem dX6_readMove_58 : decode cX6_readMove 58 = .ok (.isub, 1) := by decide +kernel
theorem dX6_readMove_59 : decode cX6_readMove 59 = .ok (.istore_n 2, 1) := by decide +kernel
theorem dX6_readMove_60 : decode cX6_readMove 60 = .ok (.aload_n 0, 1) := by decide +kernel
theorem dX6_readMove_61 : decode cX6_readMove 61 = .ok (.invokevirtual 60, 3) := by decide +kernel
theorem dX6_readMove_64 : decode cX6_readMove 64 = .ok (.ifCond .eq 38, 3) := by decide +kernel
theorem dX6_readMove_67 : decode cX6_readMove 67 = .ok (.aload_n 0, 1) := by decide +kernel
theorem dX6_readMove_68 : decode cX6_readMove 68 = .ok (.bipush 58, 2) := by decide +kernel
theorem dX6_readMove_70 : decode cX6_readMove 70 = .ok (.invokevirtual 33, 3) := by decide +kernel
theorem dX6_readMove_73 : decode cX6_readMove 73 = .ok (.ifCond .eq 29, 3) := by decide +kernel
theorem dX6_readMove_76 : decode cX6_readMove 76 = .ok (.aload_n 0, 1) := by decide +kernel
theorem dX6_readMove_77 : decode cX6_readMove 77 = .ok (.invokevirtual 45, 3) := by decide +kernel
theorem dX6_readMove_80 : decode cX6_readMove 80 = .ok (.ifCond .eq 22, 3) := by decide +kernel
theorem dX6_readMove_83 : decode cX6_readMove 83 = .ok (.aload_n 0, 1) := by decide +kernel
theorem dX6_readMove_84 : decode cX6_readMove 84 = .ok (.bipush 11, 2) := by decide +kernel
theorem dX6_readMove_86 : decode cX6_readMove 86 = .ok (.iload_n 1, 1) := by decide +kernel
theorem dX6_readMove_87 : decode cX6_readMove 87 = .ok (.iload_n 2, 1) := by decide +kernel
theorem dX6_readMove_88 : decode cX6_readMove 88 = .ok (.aload_n 0, 1) := by decide +kernel
theorem dX6_readMove_89 : decode cX6_readMove 89 = .ok (.getfield 48, 3) := by decide +kernel
theorem dX6_readMove_92 : decode cX6_readMove 92 = .ok (.invokevirtual 41, 3) := by decide +kernel
theorem dX6_readMove_95 : decode cX6_readMove 95 = .ok (.ifCond .eq 7, 3) := by decide +kernel
theorem dX6_readMove_98 : decode cX6_readMove 98 = .ok (.iconst 1, 1) := by decide +kernel
theorem dX6_readMove_99 : decode cX6_readMove 99 = .ok (.goto 4, 3) := by decide +kernel
theorem dX6_readMove_102 : decode cX6_readMove 102 = .ok (.iconst 0, 1) := by decide +kernel
theorem dX6_readMove_103 : decode cX6_readMove 103 = .ok (.ireturn, 1) := by decide +kernel
theorem dX6_readNumber_0 : decode cX6_readNumber 0 = .ok (.aload_n 0, 1) := by decide +kernel
theorem dX6_readNumber_1 : decode cX6_readNumber 1 = .ok (.iconst 0, 1) := by decide +kernel
theorem dX6_readNumber_2 : decode cX6_readNumber 2 = .ok (.putfield 48, 3) := by decide +kernel
theorem dX6_readNumber_5 : decode cX6_readNumber 5 = .ok (.iconst 0, 1) := by decide +kernel
theorem dX6_readNumber_6 : decode cX6_readNumber 6 = .ok (.istore_n 1, 1) := by decide +kernel
theorem dX6_readNumber_7 : decode cX6_readNumber 7 = .ok (.iload_n 1, 1) := by decide +kernel
theorem dX6_readNumber_8 : decode cX6_readNumber 8 = .ok (.bipush 7, 2) := by decide +kernel
theorem dX6_readNumber_10 : decode cX6_readNumber 10 = .ok (.if_icmp .ge 49, 3) := by decide +kernel
theorem dX6_readNumber_13 : decode cX6_readNumber 13 = .ok (.aload_n 0, 1) := by decide +kernel
theorem dX6_readNumber_14 : decode cX6_readNumber 14 = .ok (.aload_n 0, 1) := by decide +kernel
theorem dX6_readNumber_15 : decode cX6_readNumber 15 = .ok (.invokevirtual 37, 3) := by decide +kernel
theorem dX6_readNumber_18 : decode cX6_readNumber 18 = .ok (.invokevirtual 63, 3) := by decide +kernel
theorem dX6_readNumber_21 : decode cX6_readNumber 21 = .ok (.ifCond .eq 38, 3) := by decide +kernel
theorem dX6_readNumber_24 : decode cX6_readNumber 24 = .ok (.aload_n 0, 1) := by decide +kernel
theorem dX6_readNumber_25 : decode cX6_readNumber 25 = .ok (.aload_n 0, 1) := by decide +kernel
theorem dX6_readNumber_26 : decode cX6_readNumber 26 = .ok (.getfield 48, 3) := by decide +kernel
theorem dX6_readNumber_29 : decode cX6_readNumber 29 = .ok (.bipush 10, 2) := by decide +kernel
theorem dX6_readNumber_31 : decode cX6_readNumber 31 = .ok (.imul, 1) := by decide +kernel
theorem dX6_readNumber_32 : decode cX6_readNumber 32 = .ok (.aload_n 0, 1) := by decide +kernel
theorem dX6_readNumber_33 : decode cX6_readNumber 33 = .ok (.invokevirtual 37, 3) := by decide +kernel
theorem dX6_readNumber_36 : decode cX6_readNumber 36 = .ok (.bipush 48, 2) := by decide +kernel
theorem dX6_readNumber_38 : decode cX6_readNumber 38 = .ok (.isub, 1) := by decide +kernel
theorem dX6_readNumber_39 : decode cX6_readNumber 39 = .ok (.iadd, 1) := by decide +kernel
theorem dX6_readNumber_40 : decode cX6_readNumber 40 = .ok (.putfield 48, 3) := by decide +kernel
theorem dX6_readNumber_43 : decode cX6_readNumber 43 = .ok (.iinc 1 1, 3) := by decide +kernel
theorem dX6_readNumber_46 : decode cX6_readNumber 46 = .ok (.aload_n 0, 1) := by decide +kernel
theorem dX6_readNumber_47 : decode cX6_readNumber 47 = .ok (.dup, 1) := by decide +kernel
theorem dX6_readNumber_48 : decode cX6_readNumber 48 = .ok (.getfield 23, 3) := by decide +kernel
theorem dX6_readNumber_51 : decode cX6_readNumber 51 = .ok (.iconst 1, 1) := by decide +kernel
theorem dX6_readNumber_52 : decode cX6_readNumber 52 = .ok (.iadd, 1) := by decide +kernel
theorem dX6_readNumber_53 : decode cX6_readNumber 53 = .ok (.putfield 23, 3) := by decide +kernel
theorem dX6_readNumber_56 : decode cX6_readNumber 56 = .ok (.goto (-49), 3) := by decide +kernel
theorem dX6_readNumber_59 : decode cX6_readNumber 59 = .ok (.iload_n 1, 1) := by decide +kernel
theorem dX6_readNumber_60 : decode cX6_readNumber 60 = .ok (.ifCond .le 7, 3) := by decide +kernel
theorem dX6_readNumber_63 : decode cX6_readNumber 63 = .ok (.iconst 1, 1) := by decide +kernel
theorem dX6_readNumber_64 : decode cX6_readNumber 64 = .ok (.goto 4, 3) := by decide +kernel
theorem dX6_readNumber_67 : decode cX6_readNumber 67 = .ok (.iconst 0, 1) := by decide +kernel
theorem dX6_readNumber_68 : decode cX6_readNumber 68 = .ok (.ireturn, 1) := by decide +kernel
theorem dX6_acceptPlace_0 : decode cX6_acceptPlace 0 = .ok (.aload_n 0, 1) := by decide +kernel
theorem dX6_acceptPlace_1 : decode cX6_acceptPlace 1 = .ok (.bipush 112, 2) := by decide +kernel
theorem dX6_acceptPlace_3 : decode cX6_acceptPlace 3 = .ok (.invokevirtual 33, 3) := by decide +kernel
theorem dX6_acceptPlace_6 : decode cX6_acceptPlace 6 = .ok (.ifCond .ne 10, 3) := by decide +kernel
theorem dX6_acceptPlace_9 : decode cX6_acceptPlace 9 = .ok (.aload_n 0, 1) := by decide +kernel
theorem dX6_acceptPlace_10 : decode cX6_acceptPlace 10 = .ok (.invokevirtual 57, 3) := by decide +kernel
theorem dX6_acceptPlace_13 : decode cX6_acceptPlace 13 = .ok (.ifCond .eq 7, 3) := by decide +kernel
theorem dX6_acceptPlace_16 : decode cX6_acceptPlace 16 = .ok (.iconst 1, 1) := by decide +kernel
theorem dX6_acceptPlace_17 : decode cX6_acceptPlace 17 = .ok (.goto 4, 3) := by decide +kernel
theorem dX6_acceptPlace_20 : decode cX6_acceptPlace 20 = .ok (.iconst 0, 1) := by decide +kernel
theorem dX6_acceptPlace_21 : decode cX6_acceptPlace 21 = .ok (.ireturn, 1) := by decide +kernel
theorem dX6_acceptDigit_0 : decode cX6_acceptDigit 0 = .ok (.aload_n 0, 1) := by decide +kernel
theorem dX6_acceptDigit_1 : decode cX6_acceptDigit 1 = .ok (.aload_n 0, 1) := by decide +kernel
theorem dX6_acceptDigit_2 : decode cX6_acceptDigit 2 = .ok (.invokevirtual 37, 3) := by decide +kernel
theorem dX6_acceptDigit_5 : decode cX6_acceptDigit 5 = .ok (.invokevirtual 63, 3) := by decide +kernel
theorem dX6_acceptDigit_8 : decode cX6_acceptDigit 8 = .ok (.ifCond .ne 5, 3) := by decide +kernel
theorem dX6_acceptDigit_11 : decode cX6_acceptDigit 11 = .ok (.iconst 0, 1) := by decide +kernel
theorem dX6_acceptDigit_12 : decode cX6_acceptDigit 12 = .ok (.ireturn, 1) := by decide +kernel
theorem dX6_acceptDigit_13 : decode cX6_acceptDigit 13 = .ok (.aload_n 0, 1) := by decide +kernel
theorem dX6_acceptDigit_14 : decode cX6_acceptDigit 14 = .ok (.dup, 1) := by decide +kernel
theorem dX6_acceptDigit_15 : decode cX6_acceptDigit 15 = .ok (.getfield 23, 3) := by decide +kernel
theorem dX6_acceptDigit_18 : decode cX6_acceptDigit 18 = .ok (.iconst 1, 1) := by decide +kernel
theorem dX6_acceptDigit_19 : decode cX6_acceptDigit 19 = .ok (.iadd, 1) := by decide +kernel
theorem dX6_acceptDigit_20 : decode cX6_acceptDigit 20 = .ok (.putfield 23, 3) := by decide +kernel
theorem dX6_acceptDigit_23 : decode cX6_acceptDigit 23 = .ok (.iconst 1, 1) := by decide +kernel
theorem dX6_acceptDigit_24 : decode cX6_acceptDigit 24 = .ok (.ireturn, 1) := by decide +kernel
theorem dX6_accept_0 : decode cX6_accept 0 = .ok (.aload_n 0, 1) := by decide +kernel
theorem dX6_accept_1 : decode cX6_accept 1 = .ok (.invokevirtual 37, 3) := by decide +kernel
theorem dX6_accept_4 : decode cX6_accept 4 = .ok (.iload_n 1, 1) := by decide +kernel
theorem dX6_accept_5 : decode cX6_accept 5 = .ok (.if_icmp .eq 5, 3) := by decide +kernel
theorem dX6_accept_8 : decode cX6_accept 8 = .ok (.iconst 0, 1) := by decide +kernel
theorem dX6_accept_9 : decode cX6_accept 9 = .ok (.ireturn, 1) := by decide +kernel
theorem dX6_accept_10 : decode cX6_accept 10 = .ok (.aload_n 0, 1) := by decide +kernel
theorem dX6_accept_11 : decode cX6_accept 11 = .ok (.dup, 1) := by decide +kernel
theorem dX6_accept_12 : decode cX6_accept 12 = .ok (.getfield 23, 3) := by decide +kernel
theorem dX6_accept_15 : decode cX6_accept 15 = .ok (.iconst 1, 1) := by decide +kernel
theorem dX6_accept_16 : decode cX6_accept 16 = .ok (.iadd, 1) := by decide +kernel
theorem dX6_accept_17 : decode cX6_accept 17 = .ok (.putfield 23, 3) := by decide +kernel
theorem dX6_accept_20 : decode cX6_accept 20 = .ok (.iconst 1, 1) := by decide +kernel
theorem dX6_accept_21 : decode cX6_accept 21 = .ok (.ireturn, 1) := by decide +kernel
theorem dX6_next_0 : decode cX6_next 0 = .ok (.aload_n 0, 1) := by decide +kernel
theorem dX6_next_1 : decode cX6_next 1 = .ok (.getfield 23, 3) := by decide +kernel
theorem dX6_next_4 : decode cX6_next 4 = .ok (.ifCond .lt 35, 3) := by decide +kernel
theorem dX6_next_7 : decode cX6_next 7 = .ok (.aload_n 0, 1) := by decide +kernel
theorem dX6_next_8 : decode cX6_next 8 = .ok (.getfield 23, 3) := by decide +kernel
theorem dX6_next_11 : decode cX6_next 11 = .ok (.aload_n 0, 1) := by decide +kernel
theorem dX6_next_12 : decode cX6_next 12 = .ok (.getfield 19, 3) := by decide +kernel
theorem dX6_next_15 : decode cX6_next 15 = .ok (.if_icmp .ge 24, 3) := by decide +kernel
theorem dX6_next_18 : decode cX6_next 18 = .ok (.aload_n 0, 1) := by decide +kernel
theorem dX6_next_19 : decode cX6_next 19 = .ok (.getfield 23, 3) := by decide +kernel
theorem dX6_next_22 : decode cX6_next 22 = .ok (.bipush 60, 2) := by decide +kernel
theorem dX6_next_24 : decode cX6_next 24 = .ok (.if_icmp .ge 15, 3) := by decide +kernel
theorem dX6_next_27 : decode cX6_next 27 = .ok (.aload_n 0, 1) := by decide +kernel
theorem dX6_next_28 : decode cX6_next 28 = .ok (.getfield 9, 3) := by decide +kernel
theorem dX6_next_31 : decode cX6_next 31 = .ok (.aload_n 0, 1) := by decide +kernel
theorem dX6_next_32 : decode cX6_next 32 = .ok (.getfield 23, 3) := by decide +kernel
theorem dX6_next_35 : decode cX6_next 35 = .ok (.caload, 1) := by decide +kernel
theorem dX6_next_36 : decode cX6_next 36 = .ok (.goto 4, 3) := by decide +kernel
theorem dX6_next_39 : decode cX6_next 39 = .ok (.iconst (-1), 1) := by decide +kernel
theorem dX6_next_40 : decode cX6_next 40 = .ok (.ireturn, 1) := by decide +kernel
theorem dX6_isDigit_0 : decode cX6_isDigit 0 = .ok (.iload_n 1, 1) := by decide +kernel
theorem dX6_isDigit_1 : decode cX6_isDigit 1 = .ok (.bipush 48, 2) := by decide +kernel
theorem dX6_isDigit_3 : decode cX6_isDigit 3 = .ok (.if_icmp .lt 13, 3) := by decide +kernel
theorem dX6_isDigit_6 : decode cX6_isDigit 6 = .ok (.iload_n 1, 1) := by decide +kernel
theorem dX6_isDigit_7 : decode cX6_isDigit 7 = .ok (.bipush 57, 2) := by decide +kernel
theorem dX6_isDigit_9 : decode cX6_isDigit 9 = .ok (.if_icmp .gt 7, 3) := by decide +kernel
theorem dX6_isDigit_12 : decode cX6_isDigit 12 = .ok (.iconst 1, 1) := by decide +kernel
theorem dX6_isDigit_13 : decode cX6_isDigit 13 = .ok (.goto 4, 3) := by decide +kernel
theorem dX6_isDigit_16 : decode cX6_isDigit 16 = .ok (.iconst 0, 1) := by decide +kernel
theorem dX6_isDigit_17 : decode cX6_isDigit 17 = .ok (.ireturn, 1) := by decide +kernel
theorem dX6_keep_0 : decode cX6_keep 0 = .ok (.aload_n 0, 1) := by decide +kernel
theorem dX6_keep_1 : decode cX6_keep 1 = .ok (.getfield 26, 3) := by decide +kernel
theorem dX6_keep_4 : decode cX6_keep 4 = .ok (.ifCond .lt 12, 3) := by decide +kernel
theorem dX6_keep_7 : decode cX6_keep 7 = .ok (.aload_n 0, 1) := by decide +kernel
theorem dX6_keep_8 : decode cX6_keep 8 = .ok (.getfield 26, 3) := by decide +kernel
theorem dX6_keep_11 : decode cX6_keep 11 = .ok (.bipush 30, 2) := by decide +kernel
theorem dX6_keep_13 : decode cX6_keep 13 = .ok (.if_icmp .lt 5, 3) := by decide +kernel
theorem dX6_keep_16 : decode cX6_keep 16 = .ok (.iconst 0, 1) := by decide +kernel
theorem dX6_keep_17 : decode cX6_keep 17 = .ok (.ireturn, 1) := by decide +kernel
theorem dX6_keep_18 : decode cX6_keep 18 = .ok (.aload_n 0, 1) := by decide +kernel
theorem dX6_keep_19 : decode cX6_keep 19 = .ok (.getfield 26, 3) := by decide +kernel
theorem dX6_keep_22 : decode cX6_keep 22 = .ok (.iconst 4, 1) := by decide +kernel
theorem dX6_keep_23 : decode cX6_keep 23 = .ok (.imul, 1) := by decide +kernel
theorem dX6_keep_24 : decode cX6_keep 24 = .ok (.istore 5, 2) := by decide +kernel
theorem dX6_keep_26 : decode cX6_keep 26 = .ok (.aload_n 0, 1) := by decide +kernel
theorem dX6_keep_27 : decode cX6_keep 27 = .ok (.getfield 15, 3) := by decide +kernel
theorem dX6_keep_30 : decode cX6_keep 30 = .ok (.iload 5, 2) := by decide +kernel
theorem dX6_keep_32 : decode cX6_keep 32 = .ok (.iload_n 1, 1) := by decide +kernel
theorem dX6_keep_33 : decode cX6_keep 33 = .ok (.iastore, 1) := by decide +kernel
theorem dX6_keep_34 : decode cX6_keep 34 = .ok (.aload_n 0, 1) := by decide +kernel
theorem dX6_keep_35 : decode cX6_keep 35 = .ok (.getfield 15, 3) := by decide +kernel
theorem dX6_keep_38 : decode cX6_keep 38 = .ok (.iload 5, 2) := by decide +kernel
theorem dX6_keep_40 : decode cX6_keep 40 = .ok (.iconst 1, 1) := by decide +kernel
theorem dX6_keep_41 : decode cX6_keep 41 = .ok (.iadd, 1) := by decide +kernel
theorem dX6_keep_42 : decode cX6_keep 42 = .ok (.iload_n 2, 1) := by decide +kernel
theorem dX6_keep_43 : decode cX6_keep 43 = .ok (.iastore, 1) := by decide +kernel
theorem dX6_keep_44 : decode cX6_keep 44 = .ok (.aload_n 0, 1) := by decide +kernel
theorem dX6_keep_45 : decode cX6_keep 45 = .ok (.getfield 15, 3) := by decide +kernel
theorem dX6_keep_48 : decode cX6_keep 48 = .ok (.iload 5, 2) := by decide +kernel
theorem dX6_keep_50 : decode cX6_keep 50 = .ok (.iconst 2, 1) := by decide +kernel
theorem dX6_keep_51 : decode cX6_keep 51 = .ok (.iadd, 1) := by decide +kernel
theorem dX6_keep_52 : decode cX6_keep 52 = .ok (.iload_n 3, 1) := by decide +kernel
theorem dX6_keep_53 : decode cX6_keep 53 = .ok (.iastore, 1) := by decide +kernel
theorem dX6_keep_54 : decode cX6_keep 54 = .ok (.aload_n 0, 1) := by decide +kernel
theorem dX6_keep_55 : decode cX6_keep 55 = .ok (.getfield 15, 3) := by decide +kernel
theorem dX6_keep_58 : decode cX6_keep 58 = .ok (.iload 5, 2) := by decide +kernel
theorem dX6_keep_60 : decode cX6_keep 60 = .ok (.iconst 3, 1) := by decide +kernel
theorem dX6_keep_61 : decode cX6_keep 61 = .ok (.iadd, 1) := by decide +kernel
theorem dX6_keep_62 : decode cX6_keep 62 = .ok (.iload 4, 2) := by decide +kernel
theorem dX6_keep_64 : decode cX6_keep 64 = .ok (.iastore, 1) := by decide +kernel
theorem dX6_keep_65 : decode cX6_keep 65 = .ok (.aload_n 0, 1) := by decide +kernel
theorem dX6_keep_66 : decode cX6_keep 66 = .ok (.dup, 1) := by decide +kernel
theorem dX6_keep_67 : decode cX6_keep 67 = .ok (.getfield 26, 3) := by decide +kernel
theorem dX6_keep_70 : decode cX6_keep 70 = .ok (.iconst 1, 1) := by decide +kernel
theorem dX6_keep_71 : decode cX6_keep 71 = .ok (.iadd, 1) := by decide +kernel
theorem dX6_keep_72 : decode cX6_keep 72 = .ok (.putfield 26, 3) := by decide +kernel
theorem dX6_keep_75 : decode cX6_keep 75 = .ok (.iconst 1, 1) := by decide +kernel
theorem dX6_keep_76 : decode cX6_keep 76 = .ok (.ireturn, 1) := by decide +kernel
theorem dX7_init_0 : decode cX7_init 0 = .ok (.aload_n 0, 1) := by decide +kernel
theorem dX7_init_1 : decode cX7_init 1 = .ok (.invokespecial 3, 3) := by decide +kernel
theorem dX7_init_4 : decode cX7_init 4 = .ok (.aload_n 0, 1) := by decide +kernel
theorem dX7_init_5 : decode cX7_init 5 = .ok (.bipush 6, 2) := by decide +kernel
theorem dX7_init_7 : decode cX7_init 7 = .ok (.newarray .int, 2) := by decide +kernel
theorem dX7_init_9 : decode cX7_init 9 = .ok (.putfield 9, 3) := by decide +kernel
theorem dX7_init_12 : decode cX7_init 12 = .ok (.aload_n 0, 1) := by decide +kernel
theorem dX7_init_13 : decode cX7_init 13 = .ok (.bipush 6, 2) := by decide +kernel
theorem dX7_init_15 : decode cX7_init 15 = .ok (.newarray .int, 2) := by decide +kernel
theorem dX7_init_17 : decode cX7_init 17 = .ok (.putfield 15, 3) := by decide +kernel
theorem dX7_init_20 : decode cX7_init 20 = .ok (.aload_n 0, 1) := by decide +kernel
theorem dX7_init_21 : decode cX7_init 21 = .ok (.bipush 6, 2) := by decide +kernel
theorem dX7_init_23 : decode cX7_init 23 = .ok (.newarray .int, 2) := by decide +kernel
theorem dX7_init_25 : decode cX7_init 25 = .ok (.putfield 18, 3) := by decide +kernel
theorem dX7_init_28 : decode cX7_init 28 = .ok (.return_, 1) := by decide +kernel
theorem dX7_has_0 : decode cX7_has 0 = .ok (.iload_n 1, 1) := by decide +kernel
theorem dX7_has_1 : decode cX7_has 1 = .ok (.ifCond .lt 21, 3) := by decide +kernel
theorem dX7_has_4 : decode cX7_has 4 = .ok (.iload_n 1, 1) := by decide +kernel
theorem dX7_has_5 : decode cX7_has 5 = .ok (.aload_n 0, 1) := by decide +kernel
theorem dX7_has_6 : decode cX7_has 6 = .ok (.getfield 21, 3) := by decide +kernel
theorem dX7_has_9 : decode cX7_has 9 = .ok (.if_icmp .ge 13, 3) := by decide +kernel
theorem dX7_has_12 : decode cX7_has 12 = .ok (.iload_n 1, 1) := by decide +kernel
theorem dX7_has_13 : decode cX7_has 13 = .ok (.bipush 6, 2) := by decide +kernel
theorem dX7_has_15 : decode cX7_has 15 = .ok (.if_icmp .ge 7, 3) := by decide +kernel
theorem dX7_has_18 : decode cX7_has 18 = .ok (.iconst 1, 1) := by decide +kernel
theorem dX7_has_19 : decode cX7_has 19 = .ok (.goto 4, 3) := by decide +kernel
theorem dX7_has_22 : decode cX7_has 22 = .ok (.iconst 0, 1) := by decide +kernel
theorem dX7_has_23 : decode cX7_has 23 = .ok (.ireturn, 1) := by decide +kernel
theorem dX7_append_0 : decode cX7_append 0 = .ok (.aload_n 0, 1) := by decide +kernel
theorem dX7_append_1 : decode cX7_append 1 = .ok (.getfield 21, 3) := by decide +kernel
theorem dX7_append_4 : decode cX7_append 4 = .ok (.istore 4, 2) := by decide +kernel
theorem dX7_append_6 : decode cX7_append 6 = .ok (.iload 4, 2) := by decide +kernel
theorem dX7_append_8 : decode cX7_append 8 = .ok (.ifCond .lt 10, 3) := by decide +kernel
theorem dX7_append_11 : decode cX7_append 11 = .ok (.iload 4, 2) := by decide +kernel
theorem dX7_append_13 : decode cX7_append 13 = .ok (.bipush 6, 2) := by decide +kernel
theorem dX7_append_15 : decode cX7_append 15 = .ok (.if_icmp .lt 6, 3) := by decide +kernel
theorem dX7_append_18 : decode cX7_append 18 = .ok (.iload 4, 2) := by decide +kernel
theorem dX7_append_20 : decode cX7_append 20 = .ok (.ireturn, 1) := by decide +kernel
theorem dX7_append_21 : decode cX7_append 21 = .ok (.aload_n 0, 1) := by decide +kernel
theorem dX7_append_22 : decode cX7_append 22 = .ok (.getfield 9, 3) := by decide +kernel
theorem dX7_append_25 : decode cX7_append 25 = .ok (.iload 4, 2) := by decide +kernel
theorem dX7_append_27 : decode cX7_append 27 = .ok (.iload_n 1, 1) := by decide +kernel
theorem dX7_append_28 : decode cX7_append 28 = .ok (.iastore, 1) := by decide +kernel
theorem dX7_append_29 : decode cX7_append 29 = .ok (.aload_n 0, 1) := by decide +kernel
theorem dX7_append_30 : decode cX7_append 30 = .ok (.getfield 15, 3) := by decide +kernel
theorem dX7_append_33 : decode cX7_append 33 = .ok (.iload 4, 2) := by decide +kernel
theorem dX7_append_35 : decode cX7_append 35 = .ok (.iload_n 2, 1) := by decide +kernel
theorem dX7_append_36 : decode cX7_append 36 = .ok (.iastore, 1) := by decide +kernel
theorem dX7_append_37 : decode cX7_append 37 = .ok (.aload_n 0, 1) := by decide +kernel
theorem dX7_append_38 : decode cX7_append 38 = .ok (.getfield 18, 3) := by decide +kernel
theorem dX7_append_41 : decode cX7_append 41 = .ok (.iload 4, 2) := by decide +kernel
theorem dX7_append_43 : decode cX7_append 43 = .ok (.iload_n 3, 1) := by decide +kernel
theorem dX7_append_44 : decode cX7_append 44 = .ok (.iastore, 1) := by decide +kernel
theorem dX7_append_45 : decode cX7_append 45 = .ok (.aload_n 0, 1) := by decide +kernel
theorem dX7_append_46 : decode cX7_append 46 = .ok (.dup, 1) := by decide +kernel
theorem dX7_append_47 : decode cX7_append 47 = .ok (.getfield 21, 3) := by decide +kernel
theorem dX7_append_50 : decode cX7_append 50 = .ok (.iconst 1, 1) := by decide +kernel
theorem dX7_append_51 : decode cX7_append 51 = .ok (.iadd, 1) := by decide +kernel
theorem dX7_append_52 : decode cX7_append 52 = .ok (.putfield 21, 3) := by decide +kernel
theorem dX7_append_55 : decode cX7_append 55 = .ok (.iload 4, 2) := by decide +kernel
theorem dX7_append_57 : decode cX7_append 57 = .ok (.ireturn, 1) := by decide +kernel
theorem dX7_remove_0 : decode cX7_remove 0 = .ok (.aload_n 0, 1) := by decide +kernel
theorem dX7_remove_1 : decode cX7_remove 1 = .ok (.iload_n 1, 1) := by decide +kernel
theorem dX7_remove_2 : decode cX7_remove 2 = .ok (.invokevirtual 25, 3) := by decide +kernel
theorem dX7_remove_5 : decode cX7_remove 5 = .ok (.ifCond .ne 8, 3) := by decide +kernel
theorem dX7_remove_8 : decode cX7_remove 8 = .ok (.aload_n 0, 1) := by decide +kernel
theorem dX7_remove_9 : decode cX7_remove 9 = .ok (.getfield 21, 3) := by decide +kernel
theorem dX7_remove_12 : decode cX7_remove 12 = .ok (.ireturn, 1) := by decide +kernel
theorem dX7_remove_13 : decode cX7_remove 13 = .ok (.iload_n 1, 1) := by decide +kernel
theorem dX7_remove_14 : decode cX7_remove 14 = .ok (.istore_n 2, 1) := by decide +kernel
theorem dX7_remove_15 : decode cX7_remove 15 = .ok (.iload_n 2, 1) := by decide +kernel
theorem dX7_remove_16 : decode cX7_remove 16 = .ok (.iconst 1, 1) := by decide +kernel
theorem dX7_remove_17 : decode cX7_remove 17 = .ok (.iadd, 1) := by decide +kernel
theorem dX7_remove_18 : decode cX7_remove 18 = .ok (.aload_n 0, 1) := by decide +kernel
theorem dX7_remove_19 : decode cX7_remove 19 = .ok (.getfield 21, 3) := by decide +kernel
theorem dX7_remove_22 : decode cX7_remove 22 = .ok (.if_icmp .ge 59, 3) := by decide +kernel
theorem dX7_remove_25 : decode cX7_remove 25 = .ok (.iload_n 2, 1) := by decide +kernel
theorem dX7_remove_26 : decode cX7_remove 26 = .ok (.iconst 1, 1) := by decide +kernel
theorem dX7_remove_27 : decode cX7_remove 27 = .ok (.iadd, 1) := by decide +kernel
theorem dX7_remove_28 : decode cX7_remove 28 = .ok (.bipush 6, 2) := by decide +kernel
theorem dX7_remove_30 : decode cX7_remove 30 = .ok (.if_icmp .ge 51, 3) := by decide +kernel
theorem dX7_remove_33 : decode cX7_remove 33 = .ok (.aload_n 0, 1) := by decide +kernel
theorem dX7_remove_34 : decode cX7_remove 34 = .ok (.getfield 9, 3) := by decide +kernel
theorem dX7_remove_37 : decode cX7_remove 37 = .ok (.iload_n 2, 1) := by decide +kernel
theorem dX7_remove_38 : decode cX7_remove 38 = .ok (.aload_n 0, 1) := by decide +kernel
theorem dX7_remove_39 : decode cX7_remove 39 = .ok (.getfield 9, 3) := by decide +kernel
theorem dX7_remove_42 : decode cX7_remove 42 = .ok (.iload_n 2, 1) := by decide +kernel
theorem dX7_remove_43 : decode cX7_remove 43 = .ok (.iconst 1, 1) := by decide +kernel
theorem dX7_remove_44 : decode cX7_remove 44 = .ok (.iadd, 1) := by decide +kernel
theorem dX7_remove_45 : decode cX7_remove 45 = .ok (.iaload, 1) := by decide +kernel
theorem dX7_remove_46 : decode cX7_remove 46 = .ok (.iastore, 1) := by decide +kernel
theorem dX7_remove_47 : decode cX7_remove 47 = .ok (.aload_n 0, 1) := by decide +kernel
theorem dX7_remove_48 : decode cX7_remove 48 = .ok (.getfield 15, 3) := by decide +kernel
theorem dX7_remove_51 : decode cX7_remove 51 = .ok (.iload_n 2, 1) := by decide +kernel
theorem dX7_remove_52 : decode cX7_remove 52 = .ok (.aload_n 0, 1) := by decide +kernel
theorem dX7_remove_53 : decode cX7_remove 53 = .ok (.getfield 15, 3) := by decide +kernel
theorem dX7_remove_56 : decode cX7_remove 56 = .ok (.iload_n 2, 1) := by decide +kernel
theorem dX7_remove_57 : decode cX7_remove 57 = .ok (.iconst 1, 1) := by decide +kernel
theorem dX7_remove_58 : decode cX7_remove 58 = .ok (.iadd, 1) := by decide +kernel
theorem dX7_remove_59 : decode cX7_remove 59 = .ok (.iaload, 1) := by decide +kernel
theorem dX7_remove_60 : decode cX7_remove 60 = .ok (.iastore, 1) := by decide +kernel
theorem dX7_remove_61 : decode cX7_remove 61 = .ok (.aload_n 0, 1) := by decide +kernel
theorem dX7_remove_62 : decode cX7_remove 62 = .ok (.getfield 18, 3) := by decide +kernel
theorem dX7_remove_65 : decode cX7_remove 65 = .ok (.iload_n 2, 1) := by decide +kernel
theorem dX7_remove_66 : decode cX7_remove 66 = .ok (.aload_n 0, 1) := by decide +kernel
theorem dX7_remove_67 : decode cX7_remove 67 = .ok (.getfield 18, 3) := by decide +kernel
theorem dX7_remove_70 : decode cX7_remove 70 = .ok (.iload_n 2, 1) := by decide +kernel
theorem dX7_remove_71 : decode cX7_remove 71 = .ok (.iconst 1, 1) := by decide +kernel
theorem dX7_remove_72 : decode cX7_remove 72 = .ok (.iadd, 1) := by decide +kernel
theorem dX7_remove_73 : decode cX7_remove 73 = .ok (.iaload, 1) := by decide +kernel
theorem dX7_remove_74 : decode cX7_remove 74 = .ok (.iastore, 1) := by decide +kernel
theorem dX7_remove_75 : decode cX7_remove 75 = .ok (.iinc 2 1, 3) := by decide +kernel
theorem dX7_remove_78 : decode cX7_remove 78 = .ok (.goto (-63), 3) := by decide +kernel
theorem dX7_remove_81 : decode cX7_remove 81 = .ok (.aload_n 0, 1) := by decide +kernel
theorem dX7_remove_82 : decode cX7_remove 82 = .ok (.dup, 1) := by decide +kernel
theorem dX7_remove_83 : decode cX7_remove 83 = .ok (.getfield 21, 3) := by decide +kernel
theorem dX7_remove_86 : decode cX7_remove 86 = .ok (.iconst 1, 1) := by decide +kernel
theorem dX7_remove_87 : decode cX7_remove 87 = .ok (.isub, 1) := by decide +kernel
theorem dX7_remove_88 : decode cX7_remove 88 = .ok (.putfield 21, 3) := by decide +kernel
theorem dX7_remove_91 : decode cX7_remove 91 = .ok (.aload_n 0, 1) := by decide +kernel
theorem dX7_remove_92 : decode cX7_remove 92 = .ok (.getfield 21, 3) := by decide +kernel
theorem dX7_remove_95 : decode cX7_remove 95 = .ok (.ireturn, 1) := by decide +kernel
theorem dX7_endOfShares_0 : decode cX7_endOfShares 0 = .ok (.iload_n 1, 1) := by decide +kernel
theorem dX7_endOfShares_1 : decode cX7_endOfShares 1 = .ok (.istore_n 2, 1) := by decide +kernel
theorem dX7_endOfShares_2 : decode cX7_endOfShares 2 = .ok (.iload_n 2, 1) := by decide +kernel
theorem dX7_endOfShares_3 : decode cX7_endOfShares 3 = .ok (.ifCond .lt 33, 3) := by decide +kernel
theorem dX7_endOfShares_6 : decode cX7_endOfShares 6 = .ok (.iload_n 2, 1) := by decide +kernel
theorem dX7_endOfShares_7 : decode cX7_endOfShares 7 = .ok (.aload_n 0, 1) := by decide +kernel
theorem dX7_endOfShares_8 : decode cX7_endOfShares 8 = .ok (.getfield 21, 3) := by decide +kernel
theorem dX7_endOfShares_11 : decode cX7_endOfShares 11 = .ok (.if_icmp .ge 25, 3) := by decide +kernel
theorem dX7_endOfShares_14 : decode cX7_endOfShares 14 = .ok (.iload_n 2, 1) := by decide +kernel
theorem dX7_endOfShares_15 : decode cX7_endOfShares 15 = .ok (.bipush 6, 2) := by decide +kernel
theorem dX7_endOfShares_17 : decode cX7_endOfShares 17 = .ok (.if_icmp .ge 19, 3) := by decide +kernel
theorem dX7_endOfShares_20 : decode cX7_endOfShares 20 = .ok (.aload_n 0, 1) := by decide +kernel
theorem dX7_endOfShares_21 : decode cX7_endOfShares 21 = .ok (.getfield 9, 3) := by decide +kernel
theorem dX7_endOfShares_24 : decode cX7_endOfShares 24 = .ok (.iload_n 2, 1) := by decide +kernel
theorem dX7_endOfShares_25 : decode cX7_endOfShares 25 = .ok (.iaload, 1) := by decide +kernel
theorem dX7_endOfShares_26 : decode cX7_endOfShares 26 = .ok (.iconst 4, 1) := by decide +kernel
theorem dX7_endOfShares_27 : decode cX7_endOfShares 27 = .ok (.if_icmp .ne 9, 3) := by decide +kernel
theorem dX7_endOfShares_30 : decode cX7_endOfShares 30 = .ok (.iinc 2 1, 3) := by decide +kernel
theorem dX7_endOfShares_33 : decode cX7_endOfShares 33 = .ok (.goto (-31), 3) := by decide +kernel
theorem dX7_endOfShares_36 : decode cX7_endOfShares 36 = .ok (.iload_n 2, 1) := by decide +kernel
theorem dX7_endOfShares_37 : decode cX7_endOfShares 37 = .ok (.ireturn, 1) := by decide +kernel
theorem dX7_numberOf_0 : decode cX7_numberOf 0 = .ok (.aload_n 0, 1) := by decide +kernel
theorem dX7_numberOf_1 : decode cX7_numberOf 1 = .ok (.iload_n 1, 1) := by decide +kernel
theorem dX7_numberOf_2 : decode cX7_numberOf 2 = .ok (.invokevirtual 25, 3) := by decide +kernel
theorem dX7_numberOf_5 : decode cX7_numberOf 5 = .ok (.ifCond .ne 5, 3) := by decide +kernel
theorem dX7_numberOf_8 : decode cX7_numberOf 8 = .ok (.iconst 0, 1) := by decide +kernel
theorem dX7_numberOf_9 : decode cX7_numberOf 9 = .ok (.ireturn, 1) := by decide +kernel
theorem dX7_numberOf_10 : decode cX7_numberOf 10 = .ok (.iload_n 2, 1) := by decide +kernel
theorem dX7_numberOf_11 : decode cX7_numberOf 11 = .ok (.lookupswitch 39 #[(0, 25), (1, 32)], 25) := by decide +kernel
theorem dX7_numberOf_36 : decode cX7_numberOf 36 = .ok (.aload_n 0, 1) := by decide +kernel
theorem dX7_numberOf_37 : decode cX7_numberOf 37 = .ok (.getfield 9, 3) := by decide +kernel
theorem dX7_numberOf_40 : decode cX7_numberOf 40 = .ok (.iload_n 1, 1) := by decide +kernel
theorem dX7_numberOf_41 : decode cX7_numberOf 41 = .ok (.iaload, 1) := by decide +kernel
theorem dX7_numberOf_42 : decode cX7_numberOf 42 = .ok (.ireturn, 1) := by decide +kernel
theorem dX7_numberOf_43 : decode cX7_numberOf 43 = .ok (.aload_n 0, 1) := by decide +kernel
theorem dX7_numberOf_44 : decode cX7_numberOf 44 = .ok (.getfield 15, 3) := by decide +kernel
theorem dX7_numberOf_47 : decode cX7_numberOf 47 = .ok (.iload_n 1, 1) := by decide +kernel
theorem dX7_numberOf_48 : decode cX7_numberOf 48 = .ok (.iaload, 1) := by decide +kernel
theorem dX7_numberOf_49 : decode cX7_numberOf 49 = .ok (.ireturn, 1) := by decide +kernel
theorem dX7_numberOf_50 : decode cX7_numberOf 50 = .ok (.aload_n 0, 1) := by decide +kernel
theorem dX7_numberOf_51 : decode cX7_numberOf 51 = .ok (.getfield 18, 3) := by decide +kernel
theorem dX7_numberOf_54 : decode cX7_numberOf 54 = .ok (.iload_n 1, 1) := by decide +kernel
theorem dX7_numberOf_55 : decode cX7_numberOf 55 = .ok (.iaload, 1) := by decide +kernel
theorem dX7_numberOf_56 : decode cX7_numberOf 56 = .ok (.ireturn, 1) := by decide +kernel
theorem dX7_copyFrom_0 : decode cX7_copyFrom 0 = .ok (.aload_n 1, 1) := by decide +kernel
theorem dX7_copyFrom_1 : decode cX7_copyFrom 1 = .ok (.getfield 9, 3) := by decide +kernel
theorem dX7_copyFrom_4 : decode cX7_copyFrom 4 = .ok (.iconst 0, 1) := by decide +kernel
theorem dX7_copyFrom_5 : decode cX7_copyFrom 5 = .ok (.aload_n 0, 1) := by decide +kernel
theorem dX7_copyFrom_6 : decode cX7_copyFrom 6 = .ok (.getfield 9, 3) := by decide +kernel
theorem dX7_copyFrom_9 : decode cX7_copyFrom 9 = .ok (.iconst 0, 1) := by decide +kernel
theorem dX7_copyFrom_10 : decode cX7_copyFrom 10 = .ok (.bipush 6, 2) := by decide +kernel
theorem dX7_copyFrom_12 : decode cX7_copyFrom 12 = .ok (.invokestatic 29, 3) := by decide +kernel
theorem dX7_copyFrom_15 : decode cX7_copyFrom 15 = .ok (.aload_n 1, 1) := by decide +kernel
theorem dX7_copyFrom_16 : decode cX7_copyFrom 16 = .ok (.getfield 15, 3) := by decide +kernel
theorem dX7_copyFrom_19 : decode cX7_copyFrom 19 = .ok (.iconst 0, 1) := by decide +kernel
theorem dX7_copyFrom_20 : decode cX7_copyFrom 20 = .ok (.aload_n 0, 1) := by decide +kernel
theorem dX7_copyFrom_21 : decode cX7_copyFrom 21 = .ok (.getfield 15, 3) := by decide +kernel
theorem dX7_copyFrom_24 : decode cX7_copyFrom 24 = .ok (.iconst 0, 1) := by decide +kernel
theorem dX7_copyFrom_25 : decode cX7_copyFrom 25 = .ok (.bipush 6, 2) := by decide +kernel
theorem dX7_copyFrom_27 : decode cX7_copyFrom 27 = .ok (.invokestatic 29, 3) := by decide +kernel
theorem dX7_copyFrom_30 : decode cX7_copyFrom 30 = .ok (.aload_n 1, 1) := by decide +kernel
theorem dX7_copyFrom_31 : decode cX7_copyFrom 31 = .ok (.getfield 18, 3) := by decide +kernel
theorem dX7_copyFrom_34 : decode cX7_copyFrom 34 = .ok (.iconst 0, 1) := by decide +kernel
theorem dX7_copyFrom_35 : decode cX7_copyFrom 35 = .ok (.aload_n 0, 1) := by decide +kernel
theorem dX7_copyFrom_36 : decode cX7_copyFrom 36 = .ok (.getfield 18, 3) := by decide +kernel
theorem dX7_copyFrom_39 : decode cX7_copyFrom 39 = .ok (.iconst 0, 1) := by decide +kernel
theorem dX7_copyFrom_40 : decode cX7_copyFrom 40 = .ok (.bipush 6, 2) := by decide +kernel
theorem dX7_copyFrom_42 : decode cX7_copyFrom 42 = .ok (.invokestatic 29, 3) := by decide +kernel
theorem dX7_copyFrom_45 : decode cX7_copyFrom 45 = .ok (.aload_n 0, 1) := by decide +kernel
theorem dX7_copyFrom_46 : decode cX7_copyFrom 46 = .ok (.aload_n 1, 1) := by decide +kernel
theorem dX7_copyFrom_47 : decode cX7_copyFrom 47 = .ok (.getfield 21, 3) := by decide +kernel
theorem dX7_copyFrom_50 : decode cX7_copyFrom 50 = .ok (.putfield 21, 3) := by decide +kernel
theorem dX7_copyFrom_53 : decode cX7_copyFrom 53 = .ok (.return_, 1) := by decide +kernel
theorem dX8_init_0 : decode cX8_init 0 = .ok (.aload_n 0, 1) := by decide +kernel
theorem dX8_init_1 : decode cX8_init 1 = .ok (.invokespecial 1, 3) := by decide +kernel
theorem dX8_init_4 : decode cX8_init 4 = .ok (.aload_n 0, 1) := by decide +kernel
theorem dX8_init_5 : decode cX8_init 5 = .ok (.new 7, 3) := by decide +kernel
theorem dX8_init_8 : decode cX8_init 8 = .ok (.dup, 1) := by decide +kernel
theorem dX8_init_9 : decode cX8_init 9 = .ok (.invokespecial 9, 3) := by decide +kernel
theorem dX8_init_12 : decode cX8_init 12 = .ok (.putfield 10, 3) := by decide +kernel
theorem dX8_init_15 : decode cX8_init 15 = .ok (.aload_n 0, 1) := by decide +kernel
theorem dX8_init_16 : decode cX8_init 16 = .ok (.new 7, 3) := by decide +kernel
theorem dX8_init_19 : decode cX8_init 19 = .ok (.dup, 1) := by decide +kernel
theorem dX8_init_20 : decode cX8_init 20 = .ok (.invokespecial 9, 3) := by decide +kernel
theorem dX8_init_23 : decode cX8_init 23 = .ok (.putfield 16, 3) := by decide +kernel
theorem dX8_init_26 : decode cX8_init 26 = .ok (.aload_n 0, 1) := by decide +kernel
theorem dX8_init_27 : decode cX8_init 27 = .ok (.new 19, 3) := by decide +kernel
theorem dX8_init_30 : decode cX8_init 30 = .ok (.dup, 1) := by decide +kernel
theorem dX8_init_31 : decode cX8_init 31 = .ok (.invokespecial 21, 3) := by decide +kernel
theorem dX8_init_34 : decode cX8_init 34 = .ok (.putfield 22, 3) := by decide +kernel
theorem dX8_init_37 : decode cX8_init 37 = .ok (.aload_n 0, 1) := by decide +kernel
theorem dX8_init_38 : decode cX8_init 38 = .ok (.new 26, 3) := by decide +kernel
theorem dX8_init_41 : decode cX8_init 41 = .ok (.dup, 1) := by decide +kernel
theorem dX8_init_42 : decode cX8_init 42 = .ok (.invokespecial 28, 3) := by decide +kernel
theorem dX8_init_45 : decode cX8_init 45 = .ok (.putfield 29, 3) := by decide +kernel
theorem dX8_init_48 : decode cX8_init 48 = .ok (.return_, 1) := by decide +kernel
theorem dX8_addEnvelope_0 : decode cX8_addEnvelope 0 = .ok (.aload_n 0, 1) := by decide +kernel
theorem dX8_addEnvelope_1 : decode cX8_addEnvelope 1 = .ok (.aload_n 0, 1) := by decide +kernel
theorem dX8_addEnvelope_2 : decode cX8_addEnvelope 2 = .ok (.iconst 0, 1) := by decide +kernel
theorem dX8_addEnvelope_3 : decode cX8_addEnvelope 3 = .ok (.iload_n 1, 1) := by decide +kernel
theorem dX8_addEnvelope_4 : decode cX8_addEnvelope 4 = .ok (.iload_n 2, 1) := by decide +kernel
theorem dX8_addEnvelope_5 : decode cX8_addEnvelope 5 = .ok (.iconst 0, 1) := by decide +kernel
theorem dX8_addEnvelope_6 : decode cX8_addEnvelope 6 = .ok (.iconst 0, 1) := by decide +kernel
theorem dX8_addEnvelope_7 : decode cX8_addEnvelope 7 = .ok (.invokevirtual 33, 3) := by decide +kernel
theorem dX8_addEnvelope_10 : decode cX8_addEnvelope 10 = .ok (.invokevirtual 37, 3) := by decide +kernel
theorem dX8_addEnvelope_13 : decode cX8_addEnvelope 13 = .ok (.ireturn, 1) := by decide +kernel
theorem dX8_setCap_0 : decode cX8_setCap 0 = .ok (.aload_n 0, 1) := by decide +kernel
theorem dX8_setCap_1 : decode cX8_setCap 1 = .ok (.aload_n 0, 1) := by decide +kernel
theorem dX8_setCap_2 : decode cX8_setCap 2 = .ok (.iconst 1, 1) := by decide +kernel
theorem dX8_setCap_3 : decode cX8_setCap 3 = .ok (.iload_n 1, 1) := by decide +kernel
theorem dX8_setCap_4 : decode cX8_setCap 4 = .ok (.iload_n 2, 1) := by decide +kernel
theorem dX8_setCap_5 : decode cX8_setCap 5 = .ok (.iconst 0, 1) := by decide +kernel
theorem dX8_setCap_6 : decode cX8_setCap 6 = .ok (.iconst 0, 1) := by decide +kernel
theorem dX8_setCap_7 : decode cX8_setCap 7 = .ok (.invokevirtual 33, 3) := by decide +kernel
theorem dX8_setCap_10 : decode cX8_setCap 10 = .ok (.invokevirtual 37, 3) := by decide +kernel
theorem dX8_setCap_13 : decode cX8_setCap 13 = .ok (.ireturn, 1) := by decide +kernel
theorem dX8_setRollover_0 : decode cX8_setRollover 0 = .ok (.aload_n 0, 1) := by decide +kernel
theorem dX8_setRollover_1 : decode cX8_setRollover 1 = .ok (.aload_n 0, 1) := by decide +kernel
theorem dX8_setRollover_2 : decode cX8_setRollover 2 = .ok (.iconst 2, 1) := by decide +kernel
theorem dX8_setRollover_3 : decode cX8_setRollover 3 = .ok (.iload_n 1, 1) := by decide +kernel
theorem dX8_setRollover_4 : decode cX8_setRollover 4 = .ok (.iload_n 2, 1) := by decide +kernel
theorem dX8_setRollover_5 : decode cX8_setRollover 5 = .ok (.iconst 0, 1) := by decide +kernel
theorem dX8_setRollover_6 : decode cX8_setRollover 6 = .ok (.iconst 0, 1) := by decide +kernel
theorem dX8_setRollover_7 : decode cX8_setRollover 7 = .ok (.invokevirtual 33, 3) := by decide +kernel
theorem dX8_setRollover_10 : decode cX8_setRollover 10 = .ok (.invokevirtual 37, 3) := by decide +kernel
theorem dX8_setRollover_13 : decode cX8_setRollover 13 = .ok (.ireturn, 1) := by decide +kernel
theorem dX8_addRule_0 : decode cX8_addRule 0 = .ok (.aload_n 0, 1) := by decide +kernel
theorem dX8_addRule_1 : decode cX8_addRule 1 = .ok (.aload_n 0, 1) := by decide +kernel
theorem dX8_addRule_2 : decode cX8_addRule 2 = .ok (.iconst 3, 1) := by decide +kernel
theorem dX8_addRule_3 : decode cX8_addRule 3 = .ok (.iload_n 1, 1) := by decide +kernel
theorem dX8_addRule_4 : decode cX8_addRule 4 = .ok (.iload_n 2, 1) := by decide +kernel
theorem dX8_addRule_5 : decode cX8_addRule 5 = .ok (.iload_n 3, 1) := by decide +kernel
theorem dX8_addRule_6 : decode cX8_addRule 6 = .ok (.iconst 0, 1) := by decide +kernel
theorem dX8_addRule_7 : decode cX8_addRule 7 = .ok (.invokevirtual 33, 3) := by decide +kernel
theorem dX8_addRule_10 : decode cX8_addRule 10 = .ok (.invokevirtual 37, 3) := by decide +kernel
theorem dX8_addRule_13 : decode cX8_addRule 13 = .ok (.ireturn, 1) := by decide +kernel
theorem dX8_removeRule_0 : decode cX8_removeRule 0 = .ok (.aload_n 0, 1) := by decide +kernel
theorem dX8_removeRule_1 : decode cX8_removeRule 1 = .ok (.aload_n 0, 1) := by decide +kernel
theorem dX8_removeRule_2 : decode cX8_removeRule 2 = .ok (.iconst 4, 1) := by decide +kernel
theorem dX8_removeRule_3 : decode cX8_removeRule 3 = .ok (.iload_n 1, 1) := by decide +kernel
theorem dX8_removeRule_4 : decode cX8_removeRule 4 = .ok (.iconst 0, 1) := by decide +kernel
theorem dX8_removeRule_5 : decode cX8_removeRule 5 = .ok (.iconst 0, 1) := by decide +kernel
theorem dX8_removeRule_6 : decode cX8_removeRule 6 = .ok (.iconst 0, 1) := by decide +kernel
theorem dX8_removeRule_7 : decode cX8_removeRule 7 = .ok (.invokevirtual 33, 3) := by decide +kernel
theorem dX8_removeRule_10 : decode cX8_removeRule 10 = .ok (.invokevirtual 37, 3) := by decide +kernel
theorem dX8_removeRule_13 : decode cX8_removeRule 13 = .ok (.ireturn, 1) := by decide +kernel
theorem dX8_addLink_0 : decode cX8_addLink 0 = .ok (.aload_n 0, 1) := by decide +kernel
theorem dX8_addLink_1 : decode cX8_addLink 1 = .ok (.aload_n 0, 1) := by decide +kernel
theorem dX8_addLink_2 : decode cX8_addLink 2 = .ok (.iconst 5, 1) := by decide +kernel
theorem dX8_addLink_3 : decode cX8_addLink 3 = .ok (.iload_n 1, 1) := by decide +kernel
theorem dX8_addLink_4 : decode cX8_addLink 4 = .ok (.iload_n 2, 1) := by decide +kernel
theorem dX8_addLink_5 : decode cX8_addLink 5 = .ok (.iload_n 3, 1) := by decide +kernel
theorem dX8_addLink_6 : decode cX8_addLink 6 = .ok (.iload 4, 2) := by decide +kernel
theorem dX8_addLink_8 : decode cX8_addLink 8 = .ok (.invokevirtual 33, 3) := by decide +kernel
theorem dX8_addLink_11 : decode cX8_addLink 11 = .ok (.invokevirtual 37, 3) := by decide +kernel
theorem dX8_addLink_14 : decode cX8_addLink 14 = .ok (.ireturn, 1) := by decide +kernel
theorem dX8_removeLink_0 : decode cX8_removeLink 0 = .ok (.aload_n 0, 1) := by decide +kernel
theorem dX8_removeLink_1 : decode cX8_removeLink 1 = .ok (.aload_n 0, 1) := by decide +kernel
theorem dX8_removeLink_2 : decode cX8_removeLink 2 = .ok (.bipush 6, 2) := by decide +kernel
theorem dX8_removeLink_4 : decode cX8_removeLink 4 = .ok (.iload_n 1, 1) := by decide +kernel
theorem dX8_removeLink_5 : decode cX8_removeLink 5 = .ok (.iconst 0, 1) := by decide +kernel
theorem dX8_removeLink_6 : decode cX8_removeLink 6 = .ok (.iconst 0, 1) := by decide +kernel
theorem dX8_removeLink_7 : decode cX8_removeLink 7 = .ok (.iconst 0, 1) := by decide +kernel
theorem dX8_removeLink_8 : decode cX8_removeLink 8 = .ok (.invokevirtual 33, 3) := by decide +kernel
theorem dX8_removeLink_11 : decode cX8_removeLink 11 = .ok (.invokevirtual 37, 3) := by decide +kernel
theorem dX8_removeLink_14 : decode cX8_removeLink 14 = .ok (.ireturn, 1) := by decide +kernel
theorem dX8_addItem_0 : decode cX8_addItem 0 = .ok (.aload_n 0, 1) := by decide +kernel
theorem dX8_addItem_1 : decode cX8_addItem 1 = .ok (.aload_n 0, 1) := by decide +kernel
theorem dX8_addItem_2 : decode cX8_addItem 2 = .ok (.bipush 7, 2) := by decide +kernel
theorem dX8_addItem_4 : decode cX8_addItem 4 = .ok (.iload_n 1, 1) := by decide +kernel
theorem dX8_addItem_5 : decode cX8_addItem 5 = .ok (.iload_n 2, 1) := by decide +kernel
theorem dX8_addItem_6 : decode cX8_addItem 6 = .ok (.iload_n 3, 1) := by decide +kernel
theorem dX8_addItem_7 : decode cX8_addItem 7 = .ok (.iload 4, 2) := by decide +kernel
theorem dX8_addItem_9 : decode cX8_addItem 9 = .ok (.invokevirtual 33, 3) := by decide +kernel
theorem dX8_addItem_12 : decode cX8_addItem 12 = .ok (.invokevirtual 37, 3) := by decide +kernel
theorem dX8_addItem_15 : decode cX8_addItem 15 = .ok (.ireturn, 1) := by decide +kernel
theorem dX8_removeItem_0 : decode cX8_removeItem 0 = .ok (.aload_n 0, 1) := by decide +kernel
theorem dX8_removeItem_1 : decode cX8_removeItem 1 = .ok (.aload_n 0, 1) := by decide +kernel
theorem dX8_removeItem_2 : decode cX8_removeItem 2 = .ok (.bipush 8, 2) := by decide +kernel
theorem dX8_removeItem_4 : decode cX8_removeItem 4 = .ok (.iload_n 1, 1) := by decide +kernel
theorem dX8_removeItem_5 : decode cX8_removeItem 5 = .ok (.iconst 0, 1) := by decide +kernel
theorem dX8_removeItem_6 : decode cX8_removeItem 6 = .ok (.iconst 0, 1) := by decide +kernel
theorem dX8_removeItem_7 : decode cX8_removeItem 7 = .ok (.iconst 0, 1) := by decide +kernel
theorem dX8_removeItem_8 : decode cX8_removeItem 8 = .ok (.invokevirtual 33, 3) := by decide +kernel
theorem dX8_removeItem_11 : decode cX8_removeItem 11 = .ok (.invokevirtual 37, 3) := by decide +kernel
theorem dX8_removeItem_14 : decode cX8_removeItem 14 = .ok (.ireturn, 1) := by decide +kernel
theorem dX8_receive_0 : decode cX8_receive 0 = .ok (.aload_n 0, 1) := by decide +kernel
theorem dX8_receive_1 : decode cX8_receive 1 = .ok (.aload_n 0, 1) := by decide +kernel
theorem dX8_receive_2 : decode cX8_receive 2 = .ok (.bipush 9, 2) := by decide +kernel
theorem dX8_receive_4 : decode cX8_receive 4 = .ok (.iload_n 1, 1) := by decide +kernel
theorem dX8_receive_5 : decode cX8_receive 5 = .ok (.iconst 0, 1) := by decide +kernel
theorem dX8_receive_6 : decode cX8_receive 6 = .ok (.iconst 0, 1) := by decide +kernel
theorem dX8_receive_7 : decode cX8_receive 7 = .ok (.iconst 0, 1) := by decide +kernel
theorem dX8_receive_8 : decode cX8_receive 8 = .ok (.invokevirtual 33, 3) := by decide +kernel
theorem dX8_receive_11 : decode cX8_receive 11 = .ok (.invokevirtual 37, 3) := by decide +kernel
theorem dX8_receive_14 : decode cX8_receive 14 = .ok (.ireturn, 1) := by decide +kernel
theorem dX8_spend_0 : decode cX8_spend 0 = .ok (.aload_n 0, 1) := by decide +kernel
theorem dX8_spend_1 : decode cX8_spend 1 = .ok (.aload_n 0, 1) := by decide +kernel
theorem dX8_spend_2 : decode cX8_spend 2 = .ok (.bipush 10, 2) := by decide +kernel
theorem dX8_spend_4 : decode cX8_spend 4 = .ok (.iload_n 1, 1) := by decide +kernel
theorem dX8_spend_5 : decode cX8_spend 5 = .ok (.iload_n 2, 1) := by decide +kernel
theorem dX8_spend_6 : decode cX8_spend 6 = .ok (.iconst 0, 1) := by decide +kernel
theorem dX8_spend_7 : decode cX8_spend 7 = .ok (.iconst 0, 1) := by decide +kernel
theorem dX8_spend_8 : decode cX8_spend 8 = .ok (.invokevirtual 33, 3) := by decide +kernel
theorem dX8_spend_11 : decode cX8_spend 11 = .ok (.invokevirtual 37, 3) := by decide +kernel
theorem dX8_spend_14 : decode cX8_spend 14 = .ok (.ireturn, 1) := by decide +kernel
theorem dX8_move_0 : decode cX8_move 0 = .ok (.aload_n 0, 1) := by decide +kernel
theorem dX8_move_1 : decode cX8_move 1 = .ok (.aload_n 0, 1) := by decide +kernel
theorem dX8_move_2 : decode cX8_move 2 = .ok (.bipush 11, 2) := by decide +kernel
theorem dX8_move_4 : decode cX8_move 4 = .ok (.iload_n 1, 1) := by decide +kernel
theorem dX8_move_5 : decode cX8_move 5 = .ok (.iload_n 2, 1) := by decide +kernel
theorem dX8_move_6 : decode cX8_move 6 = .ok (.iload_n 3, 1) := by decide +kernel
theorem dX8_move_7 : decode cX8_move 7 = .ok (.iconst 0, 1) := by decide +kernel
theorem dX8_move_8 : decode cX8_move 8 = .ok (.invokevirtual 33, 3) := by decide +kernel
theorem dX8_move_11 : decode cX8_move 11 = .ok (.invokevirtual 37, 3) := by decide +kernel
theorem dX8_move_14 : decode cX8_move 14 = .ok (.ireturn, 1) := by decide +kernel
theorem dX8_advance_0 : decode cX8_advance 0 = .ok (.aload_n 0, 1) := by decide +kernel
theorem dX8_advance_1 : decode cX8_advance 1 = .ok (.aload_n 0, 1) := by decide +kernel
theorem dX8_advance_2 : decode cX8_advance 2 = .ok (.bipush 12, 2) := by decide +kernel
theorem dX8_advance_4 : decode cX8_advance 4 = .ok (.iload_n 1, 1) := by decide +kernel
theorem dX8_advance_5 : decode cX8_advance 5 = .ok (.iconst 0, 1) := by decide +kernel
theorem dX8_advance_6 : decode cX8_advance 6 = .ok (.iconst 0, 1) := by decide +kernel
theorem dX8_advance_7 : decode cX8_advance 7 = .ok (.iconst 0, 1) := by decide +kernel
theorem dX8_advance_8 : decode cX8_advance 8 = .ok (.invokevirtual 33, 3) := by decide +kernel
theorem dX8_advance_11 : decode cX8_advance 11 = .ok (.invokevirtual 37, 3) := by decide +kernel
theorem dX8_advance_14 : decode cX8_advance 14 = .ok (.ireturn, 1) := by decide +kernel
theorem dX8_tryStep_0 : decode cX8_tryStep 0 = .ok (.aload_n 0, 1) := by decide +kernel
theorem dX8_tryStep_1 : decode cX8_tryStep 1 = .ok (.getfield 10, 3) := by decide +kernel
theorem dX8_tryStep_4 : decode cX8_tryStep 4 = .ok (.invokevirtual 41, 3) := by decide +kernel
theorem dX8_tryStep_7 : decode cX8_tryStep 7 = .ok (.astore 6, 2) := by decide +kernel
theorem dX8_tryStep_9 : decode cX8_tryStep 9 = .ok (.aload 6, 2) := by decide +kernel
theorem dX8_tryStep_11 : decode cX8_tryStep 11 = .ok (.getfield 45, 3) := by decide +kernel
theorem dX8_tryStep_14 : decode cX8_tryStep 14 = .ok (.iload_n 1, 1) := by decide +kernel
theorem dX8_tryStep_15 : decode cX8_tryStep 15 = .ok (.iload_n 2, 1) := by decide +kernel
theorem dX8_tryStep_16 : decode cX8_tryStep 16 = .ok (.iload_n 3, 1) := by decide +kernel
theorem dX8_tryStep_17 : decode cX8_tryStep 17 = .ok (.iload 4, 2) := by decide +kernel
theorem dX8_tryStep_19 : decode cX8_tryStep 19 = .ok (.iload 5, 2) := by decide +kernel
theorem dX8_tryStep_21 : decode cX8_tryStep 21 = .ok (.aload 6, 2) := by decide +kernel
theorem dX8_tryStep_23 : decode cX8_tryStep 23 = .ok (.getfield 50, 3) := by decide +kernel
theorem dX8_tryStep_26 : decode cX8_tryStep 26 = .ok (.bipush 60, 2) := by decide +kernel
theorem dX8_tryStep_28 : decode cX8_tryStep 28 = .ok (.if_icmp .lt 7, 3) := by decide +kernel
theorem dX8_tryStep_31 : decode cX8_tryStep 31 = .ok (.iconst 1, 1) := by decide +kernel
theorem dX8_tryStep_32 : decode cX8_tryStep 32 = .ok (.goto 4, 3) := by decide +kernel
theorem dX8_tryStep_35 : decode cX8_tryStep 35 = .ok (.iconst 0, 1) := by decide +kernel
theorem dX8_tryStep_36 : decode cX8_tryStep 36 = .ok (.invokevirtual 54, 3) := by decide +kernel
theorem dX8_tryStep_39 : decode cX8_tryStep 39 = .ok (.istore 7, 2) := by decide +kernel
theorem dX8_tryStep_41 : decode cX8_tryStep 41 = .ok (.iload 7, 2) := by decide +kernel
theorem dX8_tryStep_43 : decode cX8_tryStep 43 = .ok (.ifCond .eq 12, 3) := by decide +kernel
theorem dX8_tryStep_46 : decode cX8_tryStep 46 = .ok (.aload_n 0, 1) := by decide +kernel
theorem dX8_tryStep_47 : decode cX8_tryStep 47 = .ok (.iload 7, 2) := by decide +kernel
theorem dX8_tryStep_49 : decode cX8_tryStep 49 = .ok (.putfield 58, 3) := by decide +kernel
theorem dX8_tryStep_52 : decode cX8_tryStep 52 = .ok (.iload 7, 2) := by decide +kernel
theorem dX8_tryStep_54 : decode cX8_tryStep 54 = .ok (.ireturn, 1) := by decide +kernel
theorem dX8_tryStep_55 : decode cX8_tryStep 55 = .ok (.aload_n 0, 1) := by decide +kernel
theorem dX8_tryStep_56 : decode cX8_tryStep 56 = .ok (.aload 6, 2) := by decide +kernel
theorem dX8_tryStep_58 : decode cX8_tryStep 58 = .ok (.getfield 45, 3) := by decide +kernel
theorem dX8_tryStep_61 : decode cX8_tryStep 61 = .ok (.iload_n 1, 1) := by decide +kernel
theorem dX8_tryStep_62 : decode cX8_tryStep 62 = .ok (.iload_n 2, 1) := by decide +kernel
theorem dX8_tryStep_63 : decode cX8_tryStep 63 = .ok (.iload_n 3, 1) := by decide +kernel
theorem dX8_tryStep_64 : decode cX8_tryStep 64 = .ok (.iload 4, 2) := by decide +kernel
theorem dX8_tryStep_66 : decode cX8_tryStep 66 = .ok (.iload 5, 2) := by decide +kernel
theorem dX8_tryStep_68 : decode cX8_tryStep 68 = .ok (.invokevirtual 61, 3) := by decide +kernel
theorem dX8_tryStep_71 : decode cX8_tryStep 71 = .ok (.putfield 64, 3) := by decide +kernel
theorem dX8_tryStep_74 : decode cX8_tryStep 74 = .ok (.aload 6, 2) := by decide +kernel
theorem dX8_tryStep_76 : decode cX8_tryStep 76 = .ok (.iload_n 1, 1) := by decide +kernel
theorem dX8_tryStep_77 : decode cX8_tryStep 77 = .ok (.iload_n 2, 1) := by decide +kernel
theorem dX8_tryStep_78 : decode cX8_tryStep 78 = .ok (.iload_n 3, 1) := by decide +kernel
theorem dX8_tryStep_79 : decode cX8_tryStep 79 = .ok (.iload 4, 2) := by decide +kernel
theorem dX8_tryStep_81 : decode cX8_tryStep 81 = .ok (.iload 5, 2) := by decide +kernel
theorem dX8_tryStep_83 : decode cX8_tryStep 83 = .ok (.invokevirtual 67, 3) := by decide +kernel
theorem dX8_tryStep_86 : decode cX8_tryStep 86 = .ok (.iconst 0, 1) := by decide +kernel
theorem dX8_tryStep_87 : decode cX8_tryStep 87 = .ok (.ireturn, 1) := by decide +kernel
theorem dX8_answerTo_0 : decode cX8_answerTo 0 = .ok (.iload_n 1, 1) := by decide +kernel
theorem dX8_answerTo_1 : decode cX8_answerTo 1 = .ok (.tableswitch 66 0 3 #[31, 36, 46, 56], 31) := by decide +kernel
theorem dX8_answerTo_32 : decode cX8_answerTo 32 = .ok (.aload_n 0, 1) := by decide +kernel
theorem dX8_answerTo_33 : decode cX8_answerTo 33 = .ok (.getfield 64, 3) := by decide +kernel
theorem dX8_answerTo_36 : decode cX8_answerTo 36 = .ok (.ireturn, 1) := by decide +kernel
theorem dX8_answerTo_37 : decode cX8_answerTo 37 = .ok (.new 71, 3) := by decide +kernel
theorem dX8_answerTo_40 : decode cX8_answerTo 40 = .ok (.dup, 1) := by decide +kernel
theorem dX8_answerTo_41 : decode cX8_answerTo 41 = .ok (.ldc 73, 2) := by decide +kernel
theorem dX8_answerTo_43 : decode cX8_answerTo 43 = .ok (.invokespecial 75, 3) := by decide +kernel
theorem dX8_answerTo_46 : decode cX8_answerTo 46 = .ok (.athrow, 1) := by decide +kernel
theorem dX8_answerTo_47 : decode cX8_answerTo 47 = .ok (.new 78, 3) := by decide +kernel
theorem dX8_answerTo_50 : decode cX8_answerTo 50 = .ok (.dup, 1) := by decide +kernel
theorem dX8_answerTo_51 : decode cX8_answerTo 51 = .ok (.ldc 80, 2) := by decide +kernel
theorem dX8_answerTo_53 : decode cX8_answerTo 53 = .ok (.invokespecial 82, 3) := by decide +kernel
theorem dX8_answerTo_56 : decode cX8_answerTo 56 = .ok (.athrow, 1) := by decide +kernel
theorem dX8_answerTo_57 : decode cX8_answerTo 57 = .ok (.new 83, 3) := by decide +kernel
theorem dX8_answerTo_60 : decode cX8_answerTo 60 = .ok (.dup, 1) := by decide +kernel
theorem dX8_answerTo_61 : decode cX8_answerTo 61 = .ok (.ldc 85, 2) := by decide +kernel
theorem dX8_answerTo_63 : decode cX8_answerTo 63 = .ok (.invokespecial 87, 3) := by decide +kernel
theorem dX8_answerTo_66 : decode cX8_answerTo 66 = .ok (.athrow, 1) := by decide +kernel
theorem dX8_answerTo_67 : decode cX8_answerTo 67 = .ok (.new 83, 3) := by decide +kernel
theorem dX8_answerTo_70 : decode cX8_answerTo 70 = .ok (.dup, 1) := by decide +kernel
theorem dX8_answerTo_71 : decode cX8_answerTo 71 = .ok (.ldc 88, 2) := by decide +kernel
theorem dX8_answerTo_73 : decode cX8_answerTo 73 = .ok (.invokespecial 87, 3) := by decide +kernel
theorem dX8_answerTo_76 : decode cX8_answerTo 76 = .ok (.athrow, 1) := by decide +kernel
theorem dX8_envelope_0 : decode cX8_envelope 0 = .ok (.aload_n 0, 1) := by decide +kernel
theorem dX8_envelope_1 : decode cX8_envelope 1 = .ok (.getfield 10, 3) := by decide +kernel
theorem dX8_envelope_4 : decode cX8_envelope 4 = .ok (.invokevirtual 41, 3) := by decide +kernel
theorem dX8_envelope_7 : decode cX8_envelope 7 = .ok (.getfield 45, 3) := by decide +kernel
theorem dX8_envelope_10 : decode cX8_envelope 10 = .ok (.getfield 90, 3) := by decide +kernel
theorem dX8_envelope_13 : decode cX8_envelope 13 = .ok (.astore_n 3, 1) := by decide +kernel
theorem dX8_envelope_14 : decode cX8_envelope 14 = .ok (.aload_n 3, 1) := by decide +kernel
theorem dX8_envelope_15 : decode cX8_envelope 15 = .ok (.iload_n 1, 1) := by decide +kernel
theorem dX8_envelope_16 : decode cX8_envelope 16 = .ok (.invokevirtual 94, 3) := by decide +kernel
theorem dX8_envelope_19 : decode cX8_envelope 19 = .ok (.invokestatic 100, 3) := by decide +kernel
theorem dX8_envelope_22 : decode cX8_envelope 22 = .ok (.iload_n 2, 1) := by decide +kernel
theorem dX8_envelope_23 : decode cX8_envelope 23 = .ok (.iconst 0, 1) := by decide +kernel
theorem dX8_envelope_24 : decode cX8_envelope 24 = .ok (.iconst 4, 1) := by decide +kernel
theorem dX8_envelope_25 : decode cX8_envelope 25 = .ok (.invokestatic 104, 3) := by decide +kernel
theorem dX8_envelope_28 : decode cX8_envelope 28 = .ok (.invokestatic 108, 3) := by decide +kernel
theorem dX8_envelope_31 : decode cX8_envelope 31 = .ok (.aload_n 3, 1) := by decide +kernel
theorem dX8_envelope_32 : decode cX8_envelope 32 = .ok (.iload_n 1, 1) := by decide +kernel
theorem dX8_envelope_33 : decode cX8_envelope 33 = .ok (.iload_n 2, 1) := by decide +kernel
theorem dX8_envelope_34 : decode cX8_envelope 34 = .ok (.invokevirtual 111, 3) := by decide +kernel
theorem dX8_envelope_37 : decode cX8_envelope 37 = .ok (.lreturn, 1) := by decide +kernel
theorem dX8_rule_0 : decode cX8_rule 0 = .ok (.aload_n 0, 1) := by decide +kernel
theorem dX8_rule_1 : decode cX8_rule 1 = .ok (.getfield 10, 3) := by decide +kernel
theorem dX8_rule_4 : decode cX8_rule 4 = .ok (.invokevirtual 41, 3) := by decide +kernel
theorem dX8_rule_7 : decode cX8_rule 7 = .ok (.getfield 45, 3) := by decide +kernel
theorem dX8_rule_10 : decode cX8_rule 10 = .ok (.getfield 115, 3) := by decide +kernel
theorem dX8_rule_13 : decode cX8_rule 13 = .ok (.astore_n 3, 1) := by decide +kernel
theorem dX8_rule_14 : decode cX8_rule 14 = .ok (.aload_n 3, 1) := by decide +kernel
theorem dX8_rule_15 : decode cX8_rule 15 = .ok (.iload_n 1, 1) := by decide +kernel
theorem dX8_rule_16 : decode cX8_rule 16 = .ok (.invokevirtual 119, 3) := by decide +kernel
theorem dX8_rule_19 : decode cX8_rule 19 = .ok (.invokestatic 100, 3) := by decide +kernel
theorem dX8_rule_22 : decode cX8_rule 22 = .ok (.iload_n 2, 1) := by decide +kernel
theorem dX8_rule_23 : decode cX8_rule 23 = .ok (.iconst 0, 1) := by decide +kernel
theorem dX8_rule_24 : decode cX8_rule 24 = .ok (.iconst 2, 1) := by decide +kernel
theorem dX8_rule_25 : decode cX8_rule 25 = .ok (.invokestatic 104, 3) := by decide +kernel
theorem dX8_rule_28 : decode cX8_rule 28 = .ok (.invokestatic 108, 3) := by decide +kernel
theorem dX8_rule_31 : decode cX8_rule 31 = .ok (.aload_n 3, 1) := by decide +kernel
theorem dX8_rule_32 : decode cX8_rule 32 = .ok (.iload_n 1, 1) := by decide +kernel
theorem dX8_rule_33 : decode cX8_rule 33 = .ok (.iload_n 2, 1) := by decide +kernel
theorem dX8_rule_34 : decode cX8_rule 34 = .ok (.invokevirtual 122, 3) := by decide +kernel
theorem dX8_rule_37 : decode cX8_rule 37 = .ok (.ireturn, 1) := by decide +kernel
theorem dX8_split_0 : decode cX8_split 0 = .ok (.aload_n 0, 1) := by decide +kernel
theorem dX8_split_1 : decode cX8_split 1 = .ok (.getfield 10, 3) := by decide +kernel
theorem dX8_split_4 : decode cX8_split 4 = .ok (.invokevirtual 41, 3) := by decide +kernel
theorem dX8_split_7 : decode cX8_split 7 = .ok (.getfield 45, 3) := by decide +kernel
theorem dX8_split_10 : decode cX8_split 10 = .ok (.astore_n 3, 1) := by decide +kernel
theorem dX8_split_11 : decode cX8_split 11 = .ok (.aload_n 3, 1) := by decide +kernel
theorem dX8_split_12 : decode cX8_split 12 = .ok (.iload_n 1, 1) := by decide +kernel
theorem dX8_split_13 : decode cX8_split 13 = .ok (.invokevirtual 125, 3) := by decide +kernel
theorem dX8_split_16 : decode cX8_split 16 = .ok (.invokestatic 100, 3) := by decide +kernel
theorem dX8_split_19 : decode cX8_split 19 = .ok (.iload_n 2, 1) := by decide +kernel
theorem dX8_split_20 : decode cX8_split 20 = .ok (.iconst 1, 1) := by decide +kernel
theorem dX8_split_21 : decode cX8_split 21 = .ok (.ldc 128, 2) := by decide +kernel
theorem dX8_split_23 : decode cX8_split 23 = .ok (.invokestatic 104, 3) := by decide +kernel
theorem dX8_split_26 : decode cX8_split 26 = .ok (.invokestatic 108, 3) := by decide +kernel
theorem dX8_split_29 : decode cX8_split 29 = .ok (.aload_n 0, 1) := by decide +kernel
theorem dX8_split_30 : decode cX8_split 30 = .ok (.getfield 22, 3) := by decide +kernel
theorem dX8_split_33 : decode cX8_split 33 = .ok (.aload_n 3, 1) := by decide +kernel
theorem dX8_split_34 : decode cX8_split 34 = .ok (.invokevirtual 129, 3) := by decide +kernel
theorem dX8_split_37 : decode cX8_split 37 = .ok (.aload_n 0, 1) := by decide +kernel
theorem dX8_split_38 : decode cX8_split 38 = .ok (.getfield 22, 3) := by decide +kernel
theorem dX8_split_41 : decode cX8_split 41 = .ok (.iload_n 2, 1) := by decide +kernel
theorem dX8_split_42 : decode cX8_split 42 = .ok (.invokevirtual 133, 3) := by decide +kernel
theorem dX8_split_45 : decode cX8_split 45 = .ok (.pop2, 1) := by decide +kernel
theorem dX8_split_46 : decode cX8_split 46 = .ok (.aload_n 0, 1) := by decide +kernel
theorem dX8_split_47 : decode cX8_split 47 = .ok (.getfield 22, 3) := by decide +kernel
theorem dX8_split_50 : decode cX8_split 50 = .ok (.iload_n 1, 1) := by decide +kernel
theorem dX8_split_51 : decode cX8_split 51 = .ok (.invokevirtual 137, 3) := by decide +kernel
theorem dX8_split_54 : decode cX8_split 54 = .ok (.aload_n 3, 1) := by decide +kernel
theorem dX8_split_55 : decode cX8_split 55 = .ok (.iload_n 1, 1) := by decide +kernel
theorem dX8_split_56 : decode cX8_split 56 = .ok (.invokevirtual 137, 3) := by decide +kernel
theorem dX8_split_59 : decode cX8_split 59 = .ok (.lsub, 1) := by decide +kernel
theorem dX8_split_60 : decode cX8_split 60 = .ok (.l2i, 1) := by decide +kernel
theorem dX8_split_61 : decode cX8_split 61 = .ok (.ireturn, 1) := by decide +kernel
theorem dX8_link_0 : decode cX8_link 0 = .ok (.aload_n 0, 1) := by decide +kernel
theorem dX8_link_1 : decode cX8_link 1 = .ok (.getfield 10, 3) := by decide +kernel
theorem dX8_link_4 : decode cX8_link 4 = .ok (.invokevirtual 41, 3) := by decide +kernel
theorem dX8_link_7 : decode cX8_link 7 = .ok (.getfield 45, 3) := by decide +kernel
theorem dX8_link_10 : decode cX8_link 10 = .ok (.getfield 140, 3) := by decide +kernel
theorem dX8_link_13 : decode cX8_link 13 = .ok (.astore_n 3, 1) := by decide +kernel
theorem dX8_link_14 : decode cX8_link 14 = .ok (.aload_n 3, 1) := by decide +kernel
theorem dX8_link_15 : decode cX8_link 15 = .ok (.iload_n 1, 1) := by decide +kernel
theorem dX8_link_16 : decode cX8_link 16 = .ok (.invokevirtual 144, 3) := by decide +kernel
theorem dX8_link_19 : decode cX8_link 19 = .ok (.invokestatic 100, 3) := by decide +kernel
theorem dX8_link_22 : decode cX8_link 22 = .ok (.iload_n 2, 1) := by decide +kernel
theorem dX8_link_23 : decode cX8_link 23 = .ok (.iconst 0, 1) := by decide +kernel
theorem dX8_link_24 : decode cX8_link 24 = .ok (.iconst 4, 1) := by decide +kernel
theorem dX8_link_25 : decode cX8_link 25 = .ok (.invokestatic 104, 3) := by decide +kernel
theorem dX8_link_28 : decode cX8_link 28 = .ok (.invokestatic 108, 3) := by decide +kernel
theorem dX8_link_31 : decode cX8_link 31 = .ok (.aload_n 3, 1) := by decide +kernel
theorem dX8_link_32 : decode cX8_link 32 = .ok (.iload_n 1, 1) := by decide +kernel
theorem dX8_link_33 : decode cX8_link 33 = .ok (.iload_n 2, 1) := by decide +kernel
theorem dX8_link_34 : decode cX8_link 34 = .ok (.invokevirtual 147, 3) := by decide +kernel
theorem dX8_link_37 : decode cX8_link 37 = .ok (.lreturn, 1) := by decide +kernel
theorem dX8_item_0 : decode cX8_item 0 = .ok (.aload_n 0, 1) := by decide +kernel
theorem dX8_item_1 : decode cX8_item 1 = .ok (.getfield 10, 3) := by decide +kernel
theorem dX8_item_4 : decode cX8_item 4 = .ok (.invokevirtual 41, 3) := by decide +kernel
theorem dX8_item_7 : decode cX8_item 7 = .ok (.getfield 45, 3) := by decide +kernel
theorem dX8_item_10 : decode cX8_item 10 = .ok (.getfield 148, 3) := by decide +kernel
theorem dX8_item_13 : decode cX8_item 13 = .ok (.astore_n 3, 1) := by decide +kernel
theorem dX8_item_14 : decode cX8_item 14 = .ok (.aload_n 3, 1) := by decide +kernel
theorem dX8_item_15 : decode cX8_item 15 = .ok (.iload_n 1, 1) := by decide +kernel
theorem dX8_item_16 : decode cX8_item 16 = .ok (.invokevirtual 152, 3) := by decide +kernel
theorem dX8_item_19 : decode cX8_item 19 = .ok (.invokestatic 100, 3) := by decide +kernel
theorem dX8_item_22 : decode cX8_item 22 = .ok (.iload_n 2, 1) := by decide +kernel
theorem dX8_item_23 : decode cX8_item 23 = .ok (.iconst 0, 1) := by decide +kernel
theorem dX8_item_24 : decode cX8_item 24 = .ok (.iconst 5, 1) := by decide +kernel
theorem dX8_item_25 : decode cX8_item 25 = .ok (.invokestatic 104, 3) := by decide +kernel
theorem dX8_item_28 : decode cX8_item 28 = .ok (.invokestatic 108, 3) := by decide +kernel
theorem dX8_item_31 : decode cX8_item 31 = .ok (.aload_n 3, 1) := by decide +kernel
theorem dX8_item_32 : decode cX8_item 32 = .ok (.iload_n 1, 1) := by decide +kernel
theorem dX8_item_33 : decode cX8_item 33 = .ok (.iload_n 2, 1) := by decide +kernel
theorem dX8_item_34 : decode cX8_item 34 = .ok (.invokevirtual 155, 3) := by decide +kernel
theorem dX8_item_37 : decode cX8_item 37 = .ok (.ireturn, 1) := by decide +kernel
theorem dX8_total_0 : decode cX8_total 0 = .ok (.iload_n 1, 1) := by decide +kernel
theorem dX8_total_1 : decode cX8_total 1 = .ok (.iconst 0, 1) := by decide +kernel
theorem dX8_total_2 : decode cX8_total 2 = .ok (.bipush 11, 2) := by decide +kernel
theorem dX8_total_4 : decode cX8_total 4 = .ok (.invokestatic 104, 3) := by decide +kernel
theorem dX8_total_7 : decode cX8_total 7 = .ok (.invokestatic 108, 3) := by decide +kernel
theorem dX8_total_10 : decode cX8_total 10 = .ok (.aload_n 0, 1) := by decide +kernel
theorem dX8_total_11 : decode cX8_total 11 = .ok (.getfield 10, 3) := by decide +kernel
theorem dX8_total_14 : decode cX8_total 14 = .ok (.invokevirtual 41, 3) := by decide +kernel
theorem dX8_total_17 : decode cX8_total 17 = .ok (.getfield 45, 3) := by decide +kernel
theorem dX8_total_20 : decode cX8_total 20 = .ok (.iload_n 1, 1) := by decide +kernel
theorem dX8_total_21 : decode cX8_total 21 = .ok (.invokevirtual 156, 3) := by decide +kernel
theorem dX8_total_24 : decode cX8_total 24 = .ok (.lreturn, 1) := by decide +kernel
theorem dX8_savedShare_0 : decode cX8_savedShare 0 = .ok (.aload_n 0, 1) := by decide +kernel
theorem dX8_savedShare_1 : decode cX8_savedShare 1 = .ok (.getfield 10, 3) := by decide +kernel
theorem dX8_savedShare_4 : decode cX8_savedShare 4 = .ok (.invokevirtual 41, 3) := by decide +kernel
theorem dX8_savedShare_7 : decode cX8_savedShare 7 = .ok (.getfield 45, 3) := by decide +kernel
theorem dX8_savedShare_10 : decode cX8_savedShare 10 = .ok (.astore_n 1, 1) := by decide +kernel
theorem dX8_savedShare_11 : decode cX8_savedShare 11 = .ok (.aload_n 1, 1) := by decide +kernel
theorem dX8_savedShare_12 : decode cX8_savedShare 12 = .ok (.getfield 158, 3) := by decide +kernel
theorem dX8_savedShare_15 : decode cX8_savedShare 15 = .ok (.lconst 0, 1) := by decide +kernel
theorem dX8_savedShare_16 : decode cX8_savedShare 16 = .ok (.lcmp, 1) := by decide +kernel
theorem dX8_savedShare_17 : decode cX8_savedShare 17 = .ok (.ifCond .ne 13, 3) := by decide +kernel
theorem dX8_savedShare_20 : decode cX8_savedShare 20 = .ok (.new 162, 3) := by decide +kernel
theorem dX8_savedShare_23 : decode cX8_savedShare 23 = .ok (.dup, 1) := by decide +kernel
theorem dX8_savedShare_24 : decode cX8_savedShare 24 = .ok (.ldc 164, 2) := by decide +kernel
theorem dX8_savedShare_26 : decode cX8_savedShare 26 = .ok (.invokespecial 166, 3) := by decide +kernel
theorem dX8_savedShare_29 : decode cX8_savedShare 29 = .ok (.athrow, 1) := by decide +kernel
theorem dX8_savedShare_30 : decode cX8_savedShare 30 = .ok (.aload_n 1, 1) := by decide +kernel
theorem dX8_savedShare_31 : decode cX8_savedShare 31 = .ok (.getfield 158, 3) := by decide +kernel
theorem dX8_savedShare_34 : decode cX8_savedShare 34 = .ok (.aload_n 1, 1) := by decide +kernel
theorem dX8_savedShare_35 : decode cX8_savedShare 35 = .ok (.getfield 167, 3) := by decide +kernel
theorem dX8_savedShare_38 : decode cX8_savedShare 38 = .ok (.lsub, 1) := by decide +kernel
theorem dX8_savedShare_39 : decode cX8_savedShare 39 = .ok (.l2d, 1) := by decide +kernel
theorem dX8_savedShare_40 : decode cX8_savedShare 40 = .ok (.aload_n 1, 1) := by decide +kernel
theorem dX8_savedShare_41 : decode cX8_savedShare 41 = .ok (.getfield 158, 3) := by decide +kernel
theorem dX8_savedShare_44 : decode cX8_savedShare 44 = .ok (.l2d, 1) := by decide +kernel
theorem dX8_savedShare_45 : decode cX8_savedShare 45 = .ok (.ddiv, 1) := by decide +kernel
theorem dX8_savedShare_46 : decode cX8_savedShare 46 = .ok (.dreturn, 1) := by decide +kernel
theorem dX8_forecast_0 : decode cX8_forecast 0 = .ok (.iload_n 1, 1) := by decide +kernel
theorem dX8_forecast_1 : decode cX8_forecast 1 = .ok (.iconst 1, 1) := by decide +kernel
theorem dX8_forecast_2 : decode cX8_forecast 2 = .ok (.sipush 200, 3) := by decide +kernel
theorem dX8_forecast_5 : decode cX8_forecast 5 = .ok (.invokestatic 104, 3) := by decide +kernel
theorem dX8_forecast_8 : decode cX8_forecast 8 = .ok (.ifCond .eq 17, 3) := by decide +kernel
theorem dX8_forecast_11 : decode cX8_forecast 11 = .ok (.iload_n 2, 1) := by decide +kernel
theorem dX8_forecast_12 : decode cX8_forecast 12 = .ok (.iconst 0, 1) := by decide +kernel
theorem dX8_forecast_13 : decode cX8_forecast 13 = .ok (.bipush 9, 2) := by decide +kernel
theorem dX8_forecast_15 : decode cX8_forecast 15 = .ok (.invokestatic 104, 3) := by decide +kernel
theorem dX8_forecast_18 : decode cX8_forecast 18 = .ok (.ifCond .eq 7, 3) := by decide +kernel
theorem dX8_forecast_21 : decode cX8_forecast 21 = .ok (.iconst 1, 1) := by decide +kernel
theorem dX8_forecast_22 : decode cX8_forecast 22 = .ok (.goto 4, 3) := by decide +kernel
theorem dX8_forecast_25 : decode cX8_forecast 25 = .ok (.iconst 0, 1) := by decide +kernel
theorem dX8_forecast_26 : decode cX8_forecast 26 = .ok (.invokestatic 108, 3) := by decide +kernel
theorem dX8_forecast_29 : decode cX8_forecast 29 = .ok (.aload_n 0, 1) := by decide +kernel
theorem dX8_forecast_30 : decode cX8_forecast 30 = .ok (.getfield 22, 3) := by decide +kernel
theorem dX8_forecast_33 : decode cX8_forecast 33 = .ok (.aload_n 0, 1) := by decide +kernel
theorem dX8_forecast_34 : decode cX8_forecast 34 = .ok (.getfield 10, 3) := by decide +kernel
theorem dX8_forecast_37 : decode cX8_forecast 37 = .ok (.invokevirtual 41, 3) := by decide +kernel
theorem dX8_forecast_40 : decode cX8_forecast 40 = .ok (.getfield 45, 3) := by decide +kernel
theorem dX8_forecast_43 : decode cX8_forecast 43 = .ok (.invokevirtual 129, 3) := by decide +kernel
theorem dX8_forecast_46 : decode cX8_forecast 46 = .ok (.lconst 0, 1) := by decide +kernel
theorem dX8_forecast_47 : decode cX8_forecast 47 = .ok (.lstore_n 3, 1) := by decide +kernel
theorem dX8_forecast_48 : decode cX8_forecast 48 = .ok (.iconst 0, 1) := by decide +kernel
theorem dX8_forecast_49 : decode cX8_forecast 49 = .ok (.istore 5, 2) := by decide +kernel
theorem dX8_forecast_51 : decode cX8_forecast 51 = .ok (.iconst 1, 1) := by decide +kernel
theorem dX8_forecast_52 : decode cX8_forecast 52 = .ok (.istore 6, 2) := by decide +kernel
theorem dX8_forecast_54 : decode cX8_forecast 54 = .ok (.iload 6, 2) := by decide +kernel
theorem dX8_forecast_56 : decode cX8_forecast 56 = .ok (.iload_n 1, 1) := by decide +kernel
theorem dX8_forecast_57 : decode cX8_forecast 57 = .ok (.if_icmp .gt 61, 3) := by decide +kernel
theorem dX8_forecast_60 : decode cX8_forecast 60 = .ok (.aload_n 0, 1) := by decide +kernel
theorem dX8_forecast_61 : decode cX8_forecast 61 = .ok (.getfield 22, 3) := by decide +kernel
theorem dX8_forecast_64 : decode cX8_forecast 64 = .ok (.iconst 1, 1) := by decide +kernel
theorem dX8_forecast_65 : decode cX8_forecast 65 = .ok (.invokevirtual 170, 3) := by decide +kernel
theorem dX8_forecast_68 : decode cX8_forecast 68 = .ok (.istore 7, 2) := by decide +kernel
theorem dX8_forecast_70 : decode cX8_forecast 70 = .ok (.iload 6, 2) := by decide +kernel
theorem dX8_forecast_72 : decode cX8_forecast 72 = .ok (.iconst 1, 1) := by decide +kernel
theorem dX8_forecast_73 : decode cX8_forecast 73 = .ok (.if_icmp .ne 13, 3) := by decide +kernel
theorem dX8_forecast_76 : decode cX8_forecast 76 = .ok (.aload_n 0, 1) := by decide +kernel
theorem dX8_forecast_77 : decode cX8_forecast 77 = .ok (.getfield 22, 3) := by decide +kernel
theorem dX8_forecast_80 : decode cX8_forecast 80 = .ok (.getfield 173, 3) := by decide +kernel
theorem dX8_forecast_83 : decode cX8_forecast 83 = .ok (.goto 14, 3) := by decide +kernel
theorem dX8_forecast_86 : decode cX8_forecast 86 = .ok (.lload_n 3, 1) := by decide +kernel
theorem dX8_forecast_87 : decode cX8_forecast 87 = .ok (.aload_n 0, 1) := by decide +kernel
theorem dX8_forecast_88 : decode cX8_forecast 88 = .ok (.getfield 22, 3) := by decide +kernel
theorem dX8_forecast_91 : decode cX8_forecast 91 = .ok (.getfield 173, 3) := by decide +kernel
theorem dX8_forecast_94 : decode cX8_forecast 94 = .ok (.invokestatic 176, 3) := by decide +kernel
theorem dX8_forecast_97 : decode cX8_forecast 97 = .ok (.lstore_n 3, 1) := by decide +kernel
theorem dX8_forecast_98 : decode cX8_forecast 98 = .ok (.iload 7, 2) := by decide +kernel
theorem dX8_forecast_100 : decode cX8_forecast 100 = .ok (.ifCond .le 12, 3) := by decide +kernel
theorem dX8_forecast_103 : decode cX8_forecast 103 = .ok (.iload 5, 2) := by decide +kernel
theorem dX8_forecast_105 : decode cX8_forecast 105 = .ok (.ifCond .ne 7, 3) := by decide +kernel
theorem dX8_forecast_108 : decode cX8_forecast 108 = .ok (.iload 6, 2) := by decide +kernel
theorem dX8_forecast_110 : decode cX8_forecast 110 = .ok (.istore 5, 2) := by decide +kernel
theorem dX8_forecast_112 : decode cX8_forecast 112 = .ok (.iinc 6 1, 3) := by decide +kernel
theorem dX8_forecast_115 : decode cX8_forecast 115 = .ok (.goto (-61), 3) := by decide +kernel
theorem dX8_forecast_118 : decode cX8_forecast 118 = .ok (.iload_n 2, 1) := by decide +kernel
theorem dX8_forecast_119 : decode cX8_forecast 119 = .ok (.lookupswitch 31 #[(8, 25), (9, 27)], 25) := by decide +kernel
theorem dX8_forecast_144 : decode cX8_forecast 144 = .ok (.lload_n 3, 1) := by decide +kernel
theorem dX8_forecast_145 : decode cX8_forecast 145 = .ok (.lreturn, 1) := by decide +kernel
theorem dX8_forecast_146 : decode cX8_forecast 146 = .ok (.iload 5, 2) := by decide +kernel
theorem dX8_forecast_148 : decode cX8_forecast 148 = .ok (.i2l, 1) := by decide +kernel
theorem dX8_forecast_149 : decode cX8_forecast 149 = .ok (.lreturn, 1) := by decide +kernel
theorem dX8_forecast_150 : decode cX8_forecast 150 = .ok (.aload_n 0, 1) := by decide +kernel
theorem dX8_forecast_151 : decode cX8_forecast 151 = .ok (.getfield 22, 3) := by decide +kernel
theorem dX8_forecast_154 : decode cX8_forecast 154 = .ok (.iload_n 2, 1) := by decide +kernel
theorem dX8_forecast_155 : decode cX8_forecast 155 = .ok (.invokevirtual 156, 3) := by decide +kernel
theorem dX8_forecast_158 : decode cX8_forecast 158 = .ok (.lreturn, 1) := by decide +kernel
theorem dX8_daysUntil_0 : decode cX8_daysUntil 0 = .ok (.aload_n 0, 1) := by decide +kernel
theorem dX8_daysUntil_1 : decode cX8_daysUntil 1 = .ok (.getfield 10, 3) := by decide +kernel
theorem dX8_daysUntil_4 : decode cX8_daysUntil 4 = .ok (.invokevirtual 41, 3) := by decide +kernel
theorem dX8_daysUntil_7 : decode cX8_daysUntil 7 = .ok (.getfield 45, 3) := by decide +kernel
theorem dX8_daysUntil_10 : decode cX8_daysUntil 10 = .ok (.astore_n 3, 1) := by decide +kernel
theorem dX8_daysUntil_11 : decode cX8_daysUntil 11 = .ok (.aload_n 3, 1) := by decide +kernel
theorem dX8_daysUntil_12 : decode cX8_daysUntil 12 = .ok (.getfield 90, 3) := by decide +kernel
theorem dX8_daysUntil_15 : decode cX8_daysUntil 15 = .ok (.iload_n 1, 1) := by decide +kernel
theorem dX8_daysUntil_16 : decode cX8_daysUntil 16 = .ok (.invokevirtual 94, 3) := by decide +kernel
theorem dX8_daysUntil_19 : decode cX8_daysUntil 19 = .ok (.invokestatic 100, 3) := by decide +kernel
theorem dX8_daysUntil_22 : decode cX8_daysUntil 22 = .ok (.iload_n 2, 1) := by decide +kernel
theorem dX8_daysUntil_23 : decode cX8_daysUntil 23 = .ok (.iconst 0, 1) := by decide +kernel
theorem dX8_daysUntil_24 : decode cX8_daysUntil 24 = .ok (.ldc 182, 2) := by decide +kernel
theorem dX8_daysUntil_26 : decode cX8_daysUntil 26 = .ok (.invokestatic 104, 3) := by decide +kernel
theorem dX8_daysUntil_29 : decode cX8_daysUntil 29 = .ok (.invokestatic 108, 3) := by decide +kernel
theorem dX8_daysUntil_32 : decode cX8_daysUntil 32 = .ok (.aload_n 0, 1) := by decide +kernel
theorem dX8_daysUntil_33 : decode cX8_daysUntil 33 = .ok (.getfield 22, 3) := by decide +kernel
theorem dX8_daysUntil_36 : decode cX8_daysUntil 36 = .ok (.aload_n 3, 1) := by decide +kernel
theorem dX8_daysUntil_37 : decode cX8_daysUntil 37 = .ok (.invokevirtual 129, 3) := by decide +kernel
theorem dX8_daysUntil_40 : decode cX8_daysUntil 40 = .ok (.iconst 0, 1) := by decide +kernel
theorem dX8_daysUntil_41 : decode cX8_daysUntil 41 = .ok (.istore 4, 2) := by decide +kernel
theorem dX8_daysUntil_43 : decode cX8_daysUntil 43 = .ok (.iload 4, 2) := by decide +kernel
theorem dX8_daysUntil_45 : decode cX8_daysUntil 45 = .ok (.sipush 200, 3) := by decide +kernel
theorem dX8_daysUntil_48 : decode cX8_daysUntil 48 = .ok (.if_icmp .gt 35, 3) := by decide +kernel
theorem dX8_daysUntil_51 : decode cX8_daysUntil 51 = .ok (.aload_n 0, 1) := by decide +kernel
theorem dX8_daysUntil_52 : decode cX8_daysUntil 52 = .ok (.getfield 22, 3) := by decide +kernel
theorem dX8_daysUntil_55 : decode cX8_daysUntil 55 = .ok (.iload_n 1, 1) := by decide +kernel
theorem dX8_daysUntil_56 : decode cX8_daysUntil 56 = .ok (.invokevirtual 137, 3) := by decide +kernel
theorem dX8_daysUntil_59 : decode cX8_daysUntil 59 = .ok (.iload_n 2, 1) := by decide +kernel
theorem dX8_daysUntil_60 : decode cX8_daysUntil 60 = .ok (.i2l, 1) := by decide +kernel
theorem dX8_daysUntil_61 : decode cX8_daysUntil 61 = .ok (.lcmp, 1) := by decide +kernel
theorem dX8_daysUntil_62 : decode cX8_daysUntil 62 = .ok (.ifCond .lt 6, 3) := by decide +kernel
theorem dX8_daysUntil_65 : decode cX8_daysUntil 65 = .ok (.iload 4, 2) := by decide +kernel
theorem dX8_daysUntil_67 : decode cX8_daysUntil 67 = .ok (.ireturn, 1) := by decide +kernel
theorem dX8_daysUntil_68 : decode cX8_daysUntil 68 = .ok (.aload_n 0, 1) := by decide +kernel
theorem dX8_daysUntil_69 : decode cX8_daysUntil 69 = .ok (.getfield 22, 3) := by decide +kernel
theorem dX8_daysUntil_72 : decode cX8_daysUntil 72 = .ok (.iconst 1, 1) := by decide +kernel
theorem dX8_daysUntil_73 : decode cX8_daysUntil 73 = .ok (.invokevirtual 170, 3) := by decide +kernel
theorem dX8_daysUntil_76 : decode cX8_daysUntil 76 = .ok (.pop, 1) := by decide +kernel
theorem dX8_daysUntil_77 : decode cX8_daysUntil 77 = .ok (.iinc 4 1, 3) := by decide +kernel
theorem dX8_daysUntil_80 : decode cX8_daysUntil 80 = .ok (.goto (-37), 3) := by decide +kernel
theorem dX8_daysUntil_83 : decode cX8_daysUntil 83 = .ok (.new 183, 3) := by decide +kernel
theorem dX8_daysUntil_86 : decode cX8_daysUntil 86 = .ok (.dup, 1) := by decide +kernel
theorem dX8_daysUntil_87 : decode cX8_daysUntil 87 = .ok (.ldc 185, 2) := by decide +kernel
theorem dX8_daysUntil_89 : decode cX8_daysUntil 89 = .ok (.invokespecial 187, 3) := by decide +kernel
theorem dX8_daysUntil_92 : decode cX8_daysUntil 92 = .ok (.athrow, 1) := by decide +kernel
theorem dX8_spare_0 : decode cX8_spare 0 = .ok (.aload_n 0, 1) := by decide +kernel
theorem dX8_spare_1 : decode cX8_spare 1 = .ok (.getfield 10, 3) := by decide +kernel
theorem dX8_spare_4 : decode cX8_spare 4 = .ok (.invokevirtual 41, 3) := by decide +kernel
theorem dX8_spare_7 : decode cX8_spare 7 = .ok (.getfield 45, 3) := by decide +kernel
theorem dX8_spare_10 : decode cX8_spare 10 = .ok (.getfield 90, 3) := by decide +kernel
theorem dX8_spare_13 : decode cX8_spare 13 = .ok (.iload_n 1, 1) := by decide +kernel
theorem dX8_spare_14 : decode cX8_spare 14 = .ok (.invokevirtual 94, 3) := by decide +kernel
theorem dX8_spare_17 : decode cX8_spare 17 = .ok (.invokestatic 100, 3) := by decide +kernel
theorem dX8_spare_20 : decode cX8_spare 20 = .ok (.iload_n 2, 1) := by decide +kernel
theorem dX8_spare_21 : decode cX8_spare 21 = .ok (.iconst 1, 1) := by decide +kernel
theorem dX8_spare_22 : decode cX8_spare 22 = .ok (.bipush 60, 2) := by decide +kernel
theorem dX8_spare_24 : decode cX8_spare 24 = .ok (.invokestatic 104, 3) := by decide +kernel
theorem dX8_spare_27 : decode cX8_spare 27 = .ok (.invokestatic 108, 3) := by decide +kernel
theorem dX8_spare_30 : decode cX8_spare 30 = .ok (.iconst 0, 1) := by decide +kernel
theorem dX8_spare_31 : decode cX8_spare 31 = .ok (.istore_n 3, 1) := by decide +kernel
theorem dX8_spare_32 : decode cX8_spare 32 = .ok (.ldc 188, 2) := by decide +kernel
theorem dX8_spare_34 : decode cX8_spare 34 = .ok (.istore 4, 2) := by decide +kernel
theorem dX8_spare_36 : decode cX8_spare 36 = .ok (.iconst 0, 1) := by decide +kernel
theorem dX8_spare_37 : decode cX8_spare 37 = .ok (.istore 5, 2) := by decide +kernel
theorem dX8_spare_39 : decode cX8_spare 39 = .ok (.iload 5, 2) := by decide +kernel
theorem dX8_spare_41 : decode cX8_spare 41 = .ok (.bipush 32, 2) := by decide +kernel
theorem dX8_spare_43 : decode cX8_spare 43 = .ok (.if_icmp .ge 46, 3) := by decide +kernel
theorem dX8_spare_46 : decode cX8_spare 46 = .ok (.iload 4, 2) := by decide +kernel
theorem dX8_spare_48 : decode cX8_spare 48 = .ok (.iload_n 3, 1) := by decide +kernel
theorem dX8_spare_49 : decode cX8_spare 49 = .ok (.iconst 1, 1) := by decide +kernel
theorem dX8_spare_50 : decode cX8_spare 50 = .ok (.iadd, 1) := by decide +kernel
theorem dX8_spare_51 : decode cX8_spare 51 = .ok (.if_icmp .le 38, 3) := by decide +kernel
theorem dX8_spare_54 : decode cX8_spare 54 = .ok (.iload_n 3, 1) := by decide +kernel
theorem dX8_spare_55 : decode cX8_spare 55 = .ok (.iload 4, 2) := by decide +kernel
theorem dX8_spare_57 : decode cX8_spare 57 = .ok (.iadd, 1) := by decide +kernel
theorem dX8_spare_58 : decode cX8_spare 58 = .ok (.iconst 2, 1) := by decide +kernel
theorem dX8_spare_59 : decode cX8_spare 59 = .ok (.idiv, 1) := by decide +kernel
theorem dX8_spare_60 : decode cX8_spare 60 = .ok (.istore 6, 2) := by decide +kernel
theorem dX8_spare_62 : decode cX8_spare 62 = .ok (.aload_n 0, 1) := by decide +kernel
theorem dX8_spare_63 : decode cX8_spare 63 = .ok (.iload_n 1, 1) := by decide +kernel
theorem dX8_spare_64 : decode cX8_spare 64 = .ok (.iload 6, 2) := by decide +kernel
theorem dX8_spare_66 : decode cX8_spare 66 = .ok (.iload_n 2, 1) := by decide +kernel
theorem dX8_spare_67 : decode cX8_spare 67 = .ok (.invokevirtual 189, 3) := by decide +kernel
theorem dX8_spare_70 : decode cX8_spare 70 = .ok (.ifCond .eq 9, 3) := by decide +kernel
theorem dX8_spare_73 : decode cX8_spare 73 = .ok (.iload 6, 2) := by decide +kernel
theorem dX8_spare_75 : decode cX8_spare 75 = .ok (.istore_n 3, 1) := by decide +kernel
theorem dX8_spare_76 : decode cX8_spare 76 = .ok (.goto 7, 3) := by decide +kernel
theorem dX8_spare_79 : decode cX8_spare 79 = .ok (.iload 6, 2) := by decide +kernel
theorem dX8_spare_81 : decode cX8_spare 81 = .ok (.istore 4, 2) := by decide +kernel
theorem dX8_spare_83 : decode cX8_spare 83 = .ok (.iinc 5 1, 3) := by decide +kernel
theorem dX8_spare_86 : decode cX8_spare 86 = .ok (.goto (-47), 3) := by decide +kernel
theorem dX8_spare_89 : decode cX8_spare 89 = .ok (.iload_n 3, 1) := by decide +kernel
theorem dX8_spare_90 : decode cX8_spare 90 = .ok (.ireturn, 1) := by decide +kernel
theorem dX8_canSpare_0 : decode cX8_canSpare 0 = .ok (.aload_n 0, 1) := by decide +kernel
theorem dX8_canSpare_1 : decode cX8_canSpare 1 = .ok (.getfield 22, 3) := by decide +kernel
theorem dX8_canSpare_4 : decode cX8_canSpare 4 = .ok (.aload_n 0, 1) := by decide +kernel
theorem dX8_canSpare_5 : decode cX8_canSpare 5 = .ok (.getfield 10, 3) := by decide +kernel
theorem dX8_canSpare_8 : decode cX8_canSpare 8 = .ok (.invokevirtual 41, 3) := by decide +kernel
theorem dX8_canSpare_11 : decode cX8_canSpare 11 = .ok (.getfield 45, 3) := by decide +kernel
theorem dX8_canSpare_14 : decode cX8_canSpare 14 = .ok (.invokevirtual 129, 3) := by decide +kernel
theorem dX8_canSpare_17 : decode cX8_canSpare 17 = .ok (.aload_n 0, 1) := by decide +kernel
theorem dX8_canSpare_18 : decode cX8_canSpare 18 = .ok (.getfield 22, 3) := by decide +kernel
theorem dX8_canSpare_21 : decode cX8_canSpare 21 = .ok (.iload_n 1, 1) := by decide +kernel
theorem dX8_canSpare_22 : decode cX8_canSpare 22 = .ok (.iload_n 2, 1) := by decide +kernel
theorem dX8_canSpare_23 : decode cX8_canSpare 23 = .ok (.invokevirtual 192, 3) := by decide +kernel
theorem dX8_canSpare_26 : decode cX8_canSpare 26 = .ok (.ifCond .ne 5, 3) := by decide +kernel
theorem dX8_canSpare_29 : decode cX8_canSpare 29 = .ok (.iconst 0, 1) := by decide +kernel
theorem dX8_canSpare_30 : decode cX8_canSpare 30 = .ok (.ireturn, 1) := by decide +kernel
theorem dX8_canSpare_31 : decode cX8_canSpare 31 = .ok (.aload_n 0, 1) := by decide +kernel
theorem dX8_canSpare_32 : decode cX8_canSpare 32 = .ok (.getfield 22, 3) := by decide +kernel
theorem dX8_canSpare_35 : decode cX8_canSpare 35 = .ok (.iload_n 1, 1) := by decide +kernel
theorem dX8_canSpare_36 : decode cX8_canSpare 36 = .ok (.iload_n 2, 1) := by decide +kernel
theorem dX8_canSpare_37 : decode cX8_canSpare 37 = .ok (.invokevirtual 196, 3) := by decide +kernel
theorem dX8_canSpare_40 : decode cX8_canSpare 40 = .ok (.pop2, 1) := by decide +kernel
theorem dX8_canSpare_41 : decode cX8_canSpare 41 = .ok (.aload_n 0, 1) := by decide +kernel
theorem dX8_canSpare_42 : decode cX8_canSpare 42 = .ok (.getfield 22, 3) := by decide +kernel
theorem dX8_canSpare_45 : decode cX8_canSpare 45 = .ok (.invokevirtual 199, 3) := by decide +kernel
theorem dX8_canSpare_48 : decode cX8_canSpare 48 = .ok (.iconst 0, 1) := by decide +kernel
theorem dX8_canSpare_49 : decode cX8_canSpare 49 = .ok (.istore 4, 2) := by decide +kernel
theorem dX8_canSpare_51 : decode cX8_canSpare 51 = .ok (.iload 4, 2) := by decide +kernel
theorem dX8_canSpare_53 : decode cX8_canSpare 53 = .ok (.iload_n 3, 1) := by decide +kernel
theorem dX8_canSpare_54 : decode cX8_canSpare 54 = .ok (.if_icmp .ge 22, 3) := by decide +kernel
theorem dX8_canSpare_57 : decode cX8_canSpare 57 = .ok (.aload_n 0, 1) := by decide +kernel
theorem dX8_canSpare_58 : decode cX8_canSpare 58 = .ok (.getfield 22, 3) := by decide +kernel
theorem dX8_canSpare_61 : decode cX8_canSpare 61 = .ok (.iconst 1, 1) := by decide +kernel
theorem dX8_canSpare_62 : decode cX8_canSpare 62 = .ok (.invokevirtual 170, 3) := by decide +kernel
theorem dX8_canSpare_65 : decode cX8_canSpare 65 = .ok (.ifCond .le 5, 3) := by decide +kernel
theorem dX8_canSpare_68 : decode cX8_canSpare 68 = .ok (.iconst 0, 1) := by decide +kernel
theorem dX8_canSpare_69 : decode cX8_canSpare 69 = .ok (.ireturn, 1) := by decide +kernel
theorem dX8_canSpare_70 : decode cX8_canSpare 70 = .ok (.iinc 4 1, 3) := by decide +kernel
theorem dX8_canSpare_73 : decode cX8_canSpare 73 = .ok (.goto (-22), 3) := by decide +kernel
theorem dX8_canSpare_76 : decode cX8_canSpare 76 = .ok (.iconst 1, 1) := by decide +kernel
theorem dX8_canSpare_77 : decode cX8_canSpare 77 = .ok (.ireturn, 1) := by decide +kernel
theorem dX8_fork_0 : decode cX8_fork 0 = .ok (.aload_n 0, 1) := by decide +kernel
theorem dX8_fork_1 : decode cX8_fork 1 = .ok (.getfield 10, 3) := by decide +kernel
theorem dX8_fork_4 : decode cX8_fork 4 = .ok (.invokevirtual 202, 3) := by decide +kernel
theorem dX8_fork_7 : decode cX8_fork 7 = .ok (.istore_n 1, 1) := by decide +kernel
theorem dX8_fork_8 : decode cX8_fork 8 = .ok (.iload_n 1, 1) := by decide +kernel
theorem dX8_fork_9 : decode cX8_fork 9 = .ok (.iconst (-1), 1) := by decide +kernel
theorem dX8_fork_10 : decode cX8_fork 10 = .ok (.if_icmp .ne 13, 3) := by decide +kernel
theorem dX8_fork_13 : decode cX8_fork 13 = .ok (.new 83, 3) := by decide +kernel
theorem dX8_fork_16 : decode cX8_fork 16 = .ok (.dup, 1) := by decide +kernel
theorem dX8_fork_17 : decode cX8_fork 17 = .ok (.ldc 206, 2) := by decide +kernel
theorem dX8_fork_19 : decode cX8_fork 19 = .ok (.invokespecial 87, 3) := by decide +kernel
theorem dX8_fork_22 : decode cX8_fork 22 = .ok (.athrow, 1) := by decide +kernel
theorem dX8_fork_23 : decode cX8_fork 23 = .ok (.aload_n 0, 1) := by decide +kernel
theorem dX8_fork_24 : decode cX8_fork 24 = .ok (.getfield 10, 3) := by decide +kernel
theorem dX8_fork_27 : decode cX8_fork 27 = .ok (.iload_n 1, 1) := by decide +kernel
theorem dX8_fork_28 : decode cX8_fork 28 = .ok (.invokevirtual 208, 3) := by decide +kernel
theorem dX8_fork_31 : decode cX8_fork 31 = .ok (.iload_n 1, 1) := by decide +kernel
theorem dX8_fork_32 : decode cX8_fork 32 = .ok (.ireturn, 1) := by decide +kernel
theorem dX8_select_0 : decode cX8_select 0 = .ok (.aload_n 0, 1) := by decide +kernel
theorem dX8_select_1 : decode cX8_select 1 = .ok (.getfield 10, 3) := by decide +kernel
theorem dX8_select_4 : decode cX8_select 4 = .ok (.iload_n 1, 1) := by decide +kernel
theorem dX8_select_5 : decode cX8_select 5 = .ok (.invokevirtual 212, 3) := by decide +kernel
theorem dX8_select_8 : decode cX8_select 8 = .ok (.ifnonnull 13, 3) := by decide +kernel
theorem dX8_select_11 : decode cX8_select 11 = .ok (.new 183, 3) := by decide +kernel
theorem dX8_select_14 : decode cX8_select 14 = .ok (.dup, 1) := by decide +kernel
theorem dX8_select_15 : decode cX8_select 15 = .ok (.ldc 216, 2) := by decide +kernel
theorem dX8_select_17 : decode cX8_select 17 = .ok (.invokespecial 187, 3) := by decide +kernel
theorem dX8_select_20 : decode cX8_select 20 = .ok (.athrow, 1) := by decide +kernel
theorem dX8_select_21 : decode cX8_select 21 = .ok (.aload_n 0, 1) := by decide +kernel
theorem dX8_select_22 : decode cX8_select 22 = .ok (.getfield 10, 3) := by decide +kernel
theorem dX8_select_25 : decode cX8_select 25 = .ok (.getfield 218, 3) := by decide +kernel
theorem dX8_select_28 : decode cX8_select 28 = .ok (.istore_n 2, 1) := by decide +kernel
theorem dX8_select_29 : decode cX8_select 29 = .ok (.aload_n 0, 1) := by decide +kernel
theorem dX8_select_30 : decode cX8_select 30 = .ok (.getfield 10, 3) := by decide +kernel
theorem dX8_select_33 : decode cX8_select 33 = .ok (.iload_n 1, 1) := by decide +kernel
theorem dX8_select_34 : decode cX8_select 34 = .ok (.putfield 218, 3) := by decide +kernel
theorem dX8_select_37 : decode cX8_select 37 = .ok (.iload_n 2, 1) := by decide +kernel
theorem dX8_select_38 : decode cX8_select 38 = .ok (.ireturn, 1) := by decide +kernel
theorem dX8_discard_0 : decode cX8_discard 0 = .ok (.aload_n 0, 1) := by decide +kernel
theorem dX8_discard_1 : decode cX8_discard 1 = .ok (.getfield 10, 3) := by decide +kernel
theorem dX8_discard_4 : decode cX8_discard 4 = .ok (.iload_n 1, 1) := by decide +kernel
theorem dX8_discard_5 : decode cX8_discard 5 = .ok (.invokevirtual 212, 3) := by decide +kernel
theorem dX8_discard_8 : decode cX8_discard 8 = .ok (.astore_n 2, 1) := by decide +kernel
theorem dX8_discard_9 : decode cX8_discard 9 = .ok (.aload_n 2, 1) := by decide +kernel
theorem dX8_discard_10 : decode cX8_discard 10 = .ok (.ifnonnull 13, 3) := by decide +kernel
theorem dX8_discard_13 : decode cX8_discard 13 = .ok (.new 183, 3) := by decide +kernel
theorem dX8_discard_16 : decode cX8_discard 16 = .ok (.dup, 1) := by decide +kernel
theorem dX8_discard_17 : decode cX8_discard 17 = .ok (.ldc 216, 2) := by decide +kernel
theorem dX8_discard_19 : decode cX8_discard 19 = .ok (.invokespecial 187, 3) := by decide +kernel
theorem dX8_discard_22 : decode cX8_discard 22 = .ok (.athrow, 1) := by decide +kernel
theorem dX8_discard_23 : decode cX8_discard 23 = .ok (.aload_n 0, 1) := by decide +kernel
theorem dX8_discard_24 : decode cX8_discard 24 = .ok (.getfield 10, 3) := by decide +kernel
theorem dX8_discard_27 : decode cX8_discard 27 = .ok (.iload_n 1, 1) := by decide +kernel
theorem dX8_discard_28 : decode cX8_discard 28 = .ok (.invokevirtual 221, 3) := by decide +kernel
theorem dX8_discard_31 : decode cX8_discard 31 = .ok (.ifCond .ne 13, 3) := by decide +kernel
theorem dX8_discard_34 : decode cX8_discard 34 = .ok (.new 83, 3) := by decide +kernel
theorem dX8_discard_37 : decode cX8_discard 37 = .ok (.dup, 1) := by decide +kernel
theorem dX8_discard_38 : decode cX8_discard 38 = .ok (.ldc 224, 2) := by decide +kernel
theorem dX8_discard_40 : decode cX8_discard 40 = .ok (.invokespecial 87, 3) := by decide +kernel
theorem dX8_discard_43 : decode cX8_discard 43 = .ok (.athrow, 1) := by decide +kernel
theorem dX8_discard_44 : decode cX8_discard 44 = .ok (.aload_n 2, 1) := by decide +kernel
theorem dX8_discard_45 : decode cX8_discard 45 = .ok (.iconst 0, 1) := by decide +kernel
theorem dX8_discard_46 : decode cX8_discard 46 = .ok (.putfield 226, 3) := by decide +kernel
theorem dX8_discard_49 : decode cX8_discard 49 = .ok (.aload_n 2, 1) := by decide +kernel
theorem dX8_discard_50 : decode cX8_discard 50 = .ok (.getfield 50, 3) := by decide +kernel
theorem dX8_discard_53 : decode cX8_discard 53 = .ok (.ireturn, 1) := by decide +kernel
theorem dX8_merge_0 : decode cX8_merge 0 = .ok (.aload_n 0, 1) := by decide +kernel
theorem dX8_merge_1 : decode cX8_merge 1 = .ok (.getfield 10, 3) := by decide +kernel
theorem dX8_merge_4 : decode cX8_merge 4 = .ok (.iload_n 1, 1) := by decide +kernel
theorem dX8_merge_5 : decode cX8_merge 5 = .ok (.invokevirtual 212, 3) := by decide +kernel
theorem dX8_merge_8 : decode cX8_merge 8 = .ok (.astore_n 2, 1) := by decide +kernel
theorem dX8_merge_9 : decode cX8_merge 9 = .ok (.aload_n 2, 1) := by decide +kernel
theorem dX8_merge_10 : decode cX8_merge 10 = .ok (.ifnonnull 13, 3) := by decide +kernel
theorem dX8_merge_13 : decode cX8_merge 13 = .ok (.new 183, 3) := by decide +kernel
theorem dX8_merge_16 : decode cX8_merge 16 = .ok (.dup, 1) := by decide +kernel
theorem dX8_merge_17 : decode cX8_merge 17 = .ok (.ldc 216, 2) := by decide +kernel
theorem dX8_merge_19 : decode cX8_merge 19 = .ok (.invokespecial 187, 3) := by decide +kernel
theorem dX8_merge_22 : decode cX8_merge 22 = .ok (.athrow, 1) := by decide +kernel
theorem dX8_merge_23 : decode cX8_merge 23 = .ok (.aload_n 0, 1) := by decide +kernel
theorem dX8_merge_24 : decode cX8_merge 24 = .ok (.getfield 10, 3) := by decide +kernel
theorem dX8_merge_27 : decode cX8_merge 27 = .ok (.aload_n 2, 1) := by decide +kernel
theorem dX8_merge_28 : decode cX8_merge 28 = .ok (.getfield 230, 3) := by decide +kernel
theorem dX8_merge_31 : decode cX8_merge 31 = .ok (.invokevirtual 212, 3) := by decide +kernel
theorem dX8_merge_34 : decode cX8_merge 34 = .ok (.astore_n 3, 1) := by decide +kernel
theorem dX8_merge_35 : decode cX8_merge 35 = .ok (.aload_n 3, 1) := by decide +kernel
theorem dX8_merge_36 : decode cX8_merge 36 = .ok (.ifnull 14, 3) := by decide +kernel
theorem dX8_merge_39 : decode cX8_merge 39 = .ok (.aload_n 0, 1) := by decide +kernel
theorem dX8_merge_40 : decode cX8_merge 40 = .ok (.getfield 10, 3) := by decide +kernel
theorem dX8_merge_43 : decode cX8_merge 43 = .ok (.iload_n 1, 1) := by decide +kernel
theorem dX8_merge_44 : decode cX8_merge 44 = .ok (.invokevirtual 221, 3) := by decide +kernel
theorem dX8_merge_47 : decode cX8_merge 47 = .ok (.ifCond .ne 13, 3) := by decide +kernel
theorem dX8_merge_50 : decode cX8_merge 50 = .ok (.new 83, 3) := by decide +kernel
theorem dX8_merge_53 : decode cX8_merge 53 = .ok (.dup, 1) := by decide +kernel
theorem dX8_merge_54 : decode cX8_merge 54 = .ok (.ldc 233, 2) := by decide +kernel
theorem dX8_merge_56 : decode cX8_merge 56 = .ok (.invokespecial 87, 3) := by decide +kernel
theorem dX8_merge_59 : decode cX8_merge 59 = .ok (.athrow, 1) := by decide +kernel
theorem dX8_merge_60 : decode cX8_merge 60 = .ok (.aload_n 0, 1) := by decide +kernel
theorem dX8_merge_61 : decode cX8_merge 61 = .ok (.getfield 22, 3) := by decide +kernel
theorem dX8_merge_64 : decode cX8_merge 64 = .ok (.aload_n 3, 1) := by decide +kernel
theorem dX8_merge_65 : decode cX8_merge 65 = .ok (.getfield 45, 3) := by decide +kernel
theorem dX8_merge_68 : decode cX8_merge 68 = .ok (.invokevirtual 129, 3) := by decide +kernel
theorem dX8_merge_71 : decode cX8_merge 71 = .ok (.aload_n 0, 1) := by decide +kernel
theorem dX8_merge_72 : decode cX8_merge 72 = .ok (.aload_n 2, 1) := by decide +kernel
theorem dX8_merge_73 : decode cX8_merge 73 = .ok (.iconst (-1), 1) := by decide +kernel
theorem dX8_merge_74 : decode cX8_merge 74 = .ok (.aload_n 3, 1) := by decide +kernel
theorem dX8_merge_75 : decode cX8_merge 75 = .ok (.getfield 50, 3) := by decide +kernel
theorem dX8_merge_78 : decode cX8_merge 78 = .ok (.invokevirtual 235, 3) := by decide +kernel
theorem dX8_merge_81 : decode cX8_merge 81 = .ok (.istore 4, 2) := by decide +kernel
theorem dX8_merge_83 : decode cX8_merge 83 = .ok (.iload 4, 2) := by decide +kernel
theorem dX8_merge_85 : decode cX8_merge 85 = .ok (.aload_n 2, 1) := by decide +kernel
theorem dX8_merge_86 : decode cX8_merge 86 = .ok (.getfield 50, 3) := by decide +kernel
theorem dX8_merge_89 : decode cX8_merge 89 = .ok (.if_icmp .ge 37, 3) := by decide +kernel
theorem dX8_merge_92 : decode cX8_merge 92 = .ok (.aload_n 0, 1) := by decide +kernel
theorem dX8_merge_93 : decode cX8_merge 93 = .ok (.iload 4, 2) := by decide +kernel
theorem dX8_merge_95 : decode cX8_merge 95 = .ok (.putfield 239, 3) := by decide +kernel
theorem dX8_merge_98 : decode cX8_merge 98 = .ok (.aload_n 0, 1) := by decide +kernel
theorem dX8_merge_99 : decode cX8_merge 99 = .ok (.aload_n 0, 1) := by decide +kernel
theorem dX8_merge_100 : decode cX8_merge 100 = .ok (.aload_n 2, 1) := by decide +kernel
theorem dX8_merge_101 : decode cX8_merge 101 = .ok (.iload 4, 2) := by decide +kernel
theorem dX8_merge_103 : decode cX8_merge 103 = .ok (.aload_n 3, 1) := by decide +kernel
theorem dX8_merge_104 : decode cX8_merge 104 = .ok (.getfield 50, 3) := by decide +kernel
theorem dX8_merge_107 : decode cX8_merge 107 = .ok (.iload 4, 2) := by decide +kernel
theorem dX8_merge_109 : decode cX8_merge 109 = .ok (.iadd, 1) := by decide +kernel
theorem dX8_merge_110 : decode cX8_merge 110 = .ok (.invokevirtual 242, 3) := by decide +kernel
theorem dX8_merge_113 : decode cX8_merge 113 = .ok (.putfield 245, 3) := by decide +kernel
theorem dX8_merge_116 : decode cX8_merge 116 = .ok (.new 248, 3) := by decide +kernel
theorem dX8_merge_119 : decode cX8_merge 119 = .ok (.dup, 1) := by decide +kernel
theorem dX8_merge_120 : decode cX8_merge 120 = .ok (.ldc 250, 2) := by decide +kernel
theorem dX8_merge_122 : decode cX8_merge 122 = .ok (.invokespecial 252, 3) := by decide +kernel
theorem dX8_merge_125 : decode cX8_merge 125 = .ok (.athrow, 1) := by decide +kernel
theorem dX8_merge_126 : decode cX8_merge 126 = .ok (.aload_n 3, 1) := by decide +kernel
theorem dX8_merge_127 : decode cX8_merge 127 = .ok (.getfield 45, 3) := by decide +kernel
theorem dX8_merge_130 : decode cX8_merge 130 = .ok (.aload_n 0, 1) := by decide +kernel
theorem dX8_merge_131 : decode cX8_merge 131 = .ok (.getfield 22, 3) := by decide +kernel
theorem dX8_merge_134 : decode cX8_merge 134 = .ok (.invokevirtual 129, 3) := by decide +kernel
theorem dX8_merge_137 : decode cX8_merge 137 = .ok (.aload_n 3, 1) := by decide +kernel
theorem dX8_merge_138 : decode cX8_merge 138 = .ok (.aload_n 2, 1) := by decide +kernel
theorem dX8_merge_139 : decode cX8_merge 139 = .ok (.invokevirtual 253, 3) := by decide +kernel
theorem dX8_merge_142 : decode cX8_merge 142 = .ok (.aload_n 2, 1) := by decide +kernel
theorem dX8_merge_143 : decode cX8_merge 143 = .ok (.iconst 0, 1) := by decide +kernel
theorem dX8_merge_144 : decode cX8_merge 144 = .ok (.putfield 226, 3) := by decide +kernel
theorem dX8_merge_147 : decode cX8_merge 147 = .ok (.iload 4, 2) := by decide +kernel
theorem dX8_merge_149 : decode cX8_merge 149 = .ok (.ireturn, 1) := by decide +kernel
theorem dX8_conflict_0 : decode cX8_conflict 0 = .ok (.aload_n 0, 1) := by decide +kernel
theorem dX8_conflict_1 : decode cX8_conflict 1 = .ok (.getfield 245, 3) := by decide +kernel
theorem dX8_conflict_4 : decode cX8_conflict 4 = .ok (.ifCond .ne 14, 3) := by decide +kernel
theorem dX8_conflict_7 : decode cX8_conflict 7 = .ok (.new 183, 3) := by decide +kernel
theorem dX8_conflict_10 : decode cX8_conflict 10 = .ok (.dup, 1) := by decide +kernel
theorem dX8_conflict_11 : decode cX8_conflict 11 = .ok (.ldc_w 257, 3) := by decide +kernel
theorem dX8_conflict_14 : decode cX8_conflict 14 = .ok (.invokespecial 187, 3) := by decide +kernel
theorem dX8_conflict_17 : decode cX8_conflict 17 = .ok (.athrow, 1) := by decide +kernel
theorem dX8_conflict_18 : decode cX8_conflict 18 = .ok (.iload_n 1, 1) := by decide +kernel
theorem dX8_conflict_19 : decode cX8_conflict 19 = .ok (.ifCond .eq 10, 3) := by decide +kernel
theorem dX8_conflict_22 : decode cX8_conflict 22 = .ok (.aload_n 0, 1) := by decide +kernel
theorem dX8_conflict_23 : decode cX8_conflict 23 = .ok (.getfield 245, 3) := by decide +kernel
theorem dX8_conflict_26 : decode cX8_conflict 26 = .ok (.goto 7, 3) := by decide +kernel
theorem dX8_conflict_29 : decode cX8_conflict 29 = .ok (.aload_n 0, 1) := by decide +kernel
theorem dX8_conflict_30 : decode cX8_conflict 30 = .ok (.getfield 239, 3) := by decide +kernel
theorem dX8_conflict_33 : decode cX8_conflict 33 = .ok (.ireturn, 1) := by decide +kernel
theorem dX8_branch_0 : decode cX8_branch 0 = .ok (.aload_n 0, 1) := by decide +kernel
theorem dX8_branch_1 : decode cX8_branch 1 = .ok (.getfield 10, 3) := by decide +kernel
theorem dX8_branch_4 : decode cX8_branch 4 = .ok (.iload_n 1, 1) := by decide +kernel
theorem dX8_branch_5 : decode cX8_branch 5 = .ok (.invokevirtual 212, 3) := by decide +kernel
theorem dX8_branch_8 : decode cX8_branch 8 = .ok (.astore_n 3, 1) := by decide +kernel
theorem dX8_branch_9 : decode cX8_branch 9 = .ok (.aload_n 3, 1) := by decide +kernel
theorem dX8_branch_10 : decode cX8_branch 10 = .ok (.ifnonnull 13, 3) := by decide +kernel
theorem dX8_branch_13 : decode cX8_branch 13 = .ok (.new 183, 3) := by decide +kernel
theorem dX8_branch_16 : decode cX8_branch 16 = .ok (.dup, 1) := by decide +kernel
theorem dX8_branch_17 : decode cX8_branch 17 = .ok (.ldc 216, 2) := by decide +kernel
theorem dX8_branch_19 : decode cX8_branch 19 = .ok (.invokespecial 187, 3) := by decide +kernel
theorem dX8_branch_22 : decode cX8_branch 22 = .ok (.athrow, 1) := by decide +kernel
theorem dX8_branch_23 : decode cX8_branch 23 = .ok (.iload_n 2, 1) := by decide +kernel
theorem dX8_branch_24 : decode cX8_branch 24 = .ok (.iconst 0, 1) := by decide +kernel
theorem dX8_branch_25 : decode cX8_branch 25 = .ok (.iconst 5, 1) := by decide +kernel
theorem dX8_branch_26 : decode cX8_branch 26 = .ok (.invokestatic 104, 3) := by decide +kernel
theorem dX8_branch_29 : decode cX8_branch 29 = .ok (.invokestatic 108, 3) := by decide +kernel
theorem dX8_branch_32 : decode cX8_branch 32 = .ok (.iload_n 2, 1) := by decide +kernel
theorem dX8_branch_33 : decode cX8_branch 33 = .ok (.tableswitch 76 0 4 #[35, 41, 47, 57, 65], 35) := by decide +kernel
theorem dX8_branch_68 : decode cX8_branch 68 = .ok (.aload_n 3, 1) := by decide +kernel
theorem dX8_branch_69 : decode cX8_branch 69 = .ok (.getfield 230, 3) := by decide +kernel
theorem dX8_branch_72 : decode cX8_branch 72 = .ok (.i2l, 1) := by decide +kernel
theorem dX8_branch_73 : decode cX8_branch 73 = .ok (.lreturn, 1) := by decide +kernel
theorem dX8_branch_74 : decode cX8_branch 74 = .ok (.aload_n 3, 1) := by decide +kernel
theorem dX8_branch_75 : decode cX8_branch 75 = .ok (.getfield 50, 3) := by decide +kernel
theorem dX8_branch_78 : decode cX8_branch 78 = .ok (.i2l, 1) := by decide +kernel
theorem dX8_branch_79 : decode cX8_branch 79 = .ok (.lreturn, 1) := by decide +kernel
theorem dX8_branch_80 : decode cX8_branch 80 = .ok (.aload_n 0, 1) := by decide +kernel
theorem dX8_branch_81 : decode cX8_branch 81 = .ok (.getfield 10, 3) := by decide +kernel
theorem dX8_branch_84 : decode cX8_branch 84 = .ok (.iload_n 1, 1) := by decide +kernel
theorem dX8_branch_85 : decode cX8_branch 85 = .ok (.invokevirtual 259, 3) := by decide +kernel
theorem dX8_branch_88 : decode cX8_branch 88 = .ok (.i2l, 1) := by decide +kernel
theorem dX8_branch_89 : decode cX8_branch 89 = .ok (.lreturn, 1) := by decide +kernel
theorem dX8_branch_90 : decode cX8_branch 90 = .ok (.aload_n 3, 1) := by decide +kernel
theorem dX8_branch_91 : decode cX8_branch 91 = .ok (.getfield 45, 3) := by decide +kernel
theorem dX8_branch_94 : decode cX8_branch 94 = .ok (.getfield 173, 3) := by decide +kernel
theorem dX8_branch_97 : decode cX8_branch 97 = .ok (.lreturn, 1) := by decide +kernel
theorem dX8_branch_98 : decode cX8_branch 98 = .ok (.aload_n 3, 1) := by decide +kernel
theorem dX8_branch_99 : decode cX8_branch 99 = .ok (.getfield 45, 3) := by decide +kernel
theorem dX8_branch_102 : decode cX8_branch 102 = .ok (.getfield 90, 3) := by decide +kernel
theorem dX8_branch_105 : decode cX8_branch 105 = .ok (.invokevirtual 262, 3) := by decide +kernel
theorem dX8_branch_108 : decode cX8_branch 108 = .ok (.lreturn, 1) := by decide +kernel
theorem dX8_branch_109 : decode cX8_branch 109 = .ok (.aload_n 3, 1) := by decide +kernel
theorem dX8_branch_110 : decode cX8_branch 110 = .ok (.getfield 45, 3) := by decide +kernel
theorem dX8_branch_113 : decode cX8_branch 113 = .ok (.getfield 266, 3) := by decide +kernel
theorem dX8_branch_116 : decode cX8_branch 116 = .ok (.i2l, 1) := by decide +kernel
theorem dX8_branch_117 : decode cX8_branch 117 = .ok (.lreturn, 1) := by decide +kernel
theorem dX8_difference_0 : decode cX8_difference 0 = .ok (.aload_n 0, 1) := by decide +kernel
theorem dX8_difference_1 : decode cX8_difference 1 = .ok (.getfield 10, 3) := by decide +kernel
theorem dX8_difference_4 : decode cX8_difference 4 = .ok (.iload_n 1, 1) := by decide +kernel
theorem dX8_difference_5 : decode cX8_difference 5 = .ok (.invokevirtual 212, 3) := by decide +kernel
theorem dX8_difference_8 : decode cX8_difference 8 = .ok (.astore 4, 2) := by decide +kernel
theorem dX8_difference_10 : decode cX8_difference 10 = .ok (.aload_n 0, 1) := by decide +kernel
theorem dX8_difference_11 : decode cX8_difference 11 = .ok (.getfield 10, 3) := by decide +kernel
theorem dX8_difference_14 : decode cX8_difference 14 = .ok (.iload_n 2, 1) := by decide +kernel
theorem dX8_difference_15 : decode cX8_difference 15 = .ok (.invokevirtual 212, 3) := by decide +kernel
theorem dX8_difference_18 : decode cX8_difference 18 = .ok (.astore 5, 2) := by decide +kernel
theorem dX8_difference_20 : decode cX8_difference 20 = .ok (.aload 4, 2) := by decide +kernel
theorem dX8_difference_22 : decode cX8_difference 22 = .ok (.ifnull 8, 3) := by decide +kernel
theorem dX8_difference_25 : decode cX8_difference 25 = .ok (.aload 5, 2) := by decide +kernel
theorem dX8_difference_27 : decode cX8_difference 27 = .ok (.ifnonnull 13, 3) := by decide +kernel
theorem dX8_difference_30 : decode cX8_difference 30 = .ok (.new 183, 3) := by decide +kernel
theorem dX8_difference_33 : decode cX8_difference 33 = .ok (.dup, 1) := by decide +kernel
theorem dX8_difference_34 : decode cX8_difference 34 = .ok (.ldc 216, 2) := by decide +kernel
theorem dX8_difference_36 : decode cX8_difference 36 = .ok (.invokespecial 187, 3) := by decide +kernel
theorem dX8_difference_39 : decode cX8_difference 39 = .ok (.athrow, 1) := by decide +kernel
theorem dX8_difference_40 : decode cX8_difference 40 = .ok (.iload_n 3, 1) := by decide +kernel
theorem dX8_difference_41 : decode cX8_difference 41 = .ok (.iconst (-1), 1) := by decide +kernel
theorem dX8_difference_42 : decode cX8_difference 42 = .ok (.bipush 9, 2) := by decide +kernel
theorem dX8_difference_44 : decode cX8_difference 44 = .ok (.invokestatic 104, 3) := by decide +kernel
theorem dX8_difference_47 : decode cX8_difference 47 = .ok (.invokestatic 100, 3) := by decide +kernel
theorem dX8_difference_50 : decode cX8_difference 50 = .ok (.aload 4, 2) := by decide +kernel
theorem dX8_difference_52 : decode cX8_difference 52 = .ok (.getfield 45, 3) := by decide +kernel
theorem dX8_difference_55 : decode cX8_difference 55 = .ok (.iload_n 3, 1) := by decide +kernel
theorem dX8_difference_56 : decode cX8_difference 56 = .ok (.invokevirtual 137, 3) := by decide +kernel
theorem dX8_difference_59 : decode cX8_difference 59 = .ok (.aload 5, 2) := by decide +kernel
theorem dX8_difference_61 : decode cX8_difference 61 = .ok (.getfield 45, 3) := by decide +kernel
theorem dX8_difference_64 : decode cX8_difference 64 = .ok (.iload_n 3, 1) := by decide +kernel
theorem dX8_difference_65 : decode cX8_difference 65 = .ok (.invokevirtual 137, 3) := by decide +kernel
theorem dX8_difference_68 : decode cX8_difference 68 = .ok (.lsub, 1) := by decide +kernel
theorem dX8_difference_69 : decode cX8_difference 69 = .ok (.lreturn, 1) := by decide +kernel
theorem dX8_step_0 : decode cX8_step 0 = .ok (.aload_n 0, 1) := by decide +kernel
theorem dX8_step_1 : decode cX8_step 1 = .ok (.getfield 10, 3) := by decide +kernel
theorem dX8_step_4 : decode cX8_step 4 = .ok (.invokevirtual 41, 3) := by decide +kernel
theorem dX8_step_7 : decode cX8_step 7 = .ok (.astore_n 3, 1) := by decide +kernel
theorem dX8_step_8 : decode cX8_step 8 = .ok (.iload_n 1, 1) := by decide +kernel
theorem dX8_step_9 : decode cX8_step 9 = .ok (.iconst 0, 1) := by decide +kernel
theorem dX8_step_10 : decode cX8_step 10 = .ok (.aload_n 3, 1) := by decide +kernel
theorem dX8_step_11 : decode cX8_step 11 = .ok (.getfield 50, 3) := by decide +kernel
theorem dX8_step_14 : decode cX8_step 14 = .ok (.iconst 1, 1) := by decide +kernel
theorem dX8_step_15 : decode cX8_step 15 = .ok (.isub, 1) := by decide +kernel
theorem dX8_step_16 : decode cX8_step 16 = .ok (.invokestatic 104, 3) := by decide +kernel
theorem dX8_step_19 : decode cX8_step 19 = .ok (.invokestatic 100, 3) := by decide +kernel
theorem dX8_step_22 : decode cX8_step 22 = .ok (.iload_n 2, 1) := by decide +kernel
theorem dX8_step_23 : decode cX8_step 23 = .ok (.iconst 0, 1) := by decide +kernel
theorem dX8_step_24 : decode cX8_step 24 = .ok (.iconst 4, 1) := by decide +kernel
theorem dX8_step_25 : decode cX8_step 25 = .ok (.invokestatic 104, 3) := by decide +kernel
theorem dX8_step_28 : decode cX8_step 28 = .ok (.invokestatic 108, 3) := by decide +kernel
theorem dX8_step_31 : decode cX8_step 31 = .ok (.aload_n 3, 1) := by decide +kernel
theorem dX8_step_32 : decode cX8_step 32 = .ok (.iload_n 1, 1) := by decide +kernel
theorem dX8_step_33 : decode cX8_step 33 = .ok (.iload_n 2, 1) := by decide +kernel
theorem dX8_step_34 : decode cX8_step 34 = .ok (.invokevirtual 269, 3) := by decide +kernel
theorem dX8_step_37 : decode cX8_step 37 = .ok (.ireturn, 1) := by decide +kernel
theorem dX8_undo_0 : decode cX8_undo 0 = .ok (.aload_n 0, 1) := by decide +kernel
theorem dX8_undo_1 : decode cX8_undo 1 = .ok (.getfield 10, 3) := by decide +kernel
theorem dX8_undo_4 : decode cX8_undo 4 = .ok (.invokevirtual 41, 3) := by decide +kernel
theorem dX8_undo_7 : decode cX8_undo 7 = .ok (.astore_n 1, 1) := by decide +kernel
theorem dX8_undo_8 : decode cX8_undo 8 = .ok (.aload_n 1, 1) := by decide +kernel
theorem dX8_undo_9 : decode cX8_undo 9 = .ok (.getfield 50, 3) := by decide +kernel
theorem dX8_undo_12 : decode cX8_undo 12 = .ok (.ifCond .ne 14, 3) := by decide +kernel
theorem dX8_undo_15 : decode cX8_undo 15 = .ok (.new 83, 3) := by decide +kernel
theorem dX8_undo_18 : decode cX8_undo 18 = .ok (.dup, 1) := by decide +kernel
theorem dX8_undo_19 : decode cX8_undo 19 = .ok (.ldc_w 272, 3) := by decide +kernel
theorem dX8_undo_22 : decode cX8_undo 22 = .ok (.invokespecial 87, 3) := by decide +kernel
theorem dX8_undo_25 : decode cX8_undo 25 = .ok (.athrow, 1) := by decide +kernel
theorem dX8_undo_26 : decode cX8_undo 26 = .ok (.aload_n 1, 1) := by decide +kernel
theorem dX8_undo_27 : decode cX8_undo 27 = .ok (.getfield 50, 3) := by decide +kernel
theorem dX8_undo_30 : decode cX8_undo 30 = .ok (.iconst 1, 1) := by decide +kernel
theorem dX8_undo_31 : decode cX8_undo 31 = .ok (.isub, 1) := by decide +kernel
theorem dX8_undo_32 : decode cX8_undo 32 = .ok (.istore_n 2, 1) := by decide +kernel
theorem dX8_undo_33 : decode cX8_undo 33 = .ok (.aload_n 0, 1) := by decide +kernel
theorem dX8_undo_34 : decode cX8_undo 34 = .ok (.getfield 22, 3) := by decide +kernel
theorem dX8_undo_37 : decode cX8_undo 37 = .ok (.aload_n 1, 1) := by decide +kernel
theorem dX8_undo_38 : decode cX8_undo 38 = .ok (.getfield 274, 3) := by decide +kernel
theorem dX8_undo_41 : decode cX8_undo 41 = .ok (.invokevirtual 129, 3) := by decide +kernel
theorem dX8_undo_44 : decode cX8_undo 44 = .ok (.aload_n 0, 1) := by decide +kernel
theorem dX8_undo_45 : decode cX8_undo 45 = .ok (.aload_n 1, 1) := by decide +kernel
theorem dX8_undo_46 : decode cX8_undo 46 = .ok (.iload_n 2, 1) := by decide +kernel
theorem dX8_undo_47 : decode cX8_undo 47 = .ok (.iconst 0, 1) := by decide +kernel
theorem dX8_undo_48 : decode cX8_undo 48 = .ok (.invokevirtual 235, 3) := by decide +kernel
theorem dX8_undo_51 : decode cX8_undo 51 = .ok (.pop, 1) := by decide +kernel
theorem dX8_undo_52 : decode cX8_undo 52 = .ok (.aload_n 1, 1) := by decide +kernel
theorem dX8_undo_53 : decode cX8_undo 53 = .ok (.getfield 45, 3) := by decide +kernel
theorem dX8_undo_56 : decode cX8_undo 56 = .ok (.aload_n 0, 1) := by decide +kernel
theorem dX8_undo_57 : decode cX8_undo 57 = .ok (.getfield 22, 3) := by decide +kernel
theorem dX8_undo_60 : decode cX8_undo 60 = .ok (.invokevirtual 129, 3) := by decide +kernel
theorem dX8_undo_63 : decode cX8_undo 63 = .ok (.aload_n 1, 1) := by decide +kernel
theorem dX8_undo_64 : decode cX8_undo 64 = .ok (.iload_n 2, 1) := by decide +kernel
theorem dX8_undo_65 : decode cX8_undo 65 = .ok (.invokevirtual 277, 3) := by decide +kernel
theorem dX8_undo_68 : decode cX8_undo 68 = .ok (.aload_n 1, 1) := by decide +kernel
theorem dX8_undo_69 : decode cX8_undo 69 = .ok (.getfield 50, 3) := by decide +kernel
theorem dX8_undo_72 : decode cX8_undo 72 = .ok (.ireturn, 1) := by decide +kernel
theorem dX8_dropStep_0 : decode cX8_dropStep 0 = .ok (.aload_n 0, 1) := by decide +kernel
theorem dX8_dropStep_1 : decode cX8_dropStep 1 = .ok (.getfield 10, 3) := by decide +kernel
theorem dX8_dropStep_4 : decode cX8_dropStep 4 = .ok (.invokevirtual 41, 3) := by decide +kernel
theorem dX8_dropStep_7 : decode cX8_dropStep 7 = .ok (.astore_n 2, 1) := by decide +kernel
theorem dX8_dropStep_8 : decode cX8_dropStep 8 = .ok (.iload_n 1, 1) := by decide +kernel
theorem dX8_dropStep_9 : decode cX8_dropStep 9 = .ok (.iconst 0, 1) := by decide +kernel
theorem dX8_dropStep_10 : decode cX8_dropStep 10 = .ok (.aload_n 2, 1) := by decide +kernel
theorem dX8_dropStep_11 : decode cX8_dropStep 11 = .ok (.getfield 50, 3) := by decide +kernel
theorem dX8_dropStep_14 : decode cX8_dropStep 14 = .ok (.iconst 2, 1) := by decide +kernel
theorem dX8_dropStep_15 : decode cX8_dropStep 15 = .ok (.isub, 1) := by decide +kernel
theorem dX8_dropStep_16 : decode cX8_dropStep 16 = .ok (.invokestatic 104, 3) := by decide +kernel
theorem dX8_dropStep_19 : decode cX8_dropStep 19 = .ok (.invokestatic 100, 3) := by decide +kernel
theorem dX8_dropStep_22 : decode cX8_dropStep 22 = .ok (.aload_n 0, 1) := by decide +kernel
theorem dX8_dropStep_23 : decode cX8_dropStep 23 = .ok (.getfield 22, 3) := by decide +kernel
theorem dX8_dropStep_26 : decode cX8_dropStep 26 = .ok (.aload_n 2, 1) := by decide +kernel
theorem dX8_dropStep_27 : decode cX8_dropStep 27 = .ok (.getfield 274, 3) := by decide +kernel
theorem dX8_dropStep_30 : decode cX8_dropStep 30 = .ok (.invokevirtual 129, 3) := by decide +kernel
theorem dX8_dropStep_33 : decode cX8_dropStep 33 = .ok (.aload_n 0, 1) := by decide +kernel
theorem dX8_dropStep_34 : decode cX8_dropStep 34 = .ok (.aload_n 2, 1) := by decide +kernel
theorem dX8_dropStep_35 : decode cX8_dropStep 35 = .ok (.iload_n 1, 1) := by decide +kernel
theorem dX8_dropStep_36 : decode cX8_dropStep 36 = .ok (.iconst 0, 1) := by decide +kernel
theorem dX8_dropStep_37 : decode cX8_dropStep 37 = .ok (.invokevirtual 235, 3) := by decide +kernel
theorem dX8_dropStep_40 : decode cX8_dropStep 40 = .ok (.aload_n 2, 1) := by decide +kernel
theorem dX8_dropStep_41 : decode cX8_dropStep 41 = .ok (.getfield 50, 3) := by decide +kernel
theorem dX8_dropStep_44 : decode cX8_dropStep 44 = .ok (.if_icmp .ge 14, 3) := by decide +kernel
theorem dX8_dropStep_47 : decode cX8_dropStep 47 = .ok (.new 248, 3) := by decide +kernel
theorem dX8_dropStep_50 : decode cX8_dropStep 50 = .ok (.dup, 1) := by decide +kernel
theorem dX8_dropStep_51 : decode cX8_dropStep 51 = .ok (.ldc_w 280, 3) := by decide +kernel
theorem dX8_dropStep_54 : decode cX8_dropStep 54 = .ok (.invokespecial 252, 3) := by decide +kernel
theorem dX8_dropStep_57 : decode cX8_dropStep 57 = .ok (.athrow, 1) := by decide +kernel
theorem dX8_dropStep_58 : decode cX8_dropStep 58 = .ok (.aload_n 2, 1) := by decide +kernel
theorem dX8_dropStep_59 : decode cX8_dropStep 59 = .ok (.getfield 45, 3) := by decide +kernel
theorem dX8_dropStep_62 : decode cX8_dropStep 62 = .ok (.aload_n 0, 1) := by decide +kernel
theorem dX8_dropStep_63 : decode cX8_dropStep 63 = .ok (.getfield 22, 3) := by decide +kernel
theorem dX8_dropStep_66 : decode cX8_dropStep 66 = .ok (.invokevirtual 129, 3) := by decide +kernel
theorem dX8_dropStep_69 : decode cX8_dropStep 69 = .ok (.aload_n 2, 1) := by decide +kernel
theorem dX8_dropStep_70 : decode cX8_dropStep 70 = .ok (.iload_n 1, 1) := by decide +kernel
theorem dX8_dropStep_71 : decode cX8_dropStep 71 = .ok (.invokevirtual 277, 3) := by decide +kernel
theorem dX8_dropStep_74 : decode cX8_dropStep 74 = .ok (.aload_n 2, 1) := by decide +kernel
theorem dX8_dropStep_75 : decode cX8_dropStep 75 = .ok (.getfield 50, 3) := by decide +kernel
theorem dX8_dropStep_78 : decode cX8_dropStep 78 = .ok (.ireturn, 1) := by decide +kernel
theorem dX8_clearReason_0 : decode cX8_clearReason 0 = .ok (.aload_n 0, 1) := by decide +kernel
theorem dX8_clearReason_1 : decode cX8_clearReason 1 = .ok (.getfield 58, 3) := by decide +kernel
theorem dX8_clearReason_4 : decode cX8_clearReason 4 = .ok (.istore_n 1, 1) := by decide +kernel
theorem dX8_clearReason_5 : decode cX8_clearReason 5 = .ok (.aload_n 0, 1) := by decide +kernel
theorem dX8_clearReason_6 : decode cX8_clearReason 6 = .ok (.iconst 0, 1) := by decide +kernel
theorem dX8_clearReason_7 : decode cX8_clearReason 7 = .ok (.putfield 58, 3) := by decide +kernel
theorem dX8_clearReason_10 : decode cX8_clearReason 10 = .ok (.iload_n 1, 1) := by decide +kernel
theorem dX8_clearReason_11 : decode cX8_clearReason 11 = .ok (.ireturn, 1) := by decide +kernel
theorem dX8_replayUntilRefused_0 : decode cX8_replayUntilRefused 0 = .ok (.iconst 0, 1) := by decide +kernel
theorem dX8_replayUntilRefused_1 : decode cX8_replayUntilRefused 1 = .ok (.istore 4, 2) := by decide +kernel
theorem dX8_replayUntilRefused_3 : decode cX8_replayUntilRefused 3 = .ok (.iload 4, 2) := by decide +kernel
theorem dX8_replayUntilRefused_5 : decode cX8_replayUntilRefused 5 = .ok (.aload_n 1, 1) := by decide +kernel
theorem dX8_replayUntilRefused_6 : decode cX8_replayUntilRefused 6 = .ok (.getfield 50, 3) := by decide +kernel
theorem dX8_replayUntilRefused_9 : decode cX8_replayUntilRefused 9 = .ok (.if_icmp .ge 78, 3) := by decide +kernel
theorem dX8_replayUntilRefused_12 : decode cX8_replayUntilRefused 12 = .ok (.iload 4, 2) := by decide +kernel
theorem dX8_replayUntilRefused_14 : decode cX8_replayUntilRefused 14 = .ok (.iload_n 2, 1) := by decide +kernel
theorem dX8_replayUntilRefused_15 : decode cX8_replayUntilRefused 15 = .ok (.if_icmp .ne 6, 3) := by decide +kernel
theorem dX8_replayUntilRefused_18 : decode cX8_replayUntilRefused 18 = .ok (.goto 63, 3) := by decide +kernel
theorem dX8_replayUntilRefused_21 : decode cX8_replayUntilRefused 21 = .ok (.aload_n 0, 1) := by decide +kernel
theorem dX8_replayUntilRefused_22 : decode cX8_replayUntilRefused 22 = .ok (.aload_n 1, 1) := by decide +kernel
theorem dX8_replayUntilRefused_23 : decode cX8_replayUntilRefused 23 = .ok (.iload 4, 2) := by decide +kernel
theorem dX8_replayUntilRefused_25 : decode cX8_replayUntilRefused 25 = .ok (.iload_n 3, 1) := by decide +kernel
theorem dX8_replayUntilRefused_26 : decode cX8_replayUntilRefused 26 = .ok (.iload 4, 2) := by decide +kernel
theorem dX8_replayUntilRefused_28 : decode cX8_replayUntilRefused 28 = .ok (.iadd, 1) := by decide +kernel
theorem dX8_replayUntilRefused_29 : decode cX8_replayUntilRefused 29 = .ok (.invokevirtual 242, 3) := by decide +kernel
theorem dX8_replayUntilRefused_32 : decode cX8_replayUntilRefused 32 = .ok (.ifCond .eq 6, 3) := by decide +kernel
theorem dX8_replayUntilRefused_35 : decode cX8_replayUntilRefused 35 = .ok (.iload 4, 2) := by decide +kernel
theorem dX8_replayUntilRefused_37 : decode cX8_replayUntilRefused 37 = .ok (.ireturn, 1) := by decide +kernel
theorem dX8_replayUntilRefused_38 : decode cX8_replayUntilRefused 38 = .ok (.aload_n 0, 1) := by decide +kernel
theorem dX8_replayUntilRefused_39 : decode cX8_replayUntilRefused 39 = .ok (.getfield 22, 3) := by decide +kernel
theorem dX8_replayUntilRefused_42 : decode cX8_replayUntilRefused 42 = .ok (.aload_n 1, 1) := by decide +kernel
theorem dX8_replayUntilRefused_43 : decode cX8_replayUntilRefused 43 = .ok (.iload 4, 2) := by decide +kernel
theorem dX8_replayUntilRefused_45 : decode cX8_replayUntilRefused 45 = .ok (.iconst 0, 1) := by decide +kernel
theorem dX8_replayUntilRefused_46 : decode cX8_replayUntilRefused 46 = .ok (.invokevirtual 269, 3) := by decide +kernel
theorem dX8_replayUntilRefused_49 : decode cX8_replayUntilRefused 49 = .ok (.aload_n 1, 1) := by decide +kernel
theorem dX8_replayUntilRefused_50 : decode cX8_replayUntilRefused 50 = .ok (.iload 4, 2) := by decide +kernel
theorem dX8_replayUntilRefused_52 : decode cX8_replayUntilRefused 52 = .ok (.iconst 1, 1) := by decide +kernel
theorem dX8_replayUntilRefused_53 : decode cX8_replayUntilRefused 53 = .ok (.invokevirtual 269, 3) := by decide +kernel
theorem dX8_replayUntilRefused_56 : decode cX8_replayUntilRefused 56 = .ok (.aload_n 1, 1) := by decide +kernel
theorem dX8_replayUntilRefused_57 : decode cX8_replayUntilRefused 57 = .ok (.iload 4, 2) := by decide +kernel
theorem dX8_replayUntilRefused_59 : decode cX8_replayUntilRefused 59 = .ok (.iconst 2, 1) := by decide +kernel
theorem dX8_replayUntilRefused_60 : decode cX8_replayUntilRefused 60 = .ok (.invokevirtual 269, 3) := by decide +kernel
theorem dX8_replayUntilRefused_63 : decode cX8_replayUntilRefused 63 = .ok (.aload_n 1, 1) := by decide +kernel
theorem dX8_replayUntilRefused_64 : decode cX8_replayUntilRefused 64 = .ok (.iload 4, 2) := by decide +kernel
theorem dX8_replayUntilRefused_66 : decode cX8_replayUntilRefused 66 = .ok (.iconst 3, 1) := by decide +kernel
theorem dX8_replayUntilRefused_67 : decode cX8_replayUntilRefused 67 = .ok (.invokevirtual 269, 3) := by decide +kernel
theorem dX8_replayUntilRefused_70 : decode cX8_replayUntilRefused 70 = .ok (.aload_n 1, 1) := by decide +kernel
theorem dX8_replayUntilRefused_71 : decode cX8_replayUntilRefused 71 = .ok (.iload 4, 2) := by decide +kernel
theorem dX8_replayUntilRefused_73 : decode cX8_replayUntilRefused 73 = .ok (.iconst 4, 1) := by decide +kernel
theorem dX8_replayUntilRefused_74 : decode cX8_replayUntilRefused 74 = .ok (.invokevirtual 269, 3) := by decide +kernel
theorem dX8_replayUntilRefused_77 : decode cX8_replayUntilRefused 77 = .ok (.invokevirtual 61, 3) := by decide +kernel
theorem dX8_replayUntilRefused_80 : decode cX8_replayUntilRefused 80 = .ok (.pop, 1) := by decide +kernel
theorem dX8_replayUntilRefused_81 : decode cX8_replayUntilRefused 81 = .ok (.iinc 4 1, 3) := by decide +kernel
theorem dX8_replayUntilRefused_84 : decode cX8_replayUntilRefused 84 = .ok (.goto (-81), 3) := by decide +kernel
theorem dX8_replayUntilRefused_87 : decode cX8_replayUntilRefused 87 = .ok (.aload_n 1, 1) := by decide +kernel
theorem dX8_replayUntilRefused_88 : decode cX8_replayUntilRefused 88 = .ok (.getfield 50, 3) := by decide +kernel
theorem dX8_replayUntilRefused_91 : decode cX8_replayUntilRefused 91 = .ok (.ireturn, 1) := by decide +kernel
theorem dX8_refusalOnTrial_0 : decode cX8_refusalOnTrial 0 = .ok (.aload_n 0, 1) := by decide +kernel
theorem dX8_refusalOnTrial_1 : decode cX8_refusalOnTrial 1 = .ok (.getfield 22, 3) := by decide +kernel
theorem dX8_refusalOnTrial_4 : decode cX8_refusalOnTrial 4 = .ok (.aload_n 1, 1) := by decide +kernel
theorem dX8_refusalOnTrial_5 : decode cX8_refusalOnTrial 5 = .ok (.iload_n 2, 1) := by decide +kernel
theorem dX8_refusalOnTrial_6 : decode cX8_refusalOnTrial 6 = .ok (.iconst 0, 1) := by decide +kernel
theorem dX8_refusalOnTrial_7 : decode cX8_refusalOnTrial 7 = .ok (.invokevirtual 269, 3) := by decide +kernel
theorem dX8_refusalOnTrial_10 : decode cX8_refusalOnTrial 10 = .ok (.aload_n 1, 1) := by decide +kernel
theorem dX8_refusalOnTrial_11 : decode cX8_refusalOnTrial 11 = .ok (.iload_n 2, 1) := by decide +kernel
theorem dX8_refusalOnTrial_12 : decode cX8_refusalOnTrial 12 = .ok (.iconst 1, 1) := by decide +kernel
theorem dX8_refusalOnTrial_13 : decode cX8_refusalOnTrial 13 = .ok (.invokevirtual 269, 3) := by decide +kernel
theorem dX8_refusalOnTrial_16 : decode cX8_refusalOnTrial 16 = .ok (.aload_n 1, 1) := by decide +kernel
theorem dX8_refusalOnTrial_17 : decode cX8_refusalOnTrial 17 = .ok (.iload_n 2, 1) := by decide +kernel
theorem dX8_refusalOnTrial_18 : decode cX8_refusalOnTrial 18 = .ok (.iconst 2, 1) := by decide +kernel
theorem dX8_refusalOnTrial_19 : decode cX8_refusalOnTrial 19 = .ok (.invokevirtual 269, 3) := by decide +kernel
theorem dX8_refusalOnTrial_22 : decode cX8_refusalOnTrial 22 = .ok (.aload_n 1, 1) := by decide +kernel
theorem dX8_refusalOnTrial_23 : decode cX8_refusalOnTrial 23 = .ok (.iload_n 2, 1) := by decide +kernel
theorem dX8_refusalOnTrial_24 : decode cX8_refusalOnTrial 24 = .ok (.iconst 3, 1) := by decide +kernel
theorem dX8_refusalOnTrial_25 : decode cX8_refusalOnTrial 25 = .ok (.invokevirtual 269, 3) := by decide +kernel
theorem dX8_refusalOnTrial_28 : decode cX8_refusalOnTrial 28 = .ok (.aload_n 1, 1) := by decide +kernel
theorem dX8_refusalOnTrial_29 : decode cX8_refusalOnTrial 29 = .ok (.iload_n 2, 1) := by decide +kernel
theorem dX8_refusalOnTrial_30 : decode cX8_refusalOnTrial 30 = .ok (.iconst 4, 1) := by decide +kernel
theorem dX8_refusalOnTrial_31 : decode cX8_refusalOnTrial 31 = .ok (.invokevirtual 269, 3) := by decide +kernel
theorem dX8_refusalOnTrial_34 : decode cX8_refusalOnTrial 34 = .ok (.iload_n 3, 1) := by decide +kernel
theorem dX8_refusalOnTrial_35 : decode cX8_refusalOnTrial 35 = .ok (.bipush 60, 2) := by decide +kernel
theorem dX8_refusalOnTrial_37 : decode cX8_refusalOnTrial 37 = .ok (.if_icmp .lt 7, 3) := by decide +kernel
theorem dX8_refusalOnTrial_40 : decode cX8_refusalOnTrial 40 = .ok (.iconst 1, 1) := by decide +kernel
theorem dX8_refusalOnTrial_41 : decode cX8_refusalOnTrial 41 = .ok (.goto 4, 3) := by decide +kernel
theorem dX8_refusalOnTrial_44 : decode cX8_refusalOnTrial 44 = .ok (.iconst 0, 1) := by decide +kernel
theorem dX8_refusalOnTrial_45 : decode cX8_refusalOnTrial 45 = .ok (.invokevirtual 54, 3) := by decide +kernel
theorem dX8_refusalOnTrial_48 : decode cX8_refusalOnTrial 48 = .ok (.ireturn, 1) := by decide +kernel
theorem dX8_feed_0 : decode cX8_feed 0 = .ok (.aload_n 0, 1) := by decide +kernel
theorem dX8_feed_1 : decode cX8_feed 1 = .ok (.getfield 29, 3) := by decide +kernel
theorem dX8_feed_4 : decode cX8_feed 4 = .ok (.iload_n 1, 1) := by decide +kernel
theorem dX8_feed_5 : decode cX8_feed 5 = .ok (.invokevirtual 282, 3) := by decide +kernel
theorem dX8_feed_8 : decode cX8_feed 8 = .ok (.ifCond .ne 14, 3) := by decide +kernel
theorem dX8_feed_11 : decode cX8_feed 11 = .ok (.new 83, 3) := by decide +kernel
theorem dX8_feed_14 : decode cX8_feed 14 = .ok (.dup, 1) := by decide +kernel
theorem dX8_feed_15 : decode cX8_feed 15 = .ok (.ldc_w 286, 3) := by decide +kernel
theorem dX8_feed_18 : decode cX8_feed 18 = .ok (.invokespecial 87, 3) := by decide +kernel
theorem dX8_feed_21 : decode cX8_feed 21 = .ok (.athrow, 1) := by decide +kernel
theorem dX8_feed_22 : decode cX8_feed 22 = .ok (.aload_n 0, 1) := by decide +kernel
theorem dX8_feed_23 : decode cX8_feed 23 = .ok (.getfield 29, 3) := by decide +kernel
theorem dX8_feed_26 : decode cX8_feed 26 = .ok (.getfield 288, 3) := by decide +kernel
theorem dX8_feed_29 : decode cX8_feed 29 = .ok (.ireturn, 1) := by decide +kernel
theorem dX8_readPlan_0 : decode cX8_readPlan 0 = .ok (.aload_n 0, 1) := by decide +kernel
theorem dX8_readPlan_1 : decode cX8_readPlan 1 = .ok (.getfield 29, 3) := by decide +kernel
theorem dX8_readPlan_4 : decode cX8_readPlan 4 = .ok (.invokevirtual 291, 3) := by decide +kernel
theorem dX8_readPlan_7 : decode cX8_readPlan 7 = .ok (.istore_n 1, 1) := by decide +kernel
theorem dX8_readPlan_8 : decode cX8_readPlan 8 = .ok (.iload_n 1, 1) := by decide +kernel
theorem dX8_readPlan_9 : decode cX8_readPlan 9 = .ok (.iconst (-1), 1) := by decide +kernel
theorem dX8_readPlan_10 : decode cX8_readPlan 10 = .ok (.if_icmp .eq 8, 3) := by decide +kernel
theorem dX8_readPlan_13 : decode cX8_readPlan 13 = .ok (.bipush (-100), 2) := by decide +kernel
theorem dX8_readPlan_15 : decode cX8_readPlan 15 = .ok (.iload_n 1, 1) := by decide +kernel
theorem dX8_readPlan_16 : decode cX8_readPlan 16 = .ok (.isub, 1) := by decide +kernel
theorem dX8_readPlan_17 : decode cX8_readPlan 17 = .ok (.ireturn, 1) := by decide +kernel
theorem dX8_readPlan_18 : decode cX8_readPlan 18 = .ok (.iconst 0, 1) := by decide +kernel
theorem dX8_readPlan_19 : decode cX8_readPlan 19 = .ok (.istore_n 2, 1) := by decide +kernel
theorem dX8_readPlan_20 : decode cX8_readPlan 20 = .ok (.iload_n 2, 1) := by decide +kernel
theorem dX8_readPlan_21 : decode cX8_readPlan 21 = .ok (.aload_n 0, 1) := by decide +kernel
theorem dX8_readPlan_22 : decode cX8_readPlan 22 = .ok (.getfield 29, 3) := by decide +kernel
theorem dX8_readPlan_25 : decode cX8_readPlan 25 = .ok (.getfield 294, 3) := by decide +kernel
theorem dX8_readPlan_28 : decode cX8_readPlan 28 = .ok (.if_icmp .ge 55, 3) := by decide +kernel
theorem dX8_readPlan_31 : decode cX8_readPlan 31 = .ok (.aload_n 0, 1) := by decide +kernel
theorem dX8_readPlan_32 : decode cX8_readPlan 32 = .ok (.aload_n 0, 1) := by decide +kernel
theorem dX8_readPlan_33 : decode cX8_readPlan 33 = .ok (.getfield 29, 3) := by decide +kernel
theorem dX8_readPlan_36 : decode cX8_readPlan 36 = .ok (.iload_n 2, 1) := by decide +kernel
theorem dX8_readPlan_37 : decode cX8_readPlan 37 = .ok (.iconst 0, 1) := by decide +kernel
theorem dX8_readPlan_38 : decode cX8_readPlan 38 = .ok (.invokevirtual 297, 3) := by decide +kernel
theorem dX8_readPlan_41 : decode cX8_readPlan 41 = .ok (.aload_n 0, 1) := by decide +kernel
theorem dX8_readPlan_42 : decode cX8_readPlan 42 = .ok (.getfield 29, 3) := by decide +kernel
theorem dX8_readPlan_45 : decode cX8_readPlan 45 = .ok (.iload_n 2, 1) := by decide +kernel
theorem dX8_readPlan_46 : decode cX8_readPlan 46 = .ok (.iconst 1, 1) := by decide +kernel
theorem dX8_readPlan_47 : decode cX8_readPlan 47 = .ok (.invokevirtual 297, 3) := by decide +kernel
theorem dX8_readPlan_50 : decode cX8_readPlan 50 = .ok (.aload_n 0, 1) := by decide +kernel
theorem dX8_readPlan_51 : decode cX8_readPlan 51 = .ok (.getfield 29, 3) := by decide +kernel
theorem dX8_readPlan_54 : decode cX8_readPlan 54 = .ok (.iload_n 2, 1) := by decide +kernel
theorem dX8_readPlan_55 : decode cX8_readPlan 55 = .ok (.iconst 2, 1) := by decide +kernel
theorem dX8_readPlan_56 : decode cX8_readPlan 56 = .ok (.invokevirtual 297, 3) := by decide +kernel
theorem dX8_readPlan_59 : decode cX8_readPlan 59 = .ok (.aload_n 0, 1) := by decide +kernel
theorem dX8_readPlan_60 : decode cX8_readPlan 60 = .ok (.getfield 29, 3) := by decide +kernel
theorem dX8_readPlan_63 : decode cX8_readPlan 63 = .ok (.iload_n 2, 1) := by decide +kernel
theorem dX8_readPlan_64 : decode cX8_readPlan 64 = .ok (.iconst 3, 1) := by decide +kernel
theorem dX8_readPlan_65 : decode cX8_readPlan 65 = .ok (.invokevirtual 297, 3) := by decide +kernel
theorem dX8_readPlan_68 : decode cX8_readPlan 68 = .ok (.iconst 0, 1) := by decide +kernel
theorem dX8_readPlan_69 : decode cX8_readPlan 69 = .ok (.invokevirtual 33, 3) := by decide +kernel
theorem dX8_readPlan_72 : decode cX8_readPlan 72 = .ok (.ifCond .eq 5, 3) := by decide +kernel
theorem dX8_readPlan_75 : decode cX8_readPlan 75 = .ok (.iload_n 2, 1) := by decide +kernel
theorem dX8_readPlan_76 : decode cX8_readPlan 76 = .ok (.ireturn, 1) := by decide +kernel
theorem dX8_readPlan_77 : decode cX8_readPlan 77 = .ok (.iinc 2 1, 3) := by decide +kernel
theorem dX8_readPlan_80 : decode cX8_readPlan 80 = .ok (.goto (-60), 3) := by decide +kernel
theorem dX8_readPlan_83 : decode cX8_readPlan 83 = .ok (.aload_n 0, 1) := by decide +kernel
theorem dX8_readPlan_84 : decode cX8_readPlan 84 = .ok (.getfield 29, 3) := by decide +kernel
theorem dX8_readPlan_87 : decode cX8_readPlan 87 = .ok (.getfield 294, 3) := by decide +kernel
theorem dX8_readPlan_90 : decode cX8_readPlan 90 = .ok (.ireturn, 1) := by decide +kernel
theorem dX8_save_0 : decode cX8_save 0 = .ok (.aload_n 0, 1) := by decide +kernel
theorem dX8_save_1 : decode cX8_save 1 = .ok (.getfield 16, 3) := by decide +kernel
theorem dX8_save_4 : decode cX8_save 4 = .ok (.aload_n 0, 1) := by decide +kernel
theorem dX8_save_5 : decode cX8_save 5 = .ok (.getfield 10, 3) := by decide +kernel
theorem dX8_save_8 : decode cX8_save 8 = .ok (.invokevirtual 298, 3) := by decide +kernel
theorem dX8_save_11 : decode cX8_save 11 = .ok (.aload_n 0, 1) := by decide +kernel
theorem dX8_save_12 : decode cX8_save 12 = .ok (.iconst 1, 1) := by decide +kernel
theorem dX8_save_13 : decode cX8_save 13 = .ok (.putfield 301, 3) := by decide +kernel
theorem dX8_save_16 : decode cX8_save 16 = .ok (.aload_n 0, 1) := by decide +kernel
theorem dX8_save_17 : decode cX8_save 17 = .ok (.getfield 16, 3) := by decide +kernel
theorem dX8_save_20 : decode cX8_save 20 = .ok (.invokevirtual 304, 3) := by decide +kernel
theorem dX8_save_23 : decode cX8_save 23 = .ok (.ireturn, 1) := by decide +kernel
theorem dX8_restore_0 : decode cX8_restore 0 = .ok (.aload_n 0, 1) := by decide +kernel
theorem dX8_restore_1 : decode cX8_restore 1 = .ok (.getfield 301, 3) := by decide +kernel
theorem dX8_restore_4 : decode cX8_restore 4 = .ok (.ifCond .ne 14, 3) := by decide +kernel
theorem dX8_restore_7 : decode cX8_restore 7 = .ok (.new 83, 3) := by decide +kernel
theorem dX8_restore_10 : decode cX8_restore 10 = .ok (.dup, 1) := by decide +kernel
theorem dX8_restore_11 : decode cX8_restore 11 = .ok (.ldc_w 307, 3) := by decide +kernel
theorem dX8_restore_14 : decode cX8_restore 14 = .ok (.invokespecial 87, 3) := by decide +kernel
theorem dX8_restore_17 : decode cX8_restore 17 = .ok (.athrow, 1) := by decide +kernel
theorem dX8_restore_18 : decode cX8_restore 18 = .ok (.aload_n 0, 1) := by decide +kernel
theorem dX8_restore_19 : decode cX8_restore 19 = .ok (.getfield 10, 3) := by decide +kernel
theorem dX8_restore_22 : decode cX8_restore 22 = .ok (.aload_n 0, 1) := by decide +kernel
theorem dX8_restore_23 : decode cX8_restore 23 = .ok (.getfield 16, 3) := by decide +kernel
theorem dX8_restore_26 : decode cX8_restore 26 = .ok (.invokevirtual 298, 3) := by decide +kernel
theorem dX8_restore_29 : decode cX8_restore 29 = .ok (.aload_n 0, 1) := by decide +kernel
theorem dX8_restore_30 : decode cX8_restore 30 = .ok (.getfield 10, 3) := by decide +kernel
theorem dX8_restore_33 : decode cX8_restore 33 = .ok (.invokevirtual 304, 3) := by decide +kernel
theorem dX8_restore_36 : decode cX8_restore 36 = .ok (.ireturn, 1) := by decide +kernel
theorem dX8_requirePart_0 : decode cX8_requirePart 0 = .ok (.iload_n 0, 1) := by decide +kernel
theorem dX8_requirePart_1 : decode cX8_requirePart 1 = .ok (.ifCond .ne 14, 3) := by decide +kernel
theorem dX8_requirePart_4 : decode cX8_requirePart 4 = .ok (.new 71, 3) := by decide +kernel
theorem dX8_requirePart_7 : decode cX8_requirePart 7 = .ok (.dup, 1) := by decide +kernel
theorem dX8_requirePart_8 : decode cX8_requirePart 8 = .ok (.ldc_w 309, 3) := by decide +kernel
theorem dX8_requirePart_11 : decode cX8_requirePart 11 = .ok (.invokespecial 75, 3) := by decide +kernel
theorem dX8_requirePart_14 : decode cX8_requirePart 14 = .ok (.athrow, 1) := by decide +kernel
theorem dX8_requirePart_15 : decode cX8_requirePart 15 = .ok (.return_, 1) := by decide +kernel
theorem dX8_requireRange_0 : decode cX8_requireRange 0 = .ok (.iload_n 0, 1) := by decide +kernel
theorem dX8_requireRange_1 : decode cX8_requireRange 1 = .ok (.ifCond .ne 13, 3) := by decide +kernel
theorem dX8_requireRange_4 : decode cX8_requireRange 4 = .ok (.new 78, 3) := by decide +kernel
theorem dX8_requireRange_7 : decode cX8_requireRange 7 = .ok (.dup, 1) := by decide +kernel
theorem dX8_requireRange_8 : decode cX8_requireRange 8 = .ok (.ldc 80, 2) := by decide +kernel
theorem dX8_requireRange_10 : decode cX8_requireRange 10 = .ok (.invokespecial 82, 3) := by decide +kernel
theorem dX8_requireRange_13 : decode cX8_requireRange 13 = .ok (.athrow, 1) := by decide +kernel
theorem dX8_requireRange_14 : decode cX8_requireRange 14 = .ok (.return_, 1) := by decide +kernel
theorem dX8_isWithin_0 : decode cX8_isWithin 0 = .ok (.iload_n 0, 1) := by decide +kernel
theorem dX8_isWithin_1 : decode cX8_isWithin 1 = .ok (.iload_n 1, 1) := by decide +kernel
theorem dX8_isWithin_2 : decode cX8_isWithin 2 = .ok (.if_icmp .lt 12, 3) := by decide +kernel
theorem dX8_isWithin_5 : decode cX8_isWithin 5 = .ok (.iload_n 0, 1) := by decide +kernel
theorem dX8_isWithin_6 : decode cX8_isWithin 6 = .ok (.iload_n 2, 1) := by decide +kernel
theorem dX8_isWithin_7 : decode cX8_isWithin 7 = .ok (.if_icmp .gt 7, 3) := by decide +kernel
theorem dX8_isWithin_10 : decode cX8_isWithin 10 = .ok (.iconst 1, 1) := by decide +kernel
theorem dX8_isWithin_11 : decode cX8_isWithin 11 = .ok (.goto 4, 3) := by decide +kernel
theorem dX8_isWithin_14 : decode cX8_isWithin 14 = .ok (.iconst 0, 1) := by decide +kernel
theorem dX8_isWithin_15 : decode cX8_isWithin 15 = .ok (.ireturn, 1) := by decide +kernel
