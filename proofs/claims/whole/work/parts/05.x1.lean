theorem dX1_init_0 : decode cX1_init 0 = .ok (.aload_n 0, 1) := by decide +kernel
theorem dX1_init_1 : decode cX1_init 1 = .ok (.invokespecial 1, 3) := by decide +kernel
theorem dX1_init_4 : decode cX1_init 4 = .ok (.aload_n 0, 1) := by decide +kernel
theorem dX1_init_5 : decode cX1_init 5 = .ok (.bipush 40, 2) := by decide +kernel
theorem dX1_init_7 : decode cX1_init 7 = .ok (.newarray .int, 2) := by decide +kernel
theorem dX1_init_9 : decode cX1_init 9 = .ok (.putfield 7, 3) := by decide +kernel
theorem dX1_init_12 : decode cX1_init 12 = .ok (.aload_n 0, 1) := by decide +kernel
theorem dX1_init_13 : decode cX1_init 13 = .ok (.bipush 12, 2) := by decide +kernel
theorem dX1_init_15 : decode cX1_init 15 = .ok (.newarray .int, 2) := by decide +kernel
theorem dX1_init_17 : decode cX1_init 17 = .ok (.putfield 13, 3) := by decide +kernel
theorem dX1_init_20 : decode cX1_init 20 = .ok (.aload_n 0, 1) := by decide +kernel
theorem dX1_init_21 : decode cX1_init 21 = .ok (.bipush 12, 2) := by decide +kernel
theorem dX1_init_23 : decode cX1_init 23 = .ok (.newarray .int, 2) := by decide +kernel
theorem dX1_init_25 : decode cX1_init 25 = .ok (.putfield 16, 3) := by decide +kernel
theorem dX1_init_28 : decode cX1_init 28 = .ok (.aload_n 0, 1) := by decide +kernel
theorem dX1_init_29 : decode cX1_init 29 = .ok (.bipush 12, 2) := by decide +kernel
theorem dX1_init_31 : decode cX1_init 31 = .ok (.newarray .int, 2) := by decide +kernel
theorem dX1_init_33 : decode cX1_init 33 = .ok (.putfield 19, 3) := by decide +kernel
theorem dX1_init_36 : decode cX1_init 36 = .ok (.aload_n 0, 1) := by decide +kernel
theorem dX1_init_37 : decode cX1_init 37 = .ok (.sipush 19200, 3) := by decide +kernel
theorem dX1_init_40 : decode cX1_init 40 = .ok (.newarray .boolean, 2) := by decide +kernel
theorem dX1_init_42 : decode cX1_init 42 = .ok (.putfield 22, 3) := by decide +kernel
theorem dX1_init_45 : decode cX1_init 45 = .ok (.aload_n 0, 1) := by decide +kernel
theorem dX1_init_46 : decode cX1_init 46 = .ok (.iconst 4, 1) := by decide +kernel
theorem dX1_init_47 : decode cX1_init 47 = .ok (.newarray .int, 2) := by decide +kernel
theorem dX1_init_49 : decode cX1_init 49 = .ok (.putfield 26, 3) := by decide +kernel
theorem dX1_init_52 : decode cX1_init 52 = .ok (.aload_n 0, 1) := by decide +kernel
theorem dX1_init_53 : decode cX1_init 53 = .ok (.iconst 4, 1) := by decide +kernel
theorem dX1_init_54 : decode cX1_init 54 = .ok (.newarray .int, 2) := by decide +kernel
theorem dX1_init_56 : decode cX1_init 56 = .ok (.putfield 29, 3) := by decide +kernel
theorem dX1_init_59 : decode cX1_init 59 = .ok (.aload_n 0, 1) := by decide +kernel
theorem dX1_init_60 : decode cX1_init 60 = .ok (.sipush 1600, 3) := by decide +kernel
theorem dX1_init_63 : decode cX1_init 63 = .ok (.newarray .int, 2) := by decide +kernel
theorem dX1_init_65 : decode cX1_init 65 = .ok (.putfield 32, 3) := by decide +kernel
theorem dX1_init_68 : decode cX1_init 68 = .ok (.aload_n 0, 1) := by decide +kernel
theorem dX1_init_69 : decode cX1_init 69 = .ok (.sipush 1600, 3) := by decide +kernel
theorem dX1_init_72 : decode cX1_init 72 = .ok (.newarray .boolean, 2) := by decide +kernel
theorem dX1_init_74 : decode cX1_init 74 = .ok (.putfield 35, 3) := by decide +kernel
theorem dX1_init_77 : decode cX1_init 77 = .ok (.aload_n 0, 1) := by decide +kernel
theorem dX1_init_78 : decode cX1_init 78 = .ok (.bipush 40, 2) := by decide +kernel
theorem dX1_init_80 : decode cX1_init 80 = .ok (.newarray .int, 2) := by decide +kernel
theorem dX1_init_82 : decode cX1_init 82 = .ok (.putfield 38, 3) := by decide +kernel
theorem dX1_init_85 : decode cX1_init 85 = .ok (.aload_n 0, 1) := by decide +kernel
theorem dX1_init_86 : decode cX1_init 86 = .ok (.iload_n 1, 1) := by decide +kernel
theorem dX1_init_87 : decode cX1_init 87 = .ok (.iconst 1, 1) := by decide +kernel
theorem dX1_init_88 : decode cX1_init 88 = .ok (.if_icmp .ge 7, 3) := by decide +kernel
theorem dX1_init_91 : decode cX1_init 91 = .ok (.iconst 1, 1) := by decide +kernel
theorem dX1_init_92 : decode cX1_init 92 = .ok (.goto 15, 3) := by decide +kernel
theorem dX1_init_95 : decode cX1_init 95 = .ok (.iload_n 1, 1) := by decide +kernel
theorem dX1_init_96 : decode cX1_init 96 = .ok (.bipush 40, 2) := by decide +kernel
theorem dX1_init_98 : decode cX1_init 98 = .ok (.if_icmp .le 8, 3) := by decide +kernel
theorem dX1_init_101 : decode cX1_init 101 = .ok (.bipush 40, 2) := by decide +kernel
theorem dX1_init_103 : decode cX1_init 103 = .ok (.goto 4, 3) := by decide +kernel
theorem dX1_init_106 : decode cX1_init 106 = .ok (.iload_n 1, 1) := by decide +kernel
theorem dX1_init_107 : decode cX1_init 107 = .ok (.putfield 41, 3) := by decide +kernel
theorem dX1_init_110 : decode cX1_init 110 = .ok (.aload_n 0, 1) := by decide +kernel
theorem dX1_init_111 : decode cX1_init 111 = .ok (.invokevirtual 45, 3) := by decide +kernel
theorem dX1_init_114 : decode cX1_init 114 = .ok (.return_, 1) := by decide +kernel
theorem dX1_thrown_0 : decode cX1_thrown 0 = .ok (.aload_n 0, 1) := by decide +kernel
theorem dX1_thrown_1 : decode cX1_thrown 1 = .ok (.getfield 48, 3) := by decide +kernel
theorem dX1_thrown_4 : decode cX1_thrown 4 = .ok (.ireturn, 1) := by decide +kernel
theorem dX1_begin_0 : decode cX1_begin 0 = .ok (.aload_n 0, 1) := by decide +kernel
theorem dX1_begin_1 : decode cX1_begin 1 = .ok (.iconst 0, 1) := by decide +kernel
theorem dX1_begin_2 : decode cX1_begin 2 = .ok (.putfield 51, 3) := by decide +kernel
theorem dX1_begin_5 : decode cX1_begin 5 = .ok (.aload_n 0, 1) := by decide +kernel
theorem dX1_begin_6 : decode cX1_begin 6 = .ok (.iconst 0, 1) := by decide +kernel
theorem dX1_begin_7 : decode cX1_begin 7 = .ok (.putfield 54, 3) := by decide +kernel
theorem dX1_begin_10 : decode cX1_begin 10 = .ok (.iconst 0, 1) := by decide +kernel
theorem dX1_begin_11 : decode cX1_begin 11 = .ok (.istore_n 1, 1) := by decide +kernel
theorem dX1_begin_12 : decode cX1_begin 12 = .ok (.iload_n 1, 1) := by decide +kernel
theorem dX1_begin_13 : decode cX1_begin 13 = .ok (.bipush 40, 2) := by decide +kernel
theorem dX1_begin_15 : decode cX1_begin 15 = .ok (.if_icmp .ge 16, 3) := by decide +kernel
theorem dX1_begin_18 : decode cX1_begin 18 = .ok (.aload_n 0, 1) := by decide +kernel
theorem dX1_begin_19 : decode cX1_begin 19 = .ok (.getfield 7, 3) := by decide +kernel
theorem dX1_begin_22 : decode cX1_begin 22 = .ok (.iload_n 1, 1) := by decide +kernel
theorem dX1_begin_23 : decode cX1_begin 23 = .ok (.iconst 0, 1) := by decide +kernel
theorem dX1_begin_24 : decode cX1_begin 24 = .ok (.iastore, 1) := by decide +kernel
theorem dX1_begin_25 : decode cX1_begin 25 = .ok (.iinc 1 1, 3) := by decide +kernel
theorem dX1_begin_28 : decode cX1_begin 28 = .ok (.goto (-16), 3) := by decide +kernel
theorem dX1_begin_31 : decode cX1_begin 31 = .ok (.iconst 0, 1) := by decide +kernel
theorem dX1_begin_32 : decode cX1_begin 32 = .ok (.istore_n 1, 1) := by decide +kernel
theorem dX1_begin_33 : decode cX1_begin 33 = .ok (.iload_n 1, 1) := by decide +kernel
theorem dX1_begin_34 : decode cX1_begin 34 = .ok (.sipush 1600, 3) := by decide +kernel
theorem dX1_begin_37 : decode cX1_begin 37 = .ok (.if_icmp .ge 16, 3) := by decide +kernel
theorem dX1_begin_40 : decode cX1_begin 40 = .ok (.aload_n 0, 1) := by decide +kernel
theorem dX1_begin_41 : decode cX1_begin 41 = .ok (.getfield 32, 3) := by decide +kernel
theorem dX1_begin_44 : decode cX1_begin 44 = .ok (.iload_n 1, 1) := by decide +kernel
theorem dX1_begin_45 : decode cX1_begin 45 = .ok (.iconst 0, 1) := by decide +kernel
theorem dX1_begin_46 : decode cX1_begin 46 = .ok (.iastore, 1) := by decide +kernel
theorem dX1_begin_47 : decode cX1_begin 47 = .ok (.iinc 1 1, 3) := by decide +kernel
theorem dX1_begin_50 : decode cX1_begin 50 = .ok (.goto (-17), 3) := by decide +kernel
theorem dX1_begin_53 : decode cX1_begin 53 = .ok (.return_, 1) := by decide +kernel
theorem dX1_clear_0 : decode cX1_clear 0 = .ok (.aload_n 0, 1) := by decide +kernel
theorem dX1_clear_1 : decode cX1_clear 1 = .ok (.iconst 0, 1) := by decide +kernel
theorem dX1_clear_2 : decode cX1_clear 2 = .ok (.putfield 48, 3) := by decide +kernel
theorem dX1_clear_5 : decode cX1_clear 5 = .ok (.aload_n 0, 1) := by decide +kernel
theorem dX1_clear_6 : decode cX1_clear 6 = .ok (.getfield 51, 3) := by decide +kernel
theorem dX1_clear_9 : decode cX1_clear 9 = .ok (.istore_n 1, 1) := by decide +kernel
theorem dX1_clear_10 : decode cX1_clear 10 = .ok (.aload_n 0, 1) := by decide +kernel
theorem dX1_clear_11 : decode cX1_clear 11 = .ok (.invokevirtual 45, 3) := by decide +kernel
theorem dX1_clear_14 : decode cX1_clear 14 = .ok (.iload_n 1, 1) := by decide +kernel
theorem dX1_clear_15 : decode cX1_clear 15 = .ok (.ireturn, 1) := by decide +kernel
theorem dX1_isGood_0 : decode cX1_isGood 0 = .ok (.aload_n 0, 1) := by decide +kernel
theorem dX1_isGood_1 : decode cX1_isGood 1 = .ok (.iload_n 1, 1) := by decide +kernel
theorem dX1_isGood_2 : decode cX1_isGood 2 = .ok (.putfield 48, 3) := by decide +kernel
theorem dX1_isGood_5 : decode cX1_isGood 5 = .ok (.iload_n 1, 1) := by decide +kernel
theorem dX1_isGood_6 : decode cX1_isGood 6 = .ok (.ifCond .ne 7, 3) := by decide +kernel
theorem dX1_isGood_9 : decode cX1_isGood 9 = .ok (.iconst 1, 1) := by decide +kernel
theorem dX1_isGood_10 : decode cX1_isGood 10 = .ok (.goto 4, 3) := by decide +kernel
theorem dX1_isGood_13 : decode cX1_isGood 13 = .ok (.iconst 0, 1) := by decide +kernel
theorem dX1_isGood_14 : decode cX1_isGood 14 = .ok (.ireturn, 1) := by decide +kernel
theorem dX1_isIn_0 : decode cX1_isIn 0 = .ok (.iload_n 0, 1) := by decide +kernel
theorem dX1_isIn_1 : decode cX1_isIn 1 = .ok (.iload_n 1, 1) := by decide +kernel
theorem dX1_isIn_2 : decode cX1_isIn 2 = .ok (.if_icmp .lt 12, 3) := by decide +kernel
theorem dX1_isIn_5 : decode cX1_isIn 5 = .ok (.iload_n 0, 1) := by decide +kernel
theorem dX1_isIn_6 : decode cX1_isIn 6 = .ok (.iload_n 2, 1) := by decide +kernel
theorem dX1_isIn_7 : decode cX1_isIn 7 = .ok (.if_icmp .gt 7, 3) := by decide +kernel
theorem dX1_isIn_10 : decode cX1_isIn 10 = .ok (.iconst 1, 1) := by decide +kernel
theorem dX1_isIn_11 : decode cX1_isIn 11 = .ok (.goto 4, 3) := by decide +kernel
theorem dX1_isIn_14 : decode cX1_isIn 14 = .ok (.iconst 0, 1) := by decide +kernel
theorem dX1_isIn_15 : decode cX1_isIn 15 = .ok (.ireturn, 1) := by decide +kernel
theorem dX1_isThing_0 : decode cX1_isThing 0 = .ok (.iload_n 1, 1) := by decide +kernel
theorem dX1_isThing_1 : decode cX1_isThing 1 = .ok (.iconst 0, 1) := by decide +kernel
theorem dX1_isThing_2 : decode cX1_isThing 2 = .ok (.aload_n 0, 1) := by decide +kernel
theorem dX1_isThing_3 : decode cX1_isThing 3 = .ok (.getfield 41, 3) := by decide +kernel
theorem dX1_isThing_6 : decode cX1_isThing 6 = .ok (.iconst 1, 1) := by decide +kernel
theorem dX1_isThing_7 : decode cX1_isThing 7 = .ok (.isub, 1) := by decide +kernel
theorem dX1_isThing_8 : decode cX1_isThing 8 = .ok (.invokestatic 57, 3) := by decide +kernel
theorem dX1_isThing_11 : decode cX1_isThing 11 = .ok (.ireturn, 1) := by decide +kernel
theorem dX1_isRelation_0 : decode cX1_isRelation 0 = .ok (.iload_n 1, 1) := by decide +kernel
theorem dX1_isRelation_1 : decode cX1_isRelation 1 = .ok (.iconst 0, 1) := by decide +kernel
theorem dX1_isRelation_2 : decode cX1_isRelation 2 = .ok (.aload_n 0, 1) := by decide +kernel
theorem dX1_isRelation_3 : decode cX1_isRelation 3 = .ok (.getfield 51, 3) := by decide +kernel
theorem dX1_isRelation_6 : decode cX1_isRelation 6 = .ok (.iconst 1, 1) := by decide +kernel
theorem dX1_isRelation_7 : decode cX1_isRelation 7 = .ok (.isub, 1) := by decide +kernel
theorem dX1_isRelation_8 : decode cX1_isRelation 8 = .ok (.invokestatic 57, 3) := by decide +kernel
theorem dX1_isRelation_11 : decode cX1_isRelation 11 = .ok (.ireturn, 1) := by decide +kernel
theorem dX1_kind_0 : decode cX1_kind 0 = .ok (.aload_n 0, 1) := by decide +kernel
theorem dX1_kind_1 : decode cX1_kind 1 = .ok (.aload_n 0, 1) := by decide +kernel
theorem dX1_kind_2 : decode cX1_kind 2 = .ok (.iload_n 1, 1) := by decide +kernel
theorem dX1_kind_3 : decode cX1_kind 3 = .ok (.invokevirtual 61, 3) := by decide +kernel
theorem dX1_kind_6 : decode cX1_kind 6 = .ok (.ifCond .eq 12, 3) := by decide +kernel
theorem dX1_kind_9 : decode cX1_kind 9 = .ok (.iload_n 2, 1) := by decide +kernel
theorem dX1_kind_10 : decode cX1_kind 10 = .ok (.iconst 0, 1) := by decide +kernel
theorem dX1_kind_11 : decode cX1_kind 11 = .ok (.iconst 3, 1) := by decide +kernel
theorem dX1_kind_12 : decode cX1_kind 12 = .ok (.invokestatic 57, 3) := by decide +kernel
theorem dX1_kind_15 : decode cX1_kind 15 = .ok (.ifCond .ne 7, 3) := by decide +kernel
theorem dX1_kind_18 : decode cX1_kind 18 = .ok (.iconst 1, 1) := by decide +kernel
theorem dX1_kind_19 : decode cX1_kind 19 = .ok (.goto 15, 3) := by decide +kernel
theorem dX1_kind_22 : decode cX1_kind 22 = .ok (.aload_n 0, 1) := by decide +kernel
theorem dX1_kind_23 : decode cX1_kind 23 = .ok (.getfield 51, 3) := by decide +kernel
theorem dX1_kind_26 : decode cX1_kind 26 = .ok (.ifCond .le 7, 3) := by decide +kernel
theorem dX1_kind_29 : decode cX1_kind 29 = .ok (.iconst 2, 1) := by decide +kernel
theorem dX1_kind_30 : decode cX1_kind 30 = .ok (.goto 4, 3) := by decide +kernel
theorem dX1_kind_33 : decode cX1_kind 33 = .ok (.iconst 0, 1) := by decide +kernel
theorem dX1_kind_34 : decode cX1_kind 34 = .ok (.invokevirtual 65, 3) := by decide +kernel
theorem dX1_kind_37 : decode cX1_kind 37 = .ok (.ifCond .ne 5, 3) := by decide +kernel
theorem dX1_kind_40 : decode cX1_kind 40 = .ok (.iconst 0, 1) := by decide +kernel
theorem dX1_kind_41 : decode cX1_kind 41 = .ok (.ireturn, 1) := by decide +kernel
theorem dX1_kind_42 : decode cX1_kind 42 = .ok (.aload_n 0, 1) := by decide +kernel
theorem dX1_kind_43 : decode cX1_kind 43 = .ok (.getfield 7, 3) := by decide +kernel
theorem dX1_kind_46 : decode cX1_kind 46 = .ok (.iload_n 1, 1) := by decide +kernel
theorem dX1_kind_47 : decode cX1_kind 47 = .ok (.iaload, 1) := by decide +kernel
theorem dX1_kind_48 : decode cX1_kind 48 = .ok (.istore_n 3, 1) := by decide +kernel
theorem dX1_kind_49 : decode cX1_kind 49 = .ok (.aload_n 0, 1) := by decide +kernel
theorem dX1_kind_50 : decode cX1_kind 50 = .ok (.getfield 7, 3) := by decide +kernel
theorem dX1_kind_53 : decode cX1_kind 53 = .ok (.iload_n 1, 1) := by decide +kernel
theorem dX1_kind_54 : decode cX1_kind 54 = .ok (.iload_n 2, 1) := by decide +kernel
theorem dX1_kind_55 : decode cX1_kind 55 = .ok (.iastore, 1) := by decide +kernel
theorem dX1_kind_56 : decode cX1_kind 56 = .ok (.iload_n 3, 1) := by decide +kernel
theorem dX1_kind_57 : decode cX1_kind 57 = .ok (.ireturn, 1) := by decide +kernel
theorem dX1_at_0 : decode cX1_at 0 = .ok (.sipush 1600, 3) := by decide +kernel
theorem dX1_at_3 : decode cX1_at 3 = .ok (.iload_n 0, 1) := by decide +kernel
theorem dX1_at_4 : decode cX1_at 4 = .ok (.imul, 1) := by decide +kernel
theorem dX1_at_5 : decode cX1_at 5 = .ok (.bipush 40, 2) := by decide +kernel
theorem dX1_at_7 : decode cX1_at 7 = .ok (.iload_n 1, 1) := by decide +kernel
theorem dX1_at_8 : decode cX1_at 8 = .ok (.imul, 1) := by decide +kernel
theorem dX1_at_9 : decode cX1_at 9 = .ok (.iadd, 1) := by decide +kernel
theorem dX1_at_10 : decode cX1_at 10 = .ok (.iload_n 2, 1) := by decide +kernel
theorem dX1_at_11 : decode cX1_at 11 = .ok (.iadd, 1) := by decide +kernel
theorem dX1_at_12 : decode cX1_at 12 = .ok (.ireturn, 1) := by decide +kernel
theorem dX1_make_0 : decode cX1_make 0 = .ok (.aload_n 0, 1) := by decide +kernel
theorem dX1_make_1 : decode cX1_make 1 = .ok (.getfield 51, 3) := by decide +kernel
theorem dX1_make_4 : decode cX1_make 4 = .ok (.istore 4, 2) := by decide +kernel
theorem dX1_make_6 : decode cX1_make 6 = .ok (.aload_n 0, 1) := by decide +kernel
theorem dX1_make_7 : decode cX1_make 7 = .ok (.dup, 1) := by decide +kernel
theorem dX1_make_8 : decode cX1_make 8 = .ok (.getfield 51, 3) := by decide +kernel
theorem dX1_make_11 : decode cX1_make 11 = .ok (.iconst 1, 1) := by decide +kernel
theorem dX1_make_12 : decode cX1_make 12 = .ok (.iadd, 1) := by decide +kernel
theorem dX1_make_13 : decode cX1_make 13 = .ok (.putfield 51, 3) := by decide +kernel
theorem dX1_make_16 : decode cX1_make 16 = .ok (.aload_n 0, 1) := by decide +kernel
theorem dX1_make_17 : decode cX1_make 17 = .ok (.getfield 13, 3) := by decide +kernel
theorem dX1_make_20 : decode cX1_make 20 = .ok (.iload 4, 2) := by decide +kernel
theorem dX1_make_22 : decode cX1_make 22 = .ok (.iload_n 1, 1) := by decide +kernel
theorem dX1_make_23 : decode cX1_make 23 = .ok (.iastore, 1) := by decide +kernel
theorem dX1_make_24 : decode cX1_make 24 = .ok (.aload_n 0, 1) := by decide +kernel
theorem dX1_make_25 : decode cX1_make 25 = .ok (.getfield 16, 3) := by decide +kernel
theorem dX1_make_28 : decode cX1_make 28 = .ok (.iload 4, 2) := by decide +kernel
theorem dX1_make_30 : decode cX1_make 30 = .ok (.iload_n 2, 1) := by decide +kernel
theorem dX1_make_31 : decode cX1_make 31 = .ok (.iastore, 1) := by decide +kernel
theorem dX1_make_32 : decode cX1_make 32 = .ok (.aload_n 0, 1) := by decide +kernel
theorem dX1_make_33 : decode cX1_make 33 = .ok (.getfield 19, 3) := by decide +kernel
theorem dX1_make_36 : decode cX1_make 36 = .ok (.iload 4, 2) := by decide +kernel
theorem dX1_make_38 : decode cX1_make 38 = .ok (.iload_n 3, 1) := by decide +kernel
theorem dX1_make_39 : decode cX1_make 39 = .ok (.iastore, 1) := by decide +kernel
theorem dX1_make_40 : decode cX1_make 40 = .ok (.iconst 0, 1) := by decide +kernel
theorem dX1_make_41 : decode cX1_make 41 = .ok (.istore 5, 2) := by decide +kernel
theorem dX1_make_43 : decode cX1_make 43 = .ok (.iload 5, 2) := by decide +kernel
theorem dX1_make_45 : decode cX1_make 45 = .ok (.sipush 1600, 3) := by decide +kernel
theorem dX1_make_48 : decode cX1_make 48 = .ok (.if_icmp .ge 24, 3) := by decide +kernel
theorem dX1_make_51 : decode cX1_make 51 = .ok (.aload_n 0, 1) := by decide +kernel
theorem dX1_make_52 : decode cX1_make 52 = .ok (.getfield 22, 3) := by decide +kernel
theorem dX1_make_55 : decode cX1_make 55 = .ok (.sipush 1600, 3) := by decide +kernel
theorem dX1_make_58 : decode cX1_make 58 = .ok (.iload 4, 2) := by decide +kernel
theorem dX1_make_60 : decode cX1_make 60 = .ok (.imul, 1) := by decide +kernel
theorem dX1_make_61 : decode cX1_make 61 = .ok (.iload 5, 2) := by decide +kernel
theorem dX1_make_63 : decode cX1_make 63 = .ok (.iadd, 1) := by decide +kernel
theorem dX1_make_64 : decode cX1_make 64 = .ok (.iconst 0, 1) := by decide +kernel
theorem dX1_make_65 : decode cX1_make 65 = .ok (.bastore, 1) := by decide +kernel
theorem dX1_make_66 : decode cX1_make 66 = .ok (.iinc 5 1, 3) := by decide +kernel
theorem dX1_make_69 : decode cX1_make 69 = .ok (.goto (-26), 3) := by decide +kernel
theorem dX1_make_72 : decode cX1_make 72 = .ok (.iconst 0, 1) := by decide +kernel
theorem dX1_make_73 : decode cX1_make 73 = .ok (.istore 5, 2) := by decide +kernel
theorem dX1_make_75 : decode cX1_make 75 = .ok (.iload 5, 2) := by decide +kernel
theorem dX1_make_77 : decode cX1_make 77 = .ok (.aload_n 0, 1) := by decide +kernel
theorem dX1_make_78 : decode cX1_make 78 = .ok (.getfield 41, 3) := by decide +kernel
theorem dX1_make_81 : decode cX1_make 81 = .ok (.if_icmp .ge 50, 3) := by decide +kernel
theorem dX1_make_84 : decode cX1_make 84 = .ok (.aload_n 0, 1) := by decide +kernel
theorem dX1_make_85 : decode cX1_make 85 = .ok (.getfield 22, 3) := by decide +kernel
theorem dX1_make_88 : decode cX1_make 88 = .ok (.iload 4, 2) := by decide +kernel
theorem dX1_make_90 : decode cX1_make 90 = .ok (.iload 5, 2) := by decide +kernel
theorem dX1_make_92 : decode cX1_make 92 = .ok (.iload 5, 2) := by decide +kernel
theorem dX1_make_94 : decode cX1_make 94 = .ok (.invokestatic 68, 3) := by decide +kernel
theorem dX1_make_97 : decode cX1_make 97 = .ok (.iload_n 1, 1) := by decide +kernel
theorem dX1_make_98 : decode cX1_make 98 = .ok (.bipush 6, 2) := by decide +kernel
theorem dX1_make_100 : decode cX1_make 100 = .ok (.if_icmp .ne 23, 3) := by decide +kernel
theorem dX1_make_103 : decode cX1_make 103 = .ok (.iload_n 2, 1) := by decide +kernel
theorem dX1_make_104 : decode cX1_make 104 = .ok (.iconst (-1), 1) := by decide +kernel
theorem dX1_make_105 : decode cX1_make 105 = .ok (.if_icmp .eq 14, 3) := by decide +kernel
theorem dX1_make_108 : decode cX1_make 108 = .ok (.aload_n 0, 1) := by decide +kernel
theorem dX1_make_109 : decode cX1_make 109 = .ok (.getfield 7, 3) := by decide +kernel
theorem dX1_make_112 : decode cX1_make 112 = .ok (.iload 5, 2) := by decide +kernel
theorem dX1_make_114 : decode cX1_make 114 = .ok (.iaload, 1) := by decide +kernel
theorem dX1_make_115 : decode cX1_make 115 = .ok (.iload_n 2, 1) := by decide +kernel
theorem dX1_make_116 : decode cX1_make 116 = .ok (.if_icmp .ne 7, 3) := by decide +kernel
theorem dX1_make_119 : decode cX1_make 119 = .ok (.iconst 1, 1) := by decide +kernel
theorem dX1_make_120 : decode cX1_make 120 = .ok (.goto 4, 3) := by decide +kernel
theorem dX1_make_123 : decode cX1_make 123 = .ok (.iconst 0, 1) := by decide +kernel
theorem dX1_make_124 : decode cX1_make 124 = .ok (.bastore, 1) := by decide +kernel
theorem dX1_make_125 : decode cX1_make 125 = .ok (.iinc 5 1, 3) := by decide +kernel
theorem dX1_make_128 : decode cX1_make 128 = .ok (.goto (-53), 3) := by decide +kernel
theorem dX1_make_131 : decode cX1_make 131 = .ok (.iload 4, 2) := by decide +kernel
theorem dX1_make_133 : decode cX1_make 133 = .ok (.ireturn, 1) := by decide +kernel
theorem dX1_relation_0 : decode cX1_relation 0 = .ok (.iload_n 1, 1) := by decide +kernel
theorem dX1_relation_1 : decode cX1_relation 1 = .ok (.iconst 0, 1) := by decide +kernel
theorem dX1_relation_2 : decode cX1_relation 2 = .ok (.bipush 6, 2) := by decide +kernel
theorem dX1_relation_4 : decode cX1_relation 4 = .ok (.invokestatic 57, 3) := by decide +kernel
theorem dX1_relation_7 : decode cX1_relation 7 = .ok (.ifCond .eq 35, 3) := by decide +kernel
theorem dX1_relation_10 : decode cX1_relation 10 = .ok (.iload_n 2, 1) := by decide +kernel
theorem dX1_relation_11 : decode cX1_relation 11 = .ok (.iconst (-1), 1) := by decide +kernel
theorem dX1_relation_12 : decode cX1_relation 12 = .ok (.iconst 3, 1) := by decide +kernel
theorem dX1_relation_13 : decode cX1_relation 13 = .ok (.invokestatic 57, 3) := by decide +kernel
theorem dX1_relation_16 : decode cX1_relation 16 = .ok (.ifCond .eq 26, 3) := by decide +kernel
theorem dX1_relation_19 : decode cX1_relation 19 = .ok (.iload_n 3, 1) := by decide +kernel
theorem dX1_relation_20 : decode cX1_relation 20 = .ok (.iconst (-1), 1) := by decide +kernel
theorem dX1_relation_21 : decode cX1_relation 21 = .ok (.iconst 3, 1) := by decide +kernel
theorem dX1_relation_22 : decode cX1_relation 22 = .ok (.invokestatic 57, 3) := by decide +kernel
theorem dX1_relation_25 : decode cX1_relation 25 = .ok (.ifCond .eq 17, 3) := by decide +kernel
theorem dX1_relation_28 : decode cX1_relation 28 = .ok (.iload_n 1, 1) := by decide +kernel
theorem dX1_relation_29 : decode cX1_relation 29 = .ok (.iconst 4, 1) := by decide +kernel
theorem dX1_relation_30 : decode cX1_relation 30 = .ok (.if_icmp .lt 8, 3) := by decide +kernel
theorem dX1_relation_33 : decode cX1_relation 33 = .ok (.iload_n 2, 1) := by decide +kernel
theorem dX1_relation_34 : decode cX1_relation 34 = .ok (.iload_n 3, 1) := by decide +kernel
theorem dX1_relation_35 : decode cX1_relation 35 = .ok (.if_icmp .ne 7, 3) := by decide +kernel
theorem dX1_relation_38 : decode cX1_relation 38 = .ok (.iconst 1, 1) := by decide +kernel
theorem dX1_relation_39 : decode cX1_relation 39 = .ok (.goto 4, 3) := by decide +kernel
theorem dX1_relation_42 : decode cX1_relation 42 = .ok (.iconst 0, 1) := by decide +kernel
theorem dX1_relation_43 : decode cX1_relation 43 = .ok (.istore 4, 2) := by decide +kernel
theorem dX1_relation_45 : decode cX1_relation 45 = .ok (.aload_n 0, 1) := by decide +kernel
theorem dX1_relation_46 : decode cX1_relation 46 = .ok (.iload 4, 2) := by decide +kernel
theorem dX1_relation_48 : decode cX1_relation 48 = .ok (.ifCond .ne 7, 3) := by decide +kernel
theorem dX1_relation_51 : decode cX1_relation 51 = .ok (.iconst 1, 1) := by decide +kernel
theorem dX1_relation_52 : decode cX1_relation 52 = .ok (.goto 17, 3) := by decide +kernel
theorem dX1_relation_55 : decode cX1_relation 55 = .ok (.aload_n 0, 1) := by decide +kernel
theorem dX1_relation_56 : decode cX1_relation 56 = .ok (.getfield 51, 3) := by decide +kernel
theorem dX1_relation_59 : decode cX1_relation 59 = .ok (.bipush 12, 2) := by decide +kernel
theorem dX1_relation_61 : decode cX1_relation 61 = .ok (.if_icmp .ne 7, 3) := by decide +kernel
theorem dX1_relation_64 : decode cX1_relation 64 = .ok (.iconst 2, 1) := by decide +kernel
theorem dX1_relation_65 : decode cX1_relation 65 = .ok (.goto 4, 3) := by decide +kernel
theorem dX1_relation_68 : decode cX1_relation 68 = .ok (.iconst 0, 1) := by decide +kernel
theorem dX1_relation_69 : decode cX1_relation 69 = .ok (.invokevirtual 65, 3) := by decide +kernel
theorem dX1_relation_72 : decode cX1_relation 72 = .ok (.ifCond .eq 13, 3) := by decide +kernel
theorem dX1_relation_75 : decode cX1_relation 75 = .ok (.aload_n 0, 1) := by decide +kernel
theorem dX1_relation_76 : decode cX1_relation 76 = .ok (.iload_n 1, 1) := by decide +kernel
theorem dX1_relation_77 : decode cX1_relation 77 = .ok (.iload_n 2, 1) := by decide +kernel
theorem dX1_relation_78 : decode cX1_relation 78 = .ok (.iload_n 3, 1) := by decide +kernel
theorem dX1_relation_79 : decode cX1_relation 79 = .ok (.invokevirtual 72, 3) := by decide +kernel
theorem dX1_relation_82 : decode cX1_relation 82 = .ok (.goto 4, 3) := by decide +kernel
theorem dX1_relation_85 : decode cX1_relation 85 = .ok (.iconst 0, 1) := by decide +kernel
theorem dX1_relation_86 : decode cX1_relation 86 = .ok (.ireturn, 1) := by decide +kernel
theorem dX1_condition_0 : decode cX1_condition 0 = .ok (.iload_n 1, 1) := by decide +kernel
theorem dX1_condition_1 : decode cX1_condition 1 = .ok (.iconst 2, 1) := by decide +kernel
theorem dX1_condition_2 : decode cX1_condition 2 = .ok (.iconst 4, 1) := by decide +kernel
theorem dX1_condition_3 : decode cX1_condition 3 = .ok (.invokestatic 57, 3) := by decide +kernel
theorem dX1_condition_6 : decode cX1_condition 6 = .ok (.istore 4, 2) := by decide +kernel
theorem dX1_condition_8 : decode cX1_condition 8 = .ok (.iload_n 1, 1) := by decide +kernel
theorem dX1_condition_9 : decode cX1_condition 9 = .ok (.iconst 0, 1) := by decide +kernel
theorem dX1_condition_10 : decode cX1_condition 10 = .ok (.iconst 5, 1) := by decide +kernel
theorem dX1_condition_11 : decode cX1_condition 11 = .ok (.invokestatic 57, 3) := by decide +kernel
theorem dX1_condition_14 : decode cX1_condition 14 = .ok (.ifCond .eq 36, 3) := by decide +kernel
theorem dX1_condition_17 : decode cX1_condition 17 = .ok (.aload_n 0, 1) := by decide +kernel
theorem dX1_condition_18 : decode cX1_condition 18 = .ok (.iload_n 2, 1) := by decide +kernel
theorem dX1_condition_19 : decode cX1_condition 19 = .ok (.invokevirtual 75, 3) := by decide +kernel
theorem dX1_condition_22 : decode cX1_condition 22 = .ok (.ifCond .eq 28, 3) := by decide +kernel
theorem dX1_condition_25 : decode cX1_condition 25 = .ok (.iload 4, 2) := by decide +kernel
theorem dX1_condition_27 : decode cX1_condition 27 = .ok (.ifCond .eq 14, 3) := by decide +kernel
theorem dX1_condition_30 : decode cX1_condition 30 = .ok (.aload_n 0, 1) := by decide +kernel
theorem dX1_condition_31 : decode cX1_condition 31 = .ok (.iload_n 3, 1) := by decide +kernel
theorem dX1_condition_32 : decode cX1_condition 32 = .ok (.invokevirtual 75, 3) := by decide +kernel
theorem dX1_condition_35 : decode cX1_condition 35 = .ok (.ifCond .eq 15, 3) := by decide +kernel
theorem dX1_condition_38 : decode cX1_condition 38 = .ok (.goto 8, 3) := by decide +kernel
theorem dX1_condition_41 : decode cX1_condition 41 = .ok (.iload_n 3, 1) := by decide +kernel
theorem dX1_condition_42 : decode cX1_condition 42 = .ok (.iconst (-1), 1) := by decide +kernel
theorem dX1_condition_43 : decode cX1_condition 43 = .ok (.if_icmp .ne 7, 3) := by decide +kernel
theorem dX1_condition_46 : decode cX1_condition 46 = .ok (.iconst 1, 1) := by decide +kernel
theorem dX1_condition_47 : decode cX1_condition 47 = .ok (.goto 4, 3) := by decide +kernel
theorem dX1_condition_50 : decode cX1_condition 50 = .ok (.iconst 0, 1) := by decide +kernel
theorem dX1_condition_51 : decode cX1_condition 51 = .ok (.istore 5, 2) := by decide +kernel
theorem dX1_condition_53 : decode cX1_condition 53 = .ok (.aload_n 0, 1) := by decide +kernel
theorem dX1_condition_54 : decode cX1_condition 54 = .ok (.iload 5, 2) := by decide +kernel
theorem dX1_condition_56 : decode cX1_condition 56 = .ok (.ifCond .ne 7, 3) := by decide +kernel
theorem dX1_condition_59 : decode cX1_condition 59 = .ok (.iconst 1, 1) := by decide +kernel
theorem dX1_condition_60 : decode cX1_condition 60 = .ok (.goto 17, 3) := by decide +kernel
theorem dX1_condition_63 : decode cX1_condition 63 = .ok (.aload_n 0, 1) := by decide +kernel
theorem dX1_condition_64 : decode cX1_condition 64 = .ok (.getfield 51, 3) := by decide +kernel
theorem dX1_condition_67 : decode cX1_condition 67 = .ok (.bipush 12, 2) := by decide +kernel
theorem dX1_condition_69 : decode cX1_condition 69 = .ok (.if_icmp .ne 7, 3) := by decide +kernel
theorem dX1_condition_72 : decode cX1_condition 72 = .ok (.iconst 2, 1) := by decide +kernel
theorem dX1_condition_73 : decode cX1_condition 73 = .ok (.goto 4, 3) := by decide +kernel
theorem dX1_condition_76 : decode cX1_condition 76 = .ok (.iconst 0, 1) := by decide +kernel
theorem dX1_condition_77 : decode cX1_condition 77 = .ok (.invokevirtual 65, 3) := by decide +kernel
theorem dX1_condition_80 : decode cX1_condition 80 = .ok (.ifCond .eq 16, 3) := by decide +kernel
theorem dX1_condition_83 : decode cX1_condition 83 = .ok (.aload_n 0, 1) := by decide +kernel
theorem dX1_condition_84 : decode cX1_condition 84 = .ok (.bipush 10, 2) := by decide +kernel
theorem dX1_condition_86 : decode cX1_condition 86 = .ok (.iload_n 1, 1) := by decide +kernel
theorem dX1_condition_87 : decode cX1_condition 87 = .ok (.iadd, 1) := by decide +kernel
theorem dX1_condition_88 : decode cX1_condition 88 = .ok (.iload_n 2, 1) := by decide +kernel
theorem dX1_condition_89 : decode cX1_condition 89 = .ok (.iload_n 3, 1) := by decide +kernel
theorem dX1_condition_90 : decode cX1_condition 90 = .ok (.invokevirtual 72, 3) := by decide +kernel
theorem dX1_condition_93 : decode cX1_condition 93 = .ok (.goto 4, 3) := by decide +kernel
theorem dX1_condition_96 : decode cX1_condition 96 = .ok (.iconst 0, 1) := by decide +kernel
theorem dX1_condition_97 : decode cX1_condition 97 = .ok (.ireturn, 1) := by decide +kernel
theorem dX1_work_0 : decode cX1_work 0 = .ok (.aload_n 0, 1) := by decide +kernel
theorem dX1_work_1 : decode cX1_work 1 = .ok (.getfield 16, 3) := by decide +kernel
theorem dX1_work_4 : decode cX1_work 4 = .ok (.iload_n 1, 1) := by decide +kernel
theorem dX1_work_5 : decode cX1_work 5 = .ok (.iaload, 1) := by decide +kernel
theorem dX1_work_6 : decode cX1_work 6 = .ok (.istore_n 2, 1) := by decide +kernel
theorem dX1_work_7 : decode cX1_work 7 = .ok (.aload_n 0, 1) := by decide +kernel
theorem dX1_work_8 : decode cX1_work 8 = .ok (.getfield 19, 3) := by decide +kernel
theorem dX1_work_11 : decode cX1_work 11 = .ok (.iload_n 1, 1) := by decide +kernel
theorem dX1_work_12 : decode cX1_work 12 = .ok (.iaload, 1) := by decide +kernel
theorem dX1_work_13 : decode cX1_work 13 = .ok (.istore_n 3, 1) := by decide +kernel
theorem dX1_work_14 : decode cX1_work 14 = .ok (.iconst 0, 1) := by decide +kernel
theorem dX1_work_15 : decode cX1_work 15 = .ok (.istore 4, 2) := by decide +kernel
theorem dX1_work_17 : decode cX1_work 17 = .ok (.iload 4, 2) := by decide +kernel
theorem dX1_work_19 : decode cX1_work 19 = .ok (.aload_n 0, 1) := by decide +kernel
theorem dX1_work_20 : decode cX1_work 20 = .ok (.getfield 41, 3) := by decide +kernel
theorem dX1_work_23 : decode cX1_work 23 = .ok (.if_icmp .ge 295, 3) := by decide +kernel
theorem dX1_work_26 : decode cX1_work 26 = .ok (.iconst 0, 1) := by decide +kernel
theorem dX1_work_27 : decode cX1_work 27 = .ok (.istore 5, 2) := by decide +kernel
theorem dX1_work_29 : decode cX1_work 29 = .ok (.iload 5, 2) := by decide +kernel
theorem dX1_work_31 : decode cX1_work 31 = .ok (.aload_n 0, 1) := by decide +kernel
theorem dX1_work_32 : decode cX1_work 32 = .ok (.getfield 41, 3) := by decide +kernel
theorem dX1_work_35 : decode cX1_work 35 = .ok (.if_icmp .ge 277, 3) := by decide +kernel
theorem dX1_work_38 : decode cX1_work 38 = .ok (.aload_n 0, 1) := by decide +kernel
theorem dX1_work_39 : decode cX1_work 39 = .ok (.getfield 13, 3) := by decide +kernel
theorem dX1_work_42 : decode cX1_work 42 = .ok (.iload_n 1, 1) := by decide +kernel
theorem dX1_work_43 : decode cX1_work 43 = .ok (.iaload, 1) := by decide +kernel
theorem dX1_work_44 : decode cX1_work 44 = .ok (.tableswitch 232 10 14 #[36, 54, 80, 122, 164], 36) := by decide +kernel
theorem dX1_work_80 : decode cX1_work 80 = .ok (.aload_n 0, 1) := by decide +kernel
theorem dX1_work_81 : decode cX1_work 81 = .ok (.getfield 22, 3) := by decide +kernel
theorem dX1_work_84 : decode cX1_work 84 = .ok (.iload_n 2, 1) := by decide +kernel
theorem dX1_work_85 : decode cX1_work 85 = .ok (.iload 5, 2) := by decide +kernel
theorem dX1_work_87 : decode cX1_work 87 = .ok (.iload 4, 2) := by decide +kernel
theorem dX1_work_89 : decode cX1_work 89 = .ok (.invokestatic 68, 3) := by decide +kernel
theorem dX1_work_92 : decode cX1_work 92 = .ok (.baload, 1) := by decide +kernel
theorem dX1_work_93 : decode cX1_work 93 = .ok (.istore 6, 2) := by decide +kernel
theorem dX1_work_95 : decode cX1_work 95 = .ok (.goto 196, 3) := by decide +kernel
theorem dX1_work_98 : decode cX1_work 98 = .ok (.aload_n 0, 1) := by decide +kernel
theorem dX1_work_99 : decode cX1_work 99 = .ok (.getfield 22, 3) := by decide +kernel
theorem dX1_work_102 : decode cX1_work 102 = .ok (.iload_n 2, 1) := by decide +kernel
theorem dX1_work_103 : decode cX1_work 103 = .ok (.iload 4, 2) := by decide +kernel
theorem dX1_work_105 : decode cX1_work 105 = .ok (.iload 5, 2) := by decide +kernel
theorem dX1_work_107 : decode cX1_work 107 = .ok (.invokestatic 68, 3) := by decide +kernel
theorem dX1_work_110 : decode cX1_work 110 = .ok (.baload, 1) := by decide +kernel
theorem dX1_work_111 : decode cX1_work 111 = .ok (.ifCond .ne 7, 3) := by decide +kernel
theorem dX1_work_114 : decode cX1_work 114 = .ok (.iconst 1, 1) := by decide +kernel
theorem dX1_work_115 : decode cX1_work 115 = .ok (.goto 4, 3) := by decide +kernel
theorem dX1_work_118 : decode cX1_work 118 = .ok (.iconst 0, 1) := by decide +kernel
theorem dX1_work_119 : decode cX1_work 119 = .ok (.istore 6, 2) := by decide +kernel
theorem dX1_work_121 : decode cX1_work 121 = .ok (.goto 170, 3) := by decide +kernel
theorem dX1_work_124 : decode cX1_work 124 = .ok (.aload_n 0, 1) := by decide +kernel
theorem dX1_work_125 : decode cX1_work 125 = .ok (.getfield 22, 3) := by decide +kernel
theorem dX1_work_128 : decode cX1_work 128 = .ok (.iload_n 2, 1) := by decide +kernel
theorem dX1_work_129 : decode cX1_work 129 = .ok (.iload 4, 2) := by decide +kernel
theorem dX1_work_131 : decode cX1_work 131 = .ok (.iload 5, 2) := by decide +kernel
theorem dX1_work_133 : decode cX1_work 133 = .ok (.invokestatic 68, 3) := by decide +kernel
theorem dX1_work_136 : decode cX1_work 136 = .ok (.baload, 1) := by decide +kernel
theorem dX1_work_137 : decode cX1_work 137 = .ok (.ifCond .eq 23, 3) := by decide +kernel
theorem dX1_work_140 : decode cX1_work 140 = .ok (.aload_n 0, 1) := by decide +kernel
theorem dX1_work_141 : decode cX1_work 141 = .ok (.getfield 22, 3) := by decide +kernel
theorem dX1_work_144 : decode cX1_work 144 = .ok (.iload_n 3, 1) := by decide +kernel
theorem dX1_work_145 : decode cX1_work 145 = .ok (.iload 4, 2) := by decide +kernel
theorem dX1_work_147 : decode cX1_work 147 = .ok (.iload 5, 2) := by decide +kernel
theorem dX1_work_149 : decode cX1_work 149 = .ok (.invokestatic 68, 3) := by decide +kernel
theorem dX1_work_152 : decode cX1_work 152 = .ok (.baload, 1) := by decide +kernel
theorem dX1_work_153 : decode cX1_work 153 = .ok (.ifCond .eq 7, 3) := by decide +kernel
theorem dX1_work_156 : decode cX1_work 156 = .ok (.iconst 1, 1) := by decide +kernel
theorem dX1_work_157 : decode cX1_work 157 = .ok (.goto 4, 3) := by decide +kernel
theorem dX1_work_160 : decode cX1_work 160 = .ok (.iconst 0, 1) := by decide +kernel
theorem dX1_work_161 : decode cX1_work 161 = .ok (.istore 6, 2) := by decide +kernel
theorem dX1_work_163 : decode cX1_work 163 = .ok (.goto 128, 3) := by decide +kernel
theorem dX1_work_166 : decode cX1_work 166 = .ok (.aload_n 0, 1) := by decide +kernel
theorem dX1_work_167 : decode cX1_work 167 = .ok (.getfield 22, 3) := by decide +kernel
theorem dX1_work_170 : decode cX1_work 170 = .ok (.iload_n 2, 1) := by decide +kernel
theorem dX1_work_171 : decode cX1_work 171 = .ok (.iload 4, 2) := by decide +kernel
theorem dX1_work_173 : decode cX1_work 173 = .ok (.iload 5, 2) := by decide +kernel
theorem dX1_work_175 : decode cX1_work 175 = .ok (.invokestatic 68, 3) := by decide +kernel
theorem dX1_work_178 : decode cX1_work 178 = .ok (.baload, 1) := by decide +kernel
theorem dX1_work_179 : decode cX1_work 179 = .ok (.ifCond .ne 19, 3) := by decide +kernel
theorem dX1_work_182 : decode cX1_work 182 = .ok (.aload_n 0, 1) := by decide +kernel
theorem dX1_work_183 : decode cX1_work 183 = .ok (.getfield 22, 3) := by decide +kernel
theorem dX1_work_186 : decode cX1_work 186 = .ok (.iload_n 3, 1) := by decide +kernel
theorem dX1_work_187 : decode cX1_work 187 = .ok (.iload 4, 2) := by decide +kernel
theorem dX1_work_189 : decode cX1_work 189 = .ok (.iload 5, 2) := by decide +kernel
theorem dX1_work_191 : decode cX1_work 191 = .ok (.invokestatic 68, 3) := by decide +kernel
theorem dX1_work_194 : decode cX1_work 194 = .ok (.baload, 1) := by decide +kernel
theorem dX1_work_195 : decode cX1_work 195 = .ok (.ifCond .eq 7, 3) := by decide +kernel
theorem dX1_work_198 : decode cX1_work 198 = .ok (.iconst 1, 1) := by decide +kernel
theorem dX1_work_199 : decode cX1_work 199 = .ok (.goto 4, 3) := by decide +kernel
theorem dX1_work_202 : decode cX1_work 202 = .ok (.iconst 0, 1) := by decide +kernel
theorem dX1_work_203 : decode cX1_work 203 = .ok (.istore 6, 2) := by decide +kernel
theorem dX1_work_205 : decode cX1_work 205 = .ok (.goto 86, 3) := by decide +kernel
theorem dX1_work_208 : decode cX1_work 208 = .ok (.iconst 0, 1) := by decide +kernel
theorem dX1_work_209 : decode cX1_work 209 = .ok (.istore 6, 2) := by decide +kernel
theorem dX1_work_211 : decode cX1_work 211 = .ok (.iconst 0, 1) := by decide +kernel
theorem dX1_work_212 : decode cX1_work 212 = .ok (.istore 7, 2) := by decide +kernel
theorem dX1_work_214 : decode cX1_work 214 = .ok (.iload 7, 2) := by decide +kernel
theorem dX1_work_216 : decode cX1_work 216 = .ok (.aload_n 0, 1) := by decide +kernel
theorem dX1_work_217 : decode cX1_work 217 = .ok (.getfield 41, 3) := by decide +kernel
theorem dX1_work_220 : decode cX1_work 220 = .ok (.if_icmp .ge 53, 3) := by decide +kernel
theorem dX1_work_223 : decode cX1_work 223 = .ok (.iload 6, 2) := by decide +kernel
theorem dX1_work_225 : decode cX1_work 225 = .ok (.ifCond .ne 35, 3) := by decide +kernel
theorem dX1_work_228 : decode cX1_work 228 = .ok (.aload_n 0, 1) := by decide +kernel
theorem dX1_work_229 : decode cX1_work 229 = .ok (.getfield 22, 3) := by decide +kernel
theorem dX1_work_232 : decode cX1_work 232 = .ok (.iload_n 2, 1) := by decide +kernel
theorem dX1_work_233 : decode cX1_work 233 = .ok (.iload 4, 2) := by decide +kernel
theorem dX1_work_235 : decode cX1_work 235 = .ok (.iload 7, 2) := by decide +kernel
theorem dX1_work_237 : decode cX1_work 237 = .ok (.invokestatic 68, 3) := by decide +kernel
theorem dX1_work_240 : decode cX1_work 240 = .ok (.baload, 1) := by decide +kernel
theorem dX1_work_241 : decode cX1_work 241 = .ok (.ifCond .eq 23, 3) := by decide +kernel
theorem dX1_work_244 : decode cX1_work 244 = .ok (.aload_n 0, 1) := by decide +kernel
theorem dX1_work_245 : decode cX1_work 245 = .ok (.getfield 22, 3) := by decide +kernel
theorem dX1_work_248 : decode cX1_work 248 = .ok (.iload_n 3, 1) := by decide +kernel
theorem dX1_work_249 : decode cX1_work 249 = .ok (.iload 7, 2) := by decide +kernel
theorem dX1_work_251 : decode cX1_work 251 = .ok (.iload 5, 2) := by decide +kernel
theorem dX1_work_253 : decode cX1_work 253 = .ok (.invokestatic 68, 3) := by decide +kernel
theorem dX1_work_256 : decode cX1_work 256 = .ok (.baload, 1) := by decide +kernel
theorem dX1_work_257 : decode cX1_work 257 = .ok (.ifCond .eq 7, 3) := by decide +kernel
theorem dX1_work_260 : decode cX1_work 260 = .ok (.iconst 1, 1) := by decide +kernel
theorem dX1_work_261 : decode cX1_work 261 = .ok (.goto 4, 3) := by decide +kernel
theorem dX1_work_264 : decode cX1_work 264 = .ok (.iconst 0, 1) := by decide +kernel
theorem dX1_work_265 : decode cX1_work 265 = .ok (.istore 6, 2) := by decide +kernel
theorem dX1_work_267 : decode cX1_work 267 = .ok (.iinc 7 1, 3) := by decide +kernel
theorem dX1_work_270 : decode cX1_work 270 = .ok (.goto (-56), 3) := by decide +kernel
theorem dX1_work_273 : decode cX1_work 273 = .ok (.goto 18, 3) := by decide +kernel
theorem dX1_work_276 : decode cX1_work 276 = .ok (.aload_n 0, 1) := by decide +kernel
theorem dX1_work_277 : decode cX1_work 277 = .ok (.getfield 22, 3) := by decide +kernel
theorem dX1_work_280 : decode cX1_work 280 = .ok (.iload_n 2, 1) := by decide +kernel
theorem dX1_work_281 : decode cX1_work 281 = .ok (.iload 4, 2) := by decide +kernel
theorem dX1_work_283 : decode cX1_work 283 = .ok (.iload 5, 2) := by decide +kernel
theorem dX1_work_285 : decode cX1_work 285 = .ok (.invokestatic 68, 3) := by decide +kernel
theorem dX1_work_288 : decode cX1_work 288 = .ok (.baload, 1) := by decide +kernel
theorem dX1_work_289 : decode cX1_work 289 = .ok (.istore 6, 2) := by decide +kernel
theorem dX1_work_291 : decode cX1_work 291 = .ok (.aload_n 0, 1) := by decide +kernel
theorem dX1_work_292 : decode cX1_work 292 = .ok (.getfield 22, 3) := by decide +kernel
theorem dX1_work_295 : decode cX1_work 295 = .ok (.iload_n 1, 1) := by decide +kernel
theorem dX1_work_296 : decode cX1_work 296 = .ok (.iload 4, 2) := by decide +kernel
theorem dX1_work_298 : decode cX1_work 298 = .ok (.iload 5, 2) := by decide +kernel
theorem dX1_work_300 : decode cX1_work 300 = .ok (.invokestatic 68, 3) := by decide +kernel
theorem dX1_work_303 : decode cX1_work 303 = .ok (.iload 6, 2) := by decide +kernel
theorem dX1_work_305 : decode cX1_work 305 = .ok (.bastore, 1) := by decide +kernel
theorem dX1_work_306 : decode cX1_work 306 = .ok (.iinc 5 1, 3) := by decide +kernel
theorem dX1_work_309 : decode cX1_work 309 = .ok (.goto (-280), 3) := by decide +kernel
theorem dX1_work_312 : decode cX1_work 312 = .ok (.iinc 4 1, 3) := by decide +kernel
theorem dX1_work_315 : decode cX1_work 315 = .ok (.goto (-298), 3) := by decide +kernel
theorem dX1_work_318 : decode cX1_work 318 = .ok (.aload_n 0, 1) := by decide +kernel
theorem dX1_work_319 : decode cX1_work 319 = .ok (.getfield 13, 3) := by decide +kernel
theorem dX1_work_322 : decode cX1_work 322 = .ok (.iload_n 1, 1) := by decide +kernel
theorem dX1_work_323 : decode cX1_work 323 = .ok (.iaload, 1) := by decide +kernel
theorem dX1_work_324 : decode cX1_work 324 = .ok (.bipush 14, 2) := by decide +kernel
theorem dX1_work_326 : decode cX1_work 326 = .ok (.if_icmp .le 8, 3) := by decide +kernel
theorem dX1_work_329 : decode cX1_work 329 = .ok (.aload_n 0, 1) := by decide +kernel
theorem dX1_work_330 : decode cX1_work 330 = .ok (.iload_n 1, 1) := by decide +kernel
theorem dX1_work_331 : decode cX1_work 331 = .ok (.invokevirtual 78, 3) := by decide +kernel
theorem dX1_work_334 : decode cX1_work 334 = .ok (.return_, 1) := by decide +kernel
theorem dX1_far_0 : decode cX1_far 0 = .ok (.iconst 0, 1) := by decide +kernel
theorem dX1_far_1 : decode cX1_far 1 = .ok (.istore_n 2, 1) := by decide +kernel
theorem dX1_far_2 : decode cX1_far 2 = .ok (.iload_n 2, 1) := by decide +kernel
theorem dX1_far_3 : decode cX1_far 3 = .ok (.aload_n 0, 1) := by decide +kernel
theorem dX1_far_4 : decode cX1_far 4 = .ok (.getfield 41, 3) := by decide +kernel
theorem dX1_far_7 : decode cX1_far 7 = .ok (.if_icmp .ge 104, 3) := by decide +kernel
theorem dX1_far_10 : decode cX1_far 10 = .ok (.iconst 0, 1) := by decide +kernel
theorem dX1_far_11 : decode cX1_far 11 = .ok (.istore_n 3, 1) := by decide +kernel
theorem dX1_far_12 : decode cX1_far 12 = .ok (.iload_n 3, 1) := by decide +kernel
theorem dX1_far_13 : decode cX1_far 13 = .ok (.aload_n 0, 1) := by decide +kernel
theorem dX1_far_14 : decode cX1_far 14 = .ok (.getfield 41, 3) := by decide +kernel
theorem dX1_far_17 : decode cX1_far 17 = .ok (.if_icmp .ge 88, 3) := by decide +kernel
theorem dX1_far_20 : decode cX1_far 20 = .ok (.iconst 0, 1) := by decide +kernel
theorem dX1_far_21 : decode cX1_far 21 = .ok (.istore 4, 2) := by decide +kernel
theorem dX1_far_23 : decode cX1_far 23 = .ok (.iload 4, 2) := by decide +kernel
theorem dX1_far_25 : decode cX1_far 25 = .ok (.aload_n 0, 1) := by decide +kernel
theorem dX1_far_26 : decode cX1_far 26 = .ok (.getfield 41, 3) := by decide +kernel
theorem dX1_far_29 : decode cX1_far 29 = .ok (.if_icmp .ge 70, 3) := by decide +kernel
theorem dX1_far_32 : decode cX1_far 32 = .ok (.aload_n 0, 1) := by decide +kernel
theorem dX1_far_33 : decode cX1_far 33 = .ok (.getfield 22, 3) := by decide +kernel
theorem dX1_far_36 : decode cX1_far 36 = .ok (.iload_n 1, 1) := by decide +kernel
theorem dX1_far_37 : decode cX1_far 37 = .ok (.iload_n 3, 1) := by decide +kernel
theorem dX1_far_38 : decode cX1_far 38 = .ok (.iload_n 2, 1) := by decide +kernel
theorem dX1_far_39 : decode cX1_far 39 = .ok (.invokestatic 68, 3) := by decide +kernel
theorem dX1_far_42 : decode cX1_far 42 = .ok (.baload, 1) := by decide +kernel
theorem dX1_far_43 : decode cX1_far 43 = .ok (.ifCond .eq 56, 3) := by decide +kernel
theorem dX1_far_46 : decode cX1_far 46 = .ok (.aload_n 0, 1) := by decide +kernel
theorem dX1_far_47 : decode cX1_far 47 = .ok (.getfield 22, 3) := by decide +kernel
theorem dX1_far_50 : decode cX1_far 50 = .ok (.iload_n 1, 1) := by decide +kernel
theorem dX1_far_51 : decode cX1_far 51 = .ok (.iload_n 3, 1) := by decide +kernel
theorem dX1_far_52 : decode cX1_far 52 = .ok (.iload 4, 2) := by decide +kernel
theorem dX1_far_54 : decode cX1_far 54 = .ok (.invokestatic 68, 3) := by decide +kernel
theorem dX1_far_57 : decode cX1_far 57 = .ok (.aload_n 0, 1) := by decide +kernel
theorem dX1_far_58 : decode cX1_far 58 = .ok (.getfield 22, 3) := by decide +kernel
theorem dX1_far_61 : decode cX1_far 61 = .ok (.iload_n 1, 1) := by decide +kernel
theorem dX1_far_62 : decode cX1_far 62 = .ok (.iload_n 3, 1) := by decide +kernel
theorem dX1_far_63 : decode cX1_far 63 = .ok (.iload 4, 2) := by decide +kernel
theorem dX1_far_65 : decode cX1_far 65 = .ok (.invokestatic 68, 3) := by decide +kernel
theorem dX1_far_68 : decode cX1_far 68 = .ok (.baload, 1) := by decide +kernel
theorem dX1_far_69 : decode cX1_far 69 = .ok (.ifCond .ne 18, 3) := by decide +kernel
theorem dX1_far_72 : decode cX1_far 72 = .ok (.aload_n 0, 1) := by decide +kernel
theorem dX1_far_73 : decode cX1_far 73 = .ok (.getfield 22, 3) := by decide +kernel
theorem dX1_far_76 : decode cX1_far 76 = .ok (.iload_n 1, 1) := by decide +kernel
theorem dX1_far_77 : decode cX1_far 77 = .ok (.iload_n 2, 1) := by decide +kernel
theorem dX1_far_78 : decode cX1_far 78 = .ok (.iload 4, 2) := by decide +kernel
theorem dX1_far_80 : decode cX1_far 80 = .ok (.invokestatic 68, 3) := by decide +kernel
theorem dX1_far_83 : decode cX1_far 83 = .ok (.baload, 1) := by decide +kernel
theorem dX1_far_84 : decode cX1_far 84 = .ok (.ifCond .eq 7, 3) := by decide +kernel
theorem dX1_far_87 : decode cX1_far 87 = .ok (.iconst 1, 1) := by decide +kernel
theorem dX1_far_88 : decode cX1_far 88 = .ok (.goto 4, 3) := by decide +kernel
theorem dX1_far_91 : decode cX1_far 91 = .ok (.iconst 0, 1) := by decide +kernel
theorem dX1_far_92 : decode cX1_far 92 = .ok (.bastore, 1) := by decide +kernel
theorem dX1_far_93 : decode cX1_far 93 = .ok (.iinc 4 1, 3) := by decide +kernel
theorem dX1_far_96 : decode cX1_far 96 = .ok (.goto (-73), 3) := by decide +kernel
theorem dX1_far_99 : decode cX1_far 99 = .ok (.iinc 3 1, 3) := by decide +kernel
theorem dX1_far_102 : decode cX1_far 102 = .ok (.goto (-90), 3) := by decide +kernel
theorem dX1_far_105 : decode cX1_far 105 = .ok (.iinc 2 1, 3) := by decide +kernel
theorem dX1_far_108 : decode cX1_far 108 = .ok (.goto (-106), 3) := by decide +kernel
theorem dX1_far_111 : decode cX1_far 111 = .ok (.return_, 1) := by decide +kernel
theorem dX1_learn_0 : decode cX1_learn 0 = .ok (.iconst 0, 1) := by decide +kernel
theorem dX1_learn_1 : decode cX1_learn 1 = .ok (.istore_n 2, 1) := by decide +kernel
theorem dX1_learn_2 : decode cX1_learn 2 = .ok (.iload_n 2, 1) := by decide +kernel
theorem dX1_learn_3 : decode cX1_learn 3 = .ok (.iload_n 1, 1) := by decide +kernel
theorem dX1_learn_4 : decode cX1_learn 4 = .ok (.if_icmp .gt 25, 3) := by decide +kernel
theorem dX1_learn_7 : decode cX1_learn 7 = .ok (.aload_n 0, 1) := by decide +kernel
theorem dX1_learn_8 : decode cX1_learn 8 = .ok (.getfield 13, 3) := by decide +kernel
theorem dX1_learn_11 : decode cX1_learn 11 = .ok (.iload_n 2, 1) := by decide +kernel
theorem dX1_learn_12 : decode cX1_learn 12 = .ok (.iaload, 1) := by decide +kernel
theorem dX1_learn_13 : decode cX1_learn 13 = .ok (.bipush 10, 2) := by decide +kernel
theorem dX1_learn_15 : decode cX1_learn 15 = .ok (.if_icmp .lt 8, 3) := by decide +kernel
theorem dX1_learn_18 : decode cX1_learn 18 = .ok (.aload_n 0, 1) := by decide +kernel
theorem dX1_learn_19 : decode cX1_learn 19 = .ok (.iload_n 2, 1) := by decide +kernel
theorem dX1_learn_20 : decode cX1_learn 20 = .ok (.invokevirtual 82, 3) := by decide +kernel
theorem dX1_learn_23 : decode cX1_learn 23 = .ok (.iinc 2 1, 3) := by decide +kernel
theorem dX1_learn_26 : decode cX1_learn 26 = .ok (.goto (-24), 3) := by decide +kernel
theorem dX1_learn_29 : decode cX1_learn 29 = .ok (.return_, 1) := by decide +kernel
theorem dX1_isOf_0 : decode cX1_isOf 0 = .ok (.iload_n 1, 1) := by decide +kernel
theorem dX1_isOf_1 : decode cX1_isOf 1 = .ok (.iconst (-1), 1) := by decide +kernel
theorem dX1_isOf_2 : decode cX1_isOf 2 = .ok (.if_icmp .eq 8, 3) := by decide +kernel
theorem dX1_isOf_5 : decode cX1_isOf 5 = .ok (.iload_n 0, 1) := by decide +kernel
theorem dX1_isOf_6 : decode cX1_isOf 6 = .ok (.iload_n 1, 1) := by decide +kernel
theorem dX1_isOf_7 : decode cX1_isOf 7 = .ok (.if_icmp .ne 7, 3) := by decide +kernel
theorem dX1_isOf_10 : decode cX1_isOf 10 = .ok (.iconst 1, 1) := by decide +kernel
theorem dX1_isOf_11 : decode cX1_isOf 11 = .ok (.goto 4, 3) := by decide +kernel
theorem dX1_isOf_14 : decode cX1_isOf 14 = .ok (.iconst 0, 1) := by decide +kernel
theorem dX1_isOf_15 : decode cX1_isOf 15 = .ok (.ireturn, 1) := by decide +kernel
theorem dX1_whyNot_0 : decode cX1_whyNot 0 = .ok (.aload_n 0, 1) := by decide +kernel
theorem dX1_whyNot_1 : decode cX1_whyNot 1 = .ok (.iload_n 1, 1) := by decide +kernel
theorem dX1_whyNot_2 : decode cX1_whyNot 2 = .ok (.invokevirtual 75, 3) := by decide +kernel
theorem dX1_whyNot_5 : decode cX1_whyNot 5 = .ok (.ifCond .eq 19, 3) := by decide +kernel
theorem dX1_whyNot_8 : decode cX1_whyNot 8 = .ok (.aload_n 0, 1) := by decide +kernel
theorem dX1_whyNot_9 : decode cX1_whyNot 9 = .ok (.iload_n 2, 1) := by decide +kernel
theorem dX1_whyNot_10 : decode cX1_whyNot 10 = .ok (.invokevirtual 61, 3) := by decide +kernel
theorem dX1_whyNot_13 : decode cX1_whyNot 13 = .ok (.ifCond .eq 11, 3) := by decide +kernel
theorem dX1_whyNot_16 : decode cX1_whyNot 16 = .ok (.aload_n 0, 1) := by decide +kernel
theorem dX1_whyNot_17 : decode cX1_whyNot 17 = .ok (.iload_n 3, 1) := by decide +kernel
theorem dX1_whyNot_18 : decode cX1_whyNot 18 = .ok (.invokevirtual 61, 3) := by decide +kernel
theorem dX1_whyNot_21 : decode cX1_whyNot 21 = .ok (.ifCond .ne 5, 3) := by decide +kernel
theorem dX1_whyNot_24 : decode cX1_whyNot 24 = .ok (.iconst 1, 1) := by decide +kernel
theorem dX1_whyNot_25 : decode cX1_whyNot 25 = .ok (.ireturn, 1) := by decide +kernel
theorem dX1_whyNot_26 : decode cX1_whyNot 26 = .ok (.aload_n 0, 1) := by decide +kernel
theorem dX1_whyNot_27 : decode cX1_whyNot 27 = .ok (.getfield 13, 3) := by decide +kernel
theorem dX1_whyNot_30 : decode cX1_whyNot 30 = .ok (.iload_n 1, 1) := by decide +kernel
theorem dX1_whyNot_31 : decode cX1_whyNot 31 = .ok (.iaload, 1) := by decide +kernel
theorem dX1_whyNot_32 : decode cX1_whyNot 32 = .ok (.bipush 10, 2) := by decide +kernel
theorem dX1_whyNot_34 : decode cX1_whyNot 34 = .ok (.if_icmp .lt 5, 3) := by decide +kernel
theorem dX1_whyNot_37 : decode cX1_whyNot 37 = .ok (.iconst 2, 1) := by decide +kernel
theorem dX1_whyNot_38 : decode cX1_whyNot 38 = .ok (.ireturn, 1) := by decide +kernel
theorem dX1_whyNot_39 : decode cX1_whyNot 39 = .ok (.aload_n 0, 1) := by decide +kernel
theorem dX1_whyNot_40 : decode cX1_whyNot 40 = .ok (.getfield 7, 3) := by decide +kernel
theorem dX1_whyNot_43 : decode cX1_whyNot 43 = .ok (.iload_n 2, 1) := by decide +kernel
theorem dX1_whyNot_44 : decode cX1_whyNot 44 = .ok (.iaload, 1) := by decide +kernel
theorem dX1_whyNot_45 : decode cX1_whyNot 45 = .ok (.aload_n 0, 1) := by decide +kernel
theorem dX1_whyNot_46 : decode cX1_whyNot 46 = .ok (.getfield 16, 3) := by decide +kernel
theorem dX1_whyNot_49 : decode cX1_whyNot 49 = .ok (.iload_n 1, 1) := by decide +kernel
theorem dX1_whyNot_50 : decode cX1_whyNot 50 = .ok (.iaload, 1) := by decide +kernel
theorem dX1_whyNot_51 : decode cX1_whyNot 51 = .ok (.invokestatic 85, 3) := by decide +kernel
theorem dX1_whyNot_54 : decode cX1_whyNot 54 = .ok (.ifCond .eq 40, 3) := by decide +kernel
theorem dX1_whyNot_57 : decode cX1_whyNot 57 = .ok (.aload_n 0, 1) := by decide +kernel
theorem dX1_whyNot_58 : decode cX1_whyNot 58 = .ok (.getfield 7, 3) := by decide +kernel
theorem dX1_whyNot_61 : decode cX1_whyNot 61 = .ok (.iload_n 3, 1) := by decide +kernel
theorem dX1_whyNot_62 : decode cX1_whyNot 62 = .ok (.iaload, 1) := by decide +kernel
theorem dX1_whyNot_63 : decode cX1_whyNot 63 = .ok (.aload_n 0, 1) := by decide +kernel
theorem dX1_whyNot_64 : decode cX1_whyNot 64 = .ok (.getfield 19, 3) := by decide +kernel
theorem dX1_whyNot_67 : decode cX1_whyNot 67 = .ok (.iload_n 1, 1) := by decide +kernel
theorem dX1_whyNot_68 : decode cX1_whyNot 68 = .ok (.iaload, 1) := by decide +kernel
theorem dX1_whyNot_69 : decode cX1_whyNot 69 = .ok (.invokestatic 85, 3) := by decide +kernel
theorem dX1_whyNot_72 : decode cX1_whyNot 72 = .ok (.ifCond .eq 22, 3) := by decide +kernel
theorem dX1_whyNot_75 : decode cX1_whyNot 75 = .ok (.aload_n 0, 1) := by decide +kernel
theorem dX1_whyNot_76 : decode cX1_whyNot 76 = .ok (.getfield 13, 3) := by decide +kernel
theorem dX1_whyNot_79 : decode cX1_whyNot 79 = .ok (.iload_n 1, 1) := by decide +kernel
theorem dX1_whyNot_80 : decode cX1_whyNot 80 = .ok (.iaload, 1) := by decide +kernel
theorem dX1_whyNot_81 : decode cX1_whyNot 81 = .ok (.iconst 4, 1) := by decide +kernel
theorem dX1_whyNot_82 : decode cX1_whyNot 82 = .ok (.if_icmp .ne 8, 3) := by decide +kernel
theorem dX1_whyNot_85 : decode cX1_whyNot 85 = .ok (.iload_n 2, 1) := by decide +kernel
theorem dX1_whyNot_86 : decode cX1_whyNot 86 = .ok (.iload_n 3, 1) := by decide +kernel
theorem dX1_whyNot_87 : decode cX1_whyNot 87 = .ok (.if_icmp .eq 7, 3) := by decide +kernel
theorem dX1_whyNot_90 : decode cX1_whyNot 90 = .ok (.iconst 1, 1) := by decide +kernel
theorem dX1_whyNot_91 : decode cX1_whyNot 91 = .ok (.goto 4, 3) := by decide +kernel
theorem dX1_whyNot_94 : decode cX1_whyNot 94 = .ok (.iconst 0, 1) := by decide +kernel
theorem dX1_whyNot_95 : decode cX1_whyNot 95 = .ok (.istore 4, 2) := by decide +kernel
theorem dX1_whyNot_97 : decode cX1_whyNot 97 = .ok (.iload 4, 2) := by decide +kernel
theorem dX1_whyNot_99 : decode cX1_whyNot 99 = .ok (.ifCond .eq 7, 3) := by decide +kernel
theorem dX1_whyNot_102 : decode cX1_whyNot 102 = .ok (.iconst 0, 1) := by decide +kernel
theorem dX1_whyNot_103 : decode cX1_whyNot 103 = .ok (.goto 4, 3) := by decide +kernel
theorem dX1_whyNot_106 : decode cX1_whyNot 106 = .ok (.iconst 1, 1) := by decide +kernel
theorem dX1_whyNot_107 : decode cX1_whyNot 107 = .ok (.ireturn, 1) := by decide +kernel
theorem dX1_put_0 : decode cX1_put 0 = .ok (.aload_n 0, 1) := by decide +kernel
theorem dX1_put_1 : decode cX1_put 1 = .ok (.getfield 22, 3) := by decide +kernel
theorem dX1_put_4 : decode cX1_put 4 = .ok (.iload_n 1, 1) := by decide +kernel
theorem dX1_put_5 : decode cX1_put 5 = .ok (.iload_n 2, 1) := by decide +kernel
theorem dX1_put_6 : decode cX1_put 6 = .ok (.iload_n 3, 1) := by decide +kernel
theorem dX1_put_7 : decode cX1_put 7 = .ok (.invokestatic 68, 3) := by decide +kernel
theorem dX1_put_10 : decode cX1_put 10 = .ok (.iload 4, 2) := by decide +kernel
theorem dX1_put_12 : decode cX1_put 12 = .ok (.bastore, 1) := by decide +kernel
theorem dX1_put_13 : decode cX1_put 13 = .ok (.aload_n 0, 1) := by decide +kernel
theorem dX1_put_14 : decode cX1_put 14 = .ok (.getfield 13, 3) := by decide +kernel
theorem dX1_put_17 : decode cX1_put 17 = .ok (.iload_n 1, 1) := by decide +kernel
theorem dX1_put_18 : decode cX1_put 18 = .ok (.iaload, 1) := by decide +kernel
theorem dX1_put_19 : decode cX1_put 19 = .ok (.iconst 4, 1) := by decide +kernel
theorem dX1_put_20 : decode cX1_put 20 = .ok (.if_icmp .eq 13, 3) := by decide +kernel
theorem dX1_put_23 : decode cX1_put 23 = .ok (.aload_n 0, 1) := by decide +kernel
theorem dX1_put_24 : decode cX1_put 24 = .ok (.getfield 13, 3) := by decide +kernel
theorem dX1_put_27 : decode cX1_put 27 = .ok (.iload_n 1, 1) := by decide +kernel
theorem dX1_put_28 : decode cX1_put 28 = .ok (.iaload, 1) := by decide +kernel
theorem dX1_put_29 : decode cX1_put 29 = .ok (.iconst 5, 1) := by decide +kernel
theorem dX1_put_30 : decode cX1_put 30 = .ok (.if_icmp .ne 16, 3) := by decide +kernel
theorem dX1_put_33 : decode cX1_put 33 = .ok (.aload_n 0, 1) := by decide +kernel
theorem dX1_put_34 : decode cX1_put 34 = .ok (.getfield 22, 3) := by decide +kernel
theorem dX1_put_37 : decode cX1_put 37 = .ok (.iload_n 1, 1) := by decide +kernel
theorem dX1_put_38 : decode cX1_put 38 = .ok (.iload_n 3, 1) := by decide +kernel
theorem dX1_put_39 : decode cX1_put 39 = .ok (.iload_n 2, 1) := by decide +kernel
theorem dX1_put_40 : decode cX1_put 40 = .ok (.invokestatic 68, 3) := by decide +kernel
theorem dX1_put_43 : decode cX1_put 43 = .ok (.iload 4, 2) := by decide +kernel
theorem dX1_put_45 : decode cX1_put 45 = .ok (.bastore, 1) := by decide +kernel
theorem dX1_put_46 : decode cX1_put 46 = .ok (.return_, 1) := by decide +kernel
theorem dX1_push_0 : decode cX1_push 0 = .ok (.aload_n 0, 1) := by decide +kernel
theorem dX1_push_1 : decode cX1_push 1 = .ok (.iload_n 1, 1) := by decide +kernel
theorem dX1_push_2 : decode cX1_push 2 = .ok (.iload_n 2, 1) := by decide +kernel
theorem dX1_push_3 : decode cX1_push 3 = .ok (.iload_n 3, 1) := by decide +kernel
theorem dX1_push_4 : decode cX1_push 4 = .ok (.iconst 0, 1) := by decide +kernel
theorem dX1_push_5 : decode cX1_push 5 = .ok (.invokevirtual 89, 3) := by decide +kernel
theorem dX1_push_8 : decode cX1_push 8 = .ok (.aload_n 0, 1) := by decide +kernel
theorem dX1_push_9 : decode cX1_push 9 = .ok (.getfield 26, 3) := by decide +kernel
theorem dX1_push_12 : decode cX1_push 12 = .ok (.aload_n 0, 1) := by decide +kernel
theorem dX1_push_13 : decode cX1_push 13 = .ok (.getfield 54, 3) := by decide +kernel
theorem dX1_push_16 : decode cX1_push 16 = .ok (.iload_n 2, 1) := by decide +kernel
theorem dX1_push_17 : decode cX1_push 17 = .ok (.iastore, 1) := by decide +kernel
theorem dX1_push_18 : decode cX1_push 18 = .ok (.aload_n 0, 1) := by decide +kernel
theorem dX1_push_19 : decode cX1_push 19 = .ok (.getfield 29, 3) := by decide +kernel
theorem dX1_push_22 : decode cX1_push 22 = .ok (.aload_n 0, 1) := by decide +kernel
theorem dX1_push_23 : decode cX1_push 23 = .ok (.getfield 54, 3) := by decide +kernel
theorem dX1_push_26 : decode cX1_push 26 = .ok (.iload_n 3, 1) := by decide +kernel
theorem dX1_push_27 : decode cX1_push 27 = .ok (.iastore, 1) := by decide +kernel
theorem dX1_push_28 : decode cX1_push 28 = .ok (.aload_n 0, 1) := by decide +kernel
theorem dX1_push_29 : decode cX1_push 29 = .ok (.dup, 1) := by decide +kernel
theorem dX1_push_30 : decode cX1_push 30 = .ok (.getfield 54, 3) := by decide +kernel
theorem dX1_push_33 : decode cX1_push 33 = .ok (.iconst 1, 1) := by decide +kernel
theorem dX1_push_34 : decode cX1_push 34 = .ok (.iadd, 1) := by decide +kernel
theorem dX1_push_35 : decode cX1_push 35 = .ok (.putfield 54, 3) := by decide +kernel
theorem dX1_push_38 : decode cX1_push 38 = .ok (.return_, 1) := by decide +kernel
theorem dX1_pushFrom_0 : decode cX1_pushFrom 0 = .ok (.iconst 0, 1) := by decide +kernel
theorem dX1_pushFrom_1 : decode cX1_pushFrom 1 = .ok (.istore_n 3, 1) := by decide +kernel
theorem dX1_pushFrom_2 : decode cX1_pushFrom 2 = .ok (.iload_n 3, 1) := by decide +kernel
theorem dX1_pushFrom_3 : decode cX1_pushFrom 3 = .ok (.aload_n 0, 1) := by decide +kernel
theorem dX1_pushFrom_4 : decode cX1_pushFrom 4 = .ok (.getfield 41, 3) := by decide +kernel
theorem dX1_pushFrom_7 : decode cX1_pushFrom 7 = .ok (.if_icmp .ge 30, 3) := by decide +kernel
theorem dX1_pushFrom_10 : decode cX1_pushFrom 10 = .ok (.aload_n 0, 1) := by decide +kernel
theorem dX1_pushFrom_11 : decode cX1_pushFrom 11 = .ok (.getfield 22, 3) := by decide +kernel
theorem dX1_pushFrom_14 : decode cX1_pushFrom 14 = .ok (.iload_n 1, 1) := by decide +kernel
theorem dX1_pushFrom_15 : decode cX1_pushFrom 15 = .ok (.iload_n 2, 1) := by decide +kernel
theorem dX1_pushFrom_16 : decode cX1_pushFrom 16 = .ok (.iload_n 3, 1) := by decide +kernel
theorem dX1_pushFrom_17 : decode cX1_pushFrom 17 = .ok (.invokestatic 68, 3) := by decide +kernel
theorem dX1_pushFrom_20 : decode cX1_pushFrom 20 = .ok (.baload, 1) := by decide +kernel
theorem dX1_pushFrom_21 : decode cX1_pushFrom 21 = .ok (.ifCond .eq 10, 3) := by decide +kernel
theorem dX1_pushFrom_24 : decode cX1_pushFrom 24 = .ok (.aload_n 0, 1) := by decide +kernel
theorem dX1_pushFrom_25 : decode cX1_pushFrom 25 = .ok (.iload_n 1, 1) := by decide +kernel
theorem dX1_pushFrom_26 : decode cX1_pushFrom 26 = .ok (.iload_n 2, 1) := by decide +kernel
theorem dX1_pushFrom_27 : decode cX1_pushFrom 27 = .ok (.iload_n 3, 1) := by decide +kernel
theorem dX1_pushFrom_28 : decode cX1_pushFrom 28 = .ok (.invokevirtual 93, 3) := by decide +kernel
theorem dX1_pushFrom_31 : decode cX1_pushFrom 31 = .ok (.iinc 3 1, 3) := by decide +kernel
theorem dX1_pushFrom_34 : decode cX1_pushFrom 34 = .ok (.goto (-32), 3) := by decide +kernel
theorem dX1_pushFrom_37 : decode cX1_pushFrom 37 = .ok (.return_, 1) := by decide +kernel
theorem dX1_pushTo_0 : decode cX1_pushTo 0 = .ok (.iconst 0, 1) := by decide +kernel
theorem dX1_pushTo_1 : decode cX1_pushTo 1 = .ok (.istore_n 3, 1) := by decide +kernel
theorem dX1_pushTo_2 : decode cX1_pushTo 2 = .ok (.iload_n 3, 1) := by decide +kernel
theorem dX1_pushTo_3 : decode cX1_pushTo 3 = .ok (.aload_n 0, 1) := by decide +kernel
theorem dX1_pushTo_4 : decode cX1_pushTo 4 = .ok (.getfield 41, 3) := by decide +kernel
theorem dX1_pushTo_7 : decode cX1_pushTo 7 = .ok (.if_icmp .ge 30, 3) := by decide +kernel
theorem dX1_pushTo_10 : decode cX1_pushTo 10 = .ok (.aload_n 0, 1) := by decide +kernel
theorem dX1_pushTo_11 : decode cX1_pushTo 11 = .ok (.getfield 22, 3) := by decide +kernel
theorem dX1_pushTo_14 : decode cX1_pushTo 14 = .ok (.iload_n 1, 1) := by decide +kernel
theorem dX1_pushTo_15 : decode cX1_pushTo 15 = .ok (.iload_n 3, 1) := by decide +kernel
theorem dX1_pushTo_16 : decode cX1_pushTo 16 = .ok (.iload_n 2, 1) := by decide +kernel
theorem dX1_pushTo_17 : decode cX1_pushTo 17 = .ok (.invokestatic 68, 3) := by decide +kernel
theorem dX1_pushTo_20 : decode cX1_pushTo 20 = .ok (.baload, 1) := by decide +kernel
theorem dX1_pushTo_21 : decode cX1_pushTo 21 = .ok (.ifCond .eq 10, 3) := by decide +kernel
theorem dX1_pushTo_24 : decode cX1_pushTo 24 = .ok (.aload_n 0, 1) := by decide +kernel
theorem dX1_pushTo_25 : decode cX1_pushTo 25 = .ok (.iload_n 1, 1) := by decide +kernel
theorem dX1_pushTo_26 : decode cX1_pushTo 26 = .ok (.iload_n 3, 1) := by decide +kernel
theorem dX1_pushTo_27 : decode cX1_pushTo 27 = .ok (.iload_n 2, 1) := by decide +kernel
theorem dX1_pushTo_28 : decode cX1_pushTo 28 = .ok (.invokevirtual 93, 3) := by decide +kernel
theorem dX1_pushTo_31 : decode cX1_pushTo 31 = .ok (.iinc 3 1, 3) := by decide +kernel
theorem dX1_pushTo_34 : decode cX1_pushTo 34 = .ok (.goto (-32), 3) := by decide +kernel
theorem dX1_pushTo_37 : decode cX1_pushTo 37 = .ok (.return_, 1) := by decide +kernel
theorem dX1_join_0 : decode cX1_join 0 = .ok (.iconst 0, 1) := by decide +kernel
theorem dX1_join_1 : decode cX1_join 1 = .ok (.istore 4, 2) := by decide +kernel
theorem dX1_join_3 : decode cX1_join 3 = .ok (.iload 4, 2) := by decide +kernel
theorem dX1_join_5 : decode cX1_join 5 = .ok (.aload_n 0, 1) := by decide +kernel
theorem dX1_join_6 : decode cX1_join 6 = .ok (.getfield 41, 3) := by decide +kernel
theorem dX1_join_9 : decode cX1_join 9 = .ok (.if_icmp .ge 85, 3) := by decide +kernel
theorem dX1_join_12 : decode cX1_join 12 = .ok (.iconst 0, 1) := by decide +kernel
theorem dX1_join_13 : decode cX1_join 13 = .ok (.istore 5, 2) := by decide +kernel
theorem dX1_join_15 : decode cX1_join 15 = .ok (.iload 5, 2) := by decide +kernel
theorem dX1_join_17 : decode cX1_join 17 = .ok (.aload_n 0, 1) := by decide +kernel
theorem dX1_join_18 : decode cX1_join 18 = .ok (.getfield 41, 3) := by decide +kernel
theorem dX1_join_21 : decode cX1_join 21 = .ok (.if_icmp .ge 67, 3) := by decide +kernel
theorem dX1_join_24 : decode cX1_join 24 = .ok (.aload_n 0, 1) := by decide +kernel
theorem dX1_join_25 : decode cX1_join 25 = .ok (.getfield 22, 3) := by decide +kernel
theorem dX1_join_28 : decode cX1_join 28 = .ok (.iload_n 1, 1) := by decide +kernel
theorem dX1_join_29 : decode cX1_join 29 = .ok (.iload_n 2, 1) := by decide +kernel
theorem dX1_join_30 : decode cX1_join 30 = .ok (.iload 4, 2) := by decide +kernel
theorem dX1_join_32 : decode cX1_join 32 = .ok (.invokestatic 68, 3) := by decide +kernel
theorem dX1_join_35 : decode cX1_join 35 = .ok (.baload, 1) := by decide +kernel
theorem dX1_join_36 : decode cX1_join 36 = .ok (.ifCond .eq 46, 3) := by decide +kernel
theorem dX1_join_39 : decode cX1_join 39 = .ok (.aload_n 0, 1) := by decide +kernel
theorem dX1_join_40 : decode cX1_join 40 = .ok (.getfield 22, 3) := by decide +kernel
theorem dX1_join_43 : decode cX1_join 43 = .ok (.iload_n 1, 1) := by decide +kernel
theorem dX1_join_44 : decode cX1_join 44 = .ok (.iload_n 3, 1) := by decide +kernel
theorem dX1_join_45 : decode cX1_join 45 = .ok (.iload 5, 2) := by decide +kernel
theorem dX1_join_47 : decode cX1_join 47 = .ok (.invokestatic 68, 3) := by decide +kernel
theorem dX1_join_50 : decode cX1_join 50 = .ok (.baload, 1) := by decide +kernel
theorem dX1_join_51 : decode cX1_join 51 = .ok (.ifCond .eq 31, 3) := by decide +kernel
theorem dX1_join_54 : decode cX1_join 54 = .ok (.aload_n 0, 1) := by decide +kernel
theorem dX1_join_55 : decode cX1_join 55 = .ok (.getfield 35, 3) := by decide +kernel
theorem dX1_join_58 : decode cX1_join 58 = .ok (.bipush 40, 2) := by decide +kernel
theorem dX1_join_60 : decode cX1_join 60 = .ok (.iload 4, 2) := by decide +kernel
theorem dX1_join_62 : decode cX1_join 62 = .ok (.imul, 1) := by decide +kernel
theorem dX1_join_63 : decode cX1_join 63 = .ok (.iload 5, 2) := by decide +kernel
theorem dX1_join_65 : decode cX1_join 65 = .ok (.iadd, 1) := by decide +kernel
theorem dX1_join_66 : decode cX1_join 66 = .ok (.iconst 1, 1) := by decide +kernel
theorem dX1_join_67 : decode cX1_join 67 = .ok (.bastore, 1) := by decide +kernel
theorem dX1_join_68 : decode cX1_join 68 = .ok (.aload_n 0, 1) := by decide +kernel
theorem dX1_join_69 : decode cX1_join 69 = .ok (.getfield 35, 3) := by decide +kernel
theorem dX1_join_72 : decode cX1_join 72 = .ok (.bipush 40, 2) := by decide +kernel
theorem dX1_join_74 : decode cX1_join 74 = .ok (.iload 5, 2) := by decide +kernel
theorem dX1_join_76 : decode cX1_join 76 = .ok (.imul, 1) := by decide +kernel
theorem dX1_join_77 : decode cX1_join 77 = .ok (.iload 4, 2) := by decide +kernel
theorem dX1_join_79 : decode cX1_join 79 = .ok (.iadd, 1) := by decide +kernel
theorem dX1_join_80 : decode cX1_join 80 = .ok (.iconst 1, 1) := by decide +kernel
theorem dX1_join_81 : decode cX1_join 81 = .ok (.bastore, 1) := by decide +kernel
theorem dX1_join_82 : decode cX1_join 82 = .ok (.iinc 5 1, 3) := by decide +kernel
theorem dX1_join_85 : decode cX1_join 85 = .ok (.goto (-70), 3) := by decide +kernel
theorem dX1_join_88 : decode cX1_join 88 = .ok (.iinc 4 1, 3) := by decide +kernel
theorem dX1_join_91 : decode cX1_join 91 = .ok (.goto (-88), 3) := by decide +kernel
theorem dX1_join_94 : decode cX1_join 94 = .ok (.iconst 0, 1) := by decide +kernel
theorem dX1_join_95 : decode cX1_join 95 = .ok (.istore 4, 2) := by decide +kernel
theorem dX1_join_97 : decode cX1_join 97 = .ok (.iload 4, 2) := by decide +kernel
theorem dX1_join_99 : decode cX1_join 99 = .ok (.sipush 1600, 3) := by decide +kernel
theorem dX1_join_102 : decode cX1_join 102 = .ok (.if_icmp .ge 61, 3) := by decide +kernel
theorem dX1_join_105 : decode cX1_join 105 = .ok (.aload_n 0, 1) := by decide +kernel
theorem dX1_join_106 : decode cX1_join 106 = .ok (.getfield 22, 3) := by decide +kernel
theorem dX1_join_109 : decode cX1_join 109 = .ok (.sipush 1600, 3) := by decide +kernel
theorem dX1_join_112 : decode cX1_join 112 = .ok (.iload_n 1, 1) := by decide +kernel
theorem dX1_join_113 : decode cX1_join 113 = .ok (.imul, 1) := by decide +kernel
theorem dX1_join_114 : decode cX1_join 114 = .ok (.iload 4, 2) := by decide +kernel
theorem dX1_join_116 : decode cX1_join 116 = .ok (.iadd, 1) := by decide +kernel
theorem dX1_join_117 : decode cX1_join 117 = .ok (.aload_n 0, 1) := by decide +kernel
theorem dX1_join_118 : decode cX1_join 118 = .ok (.getfield 22, 3) := by decide +kernel
theorem dX1_join_121 : decode cX1_join 121 = .ok (.sipush 1600, 3) := by decide +kernel
theorem dX1_join_124 : decode cX1_join 124 = .ok (.iload_n 1, 1) := by decide +kernel
theorem dX1_join_125 : decode cX1_join 125 = .ok (.imul, 1) := by decide +kernel
theorem dX1_join_126 : decode cX1_join 126 = .ok (.iload 4, 2) := by decide +kernel
theorem dX1_join_128 : decode cX1_join 128 = .ok (.iadd, 1) := by decide +kernel
theorem dX1_join_129 : decode cX1_join 129 = .ok (.baload, 1) := by decide +kernel
theorem dX1_join_130 : decode cX1_join 130 = .ok (.ifCond .ne 13, 3) := by decide +kernel
theorem dX1_join_133 : decode cX1_join 133 = .ok (.aload_n 0, 1) := by decide +kernel
theorem dX1_join_134 : decode cX1_join 134 = .ok (.getfield 35, 3) := by decide +kernel
theorem dX1_join_137 : decode cX1_join 137 = .ok (.iload 4, 2) := by decide +kernel
theorem dX1_join_139 : decode cX1_join 139 = .ok (.baload, 1) := by decide +kernel
theorem dX1_join_140 : decode cX1_join 140 = .ok (.ifCond .eq 7, 3) := by decide +kernel
theorem dX1_join_143 : decode cX1_join 143 = .ok (.iconst 1, 1) := by decide +kernel
theorem dX1_join_144 : decode cX1_join 144 = .ok (.goto 4, 3) := by decide +kernel
theorem dX1_join_147 : decode cX1_join 147 = .ok (.iconst 0, 1) := by decide +kernel
theorem dX1_join_148 : decode cX1_join 148 = .ok (.bastore, 1) := by decide +kernel
theorem dX1_join_149 : decode cX1_join 149 = .ok (.aload_n 0, 1) := by decide +kernel
theorem dX1_join_150 : decode cX1_join 150 = .ok (.getfield 35, 3) := by decide +kernel
theorem dX1_join_153 : decode cX1_join 153 = .ok (.iload 4, 2) := by decide +kernel
theorem dX1_join_155 : decode cX1_join 155 = .ok (.iconst 0, 1) := by decide +kernel
theorem dX1_join_156 : decode cX1_join 156 = .ok (.bastore, 1) := by decide +kernel
theorem dX1_join_157 : decode cX1_join 157 = .ok (.iinc 4 1, 3) := by decide +kernel
theorem dX1_join_160 : decode cX1_join 160 = .ok (.goto (-63), 3) := by decide +kernel
theorem dX1_join_163 : decode cX1_join 163 = .ok (.return_, 1) := by decide +kernel
theorem dX1_set_0 : decode cX1_set 0 = .ok (.aload_n 0, 1) := by decide +kernel
theorem dX1_set_1 : decode cX1_set 1 = .ok (.aload_n 0, 1) := by decide +kernel
theorem dX1_set_2 : decode cX1_set 2 = .ok (.iload_n 1, 1) := by decide +kernel
theorem dX1_set_3 : decode cX1_set 3 = .ok (.iload_n 2, 1) := by decide +kernel
theorem dX1_set_4 : decode cX1_set 4 = .ok (.iload_n 3, 1) := by decide +kernel
theorem dX1_set_5 : decode cX1_set 5 = .ok (.invokevirtual 97, 3) := by decide +kernel
theorem dX1_set_8 : decode cX1_set 8 = .ok (.invokevirtual 65, 3) := by decide +kernel
theorem dX1_set_11 : decode cX1_set 11 = .ok (.ifCond .ne 5, 3) := by decide +kernel
theorem dX1_set_14 : decode cX1_set 14 = .ok (.iconst 0, 1) := by decide +kernel
theorem dX1_set_15 : decode cX1_set 15 = .ok (.ireturn, 1) := by decide +kernel
theorem dX1_set_16 : decode cX1_set 16 = .ok (.aload_n 0, 1) := by decide +kernel
theorem dX1_set_17 : decode cX1_set 17 = .ok (.iconst 0, 1) := by decide +kernel
theorem dX1_set_18 : decode cX1_set 18 = .ok (.putfield 54, 3) := by decide +kernel
theorem dX1_set_21 : decode cX1_set 21 = .ok (.aload_n 0, 1) := by decide +kernel
theorem dX1_set_22 : decode cX1_set 22 = .ok (.getfield 32, 3) := by decide +kernel
theorem dX1_set_25 : decode cX1_set 25 = .ok (.bipush 40, 2) := by decide +kernel
theorem dX1_set_27 : decode cX1_set 27 = .ok (.iload_n 2, 1) := by decide +kernel
theorem dX1_set_28 : decode cX1_set 28 = .ok (.imul, 1) := by decide +kernel
theorem dX1_set_29 : decode cX1_set 29 = .ok (.iload_n 3, 1) := by decide +kernel
theorem dX1_set_30 : decode cX1_set 30 = .ok (.iadd, 1) := by decide +kernel
theorem dX1_set_31 : decode cX1_set 31 = .ok (.dup2, 1) := by decide +kernel
theorem dX1_set_32 : decode cX1_set 32 = .ok (.iaload, 1) := by decide +kernel
theorem dX1_set_33 : decode cX1_set 33 = .ok (.iconst 1, 1) := by decide +kernel
theorem dX1_set_34 : decode cX1_set 34 = .ok (.iadd, 1) := by decide +kernel
theorem dX1_set_35 : decode cX1_set 35 = .ok (.iastore, 1) := by decide +kernel
theorem dX1_set_36 : decode cX1_set 36 = .ok (.aload_n 0, 1) := by decide +kernel
theorem dX1_set_37 : decode cX1_set 37 = .ok (.getfield 22, 3) := by decide +kernel
theorem dX1_set_40 : decode cX1_set 40 = .ok (.iload_n 1, 1) := by decide +kernel
theorem dX1_set_41 : decode cX1_set 41 = .ok (.iload_n 2, 1) := by decide +kernel
theorem dX1_set_42 : decode cX1_set 42 = .ok (.iload_n 3, 1) := by decide +kernel
theorem dX1_set_43 : decode cX1_set 43 = .ok (.invokestatic 68, 3) := by decide +kernel
theorem dX1_set_46 : decode cX1_set 46 = .ok (.baload, 1) := by decide +kernel
theorem dX1_set_47 : decode cX1_set 47 = .ok (.ifCond .eq 5, 3) := by decide +kernel
theorem dX1_set_50 : decode cX1_set 50 = .ok (.iconst 0, 1) := by decide +kernel
theorem dX1_set_51 : decode cX1_set 51 = .ok (.ireturn, 1) := by decide +kernel
theorem dX1_set_52 : decode cX1_set 52 = .ok (.aload_n 0, 1) := by decide +kernel
theorem dX1_set_53 : decode cX1_set 53 = .ok (.getfield 13, 3) := by decide +kernel
theorem dX1_set_56 : decode cX1_set 56 = .ok (.iload_n 1, 1) := by decide +kernel
theorem dX1_set_57 : decode cX1_set 57 = .ok (.iaload, 1) := by decide +kernel
theorem dX1_set_58 : decode cX1_set 58 = .ok (.istore 4, 2) := by decide +kernel
theorem dX1_set_60 : decode cX1_set 60 = .ok (.iload 4, 2) := by decide +kernel
theorem dX1_set_62 : decode cX1_set 62 = .ok (.ifCond .eq 15, 3) := by decide +kernel
theorem dX1_set_65 : decode cX1_set 65 = .ok (.iload 4, 2) := by decide +kernel
theorem dX1_set_67 : decode cX1_set 67 = .ok (.iconst 2, 1) := by decide +kernel
theorem dX1_set_68 : decode cX1_set 68 = .ok (.if_icmp .eq 9, 3) := by decide +kernel
theorem dX1_set_71 : decode cX1_set 71 = .ok (.iload 4, 2) := by decide +kernel
theorem dX1_set_73 : decode cX1_set 73 = .ok (.iconst 4, 1) := by decide +kernel
theorem dX1_set_74 : decode cX1_set 74 = .ok (.if_icmp .ne 9, 3) := by decide +kernel
theorem dX1_set_77 : decode cX1_set 77 = .ok (.aload_n 0, 1) := by decide +kernel
theorem dX1_set_78 : decode cX1_set 78 = .ok (.iload_n 1, 1) := by decide +kernel
theorem dX1_set_79 : decode cX1_set 79 = .ok (.iload_n 2, 1) := by decide +kernel
theorem dX1_set_80 : decode cX1_set 80 = .ok (.invokevirtual 100, 3) := by decide +kernel
theorem dX1_set_83 : decode cX1_set 83 = .ok (.iload 4, 2) := by decide +kernel
theorem dX1_set_85 : decode cX1_set 85 = .ok (.ifCond .eq 9, 3) := by decide +kernel
theorem dX1_set_88 : decode cX1_set 88 = .ok (.iload 4, 2) := by decide +kernel
theorem dX1_set_90 : decode cX1_set 90 = .ok (.iconst 1, 1) := by decide +kernel
theorem dX1_set_91 : decode cX1_set 91 = .ok (.if_icmp .ne 9, 3) := by decide +kernel
theorem dX1_set_94 : decode cX1_set 94 = .ok (.aload_n 0, 1) := by decide +kernel
theorem dX1_set_95 : decode cX1_set 95 = .ok (.iload_n 1, 1) := by decide +kernel
theorem dX1_set_96 : decode cX1_set 96 = .ok (.iload_n 3, 1) := by decide +kernel
theorem dX1_set_97 : decode cX1_set 97 = .ok (.invokevirtual 104, 3) := by decide +kernel
theorem dX1_set_100 : decode cX1_set 100 = .ok (.iload 4, 2) := by decide +kernel
theorem dX1_set_102 : decode cX1_set 102 = .ok (.iconst 4, 1) := by decide +kernel
theorem dX1_set_103 : decode cX1_set 103 = .ok (.if_icmp .ne 9, 3) := by decide +kernel
theorem dX1_set_106 : decode cX1_set 106 = .ok (.aload_n 0, 1) := by decide +kernel
theorem dX1_set_107 : decode cX1_set 107 = .ok (.iload_n 1, 1) := by decide +kernel
theorem dX1_set_108 : decode cX1_set 108 = .ok (.iload_n 3, 1) := by decide +kernel
theorem dX1_set_109 : decode cX1_set 109 = .ok (.invokevirtual 100, 3) := by decide +kernel
theorem dX1_set_112 : decode cX1_set 112 = .ok (.iload 4, 2) := by decide +kernel
theorem dX1_set_114 : decode cX1_set 114 = .ok (.bipush 6, 2) := by decide +kernel
theorem dX1_set_116 : decode cX1_set 116 = .ok (.if_icmp .ne 13, 3) := by decide +kernel
theorem dX1_set_119 : decode cX1_set 119 = .ok (.aload_n 0, 1) := by decide +kernel
theorem dX1_set_120 : decode cX1_set 120 = .ok (.iload_n 1, 1) := by decide +kernel
theorem dX1_set_121 : decode cX1_set 121 = .ok (.iload_n 2, 1) := by decide +kernel
theorem dX1_set_122 : decode cX1_set 122 = .ok (.iload_n 3, 1) := by decide +kernel
theorem dX1_set_123 : decode cX1_set 123 = .ok (.invokevirtual 107, 3) := by decide +kernel
theorem dX1_set_126 : decode cX1_set 126 = .ok (.goto 11, 3) := by decide +kernel
theorem dX1_set_129 : decode cX1_set 129 = .ok (.aload_n 0, 1) := by decide +kernel
theorem dX1_set_130 : decode cX1_set 130 = .ok (.iload_n 1, 1) := by decide +kernel
theorem dX1_set_131 : decode cX1_set 131 = .ok (.iload_n 2, 1) := by decide +kernel
theorem dX1_set_132 : decode cX1_set 132 = .ok (.iload_n 3, 1) := by decide +kernel
theorem dX1_set_133 : decode cX1_set 133 = .ok (.iconst 1, 1) := by decide +kernel
theorem dX1_set_134 : decode cX1_set 134 = .ok (.invokevirtual 89, 3) := by decide +kernel
theorem dX1_set_137 : decode cX1_set 137 = .ok (.aload_n 0, 1) := by decide +kernel
theorem dX1_set_138 : decode cX1_set 138 = .ok (.getfield 54, 3) := by decide +kernel
theorem dX1_set_141 : decode cX1_set 141 = .ok (.ireturn, 1) := by decide +kernel
theorem dX1_part_0 : decode cX1_part 0 = .ok (.iconst 0, 1) := by decide +kernel
theorem dX1_part_1 : decode cX1_part 1 = .ok (.istore_n 3, 1) := by decide +kernel
theorem dX1_part_2 : decode cX1_part 2 = .ok (.iload_n 3, 1) := by decide +kernel
theorem dX1_part_3 : decode cX1_part 3 = .ok (.aload_n 0, 1) := by decide +kernel
theorem dX1_part_4 : decode cX1_part 4 = .ok (.getfield 41, 3) := by decide +kernel
theorem dX1_part_7 : decode cX1_part 7 = .ok (.if_icmp .ge 51, 3) := by decide +kernel
theorem dX1_part_10 : decode cX1_part 10 = .ok (.aload_n 0, 1) := by decide +kernel
theorem dX1_part_11 : decode cX1_part 11 = .ok (.getfield 22, 3) := by decide +kernel
theorem dX1_part_14 : decode cX1_part 14 = .ok (.iload_n 1, 1) := by decide +kernel
theorem dX1_part_15 : decode cX1_part 15 = .ok (.iload_n 2, 1) := by decide +kernel
theorem dX1_part_16 : decode cX1_part 16 = .ok (.iload_n 3, 1) := by decide +kernel
theorem dX1_part_17 : decode cX1_part 17 = .ok (.invokestatic 68, 3) := by decide +kernel
theorem dX1_part_20 : decode cX1_part 20 = .ok (.iload_n 3, 1) := by decide +kernel
theorem dX1_part_21 : decode cX1_part 21 = .ok (.iload_n 2, 1) := by decide +kernel
theorem dX1_part_22 : decode cX1_part 22 = .ok (.if_icmp .ne 7, 3) := by decide +kernel
theorem dX1_part_25 : decode cX1_part 25 = .ok (.iconst 1, 1) := by decide +kernel
theorem dX1_part_26 : decode cX1_part 26 = .ok (.goto 4, 3) := by decide +kernel
theorem dX1_part_29 : decode cX1_part 29 = .ok (.iconst 0, 1) := by decide +kernel
theorem dX1_part_30 : decode cX1_part 30 = .ok (.bastore, 1) := by decide +kernel
theorem dX1_part_31 : decode cX1_part 31 = .ok (.aload_n 0, 1) := by decide +kernel
theorem dX1_part_32 : decode cX1_part 32 = .ok (.getfield 22, 3) := by decide +kernel
theorem dX1_part_35 : decode cX1_part 35 = .ok (.iload_n 1, 1) := by decide +kernel
theorem dX1_part_36 : decode cX1_part 36 = .ok (.iload_n 3, 1) := by decide +kernel
theorem dX1_part_37 : decode cX1_part 37 = .ok (.iload_n 2, 1) := by decide +kernel
theorem dX1_part_38 : decode cX1_part 38 = .ok (.invokestatic 68, 3) := by decide +kernel
theorem dX1_part_41 : decode cX1_part 41 = .ok (.iload_n 3, 1) := by decide +kernel
theorem dX1_part_42 : decode cX1_part 42 = .ok (.iload_n 2, 1) := by decide +kernel
theorem dX1_part_43 : decode cX1_part 43 = .ok (.if_icmp .ne 7, 3) := by decide +kernel
theorem dX1_part_46 : decode cX1_part 46 = .ok (.iconst 1, 1) := by decide +kernel
theorem dX1_part_47 : decode cX1_part 47 = .ok (.goto 4, 3) := by decide +kernel
theorem dX1_part_50 : decode cX1_part 50 = .ok (.iconst 0, 1) := by decide +kernel
theorem dX1_part_51 : decode cX1_part 51 = .ok (.bastore, 1) := by decide +kernel
theorem dX1_part_52 : decode cX1_part 52 = .ok (.iinc 3 1, 3) := by decide +kernel
theorem dX1_part_55 : decode cX1_part 55 = .ok (.goto (-53), 3) := by decide +kernel
theorem dX1_part_58 : decode cX1_part 58 = .ok (.return_, 1) := by decide +kernel
theorem dX1_drop_0 : decode cX1_drop 0 = .ok (.aload_n 0, 1) := by decide +kernel
theorem dX1_drop_1 : decode cX1_drop 1 = .ok (.aload_n 0, 1) := by decide +kernel
theorem dX1_drop_2 : decode cX1_drop 2 = .ok (.iload_n 1, 1) := by decide +kernel
theorem dX1_drop_3 : decode cX1_drop 3 = .ok (.iload_n 2, 1) := by decide +kernel
theorem dX1_drop_4 : decode cX1_drop 4 = .ok (.iload_n 3, 1) := by decide +kernel
theorem dX1_drop_5 : decode cX1_drop 5 = .ok (.invokevirtual 97, 3) := by decide +kernel
theorem dX1_drop_8 : decode cX1_drop 8 = .ok (.invokevirtual 65, 3) := by decide +kernel
theorem dX1_drop_11 : decode cX1_drop 11 = .ok (.ifCond .ne 5, 3) := by decide +kernel
theorem dX1_drop_14 : decode cX1_drop 14 = .ok (.iconst 0, 1) := by decide +kernel
theorem dX1_drop_15 : decode cX1_drop 15 = .ok (.ireturn, 1) := by decide +kernel
theorem dX1_drop_16 : decode cX1_drop 16 = .ok (.aload_n 0, 1) := by decide +kernel
theorem dX1_drop_17 : decode cX1_drop 17 = .ok (.getfield 22, 3) := by decide +kernel
theorem dX1_drop_20 : decode cX1_drop 20 = .ok (.iload_n 1, 1) := by decide +kernel
theorem dX1_drop_21 : decode cX1_drop 21 = .ok (.iload_n 2, 1) := by decide +kernel
theorem dX1_drop_22 : decode cX1_drop 22 = .ok (.iload_n 3, 1) := by decide +kernel
theorem dX1_drop_23 : decode cX1_drop 23 = .ok (.invokestatic 68, 3) := by decide +kernel
theorem dX1_drop_26 : decode cX1_drop 26 = .ok (.baload, 1) := by decide +kernel
theorem dX1_drop_27 : decode cX1_drop 27 = .ok (.istore 4, 2) := by decide +kernel
theorem dX1_drop_29 : decode cX1_drop 29 = .ok (.aload_n 0, 1) := by decide +kernel
theorem dX1_drop_30 : decode cX1_drop 30 = .ok (.getfield 13, 3) := by decide +kernel
theorem dX1_drop_33 : decode cX1_drop 33 = .ok (.iload_n 1, 1) := by decide +kernel
theorem dX1_drop_34 : decode cX1_drop 34 = .ok (.iaload, 1) := by decide +kernel
theorem dX1_drop_35 : decode cX1_drop 35 = .ok (.bipush 6, 2) := by decide +kernel
theorem dX1_drop_37 : decode cX1_drop 37 = .ok (.if_icmp .ne 35, 3) := by decide +kernel
theorem dX1_drop_40 : decode cX1_drop 40 = .ok (.iload 4, 2) := by decide +kernel
theorem dX1_drop_42 : decode cX1_drop 42 = .ok (.ifCond .eq 14, 3) := by decide +kernel
theorem dX1_drop_45 : decode cX1_drop 45 = .ok (.iload_n 2, 1) := by decide +kernel
theorem dX1_drop_46 : decode cX1_drop 46 = .ok (.iload_n 3, 1) := by decide +kernel
theorem dX1_drop_47 : decode cX1_drop 47 = .ok (.if_icmp .eq 9, 3) := by decide +kernel
theorem dX1_drop_50 : decode cX1_drop 50 = .ok (.aload_n 0, 1) := by decide +kernel
theorem dX1_drop_51 : decode cX1_drop 51 = .ok (.iload_n 1, 1) := by decide +kernel
theorem dX1_drop_52 : decode cX1_drop 52 = .ok (.iload_n 2, 1) := by decide +kernel
theorem dX1_drop_53 : decode cX1_drop 53 = .ok (.invokevirtual 110, 3) := by decide +kernel
theorem dX1_drop_56 : decode cX1_drop 56 = .ok (.iload 4, 2) := by decide +kernel
theorem dX1_drop_58 : decode cX1_drop 58 = .ok (.ifCond .eq 12, 3) := by decide +kernel
theorem dX1_drop_61 : decode cX1_drop 61 = .ok (.iload_n 2, 1) := by decide +kernel
theorem dX1_drop_62 : decode cX1_drop 62 = .ok (.iload_n 3, 1) := by decide +kernel
theorem dX1_drop_63 : decode cX1_drop 63 = .ok (.if_icmp .eq 7, 3) := by decide +kernel
theorem dX1_drop_66 : decode cX1_drop 66 = .ok (.iconst 1, 1) := by decide +kernel
theorem dX1_drop_67 : decode cX1_drop 67 = .ok (.goto 4, 3) := by decide +kernel
theorem dX1_drop_70 : decode cX1_drop 70 = .ok (.iconst 0, 1) := by decide +kernel
theorem dX1_drop_71 : decode cX1_drop 71 = .ok (.ireturn, 1) := by decide +kernel
theorem dX1_drop_72 : decode cX1_drop 72 = .ok (.aload_n 0, 1) := by decide +kernel
theorem dX1_drop_73 : decode cX1_drop 73 = .ok (.iload_n 1, 1) := by decide +kernel
theorem dX1_drop_74 : decode cX1_drop 74 = .ok (.iload_n 2, 1) := by decide +kernel
theorem dX1_drop_75 : decode cX1_drop 75 = .ok (.iload_n 3, 1) := by decide +kernel
theorem dX1_drop_76 : decode cX1_drop 76 = .ok (.iconst 0, 1) := by decide +kernel
theorem dX1_drop_77 : decode cX1_drop 77 = .ok (.invokevirtual 89, 3) := by decide +kernel
theorem dX1_drop_80 : decode cX1_drop 80 = .ok (.iload 4, 2) := by decide +kernel
theorem dX1_drop_82 : decode cX1_drop 82 = .ok (.ireturn, 1) := by decide +kernel
theorem dX1_countOf_0 : decode cX1_countOf 0 = .ok (.iconst 0, 1) := by decide +kernel
theorem dX1_countOf_1 : decode cX1_countOf 1 = .ok (.istore_n 2, 1) := by decide +kernel
theorem dX1_countOf_2 : decode cX1_countOf 2 = .ok (.iconst 0, 1) := by decide +kernel
theorem dX1_countOf_3 : decode cX1_countOf 3 = .ok (.istore_n 3, 1) := by decide +kernel
theorem dX1_countOf_4 : decode cX1_countOf 4 = .ok (.iload_n 3, 1) := by decide +kernel
theorem dX1_countOf_5 : decode cX1_countOf 5 = .ok (.sipush 1600, 3) := by decide +kernel
theorem dX1_countOf_8 : decode cX1_countOf 8 = .ok (.if_icmp .ge 32, 3) := by decide +kernel
theorem dX1_countOf_11 : decode cX1_countOf 11 = .ok (.iload_n 2, 1) := by decide +kernel
theorem dX1_countOf_12 : decode cX1_countOf 12 = .ok (.aload_n 0, 1) := by decide +kernel
theorem dX1_countOf_13 : decode cX1_countOf 13 = .ok (.getfield 22, 3) := by decide +kernel
theorem dX1_countOf_16 : decode cX1_countOf 16 = .ok (.sipush 1600, 3) := by decide +kernel
theorem dX1_countOf_19 : decode cX1_countOf 19 = .ok (.iload_n 1, 1) := by decide +kernel
theorem dX1_countOf_20 : decode cX1_countOf 20 = .ok (.imul, 1) := by decide +kernel
theorem dX1_countOf_21 : decode cX1_countOf 21 = .ok (.iload_n 3, 1) := by decide +kernel
theorem dX1_countOf_22 : decode cX1_countOf 22 = .ok (.iadd, 1) := by decide +kernel
theorem dX1_countOf_23 : decode cX1_countOf 23 = .ok (.baload, 1) := by decide +kernel
theorem dX1_countOf_24 : decode cX1_countOf 24 = .ok (.ifCond .eq 7, 3) := by decide +kernel
theorem dX1_countOf_27 : decode cX1_countOf 27 = .ok (.iconst 1, 1) := by decide +kernel
theorem dX1_countOf_28 : decode cX1_countOf 28 = .ok (.goto 4, 3) := by decide +kernel
theorem dX1_countOf_31 : decode cX1_countOf 31 = .ok (.iconst 0, 1) := by decide +kernel
theorem dX1_countOf_32 : decode cX1_countOf 32 = .ok (.iadd, 1) := by decide +kernel
theorem dX1_countOf_33 : decode cX1_countOf 33 = .ok (.istore_n 2, 1) := by decide +kernel
theorem dX1_countOf_34 : decode cX1_countOf 34 = .ok (.iinc 3 1, 3) := by decide +kernel
theorem dX1_countOf_37 : decode cX1_countOf 37 = .ok (.goto (-33), 3) := by decide +kernel
theorem dX1_countOf_40 : decode cX1_countOf 40 = .ok (.iload_n 2, 1) := by decide +kernel
theorem dX1_countOf_41 : decode cX1_countOf 41 = .ok (.ireturn, 1) := by decide +kernel
theorem dX1_empty_0 : decode cX1_empty 0 = .ok (.aload_n 0, 1) := by decide +kernel
theorem dX1_empty_1 : decode cX1_empty 1 = .ok (.aload_n 0, 1) := by decide +kernel
theorem dX1_empty_2 : decode cX1_empty 2 = .ok (.iload_n 1, 1) := by decide +kernel
theorem dX1_empty_3 : decode cX1_empty 3 = .ok (.invokevirtual 75, 3) := by decide +kernel
theorem dX1_empty_6 : decode cX1_empty 6 = .ok (.ifCond .ne 7, 3) := by decide +kernel
theorem dX1_empty_9 : decode cX1_empty 9 = .ok (.iconst 1, 1) := by decide +kernel
theorem dX1_empty_10 : decode cX1_empty 10 = .ok (.goto 19, 3) := by decide +kernel
theorem dX1_empty_13 : decode cX1_empty 13 = .ok (.aload_n 0, 1) := by decide +kernel
theorem dX1_empty_14 : decode cX1_empty 14 = .ok (.getfield 13, 3) := by decide +kernel
theorem dX1_empty_17 : decode cX1_empty 17 = .ok (.iload_n 1, 1) := by decide +kernel
theorem dX1_empty_18 : decode cX1_empty 18 = .ok (.iaload, 1) := by decide +kernel
theorem dX1_empty_19 : decode cX1_empty 19 = .ok (.bipush 10, 2) := by decide +kernel
theorem dX1_empty_21 : decode cX1_empty 21 = .ok (.if_icmp .lt 7, 3) := by decide +kernel
theorem dX1_empty_24 : decode cX1_empty 24 = .ok (.iconst 2, 1) := by decide +kernel
theorem dX1_empty_25 : decode cX1_empty 25 = .ok (.goto 4, 3) := by decide +kernel
theorem dX1_empty_28 : decode cX1_empty 28 = .ok (.iconst 0, 1) := by decide +kernel
theorem dX1_empty_29 : decode cX1_empty 29 = .ok (.invokevirtual 65, 3) := by decide +kernel
theorem dX1_empty_32 : decode cX1_empty 32 = .ok (.ifCond .ne 5, 3) := by decide +kernel
theorem dX1_empty_35 : decode cX1_empty 35 = .ok (.iconst 0, 1) := by decide +kernel
theorem dX1_empty_36 : decode cX1_empty 36 = .ok (.ireturn, 1) := by decide +kernel
theorem dX1_empty_37 : decode cX1_empty 37 = .ok (.aload_n 0, 1) := by decide +kernel
theorem dX1_empty_38 : decode cX1_empty 38 = .ok (.iload_n 1, 1) := by decide +kernel
theorem dX1_empty_39 : decode cX1_empty 39 = .ok (.invokevirtual 113, 3) := by decide +kernel
theorem dX1_empty_42 : decode cX1_empty 42 = .ok (.istore_n 2, 1) := by decide +kernel
theorem dX1_empty_43 : decode cX1_empty 43 = .ok (.iconst 0, 1) := by decide +kernel
theorem dX1_empty_44 : decode cX1_empty 44 = .ok (.istore_n 3, 1) := by decide +kernel
theorem dX1_empty_45 : decode cX1_empty 45 = .ok (.iload_n 3, 1) := by decide +kernel
theorem dX1_empty_46 : decode cX1_empty 46 = .ok (.aload_n 0, 1) := by decide +kernel
theorem dX1_empty_47 : decode cX1_empty 47 = .ok (.getfield 41, 3) := by decide +kernel
theorem dX1_empty_50 : decode cX1_empty 50 = .ok (.if_icmp .ge 75, 3) := by decide +kernel
theorem dX1_empty_53 : decode cX1_empty 53 = .ok (.iconst 0, 1) := by decide +kernel
theorem dX1_empty_54 : decode cX1_empty 54 = .ok (.istore 4, 2) := by decide +kernel
theorem dX1_empty_56 : decode cX1_empty 56 = .ok (.iload 4, 2) := by decide +kernel
theorem dX1_empty_58 : decode cX1_empty 58 = .ok (.aload_n 0, 1) := by decide +kernel
theorem dX1_empty_59 : decode cX1_empty 59 = .ok (.getfield 41, 3) := by decide +kernel
theorem dX1_empty_62 : decode cX1_empty 62 = .ok (.if_icmp .ge 57, 3) := by decide +kernel
theorem dX1_empty_65 : decode cX1_empty 65 = .ok (.aload_n 0, 1) := by decide +kernel
theorem dX1_empty_66 : decode cX1_empty 66 = .ok (.getfield 22, 3) := by decide +kernel
theorem dX1_empty_69 : decode cX1_empty 69 = .ok (.iload_n 1, 1) := by decide +kernel
theorem dX1_empty_70 : decode cX1_empty 70 = .ok (.iload_n 3, 1) := by decide +kernel
theorem dX1_empty_71 : decode cX1_empty 71 = .ok (.iload 4, 2) := by decide +kernel
theorem dX1_empty_73 : decode cX1_empty 73 = .ok (.invokestatic 68, 3) := by decide +kernel
theorem dX1_empty_76 : decode cX1_empty 76 = .ok (.aload_n 0, 1) := by decide +kernel
theorem dX1_empty_77 : decode cX1_empty 77 = .ok (.getfield 13, 3) := by decide +kernel
theorem dX1_empty_80 : decode cX1_empty 80 = .ok (.iload_n 1, 1) := by decide +kernel
theorem dX1_empty_81 : decode cX1_empty 81 = .ok (.iaload, 1) := by decide +kernel
theorem dX1_empty_82 : decode cX1_empty 82 = .ok (.bipush 6, 2) := by decide +kernel
theorem dX1_empty_84 : decode cX1_empty 84 = .ok (.if_icmp .ne 27, 3) := by decide +kernel
theorem dX1_empty_87 : decode cX1_empty 87 = .ok (.iload_n 3, 1) := by decide +kernel
theorem dX1_empty_88 : decode cX1_empty 88 = .ok (.iload 4, 2) := by decide +kernel
theorem dX1_empty_90 : decode cX1_empty 90 = .ok (.if_icmp .ne 21, 3) := by decide +kernel
theorem dX1_empty_93 : decode cX1_empty 93 = .ok (.aload_n 0, 1) := by decide +kernel
theorem dX1_empty_94 : decode cX1_empty 94 = .ok (.getfield 22, 3) := by decide +kernel
theorem dX1_empty_97 : decode cX1_empty 97 = .ok (.iload_n 1, 1) := by decide +kernel
theorem dX1_empty_98 : decode cX1_empty 98 = .ok (.iload_n 3, 1) := by decide +kernel
theorem dX1_empty_99 : decode cX1_empty 99 = .ok (.iload_n 3, 1) := by decide +kernel
theorem dX1_empty_100 : decode cX1_empty 100 = .ok (.invokestatic 68, 3) := by decide +kernel
theorem dX1_empty_103 : decode cX1_empty 103 = .ok (.baload, 1) := by decide +kernel
theorem dX1_empty_104 : decode cX1_empty 104 = .ok (.ifCond .eq 7, 3) := by decide +kernel
theorem dX1_empty_107 : decode cX1_empty 107 = .ok (.iconst 1, 1) := by decide +kernel
theorem dX1_empty_108 : decode cX1_empty 108 = .ok (.goto 4, 3) := by decide +kernel
theorem dX1_empty_111 : decode cX1_empty 111 = .ok (.iconst 0, 1) := by decide +kernel
theorem dX1_empty_112 : decode cX1_empty 112 = .ok (.bastore, 1) := by decide +kernel
theorem dX1_empty_113 : decode cX1_empty 113 = .ok (.iinc 4 1, 3) := by decide +kernel
theorem dX1_empty_116 : decode cX1_empty 116 = .ok (.goto (-60), 3) := by decide +kernel
theorem dX1_empty_119 : decode cX1_empty 119 = .ok (.iinc 3 1, 3) := by decide +kernel
theorem dX1_empty_122 : decode cX1_empty 122 = .ok (.goto (-77), 3) := by decide +kernel
theorem dX1_empty_125 : decode cX1_empty 125 = .ok (.iload_n 2, 1) := by decide +kernel
theorem dX1_empty_126 : decode cX1_empty 126 = .ok (.aload_n 0, 1) := by decide +kernel
theorem dX1_empty_127 : decode cX1_empty 127 = .ok (.iload_n 1, 1) := by decide +kernel
theorem dX1_empty_128 : decode cX1_empty 128 = .ok (.invokevirtual 113, 3) := by decide +kernel
theorem dX1_empty_131 : decode cX1_empty 131 = .ok (.isub, 1) := by decide +kernel
theorem dX1_empty_132 : decode cX1_empty 132 = .ok (.ireturn, 1) := by decide +kernel
theorem dX1_pushed_0 : decode cX1_pushed 0 = .ok (.aload_n 0, 1) := by decide +kernel
theorem dX1_pushed_1 : decode cX1_pushed 1 = .ok (.iload_n 2, 1) := by decide +kernel
theorem dX1_pushed_2 : decode cX1_pushed 2 = .ok (.iconst 0, 1) := by decide +kernel
theorem dX1_pushed_3 : decode cX1_pushed 3 = .ok (.iconst 1, 1) := by decide +kernel
theorem dX1_pushed_4 : decode cX1_pushed 4 = .ok (.invokestatic 57, 3) := by decide +kernel
theorem dX1_pushed_7 : decode cX1_pushed 7 = .ok (.ifCond .ne 7, 3) := by decide +kernel
theorem dX1_pushed_10 : decode cX1_pushed 10 = .ok (.iconst 1, 1) := by decide +kernel
theorem dX1_pushed_11 : decode cX1_pushed 11 = .ok (.goto 22, 3) := by decide +kernel
theorem dX1_pushed_14 : decode cX1_pushed 14 = .ok (.iload_n 1, 1) := by decide +kernel
theorem dX1_pushed_15 : decode cX1_pushed 15 = .ok (.iconst 0, 1) := by decide +kernel
theorem dX1_pushed_16 : decode cX1_pushed 16 = .ok (.aload_n 0, 1) := by decide +kernel
theorem dX1_pushed_17 : decode cX1_pushed 17 = .ok (.getfield 54, 3) := by decide +kernel
theorem dX1_pushed_20 : decode cX1_pushed 20 = .ok (.iconst 1, 1) := by decide +kernel
theorem dX1_pushed_21 : decode cX1_pushed 21 = .ok (.isub, 1) := by decide +kernel
theorem dX1_pushed_22 : decode cX1_pushed 22 = .ok (.invokestatic 57, 3) := by decide +kernel
theorem dX1_pushed_25 : decode cX1_pushed 25 = .ok (.ifCond .ne 7, 3) := by decide +kernel
theorem dX1_pushed_28 : decode cX1_pushed 28 = .ok (.iconst 2, 1) := by decide +kernel
theorem dX1_pushed_29 : decode cX1_pushed 29 = .ok (.goto 4, 3) := by decide +kernel
theorem dX1_pushed_32 : decode cX1_pushed 32 = .ok (.iconst 0, 1) := by decide +kernel
theorem dX1_pushed_33 : decode cX1_pushed 33 = .ok (.invokevirtual 65, 3) := by decide +kernel
theorem dX1_pushed_36 : decode cX1_pushed 36 = .ok (.ifCond .ne 5, 3) := by decide +kernel
theorem dX1_pushed_39 : decode cX1_pushed 39 = .ok (.iconst 0, 1) := by decide +kernel
theorem dX1_pushed_40 : decode cX1_pushed 40 = .ok (.ireturn, 1) := by decide +kernel
theorem dX1_pushed_41 : decode cX1_pushed 41 = .ok (.iload_n 2, 1) := by decide +kernel
theorem dX1_pushed_42 : decode cX1_pushed 42 = .ok (.ifCond .ne 12, 3) := by decide +kernel
theorem dX1_pushed_45 : decode cX1_pushed 45 = .ok (.aload_n 0, 1) := by decide +kernel
theorem dX1_pushed_46 : decode cX1_pushed 46 = .ok (.getfield 26, 3) := by decide +kernel
theorem dX1_pushed_49 : decode cX1_pushed 49 = .ok (.iload_n 1, 1) := by decide +kernel
theorem dX1_pushed_50 : decode cX1_pushed 50 = .ok (.iaload, 1) := by decide +kernel
theorem dX1_pushed_51 : decode cX1_pushed 51 = .ok (.goto 9, 3) := by decide +kernel
theorem dX1_pushed_54 : decode cX1_pushed 54 = .ok (.aload_n 0, 1) := by decide +kernel
theorem dX1_pushed_55 : decode cX1_pushed 55 = .ok (.getfield 29, 3) := by decide +kernel
theorem dX1_pushed_58 : decode cX1_pushed 58 = .ok (.iload_n 1, 1) := by decide +kernel
theorem dX1_pushed_59 : decode cX1_pushed 59 = .ok (.iaload, 1) := by decide +kernel
theorem dX1_pushed_60 : decode cX1_pushed 60 = .ok (.ireturn, 1) := by decide +kernel
theorem dX1_has_0 : decode cX1_has 0 = .ok (.aload_n 0, 1) := by decide +kernel
theorem dX1_has_1 : decode cX1_has 1 = .ok (.aload_n 0, 1) := by decide +kernel
theorem dX1_has_2 : decode cX1_has 2 = .ok (.iload_n 1, 1) := by decide +kernel
theorem dX1_has_3 : decode cX1_has 3 = .ok (.invokevirtual 75, 3) := by decide +kernel
theorem dX1_has_6 : decode cX1_has 6 = .ok (.ifCond .eq 19, 3) := by decide +kernel
theorem dX1_has_9 : decode cX1_has 9 = .ok (.aload_n 0, 1) := by decide +kernel
theorem dX1_has_10 : decode cX1_has 10 = .ok (.iload_n 2, 1) := by decide +kernel
theorem dX1_has_11 : decode cX1_has 11 = .ok (.invokevirtual 61, 3) := by decide +kernel
theorem dX1_has_14 : decode cX1_has 14 = .ok (.ifCond .eq 11, 3) := by decide +kernel
theorem dX1_has_17 : decode cX1_has 17 = .ok (.aload_n 0, 1) := by decide +kernel
theorem dX1_has_18 : decode cX1_has 18 = .ok (.iload_n 3, 1) := by decide +kernel
theorem dX1_has_19 : decode cX1_has 19 = .ok (.invokevirtual 61, 3) := by decide +kernel
theorem dX1_has_22 : decode cX1_has 22 = .ok (.ifCond .ne 7, 3) := by decide +kernel
theorem dX1_has_25 : decode cX1_has 25 = .ok (.iconst 1, 1) := by decide +kernel
theorem dX1_has_26 : decode cX1_has 26 = .ok (.goto 4, 3) := by decide +kernel
theorem dX1_has_29 : decode cX1_has 29 = .ok (.iconst 0, 1) := by decide +kernel
theorem dX1_has_30 : decode cX1_has 30 = .ok (.invokevirtual 65, 3) := by decide +kernel
theorem dX1_has_33 : decode cX1_has 33 = .ok (.ifCond .ne 5, 3) := by decide +kernel
theorem dX1_has_36 : decode cX1_has 36 = .ok (.iconst 0, 1) := by decide +kernel
theorem dX1_has_37 : decode cX1_has 37 = .ok (.ireturn, 1) := by decide +kernel
theorem dX1_has_38 : decode cX1_has 38 = .ok (.aload_n 0, 1) := by decide +kernel
theorem dX1_has_39 : decode cX1_has 39 = .ok (.iload_n 1, 1) := by decide +kernel
theorem dX1_has_40 : decode cX1_has 40 = .ok (.invokevirtual 117, 3) := by decide +kernel
theorem dX1_has_43 : decode cX1_has 43 = .ok (.aload_n 0, 1) := by decide +kernel
theorem dX1_has_44 : decode cX1_has 44 = .ok (.getfield 22, 3) := by decide +kernel
theorem dX1_has_47 : decode cX1_has 47 = .ok (.iload_n 1, 1) := by decide +kernel
theorem dX1_has_48 : decode cX1_has 48 = .ok (.iload_n 2, 1) := by decide +kernel
theorem dX1_has_49 : decode cX1_has 49 = .ok (.iload_n 3, 1) := by decide +kernel
theorem dX1_has_50 : decode cX1_has 50 = .ok (.invokestatic 68, 3) := by decide +kernel
theorem dX1_has_53 : decode cX1_has 53 = .ok (.baload, 1) := by decide +kernel
theorem dX1_has_54 : decode cX1_has 54 = .ok (.ireturn, 1) := by decide +kernel
theorem dX1_beside_0 : decode cX1_beside 0 = .ok (.aload_n 0, 1) := by decide +kernel
theorem dX1_beside_1 : decode cX1_beside 1 = .ok (.iload_n 1, 1) := by decide +kernel
theorem dX1_beside_2 : decode cX1_beside 2 = .ok (.invokevirtual 117, 3) := by decide +kernel
theorem dX1_beside_5 : decode cX1_beside 5 = .ok (.iconst 0, 1) := by decide +kernel
theorem dX1_beside_6 : decode cX1_beside 6 = .ok (.istore 5, 2) := by decide +kernel
theorem dX1_beside_8 : decode cX1_beside 8 = .ok (.iconst 0, 1) := by decide +kernel
theorem dX1_beside_9 : decode cX1_beside 9 = .ok (.istore 6, 2) := by decide +kernel
theorem dX1_beside_11 : decode cX1_beside 11 = .ok (.iload 6, 2) := by decide +kernel
theorem dX1_beside_13 : decode cX1_beside 13 = .ok (.aload_n 0, 1) := by decide +kernel
theorem dX1_beside_14 : decode cX1_beside 14 = .ok (.getfield 41, 3) := by decide +kernel
theorem dX1_beside_17 : decode cX1_beside 17 = .ok (.if_icmp .ge 51, 3) := by decide +kernel
theorem dX1_beside_20 : decode cX1_beside 20 = .ok (.aload_n 0, 1) := by decide +kernel
theorem dX1_beside_21 : decode cX1_beside 21 = .ok (.getfield 22, 3) := by decide +kernel
theorem dX1_beside_24 : decode cX1_beside 24 = .ok (.iload 4, 2) := by decide +kernel
theorem dX1_beside_26 : decode cX1_beside 26 = .ok (.ifCond .eq 13, 3) := by decide +kernel
theorem dX1_beside_29 : decode cX1_beside 29 = .ok (.iload_n 1, 1) := by decide +kernel
theorem dX1_beside_30 : decode cX1_beside 30 = .ok (.iload_n 2, 1) := by decide +kernel
theorem dX1_beside_31 : decode cX1_beside 31 = .ok (.iload 6, 2) := by decide +kernel
theorem dX1_beside_33 : decode cX1_beside 33 = .ok (.invokestatic 68, 3) := by decide +kernel
theorem dX1_beside_36 : decode cX1_beside 36 = .ok (.goto 10, 3) := by decide +kernel
theorem dX1_beside_39 : decode cX1_beside 39 = .ok (.iload_n 1, 1) := by decide +kernel
theorem dX1_beside_40 : decode cX1_beside 40 = .ok (.iload 6, 2) := by decide +kernel
theorem dX1_beside_42 : decode cX1_beside 42 = .ok (.iload_n 2, 1) := by decide +kernel
theorem dX1_beside_43 : decode cX1_beside 43 = .ok (.invokestatic 68, 3) := by decide +kernel
theorem dX1_beside_46 : decode cX1_beside 46 = .ok (.baload, 1) := by decide +kernel
theorem dX1_beside_47 : decode cX1_beside 47 = .ok (.ifCond .eq 15, 3) := by decide +kernel
theorem dX1_beside_50 : decode cX1_beside 50 = .ok (.iload 5, 2) := by decide +kernel
theorem dX1_beside_52 : decode cX1_beside 52 = .ok (.iload_n 3, 1) := by decide +kernel
theorem dX1_beside_53 : decode cX1_beside 53 = .ok (.if_icmp .ne 6, 3) := by decide +kernel
theorem dX1_beside_56 : decode cX1_beside 56 = .ok (.iload 6, 2) := by decide +kernel
theorem dX1_beside_58 : decode cX1_beside 58 = .ok (.ireturn, 1) := by decide +kernel
theorem dX1_beside_59 : decode cX1_beside 59 = .ok (.iinc 5 1, 3) := by decide +kernel
theorem dX1_beside_62 : decode cX1_beside 62 = .ok (.iinc 6 1, 3) := by decide +kernel
theorem dX1_beside_65 : decode cX1_beside 65 = .ok (.goto (-54), 3) := by decide +kernel
theorem dX1_beside_68 : decode cX1_beside 68 = .ok (.iconst (-1), 1) := by decide +kernel
theorem dX1_beside_69 : decode cX1_beside 69 = .ok (.ireturn, 1) := by decide +kernel
theorem dX1_besideOr_0 : decode cX1_besideOr 0 = .ok (.aload_n 0, 1) := by decide +kernel
theorem dX1_besideOr_1 : decode cX1_besideOr 1 = .ok (.aload_n 0, 1) := by decide +kernel
theorem dX1_besideOr_2 : decode cX1_besideOr 2 = .ok (.iload_n 1, 1) := by decide +kernel
theorem dX1_besideOr_3 : decode cX1_besideOr 3 = .ok (.invokevirtual 75, 3) := by decide +kernel
theorem dX1_besideOr_6 : decode cX1_besideOr 6 = .ok (.ifCond .eq 11, 3) := by decide +kernel
theorem dX1_besideOr_9 : decode cX1_besideOr 9 = .ok (.aload_n 0, 1) := by decide +kernel
theorem dX1_besideOr_10 : decode cX1_besideOr 10 = .ok (.iload_n 2, 1) := by decide +kernel
theorem dX1_besideOr_11 : decode cX1_besideOr 11 = .ok (.invokevirtual 61, 3) := by decide +kernel
theorem dX1_besideOr_14 : decode cX1_besideOr 14 = .ok (.ifCond .ne 7, 3) := by decide +kernel
theorem dX1_besideOr_17 : decode cX1_besideOr 17 = .ok (.iconst 1, 1) := by decide +kernel
theorem dX1_besideOr_18 : decode cX1_besideOr 18 = .ok (.goto 4, 3) := by decide +kernel
theorem dX1_besideOr_21 : decode cX1_besideOr 21 = .ok (.iconst 0, 1) := by decide +kernel
theorem dX1_besideOr_22 : decode cX1_besideOr 22 = .ok (.invokevirtual 65, 3) := by decide +kernel
theorem dX1_besideOr_25 : decode cX1_besideOr 25 = .ok (.ifCond .ne 5, 3) := by decide +kernel
theorem dX1_besideOr_28 : decode cX1_besideOr 28 = .ok (.iconst 0, 1) := by decide +kernel
theorem dX1_besideOr_29 : decode cX1_besideOr 29 = .ok (.ireturn, 1) := by decide +kernel
theorem dX1_besideOr_30 : decode cX1_besideOr 30 = .ok (.aload_n 0, 1) := by decide +kernel
theorem dX1_besideOr_31 : decode cX1_besideOr 31 = .ok (.iload_n 1, 1) := by decide +kernel
theorem dX1_besideOr_32 : decode cX1_besideOr 32 = .ok (.iload_n 2, 1) := by decide +kernel
theorem dX1_besideOr_33 : decode cX1_besideOr 33 = .ok (.iload_n 3, 1) := by decide +kernel
theorem dX1_besideOr_34 : decode cX1_besideOr 34 = .ok (.iload 4, 2) := by decide +kernel
theorem dX1_besideOr_36 : decode cX1_besideOr 36 = .ok (.invokevirtual 120, 3) := by decide +kernel
theorem dX1_besideOr_39 : decode cX1_besideOr 39 = .ok (.istore 5, 2) := by decide +kernel
theorem dX1_besideOr_41 : decode cX1_besideOr 41 = .ok (.aload_n 0, 1) := by decide +kernel
theorem dX1_besideOr_42 : decode cX1_besideOr 42 = .ok (.iload 5, 2) := by decide +kernel
theorem dX1_besideOr_44 : decode cX1_besideOr 44 = .ok (.iconst (-1), 1) := by decide +kernel
theorem dX1_besideOr_45 : decode cX1_besideOr 45 = .ok (.if_icmp .ne 7, 3) := by decide +kernel
theorem dX1_besideOr_48 : decode cX1_besideOr 48 = .ok (.iconst 2, 1) := by decide +kernel
theorem dX1_besideOr_49 : decode cX1_besideOr 49 = .ok (.goto 4, 3) := by decide +kernel
theorem dX1_besideOr_52 : decode cX1_besideOr 52 = .ok (.iconst 0, 1) := by decide +kernel
theorem dX1_besideOr_53 : decode cX1_besideOr 53 = .ok (.invokevirtual 65, 3) := by decide +kernel
theorem dX1_besideOr_56 : decode cX1_besideOr 56 = .ok (.ifCond .eq 8, 3) := by decide +kernel
theorem dX1_besideOr_59 : decode cX1_besideOr 59 = .ok (.iload 5, 2) := by decide +kernel
theorem dX1_besideOr_61 : decode cX1_besideOr 61 = .ok (.goto 4, 3) := by decide +kernel
theorem dX1_besideOr_64 : decode cX1_besideOr 64 = .ok (.iconst 0, 1) := by decide +kernel
theorem dX1_besideOr_65 : decode cX1_besideOr 65 = .ok (.ireturn, 1) := by decide +kernel
theorem dX1_next_0 : decode cX1_next 0 = .ok (.aload_n 0, 1) := by decide +kernel
theorem dX1_next_1 : decode cX1_next 1 = .ok (.iload_n 1, 1) := by decide +kernel
theorem dX1_next_2 : decode cX1_next 2 = .ok (.iload_n 2, 1) := by decide +kernel
theorem dX1_next_3 : decode cX1_next 3 = .ok (.iload_n 3, 1) := by decide +kernel
theorem dX1_next_4 : decode cX1_next 4 = .ok (.iconst 1, 1) := by decide +kernel
theorem dX1_next_5 : decode cX1_next 5 = .ok (.invokevirtual 124, 3) := by decide +kernel
theorem dX1_next_8 : decode cX1_next 8 = .ok (.ireturn, 1) := by decide +kernel
theorem dX1_back_0 : decode cX1_back 0 = .ok (.aload_n 0, 1) := by decide +kernel
theorem dX1_back_1 : decode cX1_back 1 = .ok (.iload_n 1, 1) := by decide +kernel
theorem dX1_back_2 : decode cX1_back 2 = .ok (.iload_n 2, 1) := by decide +kernel
theorem dX1_back_3 : decode cX1_back 3 = .ok (.iload_n 3, 1) := by decide +kernel
theorem dX1_back_4 : decode cX1_back 4 = .ok (.iconst 0, 1) := by decide +kernel
theorem dX1_back_5 : decode cX1_back 5 = .ok (.invokevirtual 124, 3) := by decide +kernel
theorem dX1_back_8 : decode cX1_back 8 = .ok (.ireturn, 1) := by decide +kernel
theorem dX1_count_0 : decode cX1_count 0 = .ok (.aload_n 0, 1) := by decide +kernel
theorem dX1_count_1 : decode cX1_count 1 = .ok (.aload_n 0, 1) := by decide +kernel
theorem dX1_count_2 : decode cX1_count 2 = .ok (.iload_n 1, 1) := by decide +kernel
theorem dX1_count_3 : decode cX1_count 3 = .ok (.invokevirtual 75, 3) := by decide +kernel
theorem dX1_count_6 : decode cX1_count 6 = .ok (.ifCond .eq 7, 3) := by decide +kernel
theorem dX1_count_9 : decode cX1_count 9 = .ok (.iconst 0, 1) := by decide +kernel
theorem dX1_count_10 : decode cX1_count 10 = .ok (.goto 4, 3) := by decide +kernel
theorem dX1_count_13 : decode cX1_count 13 = .ok (.iconst 1, 1) := by decide +kernel
theorem dX1_count_14 : decode cX1_count 14 = .ok (.invokevirtual 65, 3) := by decide +kernel
theorem dX1_count_17 : decode cX1_count 17 = .ok (.ifCond .ne 5, 3) := by decide +kernel
theorem dX1_count_20 : decode cX1_count 20 = .ok (.iconst 0, 1) := by decide +kernel
theorem dX1_count_21 : decode cX1_count 21 = .ok (.ireturn, 1) := by decide +kernel
theorem dX1_count_22 : decode cX1_count 22 = .ok (.aload_n 0, 1) := by decide +kernel
theorem dX1_count_23 : decode cX1_count 23 = .ok (.iload_n 1, 1) := by decide +kernel
theorem dX1_count_24 : decode cX1_count 24 = .ok (.invokevirtual 117, 3) := by decide +kernel
theorem dX1_count_27 : decode cX1_count 27 = .ok (.aload_n 0, 1) := by decide +kernel
theorem dX1_count_28 : decode cX1_count 28 = .ok (.iload_n 1, 1) := by decide +kernel
theorem dX1_count_29 : decode cX1_count 29 = .ok (.invokevirtual 113, 3) := by decide +kernel
theorem dX1_count_32 : decode cX1_count 32 = .ok (.ireturn, 1) := by decide +kernel
theorem dX1_measure_0 : decode cX1_measure 0 = .ok (.aload_n 0, 1) := by decide +kernel
theorem dX1_measure_1 : decode cX1_measure 1 = .ok (.iload_n 1, 1) := by decide +kernel
theorem dX1_measure_2 : decode cX1_measure 2 = .ok (.invokevirtual 117, 3) := by decide +kernel
theorem dX1_measure_5 : decode cX1_measure 5 = .ok (.iconst 0, 1) := by decide +kernel
theorem dX1_measure_6 : decode cX1_measure 6 = .ok (.istore_n 3, 1) := by decide +kernel
theorem dX1_measure_7 : decode cX1_measure 7 = .ok (.iload_n 3, 1) := by decide +kernel
theorem dX1_measure_8 : decode cX1_measure 8 = .ok (.aload_n 0, 1) := by decide +kernel
theorem dX1_measure_9 : decode cX1_measure 9 = .ok (.getfield 41, 3) := by decide +kernel
theorem dX1_measure_12 : decode cX1_measure 12 = .ok (.if_icmp .ge 25, 3) := by decide +kernel
theorem dX1_measure_15 : decode cX1_measure 15 = .ok (.aload_n 0, 1) := by decide +kernel
theorem dX1_measure_16 : decode cX1_measure 16 = .ok (.getfield 38, 3) := by decide +kernel
theorem dX1_measure_19 : decode cX1_measure 19 = .ok (.iload_n 3, 1) := by decide +kernel
theorem dX1_measure_20 : decode cX1_measure 20 = .ok (.iload_n 3, 1) := by decide +kernel
theorem dX1_measure_21 : decode cX1_measure 21 = .ok (.iload_n 2, 1) := by decide +kernel
theorem dX1_measure_22 : decode cX1_measure 22 = .ok (.if_icmp .ne 7, 3) := by decide +kernel
theorem dX1_measure_25 : decode cX1_measure 25 = .ok (.iconst 0, 1) := by decide +kernel
theorem dX1_measure_26 : decode cX1_measure 26 = .ok (.goto 4, 3) := by decide +kernel
theorem dX1_measure_29 : decode cX1_measure 29 = .ok (.iconst (-1), 1) := by decide +kernel
theorem dX1_measure_30 : decode cX1_measure 30 = .ok (.iastore, 1) := by decide +kernel
theorem dX1_measure_31 : decode cX1_measure 31 = .ok (.iinc 3 1, 3) := by decide +kernel
theorem dX1_measure_34 : decode cX1_measure 34 = .ok (.goto (-27), 3) := by decide +kernel
theorem dX1_measure_37 : decode cX1_measure 37 = .ok (.iconst 1, 1) := by decide +kernel
theorem dX1_measure_38 : decode cX1_measure 38 = .ok (.istore_n 3, 1) := by decide +kernel
theorem dX1_measure_39 : decode cX1_measure 39 = .ok (.iload_n 3, 1) := by decide +kernel
theorem dX1_measure_40 : decode cX1_measure 40 = .ok (.aload_n 0, 1) := by decide +kernel
theorem dX1_measure_41 : decode cX1_measure 41 = .ok (.getfield 41, 3) := by decide +kernel
theorem dX1_measure_44 : decode cX1_measure 44 = .ok (.if_icmp .ge 93, 3) := by decide +kernel
theorem dX1_measure_47 : decode cX1_measure 47 = .ok (.iconst 0, 1) := by decide +kernel
theorem dX1_measure_48 : decode cX1_measure 48 = .ok (.istore 4, 2) := by decide +kernel
theorem dX1_measure_50 : decode cX1_measure 50 = .ok (.iload 4, 2) := by decide +kernel
theorem dX1_measure_52 : decode cX1_measure 52 = .ok (.aload_n 0, 1) := by decide +kernel
theorem dX1_measure_53 : decode cX1_measure 53 = .ok (.getfield 41, 3) := by decide +kernel
theorem dX1_measure_56 : decode cX1_measure 56 = .ok (.if_icmp .ge 75, 3) := by decide +kernel
theorem dX1_measure_59 : decode cX1_measure 59 = .ok (.iconst 0, 1) := by decide +kernel
theorem dX1_measure_60 : decode cX1_measure 60 = .ok (.istore 5, 2) := by decide +kernel
theorem dX1_measure_62 : decode cX1_measure 62 = .ok (.iload 5, 2) := by decide +kernel
theorem dX1_measure_64 : decode cX1_measure 64 = .ok (.aload_n 0, 1) := by decide +kernel
theorem dX1_measure_65 : decode cX1_measure 65 = .ok (.getfield 41, 3) := by decide +kernel
theorem dX1_measure_68 : decode cX1_measure 68 = .ok (.if_icmp .ge 57, 3) := by decide +kernel
theorem dX1_measure_71 : decode cX1_measure 71 = .ok (.aload_n 0, 1) := by decide +kernel
theorem dX1_measure_72 : decode cX1_measure 72 = .ok (.getfield 38, 3) := by decide +kernel
theorem dX1_measure_75 : decode cX1_measure 75 = .ok (.iload 4, 2) := by decide +kernel
theorem dX1_measure_77 : decode cX1_measure 77 = .ok (.iaload, 1) := by decide +kernel
theorem dX1_measure_78 : decode cX1_measure 78 = .ok (.iconst (-1), 1) := by decide +kernel
theorem dX1_measure_79 : decode cX1_measure 79 = .ok (.if_icmp .ne 46, 3) := by decide +kernel
theorem dX1_measure_82 : decode cX1_measure 82 = .ok (.aload_n 0, 1) := by decide +kernel
theorem dX1_measure_83 : decode cX1_measure 83 = .ok (.getfield 22, 3) := by decide +kernel
theorem dX1_measure_86 : decode cX1_measure 86 = .ok (.iload_n 1, 1) := by decide +kernel
theorem dX1_measure_87 : decode cX1_measure 87 = .ok (.iload 4, 2) := by decide +kernel
theorem dX1_measure_89 : decode cX1_measure 89 = .ok (.iload 5, 2) := by decide +kernel
theorem dX1_measure_91 : decode cX1_measure 91 = .ok (.invokestatic 68, 3) := by decide +kernel
theorem dX1_measure_94 : decode cX1_measure 94 = .ok (.baload, 1) := by decide +kernel
theorem dX1_measure_95 : decode cX1_measure 95 = .ok (.ifCond .eq 24, 3) := by decide +kernel
theorem dX1_measure_98 : decode cX1_measure 98 = .ok (.aload_n 0, 1) := by decide +kernel
theorem dX1_measure_99 : decode cX1_measure 99 = .ok (.getfield 38, 3) := by decide +kernel
theorem dX1_measure_102 : decode cX1_measure 102 = .ok (.iload 5, 2) := by decide +kernel
theorem dX1_measure_104 : decode cX1_measure 104 = .ok (.iaload, 1) := by decide +kernel
theorem dX1_measure_105 : decode cX1_measure 105 = .ok (.iload_n 3, 1) := by decide +kernel
theorem dX1_measure_106 : decode cX1_measure 106 = .ok (.iconst 1, 1) := by decide +kernel
theorem dX1_measure_107 : decode cX1_measure 107 = .ok (.isub, 1) := by decide +kernel
theorem dX1_measure_108 : decode cX1_measure 108 = .ok (.if_icmp .ne 11, 3) := by decide +kernel
theorem dX1_measure_111 : decode cX1_measure 111 = .ok (.aload_n 0, 1) := by decide +kernel
theorem dX1_measure_112 : decode cX1_measure 112 = .ok (.getfield 38, 3) := by decide +kernel
theorem dX1_measure_115 : decode cX1_measure 115 = .ok (.iload 4, 2) := by decide +kernel
theorem dX1_measure_117 : decode cX1_measure 117 = .ok (.iload_n 3, 1) := by decide +kernel
theorem dX1_measure_118 : decode cX1_measure 118 = .ok (.iastore, 1) := by decide +kernel
theorem dX1_measure_119 : decode cX1_measure 119 = .ok (.iinc 5 1, 3) := by decide +kernel
theorem dX1_measure_122 : decode cX1_measure 122 = .ok (.goto (-60), 3) := by decide +kernel
theorem dX1_measure_125 : decode cX1_measure 125 = .ok (.iinc 4 1, 3) := by decide +kernel
theorem dX1_measure_128 : decode cX1_measure 128 = .ok (.goto (-78), 3) := by decide +kernel
theorem dX1_measure_131 : decode cX1_measure 131 = .ok (.iinc 3 1, 3) := by decide +kernel
theorem dX1_measure_134 : decode cX1_measure 134 = .ok (.goto (-95), 3) := by decide +kernel
theorem dX1_measure_137 : decode cX1_measure 137 = .ok (.return_, 1) := by decide +kernel
theorem dX1_length_0 : decode cX1_length 0 = .ok (.aload_n 0, 1) := by decide +kernel
theorem dX1_length_1 : decode cX1_length 1 = .ok (.aload_n 0, 1) := by decide +kernel
theorem dX1_length_2 : decode cX1_length 2 = .ok (.iload_n 1, 1) := by decide +kernel
theorem dX1_length_3 : decode cX1_length 3 = .ok (.invokevirtual 75, 3) := by decide +kernel
theorem dX1_length_6 : decode cX1_length 6 = .ok (.ifCond .eq 19, 3) := by decide +kernel
theorem dX1_length_9 : decode cX1_length 9 = .ok (.aload_n 0, 1) := by decide +kernel
theorem dX1_length_10 : decode cX1_length 10 = .ok (.iload_n 2, 1) := by decide +kernel
theorem dX1_length_11 : decode cX1_length 11 = .ok (.invokevirtual 61, 3) := by decide +kernel
theorem dX1_length_14 : decode cX1_length 14 = .ok (.ifCond .eq 11, 3) := by decide +kernel
theorem dX1_length_17 : decode cX1_length 17 = .ok (.aload_n 0, 1) := by decide +kernel
theorem dX1_length_18 : decode cX1_length 18 = .ok (.iload_n 3, 1) := by decide +kernel
theorem dX1_length_19 : decode cX1_length 19 = .ok (.invokevirtual 61, 3) := by decide +kernel
theorem dX1_length_22 : decode cX1_length 22 = .ok (.ifCond .ne 7, 3) := by decide +kernel
theorem dX1_length_25 : decode cX1_length 25 = .ok (.iconst 1, 1) := by decide +kernel
theorem dX1_length_26 : decode cX1_length 26 = .ok (.goto 4, 3) := by decide +kernel
theorem dX1_length_29 : decode cX1_length 29 = .ok (.iconst 0, 1) := by decide +kernel
theorem dX1_length_30 : decode cX1_length 30 = .ok (.invokevirtual 65, 3) := by decide +kernel
theorem dX1_length_33 : decode cX1_length 33 = .ok (.ifCond .ne 5, 3) := by decide +kernel
theorem dX1_length_36 : decode cX1_length 36 = .ok (.iconst 0, 1) := by decide +kernel
theorem dX1_length_37 : decode cX1_length 37 = .ok (.ireturn, 1) := by decide +kernel
theorem dX1_length_38 : decode cX1_length 38 = .ok (.aload_n 0, 1) := by decide +kernel
theorem dX1_length_39 : decode cX1_length 39 = .ok (.iload_n 1, 1) := by decide +kernel
theorem dX1_length_40 : decode cX1_length 40 = .ok (.iload_n 3, 1) := by decide +kernel
theorem dX1_length_41 : decode cX1_length 41 = .ok (.invokevirtual 127, 3) := by decide +kernel
theorem dX1_length_44 : decode cX1_length 44 = .ok (.aload_n 0, 1) := by decide +kernel
theorem dX1_length_45 : decode cX1_length 45 = .ok (.getfield 38, 3) := by decide +kernel
theorem dX1_length_48 : decode cX1_length 48 = .ok (.iload_n 2, 1) := by decide +kernel
theorem dX1_length_49 : decode cX1_length 49 = .ok (.iaload, 1) := by decide +kernel
theorem dX1_length_50 : decode cX1_length 50 = .ok (.ireturn, 1) := by decide +kernel
theorem dX1_route_0 : decode cX1_route 0 = .ok (.aload_n 0, 1) := by decide +kernel
theorem dX1_route_1 : decode cX1_route 1 = .ok (.aload_n 0, 1) := by decide +kernel
theorem dX1_route_2 : decode cX1_route 2 = .ok (.iload_n 1, 1) := by decide +kernel
theorem dX1_route_3 : decode cX1_route 3 = .ok (.invokevirtual 75, 3) := by decide +kernel
theorem dX1_route_6 : decode cX1_route 6 = .ok (.ifCond .eq 19, 3) := by decide +kernel
theorem dX1_route_9 : decode cX1_route 9 = .ok (.aload_n 0, 1) := by decide +kernel
theorem dX1_route_10 : decode cX1_route 10 = .ok (.iload_n 2, 1) := by decide +kernel
theorem dX1_route_11 : decode cX1_route 11 = .ok (.invokevirtual 61, 3) := by decide +kernel
theorem dX1_route_14 : decode cX1_route 14 = .ok (.ifCond .eq 11, 3) := by decide +kernel
theorem dX1_route_17 : decode cX1_route 17 = .ok (.aload_n 0, 1) := by decide +kernel
theorem dX1_route_18 : decode cX1_route 18 = .ok (.iload_n 3, 1) := by decide +kernel
theorem dX1_route_19 : decode cX1_route 19 = .ok (.invokevirtual 61, 3) := by decide +kernel
theorem dX1_route_22 : decode cX1_route 22 = .ok (.ifCond .ne 7, 3) := by decide +kernel
theorem dX1_route_25 : decode cX1_route 25 = .ok (.iconst 1, 1) := by decide +kernel
theorem dX1_route_26 : decode cX1_route 26 = .ok (.goto 4, 3) := by decide +kernel
theorem dX1_route_29 : decode cX1_route 29 = .ok (.iconst 0, 1) := by decide +kernel
theorem dX1_route_30 : decode cX1_route 30 = .ok (.invokevirtual 65, 3) := by decide +kernel
theorem dX1_route_33 : decode cX1_route 33 = .ok (.ifCond .ne 5, 3) := by decide +kernel
theorem dX1_route_36 : decode cX1_route 36 = .ok (.iconst 0, 1) := by decide +kernel
theorem dX1_route_37 : decode cX1_route 37 = .ok (.ireturn, 1) := by decide +kernel
theorem dX1_route_38 : decode cX1_route 38 = .ok (.aload_n 0, 1) := by decide +kernel
theorem dX1_route_39 : decode cX1_route 39 = .ok (.iload_n 1, 1) := by decide +kernel
theorem dX1_route_40 : decode cX1_route 40 = .ok (.iload_n 3, 1) := by decide +kernel
theorem dX1_route_41 : decode cX1_route 41 = .ok (.invokevirtual 127, 3) := by decide +kernel
theorem dX1_route_44 : decode cX1_route 44 = .ok (.aload_n 0, 1) := by decide +kernel
theorem dX1_route_45 : decode cX1_route 45 = .ok (.iload 4, 2) := by decide +kernel
theorem dX1_route_47 : decode cX1_route 47 = .ok (.iconst 0, 1) := by decide +kernel
theorem dX1_route_48 : decode cX1_route 48 = .ok (.aload_n 0, 1) := by decide +kernel
theorem dX1_route_49 : decode cX1_route 49 = .ok (.getfield 38, 3) := by decide +kernel
theorem dX1_route_52 : decode cX1_route 52 = .ok (.iload_n 2, 1) := by decide +kernel
theorem dX1_route_53 : decode cX1_route 53 = .ok (.iaload, 1) := by decide +kernel
theorem dX1_route_54 : decode cX1_route 54 = .ok (.invokestatic 57, 3) := by decide +kernel
theorem dX1_route_57 : decode cX1_route 57 = .ok (.ifCond .ne 7, 3) := by decide +kernel
theorem dX1_route_60 : decode cX1_route 60 = .ok (.iconst 2, 1) := by decide +kernel
theorem dX1_route_61 : decode cX1_route 61 = .ok (.goto 4, 3) := by decide +kernel
theorem dX1_route_64 : decode cX1_route 64 = .ok (.iconst 0, 1) := by decide +kernel
theorem dX1_route_65 : decode cX1_route 65 = .ok (.invokevirtual 65, 3) := by decide +kernel
theorem dX1_route_68 : decode cX1_route 68 = .ok (.ifCond .ne 5, 3) := by decide +kernel
theorem dX1_route_71 : decode cX1_route 71 = .ok (.iconst 0, 1) := by decide +kernel
theorem dX1_route_72 : decode cX1_route 72 = .ok (.ireturn, 1) := by decide +kernel
theorem dX1_route_73 : decode cX1_route 73 = .ok (.iload_n 2, 1) := by decide +kernel
theorem dX1_route_74 : decode cX1_route 74 = .ok (.istore 5, 2) := by decide +kernel
theorem dX1_route_76 : decode cX1_route 76 = .ok (.iconst 0, 1) := by decide +kernel
theorem dX1_route_77 : decode cX1_route 77 = .ok (.istore 6, 2) := by decide +kernel
theorem dX1_route_79 : decode cX1_route 79 = .ok (.iload 6, 2) := by decide +kernel
theorem dX1_route_81 : decode cX1_route 81 = .ok (.iload 4, 2) := by decide +kernel
theorem dX1_route_83 : decode cX1_route 83 = .ok (.if_icmp .ge 57, 3) := by decide +kernel
theorem dX1_route_86 : decode cX1_route 86 = .ok (.iconst 0, 1) := by decide +kernel
theorem dX1_route_87 : decode cX1_route 87 = .ok (.istore 7, 2) := by decide +kernel
theorem dX1_route_89 : decode cX1_route 89 = .ok (.aload_n 0, 1) := by decide +kernel
theorem dX1_route_90 : decode cX1_route 90 = .ok (.getfield 22, 3) := by decide +kernel
theorem dX1_route_93 : decode cX1_route 93 = .ok (.iload_n 1, 1) := by decide +kernel
theorem dX1_route_94 : decode cX1_route 94 = .ok (.iload 5, 2) := by decide +kernel
theorem dX1_route_96 : decode cX1_route 96 = .ok (.iload 7, 2) := by decide +kernel
theorem dX1_route_98 : decode cX1_route 98 = .ok (.invokestatic 68, 3) := by decide +kernel
theorem dX1_route_101 : decode cX1_route 101 = .ok (.baload, 1) := by decide +kernel
theorem dX1_route_102 : decode cX1_route 102 = .ok (.ifCond .eq 22, 3) := by decide +kernel
theorem dX1_route_105 : decode cX1_route 105 = .ok (.aload_n 0, 1) := by decide +kernel
theorem dX1_route_106 : decode cX1_route 106 = .ok (.getfield 38, 3) := by decide +kernel
theorem dX1_route_109 : decode cX1_route 109 = .ok (.iload 7, 2) := by decide +kernel
theorem dX1_route_111 : decode cX1_route 111 = .ok (.iaload, 1) := by decide +kernel
theorem dX1_route_112 : decode cX1_route 112 = .ok (.aload_n 0, 1) := by decide +kernel
theorem dX1_route_113 : decode cX1_route 113 = .ok (.getfield 38, 3) := by decide +kernel
theorem dX1_route_116 : decode cX1_route 116 = .ok (.iload 5, 2) := by decide +kernel
theorem dX1_route_118 : decode cX1_route 118 = .ok (.iaload, 1) := by decide +kernel
theorem dX1_route_119 : decode cX1_route 119 = .ok (.iconst 1, 1) := by decide +kernel
theorem dX1_route_120 : decode cX1_route 120 = .ok (.isub, 1) := by decide +kernel
theorem dX1_route_121 : decode cX1_route 121 = .ok (.if_icmp .eq 9, 3) := by decide +kernel
theorem dX1_route_124 : decode cX1_route 124 = .ok (.iinc 7 1, 3) := by decide +kernel
theorem dX1_route_127 : decode cX1_route 127 = .ok (.goto (-38), 3) := by decide +kernel
theorem dX1_route_130 : decode cX1_route 130 = .ok (.iload 7, 2) := by decide +kernel
theorem dX1_route_132 : decode cX1_route 132 = .ok (.istore 5, 2) := by decide +kernel
theorem dX1_route_134 : decode cX1_route 134 = .ok (.iinc 6 1, 3) := by decide +kernel
theorem dX1_route_137 : decode cX1_route 137 = .ok (.goto (-58), 3) := by decide +kernel
theorem dX1_route_140 : decode cX1_route 140 = .ok (.iload 5, 2) := by decide +kernel
theorem dX1_route_142 : decode cX1_route 142 = .ok (.ireturn, 1) := by decide +kernel
theorem dX1_leader_0 : decode cX1_leader 0 = .ok (.aload_n 0, 1) := by decide +kernel
theorem dX1_leader_1 : decode cX1_leader 1 = .ok (.iload_n 1, 1) := by decide +kernel
theorem dX1_leader_2 : decode cX1_leader 2 = .ok (.invokevirtual 75, 3) := by decide +kernel
theorem dX1_leader_5 : decode cX1_leader 5 = .ok (.ifCond .eq 11, 3) := by decide +kernel
theorem dX1_leader_8 : decode cX1_leader 8 = .ok (.aload_n 0, 1) := by decide +kernel
theorem dX1_leader_9 : decode cX1_leader 9 = .ok (.iload_n 2, 1) := by decide +kernel
theorem dX1_leader_10 : decode cX1_leader 10 = .ok (.invokevirtual 61, 3) := by decide +kernel
theorem dX1_leader_13 : decode cX1_leader 13 = .ok (.ifCond .ne 7, 3) := by decide +kernel
theorem dX1_leader_16 : decode cX1_leader 16 = .ok (.iconst 1, 1) := by decide +kernel
theorem dX1_leader_17 : decode cX1_leader 17 = .ok (.goto 19, 3) := by decide +kernel
theorem dX1_leader_20 : decode cX1_leader 20 = .ok (.aload_n 0, 1) := by decide +kernel
theorem dX1_leader_21 : decode cX1_leader 21 = .ok (.getfield 13, 3) := by decide +kernel
theorem dX1_leader_24 : decode cX1_leader 24 = .ok (.iload_n 1, 1) := by decide +kernel
theorem dX1_leader_25 : decode cX1_leader 25 = .ok (.iaload, 1) := by decide +kernel
theorem dX1_leader_26 : decode cX1_leader 26 = .ok (.bipush 6, 2) := by decide +kernel
theorem dX1_leader_28 : decode cX1_leader 28 = .ok (.if_icmp .eq 7, 3) := by decide +kernel
theorem dX1_leader_31 : decode cX1_leader 31 = .ok (.iconst 2, 1) := by decide +kernel
theorem dX1_leader_32 : decode cX1_leader 32 = .ok (.goto 4, 3) := by decide +kernel
theorem dX1_leader_35 : decode cX1_leader 35 = .ok (.iconst 0, 1) := by decide +kernel
theorem dX1_leader_36 : decode cX1_leader 36 = .ok (.istore_n 3, 1) := by decide +kernel
theorem dX1_leader_37 : decode cX1_leader 37 = .ok (.iload_n 3, 1) := by decide +kernel
theorem dX1_leader_38 : decode cX1_leader 38 = .ok (.ifCond .ne 23, 3) := by decide +kernel
theorem dX1_leader_41 : decode cX1_leader 41 = .ok (.aload_n 0, 1) := by decide +kernel
theorem dX1_leader_42 : decode cX1_leader 42 = .ok (.getfield 7, 3) := by decide +kernel
theorem dX1_leader_45 : decode cX1_leader 45 = .ok (.iload_n 2, 1) := by decide +kernel
theorem dX1_leader_46 : decode cX1_leader 46 = .ok (.iaload, 1) := by decide +kernel
theorem dX1_leader_47 : decode cX1_leader 47 = .ok (.aload_n 0, 1) := by decide +kernel
theorem dX1_leader_48 : decode cX1_leader 48 = .ok (.getfield 16, 3) := by decide +kernel
theorem dX1_leader_51 : decode cX1_leader 51 = .ok (.iload_n 1, 1) := by decide +kernel
theorem dX1_leader_52 : decode cX1_leader 52 = .ok (.iaload, 1) := by decide +kernel
theorem dX1_leader_53 : decode cX1_leader 53 = .ok (.invokestatic 85, 3) := by decide +kernel
theorem dX1_leader_56 : decode cX1_leader 56 = .ok (.ifCond .ne 5, 3) := by decide +kernel
theorem dX1_leader_59 : decode cX1_leader 59 = .ok (.iconst 1, 1) := by decide +kernel
theorem dX1_leader_60 : decode cX1_leader 60 = .ok (.istore_n 3, 1) := by decide +kernel
theorem dX1_leader_61 : decode cX1_leader 61 = .ok (.aload_n 0, 1) := by decide +kernel
theorem dX1_leader_62 : decode cX1_leader 62 = .ok (.iload_n 3, 1) := by decide +kernel
theorem dX1_leader_63 : decode cX1_leader 63 = .ok (.invokevirtual 65, 3) := by decide +kernel
theorem dX1_leader_66 : decode cX1_leader 66 = .ok (.ifCond .eq 14, 3) := by decide +kernel
theorem dX1_leader_69 : decode cX1_leader 69 = .ok (.aload_n 0, 1) := by decide +kernel
theorem dX1_leader_70 : decode cX1_leader 70 = .ok (.iload_n 1, 1) := by decide +kernel
theorem dX1_leader_71 : decode cX1_leader 71 = .ok (.iload_n 2, 1) := by decide +kernel
theorem dX1_leader_72 : decode cX1_leader 72 = .ok (.iconst 0, 1) := by decide +kernel
theorem dX1_leader_73 : decode cX1_leader 73 = .ok (.iconst 1, 1) := by decide +kernel
theorem dX1_leader_74 : decode cX1_leader 74 = .ok (.invokevirtual 120, 3) := by decide +kernel
theorem dX1_leader_77 : decode cX1_leader 77 = .ok (.goto 4, 3) := by decide +kernel
theorem dX1_leader_80 : decode cX1_leader 80 = .ok (.iconst 0, 1) := by decide +kernel
theorem dX1_leader_81 : decode cX1_leader 81 = .ok (.ireturn, 1) := by decide +kernel
theorem dX1_differ_0 : decode cX1_differ 0 = .ok (.aload_n 0, 1) := by decide +kernel
theorem dX1_differ_1 : decode cX1_differ 1 = .ok (.aload_n 0, 1) := by decide +kernel
theorem dX1_differ_2 : decode cX1_differ 2 = .ok (.iload_n 1, 1) := by decide +kernel
theorem dX1_differ_3 : decode cX1_differ 3 = .ok (.invokevirtual 75, 3) := by decide +kernel
theorem dX1_differ_6 : decode cX1_differ 6 = .ok (.ifCond .eq 11, 3) := by decide +kernel
theorem dX1_differ_9 : decode cX1_differ 9 = .ok (.aload_n 0, 1) := by decide +kernel
theorem dX1_differ_10 : decode cX1_differ 10 = .ok (.iload_n 2, 1) := by decide +kernel
theorem dX1_differ_11 : decode cX1_differ 11 = .ok (.invokevirtual 75, 3) := by decide +kernel
theorem dX1_differ_14 : decode cX1_differ 14 = .ok (.ifCond .ne 7, 3) := by decide +kernel
theorem dX1_differ_17 : decode cX1_differ 17 = .ok (.iconst 1, 1) := by decide +kernel
theorem dX1_differ_18 : decode cX1_differ 18 = .ok (.goto 4, 3) := by decide +kernel
theorem dX1_differ_21 : decode cX1_differ 21 = .ok (.iconst 0, 1) := by decide +kernel
theorem dX1_differ_22 : decode cX1_differ 22 = .ok (.invokevirtual 65, 3) := by decide +kernel
theorem dX1_differ_25 : decode cX1_differ 25 = .ok (.ifCond .ne 5, 3) := by decide +kernel
theorem dX1_differ_28 : decode cX1_differ 28 = .ok (.iconst 0, 1) := by decide +kernel
theorem dX1_differ_29 : decode cX1_differ 29 = .ok (.ireturn, 1) := by decide +kernel
theorem dX1_differ_30 : decode cX1_differ 30 = .ok (.aload_n 0, 1) := by decide +kernel
theorem dX1_differ_31 : decode cX1_differ 31 = .ok (.iload_n 1, 1) := by decide +kernel
theorem dX1_differ_32 : decode cX1_differ 32 = .ok (.iload_n 2, 1) := by decide +kernel
theorem dX1_differ_33 : decode cX1_differ 33 = .ok (.if_icmp .le 7, 3) := by decide +kernel
theorem dX1_differ_36 : decode cX1_differ 36 = .ok (.iload_n 1, 1) := by decide +kernel
theorem dX1_differ_37 : decode cX1_differ 37 = .ok (.goto 4, 3) := by decide +kernel
theorem dX1_differ_40 : decode cX1_differ 40 = .ok (.iload_n 2, 1) := by decide +kernel
theorem dX1_differ_41 : decode cX1_differ 41 = .ok (.invokevirtual 117, 3) := by decide +kernel
theorem dX1_differ_44 : decode cX1_differ 44 = .ok (.iconst 0, 1) := by decide +kernel
theorem dX1_differ_45 : decode cX1_differ 45 = .ok (.istore_n 3, 1) := by decide +kernel
theorem dX1_differ_46 : decode cX1_differ 46 = .ok (.iload_n 3, 1) := by decide +kernel
theorem dX1_differ_47 : decode cX1_differ 47 = .ok (.sipush 1600, 3) := by decide +kernel
theorem dX1_differ_50 : decode cX1_differ 50 = .ok (.if_icmp .ge 38, 3) := by decide +kernel
theorem dX1_differ_53 : decode cX1_differ 53 = .ok (.aload_n 0, 1) := by decide +kernel
theorem dX1_differ_54 : decode cX1_differ 54 = .ok (.getfield 22, 3) := by decide +kernel
theorem dX1_differ_57 : decode cX1_differ 57 = .ok (.sipush 1600, 3) := by decide +kernel
theorem dX1_differ_60 : decode cX1_differ 60 = .ok (.iload_n 1, 1) := by decide +kernel
theorem dX1_differ_61 : decode cX1_differ 61 = .ok (.imul, 1) := by decide +kernel
theorem dX1_differ_62 : decode cX1_differ 62 = .ok (.iload_n 3, 1) := by decide +kernel
theorem dX1_differ_63 : decode cX1_differ 63 = .ok (.iadd, 1) := by decide +kernel
theorem dX1_differ_64 : decode cX1_differ 64 = .ok (.baload, 1) := by decide +kernel
theorem dX1_differ_65 : decode cX1_differ 65 = .ok (.aload_n 0, 1) := by decide +kernel
theorem dX1_differ_66 : decode cX1_differ 66 = .ok (.getfield 22, 3) := by decide +kernel
theorem dX1_differ_69 : decode cX1_differ 69 = .ok (.sipush 1600, 3) := by decide +kernel
theorem dX1_differ_72 : decode cX1_differ 72 = .ok (.iload_n 2, 1) := by decide +kernel
theorem dX1_differ_73 : decode cX1_differ 73 = .ok (.imul, 1) := by decide +kernel
theorem dX1_differ_74 : decode cX1_differ 74 = .ok (.iload_n 3, 1) := by decide +kernel
theorem dX1_differ_75 : decode cX1_differ 75 = .ok (.iadd, 1) := by decide +kernel
theorem dX1_differ_76 : decode cX1_differ 76 = .ok (.baload, 1) := by decide +kernel
theorem dX1_differ_77 : decode cX1_differ 77 = .ok (.if_icmp .eq 5, 3) := by decide +kernel
theorem dX1_differ_80 : decode cX1_differ 80 = .ok (.iload_n 3, 1) := by decide +kernel
theorem dX1_differ_81 : decode cX1_differ 81 = .ok (.ireturn, 1) := by decide +kernel
theorem dX1_differ_82 : decode cX1_differ 82 = .ok (.iinc 3 1, 3) := by decide +kernel
theorem dX1_differ_85 : decode cX1_differ 85 = .ok (.goto (-39), 3) := by decide +kernel
theorem dX1_differ_88 : decode cX1_differ 88 = .ok (.iconst (-1), 1) := by decide +kernel
theorem dX1_differ_89 : decode cX1_differ 89 = .ok (.ireturn, 1) := by decide +kernel
theorem dX1_tally_0 : decode cX1_tally 0 = .ok (.aload_n 0, 1) := by decide +kernel
theorem dX1_tally_1 : decode cX1_tally 1 = .ok (.aload_n 0, 1) := by decide +kernel
theorem dX1_tally_2 : decode cX1_tally 2 = .ok (.iload_n 1, 1) := by decide +kernel
theorem dX1_tally_3 : decode cX1_tally 3 = .ok (.invokevirtual 61, 3) := by decide +kernel
theorem dX1_tally_6 : decode cX1_tally 6 = .ok (.ifCond .eq 15, 3) := by decide +kernel
theorem dX1_tally_9 : decode cX1_tally 9 = .ok (.aload_n 0, 1) := by decide +kernel
theorem dX1_tally_10 : decode cX1_tally 10 = .ok (.iload_n 2, 1) := by decide +kernel
theorem dX1_tally_11 : decode cX1_tally 11 = .ok (.invokevirtual 61, 3) := by decide +kernel
theorem dX1_tally_14 : decode cX1_tally 14 = .ok (.ifCond .eq 7, 3) := by decide +kernel
theorem dX1_tally_17 : decode cX1_tally 17 = .ok (.iconst 0, 1) := by decide +kernel
theorem dX1_tally_18 : decode cX1_tally 18 = .ok (.goto 4, 3) := by decide +kernel
theorem dX1_tally_21 : decode cX1_tally 21 = .ok (.iconst 1, 1) := by decide +kernel
theorem dX1_tally_22 : decode cX1_tally 22 = .ok (.invokevirtual 65, 3) := by decide +kernel
theorem dX1_tally_25 : decode cX1_tally 25 = .ok (.ifCond .eq 17, 3) := by decide +kernel
theorem dX1_tally_28 : decode cX1_tally 28 = .ok (.aload_n 0, 1) := by decide +kernel
theorem dX1_tally_29 : decode cX1_tally 29 = .ok (.getfield 32, 3) := by decide +kernel
theorem dX1_tally_32 : decode cX1_tally 32 = .ok (.bipush 40, 2) := by decide +kernel
theorem dX1_tally_34 : decode cX1_tally 34 = .ok (.iload_n 1, 1) := by decide +kernel
theorem dX1_tally_35 : decode cX1_tally 35 = .ok (.imul, 1) := by decide +kernel
theorem dX1_tally_36 : decode cX1_tally 36 = .ok (.iload_n 2, 1) := by decide +kernel
theorem dX1_tally_37 : decode cX1_tally 37 = .ok (.iadd, 1) := by decide +kernel
theorem dX1_tally_38 : decode cX1_tally 38 = .ok (.iaload, 1) := by decide +kernel
theorem dX1_tally_39 : decode cX1_tally 39 = .ok (.goto 4, 3) := by decide +kernel
theorem dX1_tally_42 : decode cX1_tally 42 = .ok (.iconst 0, 1) := by decide +kernel
theorem dX1_tally_43 : decode cX1_tally 43 = .ok (.ireturn, 1) := by decide +kernel
theorem dX1_of_0 : decode cX1_of 0 = .ok (.aload_n 0, 1) := by decide +kernel
theorem dX1_of_1 : decode cX1_of 1 = .ok (.iload_n 1, 1) := by decide +kernel
theorem dX1_of_2 : decode cX1_of 2 = .ok (.iconst 0, 1) := by decide +kernel
theorem dX1_of_3 : decode cX1_of 3 = .ok (.iconst 2, 1) := by decide +kernel
theorem dX1_of_4 : decode cX1_of 4 = .ok (.invokestatic 57, 3) := by decide +kernel
theorem dX1_of_7 : decode cX1_of 7 = .ok (.ifCond .eq 7, 3) := by decide +kernel
theorem dX1_of_10 : decode cX1_of 10 = .ok (.iconst 0, 1) := by decide +kernel
theorem dX1_of_11 : decode cX1_of 11 = .ok (.goto 4, 3) := by decide +kernel
theorem dX1_of_14 : decode cX1_of 14 = .ok (.iconst 1, 1) := by decide +kernel
theorem dX1_of_15 : decode cX1_of 15 = .ok (.invokevirtual 65, 3) := by decide +kernel
theorem dX1_of_18 : decode cX1_of 18 = .ok (.ifCond .ne 5, 3) := by decide +kernel
theorem dX1_of_21 : decode cX1_of 21 = .ok (.iconst 0, 1) := by decide +kernel
theorem dX1_of_22 : decode cX1_of 22 = .ok (.ireturn, 1) := by decide +kernel
theorem dX1_of_23 : decode cX1_of 23 = .ok (.iload_n 1, 1) := by decide +kernel
theorem dX1_of_24 : decode cX1_of 24 = .ok (.ifCond .ne 10, 3) := by decide +kernel
theorem dX1_of_27 : decode cX1_of 27 = .ok (.aload_n 0, 1) := by decide +kernel
theorem dX1_of_28 : decode cX1_of 28 = .ok (.getfield 41, 3) := by decide +kernel
theorem dX1_of_31 : decode cX1_of 31 = .ok (.goto 19, 3) := by decide +kernel
theorem dX1_of_34 : decode cX1_of 34 = .ok (.iload_n 1, 1) := by decide +kernel
theorem dX1_of_35 : decode cX1_of 35 = .ok (.iconst 1, 1) := by decide +kernel
theorem dX1_of_36 : decode cX1_of 36 = .ok (.if_icmp .ne 10, 3) := by decide +kernel
theorem dX1_of_39 : decode cX1_of 39 = .ok (.aload_n 0, 1) := by decide +kernel
theorem dX1_of_40 : decode cX1_of 40 = .ok (.getfield 51, 3) := by decide +kernel
theorem dX1_of_43 : decode cX1_of 43 = .ok (.goto 7, 3) := by decide +kernel
theorem dX1_of_46 : decode cX1_of 46 = .ok (.aload_n 0, 1) := by decide +kernel
theorem dX1_of_47 : decode cX1_of 47 = .ok (.getfield 54, 3) := by decide +kernel
theorem dX1_of_50 : decode cX1_of 50 = .ok (.ireturn, 1) := by decide +kernel
theorem dX1_told_0 : decode cX1_told 0 = .ok (.aload_n 0, 1) := by decide +kernel
theorem dX1_told_1 : decode cX1_told 1 = .ok (.aload_n 0, 1) := by decide +kernel
theorem dX1_told_2 : decode cX1_told 2 = .ok (.iload_n 1, 1) := by decide +kernel
theorem dX1_told_3 : decode cX1_told 3 = .ok (.invokevirtual 75, 3) := by decide +kernel
theorem dX1_told_6 : decode cX1_told 6 = .ok (.ifCond .eq 12, 3) := by decide +kernel
theorem dX1_told_9 : decode cX1_told 9 = .ok (.iload_n 2, 1) := by decide +kernel
theorem dX1_told_10 : decode cX1_told 10 = .ok (.iconst 0, 1) := by decide +kernel
theorem dX1_told_11 : decode cX1_told 11 = .ok (.iconst 2, 1) := by decide +kernel
theorem dX1_told_12 : decode cX1_told 12 = .ok (.invokestatic 57, 3) := by decide +kernel
theorem dX1_told_15 : decode cX1_told 15 = .ok (.ifCond .ne 7, 3) := by decide +kernel
theorem dX1_told_18 : decode cX1_told 18 = .ok (.iconst 1, 1) := by decide +kernel
theorem dX1_told_19 : decode cX1_told 19 = .ok (.goto 4, 3) := by decide +kernel
theorem dX1_told_22 : decode cX1_told 22 = .ok (.iconst 0, 1) := by decide +kernel
theorem dX1_told_23 : decode cX1_told 23 = .ok (.invokevirtual 65, 3) := by decide +kernel
theorem dX1_told_26 : decode cX1_told 26 = .ok (.ifCond .ne 5, 3) := by decide +kernel
theorem dX1_told_29 : decode cX1_told 29 = .ok (.iconst 0, 1) := by decide +kernel
theorem dX1_told_30 : decode cX1_told 30 = .ok (.ireturn, 1) := by decide +kernel
theorem dX1_told_31 : decode cX1_told 31 = .ok (.iload_n 2, 1) := by decide +kernel
theorem dX1_told_32 : decode cX1_told 32 = .ok (.ifCond .ne 12, 3) := by decide +kernel
theorem dX1_told_35 : decode cX1_told 35 = .ok (.aload_n 0, 1) := by decide +kernel
theorem dX1_told_36 : decode cX1_told 36 = .ok (.getfield 13, 3) := by decide +kernel
theorem dX1_told_39 : decode cX1_told 39 = .ok (.iload_n 1, 1) := by decide +kernel
theorem dX1_told_40 : decode cX1_told 40 = .ok (.iaload, 1) := by decide +kernel
theorem dX1_told_41 : decode cX1_told 41 = .ok (.goto 23, 3) := by decide +kernel
theorem dX1_told_44 : decode cX1_told 44 = .ok (.iload_n 2, 1) := by decide +kernel
theorem dX1_told_45 : decode cX1_told 45 = .ok (.iconst 1, 1) := by decide +kernel
theorem dX1_told_46 : decode cX1_told 46 = .ok (.if_icmp .ne 12, 3) := by decide +kernel
theorem dX1_told_49 : decode cX1_told 49 = .ok (.aload_n 0, 1) := by decide +kernel
theorem dX1_told_50 : decode cX1_told 50 = .ok (.getfield 16, 3) := by decide +kernel
theorem dX1_told_53 : decode cX1_told 53 = .ok (.iload_n 1, 1) := by decide +kernel
theorem dX1_told_54 : decode cX1_told 54 = .ok (.iaload, 1) := by decide +kernel
theorem dX1_told_55 : decode cX1_told 55 = .ok (.goto 9, 3) := by decide +kernel
theorem dX1_told_58 : decode cX1_told 58 = .ok (.aload_n 0, 1) := by decide +kernel
theorem dX1_told_59 : decode cX1_told 59 = .ok (.getfield 19, 3) := by decide +kernel
theorem dX1_told_62 : decode cX1_told 62 = .ok (.iload_n 1, 1) := by decide +kernel
theorem dX1_told_63 : decode cX1_told 63 = .ok (.iaload, 1) := by decide +kernel
theorem dX1_told_64 : decode cX1_told 64 = .ok (.ireturn, 1) := by decide +kernel
