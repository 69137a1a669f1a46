theorem dX0_init_0 : decode cX0_init 0 = .ok (.aload_n 0, 1) := by decide +kernel
theorem dX0_init_1 : decode cX0_init 1 = .ok (.invokespecial 1, 3) := by decide +kernel
theorem dX0_init_4 : decode cX0_init 4 = .ok (.iconst 1, 1) := by decide +kernel
theorem dX0_init_5 : decode cX0_init 5 = .ok (.bipush 40, 2) := by decide +kernel
theorem dX0_init_7 : decode cX0_init 7 = .ok (.iload_n 1, 1) := by decide +kernel
theorem dX0_init_8 : decode cX0_init 8 = .ok (.invokestatic 9, 3) := by decide +kernel
theorem dX0_init_11 : decode cX0_init 11 = .ok (.invokestatic 15, 3) := by decide +kernel
theorem dX0_init_14 : decode cX0_init 14 = .ok (.istore_n 2, 1) := by decide +kernel
theorem dX0_init_15 : decode cX0_init 15 = .ok (.aload_n 0, 1) := by decide +kernel
theorem dX0_init_16 : decode cX0_init 16 = .ok (.iload_n 2, 1) := by decide +kernel
theorem dX0_init_17 : decode cX0_init 17 = .ok (.putfield 18, 3) := by decide +kernel
theorem dX0_init_20 : decode cX0_init 20 = .ok (.aload_n 0, 1) := by decide +kernel
theorem dX0_init_21 : decode cX0_init 21 = .ok (.lconst 1, 1) := by decide +kernel
theorem dX0_init_22 : decode cX0_init 22 = .ok (.iload_n 2, 1) := by decide +kernel
theorem dX0_init_23 : decode cX0_init 23 = .ok (.lshl, 1) := by decide +kernel
theorem dX0_init_24 : decode cX0_init 24 = .ok (.lconst 1, 1) := by decide +kernel
theorem dX0_init_25 : decode cX0_init 25 = .ok (.lsub, 1) := by decide +kernel
theorem dX0_init_26 : decode cX0_init 26 = .ok (.putfield 22, 3) := by decide +kernel
theorem dX0_init_29 : decode cX0_init 29 = .ok (.aload_n 0, 1) := by decide +kernel
theorem dX0_init_30 : decode cX0_init 30 = .ok (.iload_n 2, 1) := by decide +kernel
theorem dX0_init_31 : decode cX0_init 31 = .ok (.newarray .int, 2) := by decide +kernel
theorem dX0_init_33 : decode cX0_init 33 = .ok (.putfield 26, 3) := by decide +kernel
theorem dX0_init_36 : decode cX0_init 36 = .ok (.aload_n 0, 1) := by decide +kernel
theorem dX0_init_37 : decode cX0_init 37 = .ok (.iload_n 2, 1) := by decide +kernel
theorem dX0_init_38 : decode cX0_init 38 = .ok (.iload_n 2, 1) := by decide +kernel
theorem dX0_init_39 : decode cX0_init 39 = .ok (.imul, 1) := by decide +kernel
theorem dX0_init_40 : decode cX0_init 40 = .ok (.newarray .int, 2) := by decide +kernel
theorem dX0_init_42 : decode cX0_init 42 = .ok (.putfield 30, 3) := by decide +kernel
theorem dX0_init_45 : decode cX0_init 45 = .ok (.aload_n 0, 1) := by decide +kernel
theorem dX0_init_46 : decode cX0_init 46 = .ok (.bipush 12, 2) := by decide +kernel
theorem dX0_init_48 : decode cX0_init 48 = .ok (.newarray .int, 2) := by decide +kernel
theorem dX0_init_50 : decode cX0_init 50 = .ok (.putfield 33, 3) := by decide +kernel
theorem dX0_init_53 : decode cX0_init 53 = .ok (.aload_n 0, 1) := by decide +kernel
theorem dX0_init_54 : decode cX0_init 54 = .ok (.bipush 12, 2) := by decide +kernel
theorem dX0_init_56 : decode cX0_init 56 = .ok (.newarray .int, 2) := by decide +kernel
theorem dX0_init_58 : decode cX0_init 58 = .ok (.putfield 36, 3) := by decide +kernel
theorem dX0_init_61 : decode cX0_init 61 = .ok (.aload_n 0, 1) := by decide +kernel
theorem dX0_init_62 : decode cX0_init 62 = .ok (.bipush 12, 2) := by decide +kernel
theorem dX0_init_64 : decode cX0_init 64 = .ok (.newarray .int, 2) := by decide +kernel
theorem dX0_init_66 : decode cX0_init 66 = .ok (.putfield 39, 3) := by decide +kernel
theorem dX0_init_69 : decode cX0_init 69 = .ok (.aload_n 0, 1) := by decide +kernel
theorem dX0_init_70 : decode cX0_init 70 = .ok (.bipush 12, 2) := by decide +kernel
theorem dX0_init_72 : decode cX0_init 72 = .ok (.iload_n 2, 1) := by decide +kernel
theorem dX0_init_73 : decode cX0_init 73 = .ok (.multianewarray 42 2, 4) := by decide +kernel
theorem dX0_init_77 : decode cX0_init 77 = .ok (.putfield 44, 3) := by decide +kernel
theorem dX0_init_80 : decode cX0_init 80 = .ok (.aload_n 0, 1) := by decide +kernel
theorem dX0_init_81 : decode cX0_init 81 = .ok (.iconst 2, 1) := by decide +kernel
theorem dX0_init_82 : decode cX0_init 82 = .ok (.newarray .int, 2) := by decide +kernel
theorem dX0_init_84 : decode cX0_init 84 = .ok (.putfield 47, 3) := by decide +kernel
theorem dX0_init_87 : decode cX0_init 87 = .ok (.aload_n 0, 1) := by decide +kernel
theorem dX0_init_88 : decode cX0_init 88 = .ok (.iconst 2, 1) := by decide +kernel
theorem dX0_init_89 : decode cX0_init 89 = .ok (.newarray .int, 2) := by decide +kernel
theorem dX0_init_91 : decode cX0_init 91 = .ok (.putfield 50, 3) := by decide +kernel
theorem dX0_init_94 : decode cX0_init 94 = .ok (.aload_n 0, 1) := by decide +kernel
theorem dX0_init_95 : decode cX0_init 95 = .ok (.iload_n 2, 1) := by decide +kernel
theorem dX0_init_96 : decode cX0_init 96 = .ok (.newarray .int, 2) := by decide +kernel
theorem dX0_init_98 : decode cX0_init 98 = .ok (.putfield 53, 3) := by decide +kernel
theorem dX0_init_101 : decode cX0_init 101 = .ok (.return_, 1) := by decide +kernel
theorem dX0_clear_0 : decode cX0_clear 0 = .ok (.aload_n 0, 1) := by decide +kernel
theorem dX0_clear_1 : decode cX0_clear 1 = .ok (.getfield 56, 3) := by decide +kernel
theorem dX0_clear_4 : decode cX0_clear 4 = .ok (.istore_n 1, 1) := by decide +kernel
theorem dX0_clear_5 : decode cX0_clear 5 = .ok (.aload_n 0, 1) := by decide +kernel
theorem dX0_clear_6 : decode cX0_clear 6 = .ok (.iconst 0, 1) := by decide +kernel
theorem dX0_clear_7 : decode cX0_clear 7 = .ok (.putfield 56, 3) := by decide +kernel
theorem dX0_clear_10 : decode cX0_clear 10 = .ok (.aload_n 0, 1) := by decide +kernel
theorem dX0_clear_11 : decode cX0_clear 11 = .ok (.iconst 0, 1) := by decide +kernel
theorem dX0_clear_12 : decode cX0_clear 12 = .ok (.putfield 59, 3) := by decide +kernel
theorem dX0_clear_15 : decode cX0_clear 15 = .ok (.aload_n 0, 1) := by decide +kernel
theorem dX0_clear_16 : decode cX0_clear 16 = .ok (.iconst 0, 1) := by decide +kernel
theorem dX0_clear_17 : decode cX0_clear 17 = .ok (.putfield 62, 3) := by decide +kernel
theorem dX0_clear_20 : decode cX0_clear 20 = .ok (.aload_n 0, 1) := by decide +kernel
theorem dX0_clear_21 : decode cX0_clear 21 = .ok (.getfield 26, 3) := by decide +kernel
theorem dX0_clear_24 : decode cX0_clear 24 = .ok (.iconst 0, 1) := by decide +kernel
theorem dX0_clear_25 : decode cX0_clear 25 = .ok (.invokestatic 65, 3) := by decide +kernel
theorem dX0_clear_28 : decode cX0_clear 28 = .ok (.aload_n 0, 1) := by decide +kernel
theorem dX0_clear_29 : decode cX0_clear 29 = .ok (.getfield 30, 3) := by decide +kernel
theorem dX0_clear_32 : decode cX0_clear 32 = .ok (.iconst 0, 1) := by decide +kernel
theorem dX0_clear_33 : decode cX0_clear 33 = .ok (.invokestatic 65, 3) := by decide +kernel
theorem dX0_clear_36 : decode cX0_clear 36 = .ok (.iload_n 1, 1) := by decide +kernel
theorem dX0_clear_37 : decode cX0_clear 37 = .ok (.ireturn, 1) := by decide +kernel
theorem dX0_kind_0 : decode cX0_kind 0 = .ok (.aload_n 0, 1) := by decide +kernel
theorem dX0_kind_1 : decode cX0_kind 1 = .ok (.iload_n 1, 1) := by decide +kernel
theorem dX0_kind_2 : decode cX0_kind 2 = .ok (.invokevirtual 71, 3) := by decide +kernel
theorem dX0_kind_5 : decode cX0_kind 5 = .ok (.iload_n 2, 1) := by decide +kernel
theorem dX0_kind_6 : decode cX0_kind 6 = .ok (.ifCond .lt 8, 3) := by decide +kernel
theorem dX0_kind_9 : decode cX0_kind 9 = .ok (.iload_n 2, 1) := by decide +kernel
theorem dX0_kind_10 : decode cX0_kind 10 = .ok (.iconst 3, 1) := by decide +kernel
theorem dX0_kind_11 : decode cX0_kind 11 = .ok (.if_icmp .le 13, 3) := by decide +kernel
theorem dX0_kind_14 : decode cX0_kind 14 = .ok (.new 75, 3) := by decide +kernel
theorem dX0_kind_17 : decode cX0_kind 17 = .ok (.dup, 1) := by decide +kernel
theorem dX0_kind_18 : decode cX0_kind 18 = .ok (.ldc 77, 2) := by decide +kernel
theorem dX0_kind_20 : decode cX0_kind 20 = .ok (.invokespecial 79, 3) := by decide +kernel
theorem dX0_kind_23 : decode cX0_kind 23 = .ok (.athrow, 1) := by decide +kernel
theorem dX0_kind_24 : decode cX0_kind 24 = .ok (.aload_n 0, 1) := by decide +kernel
theorem dX0_kind_25 : decode cX0_kind 25 = .ok (.getfield 56, 3) := by decide +kernel
theorem dX0_kind_28 : decode cX0_kind 28 = .ok (.ifCond .le 13, 3) := by decide +kernel
theorem dX0_kind_31 : decode cX0_kind 31 = .ok (.new 82, 3) := by decide +kernel
theorem dX0_kind_34 : decode cX0_kind 34 = .ok (.dup, 1) := by decide +kernel
theorem dX0_kind_35 : decode cX0_kind 35 = .ok (.ldc 84, 2) := by decide +kernel
theorem dX0_kind_37 : decode cX0_kind 37 = .ok (.invokespecial 86, 3) := by decide +kernel
theorem dX0_kind_40 : decode cX0_kind 40 = .ok (.athrow, 1) := by decide +kernel
theorem dX0_kind_41 : decode cX0_kind 41 = .ok (.aload_n 0, 1) := by decide +kernel
theorem dX0_kind_42 : decode cX0_kind 42 = .ok (.getfield 26, 3) := by decide +kernel
theorem dX0_kind_45 : decode cX0_kind 45 = .ok (.iload_n 1, 1) := by decide +kernel
theorem dX0_kind_46 : decode cX0_kind 46 = .ok (.iaload, 1) := by decide +kernel
theorem dX0_kind_47 : decode cX0_kind 47 = .ok (.istore_n 3, 1) := by decide +kernel
theorem dX0_kind_48 : decode cX0_kind 48 = .ok (.aload_n 0, 1) := by decide +kernel
theorem dX0_kind_49 : decode cX0_kind 49 = .ok (.getfield 26, 3) := by decide +kernel
theorem dX0_kind_52 : decode cX0_kind 52 = .ok (.iload_n 1, 1) := by decide +kernel
theorem dX0_kind_53 : decode cX0_kind 53 = .ok (.iload_n 2, 1) := by decide +kernel
theorem dX0_kind_54 : decode cX0_kind 54 = .ok (.iastore, 1) := by decide +kernel
theorem dX0_kind_55 : decode cX0_kind 55 = .ok (.iload_n 3, 1) := by decide +kernel
theorem dX0_kind_56 : decode cX0_kind 56 = .ok (.ireturn, 1) := by decide +kernel
theorem dX0_relation_0 : decode cX0_relation 0 = .ok (.iload_n 1, 1) := by decide +kernel
theorem dX0_relation_1 : decode cX0_relation 1 = .ok (.ifCond .lt 9, 3) := by decide +kernel
theorem dX0_relation_4 : decode cX0_relation 4 = .ok (.iload_n 1, 1) := by decide +kernel
theorem dX0_relation_5 : decode cX0_relation 5 = .ok (.bipush 6, 2) := by decide +kernel
theorem dX0_relation_7 : decode cX0_relation 7 = .ok (.if_icmp .le 13, 3) := by decide +kernel
theorem dX0_relation_10 : decode cX0_relation 10 = .ok (.new 75, 3) := by decide +kernel
theorem dX0_relation_13 : decode cX0_relation 13 = .ok (.dup, 1) := by decide +kernel
theorem dX0_relation_14 : decode cX0_relation 14 = .ok (.ldc 87, 2) := by decide +kernel
theorem dX0_relation_16 : decode cX0_relation 16 = .ok (.invokespecial 79, 3) := by decide +kernel
theorem dX0_relation_19 : decode cX0_relation 19 = .ok (.athrow, 1) := by decide +kernel
theorem dX0_relation_20 : decode cX0_relation 20 = .ok (.aload_n 0, 1) := by decide +kernel
theorem dX0_relation_21 : decode cX0_relation 21 = .ok (.iload_n 2, 1) := by decide +kernel
theorem dX0_relation_22 : decode cX0_relation 22 = .ok (.invokevirtual 89, 3) := by decide +kernel
theorem dX0_relation_25 : decode cX0_relation 25 = .ok (.aload_n 0, 1) := by decide +kernel
theorem dX0_relation_26 : decode cX0_relation 26 = .ok (.iload_n 3, 1) := by decide +kernel
theorem dX0_relation_27 : decode cX0_relation 27 = .ok (.invokevirtual 89, 3) := by decide +kernel
theorem dX0_relation_30 : decode cX0_relation 30 = .ok (.iload_n 1, 1) := by decide +kernel
theorem dX0_relation_31 : decode cX0_relation 31 = .ok (.iconst 4, 1) := by decide +kernel
theorem dX0_relation_32 : decode cX0_relation 32 = .ok (.if_icmp .lt 18, 3) := by decide +kernel
theorem dX0_relation_35 : decode cX0_relation 35 = .ok (.iload_n 2, 1) := by decide +kernel
theorem dX0_relation_36 : decode cX0_relation 36 = .ok (.iload_n 3, 1) := by decide +kernel
theorem dX0_relation_37 : decode cX0_relation 37 = .ok (.if_icmp .eq 13, 3) := by decide +kernel
theorem dX0_relation_40 : decode cX0_relation 40 = .ok (.new 75, 3) := by decide +kernel
theorem dX0_relation_43 : decode cX0_relation 43 = .ok (.dup, 1) := by decide +kernel
theorem dX0_relation_44 : decode cX0_relation 44 = .ok (.ldc 92, 2) := by decide +kernel
theorem dX0_relation_46 : decode cX0_relation 46 = .ok (.invokespecial 79, 3) := by decide +kernel
theorem dX0_relation_49 : decode cX0_relation 49 = .ok (.athrow, 1) := by decide +kernel
theorem dX0_relation_50 : decode cX0_relation 50 = .ok (.aload_n 0, 1) := by decide +kernel
theorem dX0_relation_51 : decode cX0_relation 51 = .ok (.invokevirtual 94, 3) := by decide +kernel
theorem dX0_relation_54 : decode cX0_relation 54 = .ok (.aload_n 0, 1) := by decide +kernel
theorem dX0_relation_55 : decode cX0_relation 55 = .ok (.iload_n 1, 1) := by decide +kernel
theorem dX0_relation_56 : decode cX0_relation 56 = .ok (.iload_n 2, 1) := by decide +kernel
theorem dX0_relation_57 : decode cX0_relation 57 = .ok (.iload_n 3, 1) := by decide +kernel
theorem dX0_relation_58 : decode cX0_relation 58 = .ok (.invokevirtual 97, 3) := by decide +kernel
theorem dX0_relation_61 : decode cX0_relation 61 = .ok (.istore 4, 2) := by decide +kernel
theorem dX0_relation_63 : decode cX0_relation 63 = .ok (.aload_n 0, 1) := by decide +kernel
theorem dX0_relation_64 : decode cX0_relation 64 = .ok (.iload 4, 2) := by decide +kernel
theorem dX0_relation_66 : decode cX0_relation 66 = .ok (.invokevirtual 101, 3) := by decide +kernel
theorem dX0_relation_69 : decode cX0_relation 69 = .ok (.iload 4, 2) := by decide +kernel
theorem dX0_relation_71 : decode cX0_relation 71 = .ok (.ireturn, 1) := by decide +kernel
theorem dX0_condition_0 : decode cX0_condition 0 = .ok (.iload_n 1, 1) := by decide +kernel
theorem dX0_condition_1 : decode cX0_condition 1 = .ok (.ifCond .lt 8, 3) := by decide +kernel
theorem dX0_condition_4 : decode cX0_condition 4 = .ok (.iload_n 1, 1) := by decide +kernel
theorem dX0_condition_5 : decode cX0_condition 5 = .ok (.iconst 5, 1) := by decide +kernel
theorem dX0_condition_6 : decode cX0_condition 6 = .ok (.if_icmp .le 13, 3) := by decide +kernel
theorem dX0_condition_9 : decode cX0_condition 9 = .ok (.new 75, 3) := by decide +kernel
theorem dX0_condition_12 : decode cX0_condition 12 = .ok (.dup, 1) := by decide +kernel
theorem dX0_condition_13 : decode cX0_condition 13 = .ok (.ldc 104, 2) := by decide +kernel
theorem dX0_condition_15 : decode cX0_condition 15 = .ok (.invokespecial 79, 3) := by decide +kernel
theorem dX0_condition_18 : decode cX0_condition 18 = .ok (.athrow, 1) := by decide +kernel
theorem dX0_condition_19 : decode cX0_condition 19 = .ok (.aload_n 0, 1) := by decide +kernel
theorem dX0_condition_20 : decode cX0_condition 20 = .ok (.iload_n 2, 1) := by decide +kernel
theorem dX0_condition_21 : decode cX0_condition 21 = .ok (.invokevirtual 106, 3) := by decide +kernel
theorem dX0_condition_24 : decode cX0_condition 24 = .ok (.iload_n 1, 1) := by decide +kernel
theorem dX0_condition_25 : decode cX0_condition 25 = .ok (.invokestatic 109, 3) := by decide +kernel
theorem dX0_condition_28 : decode cX0_condition 28 = .ok (.ifCond .eq 11, 3) := by decide +kernel
theorem dX0_condition_31 : decode cX0_condition 31 = .ok (.aload_n 0, 1) := by decide +kernel
theorem dX0_condition_32 : decode cX0_condition 32 = .ok (.iload_n 3, 1) := by decide +kernel
theorem dX0_condition_33 : decode cX0_condition 33 = .ok (.invokevirtual 106, 3) := by decide +kernel
theorem dX0_condition_36 : decode cX0_condition 36 = .ok (.goto 18, 3) := by decide +kernel
theorem dX0_condition_39 : decode cX0_condition 39 = .ok (.iload_n 3, 1) := by decide +kernel
theorem dX0_condition_40 : decode cX0_condition 40 = .ok (.iconst (-1), 1) := by decide +kernel
theorem dX0_condition_41 : decode cX0_condition 41 = .ok (.if_icmp .eq 13, 3) := by decide +kernel
theorem dX0_condition_44 : decode cX0_condition 44 = .ok (.new 75, 3) := by decide +kernel
theorem dX0_condition_47 : decode cX0_condition 47 = .ok (.dup, 1) := by decide +kernel
theorem dX0_condition_48 : decode cX0_condition 48 = .ok (.ldc 113, 2) := by decide +kernel
theorem dX0_condition_50 : decode cX0_condition 50 = .ok (.invokespecial 79, 3) := by decide +kernel
theorem dX0_condition_53 : decode cX0_condition 53 = .ok (.athrow, 1) := by decide +kernel
theorem dX0_condition_54 : decode cX0_condition 54 = .ok (.aload_n 0, 1) := by decide +kernel
theorem dX0_condition_55 : decode cX0_condition 55 = .ok (.invokevirtual 94, 3) := by decide +kernel
theorem dX0_condition_58 : decode cX0_condition 58 = .ok (.aload_n 0, 1) := by decide +kernel
theorem dX0_condition_59 : decode cX0_condition 59 = .ok (.bipush 10, 2) := by decide +kernel
theorem dX0_condition_61 : decode cX0_condition 61 = .ok (.iload_n 1, 1) := by decide +kernel
theorem dX0_condition_62 : decode cX0_condition 62 = .ok (.iadd, 1) := by decide +kernel
theorem dX0_condition_63 : decode cX0_condition 63 = .ok (.iload_n 2, 1) := by decide +kernel
theorem dX0_condition_64 : decode cX0_condition 64 = .ok (.iload_n 3, 1) := by decide +kernel
theorem dX0_condition_65 : decode cX0_condition 65 = .ok (.invokevirtual 97, 3) := by decide +kernel
theorem dX0_condition_68 : decode cX0_condition 68 = .ok (.ireturn, 1) := by decide +kernel
theorem dX0_set_0 : decode cX0_set 0 = .ok (.aload_n 0, 1) := by decide +kernel
theorem dX0_set_1 : decode cX0_set 1 = .ok (.iload_n 1, 1) := by decide +kernel
theorem dX0_set_2 : decode cX0_set 2 = .ok (.iload_n 2, 1) := by decide +kernel
theorem dX0_set_3 : decode cX0_set 3 = .ok (.iload_n 3, 1) := by decide +kernel
theorem dX0_set_4 : decode cX0_set 4 = .ok (.invokevirtual 115, 3) := by decide +kernel
theorem dX0_set_7 : decode cX0_set 7 = .ok (.aload_n 0, 1) := by decide +kernel
theorem dX0_set_8 : decode cX0_set 8 = .ok (.iconst 0, 1) := by decide +kernel
theorem dX0_set_9 : decode cX0_set 9 = .ok (.putfield 62, 3) := by decide +kernel
theorem dX0_set_12 : decode cX0_set 12 = .ok (.aload_n 0, 1) := by decide +kernel
theorem dX0_set_13 : decode cX0_set 13 = .ok (.getfield 30, 3) := by decide +kernel
theorem dX0_set_16 : decode cX0_set 16 = .ok (.iload_n 2, 1) := by decide +kernel
theorem dX0_set_17 : decode cX0_set 17 = .ok (.aload_n 0, 1) := by decide +kernel
theorem dX0_set_18 : decode cX0_set 18 = .ok (.getfield 18, 3) := by decide +kernel
theorem dX0_set_21 : decode cX0_set 21 = .ok (.imul, 1) := by decide +kernel
theorem dX0_set_22 : decode cX0_set 22 = .ok (.iload_n 3, 1) := by decide +kernel
theorem dX0_set_23 : decode cX0_set 23 = .ok (.iadd, 1) := by decide +kernel
theorem dX0_set_24 : decode cX0_set 24 = .ok (.dup2, 1) := by decide +kernel
theorem dX0_set_25 : decode cX0_set 25 = .ok (.iaload, 1) := by decide +kernel
theorem dX0_set_26 : decode cX0_set 26 = .ok (.iconst 1, 1) := by decide +kernel
theorem dX0_set_27 : decode cX0_set 27 = .ok (.iadd, 1) := by decide +kernel
theorem dX0_set_28 : decode cX0_set 28 = .ok (.iastore, 1) := by decide +kernel
theorem dX0_set_29 : decode cX0_set 29 = .ok (.aload_n 0, 1) := by decide +kernel
theorem dX0_set_30 : decode cX0_set 30 = .ok (.iload_n 1, 1) := by decide +kernel
theorem dX0_set_31 : decode cX0_set 31 = .ok (.iload_n 2, 1) := by decide +kernel
theorem dX0_set_32 : decode cX0_set 32 = .ok (.iload_n 3, 1) := by decide +kernel
theorem dX0_set_33 : decode cX0_set 33 = .ok (.invokevirtual 119, 3) := by decide +kernel
theorem dX0_set_36 : decode cX0_set 36 = .ok (.ifCond .ne 22, 3) := by decide +kernel
theorem dX0_set_39 : decode cX0_set 39 = .ok (.aload_n 0, 1) := by decide +kernel
theorem dX0_set_40 : decode cX0_set 40 = .ok (.iload_n 1, 1) := by decide +kernel
theorem dX0_set_41 : decode cX0_set 41 = .ok (.iload_n 2, 1) := by decide +kernel
theorem dX0_set_42 : decode cX0_set 42 = .ok (.iload_n 3, 1) := by decide +kernel
theorem dX0_set_43 : decode cX0_set 43 = .ok (.invokevirtual 123, 3) := by decide +kernel
theorem dX0_set_46 : decode cX0_set 46 = .ok (.aload_n 0, 1) := by decide +kernel
theorem dX0_set_47 : decode cX0_set 47 = .ok (.iload_n 1, 1) := by decide +kernel
theorem dX0_set_48 : decode cX0_set 48 = .ok (.iload_n 2, 1) := by decide +kernel
theorem dX0_set_49 : decode cX0_set 49 = .ok (.iload_n 3, 1) := by decide +kernel
theorem dX0_set_50 : decode cX0_set 50 = .ok (.invokevirtual 126, 3) := by decide +kernel
theorem dX0_set_53 : decode cX0_set 53 = .ok (.aload_n 0, 1) := by decide +kernel
theorem dX0_set_54 : decode cX0_set 54 = .ok (.iload_n 1, 1) := by decide +kernel
theorem dX0_set_55 : decode cX0_set 55 = .ok (.invokevirtual 129, 3) := by decide +kernel
theorem dX0_set_58 : decode cX0_set 58 = .ok (.aload_n 0, 1) := by decide +kernel
theorem dX0_set_59 : decode cX0_set 59 = .ok (.getfield 62, 3) := by decide +kernel
theorem dX0_set_62 : decode cX0_set 62 = .ok (.ireturn, 1) := by decide +kernel
theorem dX0_drop_0 : decode cX0_drop 0 = .ok (.aload_n 0, 1) := by decide +kernel
theorem dX0_drop_1 : decode cX0_drop 1 = .ok (.iload_n 1, 1) := by decide +kernel
theorem dX0_drop_2 : decode cX0_drop 2 = .ok (.iload_n 2, 1) := by decide +kernel
theorem dX0_drop_3 : decode cX0_drop 3 = .ok (.iload_n 3, 1) := by decide +kernel
theorem dX0_drop_4 : decode cX0_drop 4 = .ok (.invokevirtual 115, 3) := by decide +kernel
theorem dX0_drop_7 : decode cX0_drop 7 = .ok (.aload_n 0, 1) := by decide +kernel
theorem dX0_drop_8 : decode cX0_drop 8 = .ok (.iload_n 1, 1) := by decide +kernel
theorem dX0_drop_9 : decode cX0_drop 9 = .ok (.iload_n 2, 1) := by decide +kernel
theorem dX0_drop_10 : decode cX0_drop 10 = .ok (.iload_n 3, 1) := by decide +kernel
theorem dX0_drop_11 : decode cX0_drop 11 = .ok (.invokevirtual 119, 3) := by decide +kernel
theorem dX0_drop_14 : decode cX0_drop 14 = .ok (.ifCond .eq 19, 3) := by decide +kernel
theorem dX0_drop_17 : decode cX0_drop 17 = .ok (.aload_n 0, 1) := by decide +kernel
theorem dX0_drop_18 : decode cX0_drop 18 = .ok (.getfield 33, 3) := by decide +kernel
theorem dX0_drop_21 : decode cX0_drop 21 = .ok (.iload_n 1, 1) := by decide +kernel
theorem dX0_drop_22 : decode cX0_drop 22 = .ok (.iaload, 1) := by decide +kernel
theorem dX0_drop_23 : decode cX0_drop 23 = .ok (.bipush 6, 2) := by decide +kernel
theorem dX0_drop_25 : decode cX0_drop 25 = .ok (.if_icmp .ne 10, 3) := by decide +kernel
theorem dX0_drop_28 : decode cX0_drop 28 = .ok (.iload_n 2, 1) := by decide +kernel
theorem dX0_drop_29 : decode cX0_drop 29 = .ok (.iload_n 3, 1) := by decide +kernel
theorem dX0_drop_30 : decode cX0_drop 30 = .ok (.if_icmp .ne 5, 3) := by decide +kernel
theorem dX0_drop_33 : decode cX0_drop 33 = .ok (.iconst 0, 1) := by decide +kernel
theorem dX0_drop_34 : decode cX0_drop 34 = .ok (.ireturn, 1) := by decide +kernel
theorem dX0_drop_35 : decode cX0_drop 35 = .ok (.aload_n 0, 1) := by decide +kernel
theorem dX0_drop_36 : decode cX0_drop 36 = .ok (.iload_n 1, 1) := by decide +kernel
theorem dX0_drop_37 : decode cX0_drop 37 = .ok (.iload_n 2, 1) := by decide +kernel
theorem dX0_drop_38 : decode cX0_drop 38 = .ok (.iload_n 3, 1) := by decide +kernel
theorem dX0_drop_39 : decode cX0_drop 39 = .ok (.invokevirtual 132, 3) := by decide +kernel
theorem dX0_drop_42 : decode cX0_drop 42 = .ok (.aload_n 0, 1) := by decide +kernel
theorem dX0_drop_43 : decode cX0_drop 43 = .ok (.iload_n 1, 1) := by decide +kernel
theorem dX0_drop_44 : decode cX0_drop 44 = .ok (.invokevirtual 129, 3) := by decide +kernel
theorem dX0_drop_47 : decode cX0_drop 47 = .ok (.iconst 1, 1) := by decide +kernel
theorem dX0_drop_48 : decode cX0_drop 48 = .ok (.ireturn, 1) := by decide +kernel
theorem dX0_empty_0 : decode cX0_empty 0 = .ok (.aload_n 0, 1) := by decide +kernel
theorem dX0_empty_1 : decode cX0_empty 1 = .ok (.iload_n 1, 1) := by decide +kernel
theorem dX0_empty_2 : decode cX0_empty 2 = .ok (.invokevirtual 106, 3) := by decide +kernel
theorem dX0_empty_5 : decode cX0_empty 5 = .ok (.aload_n 0, 1) := by decide +kernel
theorem dX0_empty_6 : decode cX0_empty 6 = .ok (.iload_n 1, 1) := by decide +kernel
theorem dX0_empty_7 : decode cX0_empty 7 = .ok (.invokevirtual 135, 3) := by decide +kernel
theorem dX0_empty_10 : decode cX0_empty 10 = .ok (.aload_n 0, 1) := by decide +kernel
theorem dX0_empty_11 : decode cX0_empty 11 = .ok (.iload_n 1, 1) := by decide +kernel
theorem dX0_empty_12 : decode cX0_empty 12 = .ok (.invokevirtual 138, 3) := by decide +kernel
theorem dX0_empty_15 : decode cX0_empty 15 = .ok (.istore_n 2, 1) := by decide +kernel
theorem dX0_empty_16 : decode cX0_empty 16 = .ok (.aload_n 0, 1) := by decide +kernel
theorem dX0_empty_17 : decode cX0_empty 17 = .ok (.iload_n 1, 1) := by decide +kernel
theorem dX0_empty_18 : decode cX0_empty 18 = .ok (.invokevirtual 101, 3) := by decide +kernel
theorem dX0_empty_21 : decode cX0_empty 21 = .ok (.aload_n 0, 1) := by decide +kernel
theorem dX0_empty_22 : decode cX0_empty 22 = .ok (.iload_n 1, 1) := by decide +kernel
theorem dX0_empty_23 : decode cX0_empty 23 = .ok (.invokevirtual 129, 3) := by decide +kernel
theorem dX0_empty_26 : decode cX0_empty 26 = .ok (.iload_n 2, 1) := by decide +kernel
theorem dX0_empty_27 : decode cX0_empty 27 = .ok (.aload_n 0, 1) := by decide +kernel
theorem dX0_empty_28 : decode cX0_empty 28 = .ok (.iload_n 1, 1) := by decide +kernel
theorem dX0_empty_29 : decode cX0_empty 29 = .ok (.invokevirtual 138, 3) := by decide +kernel
theorem dX0_empty_32 : decode cX0_empty 32 = .ok (.isub, 1) := by decide +kernel
theorem dX0_empty_33 : decode cX0_empty 33 = .ok (.ireturn, 1) := by decide +kernel
theorem dX0_pushed_0 : decode cX0_pushed 0 = .ok (.iload_n 2, 1) := by decide +kernel
theorem dX0_pushed_1 : decode cX0_pushed 1 = .ok (.ifCond .eq 18, 3) := by decide +kernel
theorem dX0_pushed_4 : decode cX0_pushed 4 = .ok (.iload_n 2, 1) := by decide +kernel
theorem dX0_pushed_5 : decode cX0_pushed 5 = .ok (.iconst 1, 1) := by decide +kernel
theorem dX0_pushed_6 : decode cX0_pushed 6 = .ok (.if_icmp .eq 13, 3) := by decide +kernel
theorem dX0_pushed_9 : decode cX0_pushed 9 = .ok (.new 75, 3) := by decide +kernel
theorem dX0_pushed_12 : decode cX0_pushed 12 = .ok (.dup, 1) := by decide +kernel
theorem dX0_pushed_13 : decode cX0_pushed 13 = .ok (.ldc 142, 2) := by decide +kernel
theorem dX0_pushed_15 : decode cX0_pushed 15 = .ok (.invokespecial 79, 3) := by decide +kernel
theorem dX0_pushed_18 : decode cX0_pushed 18 = .ok (.athrow, 1) := by decide +kernel
theorem dX0_pushed_19 : decode cX0_pushed 19 = .ok (.iload_n 1, 1) := by decide +kernel
theorem dX0_pushed_20 : decode cX0_pushed 20 = .ok (.ifCond .lt 11, 3) := by decide +kernel
theorem dX0_pushed_23 : decode cX0_pushed 23 = .ok (.iload_n 1, 1) := by decide +kernel
theorem dX0_pushed_24 : decode cX0_pushed 24 = .ok (.aload_n 0, 1) := by decide +kernel
theorem dX0_pushed_25 : decode cX0_pushed 25 = .ok (.getfield 62, 3) := by decide +kernel
theorem dX0_pushed_28 : decode cX0_pushed 28 = .ok (.if_icmp .lt 13, 3) := by decide +kernel
theorem dX0_pushed_31 : decode cX0_pushed 31 = .ok (.new 144, 3) := by decide +kernel
theorem dX0_pushed_34 : decode cX0_pushed 34 = .ok (.dup, 1) := by decide +kernel
theorem dX0_pushed_35 : decode cX0_pushed 35 = .ok (.ldc 146, 2) := by decide +kernel
theorem dX0_pushed_37 : decode cX0_pushed 37 = .ok (.invokespecial 148, 3) := by decide +kernel
theorem dX0_pushed_40 : decode cX0_pushed 40 = .ok (.athrow, 1) := by decide +kernel
theorem dX0_pushed_41 : decode cX0_pushed 41 = .ok (.iload_n 2, 1) := by decide +kernel
theorem dX0_pushed_42 : decode cX0_pushed 42 = .ok (.ifCond .ne 12, 3) := by decide +kernel
theorem dX0_pushed_45 : decode cX0_pushed 45 = .ok (.aload_n 0, 1) := by decide +kernel
theorem dX0_pushed_46 : decode cX0_pushed 46 = .ok (.getfield 47, 3) := by decide +kernel
theorem dX0_pushed_49 : decode cX0_pushed 49 = .ok (.iload_n 1, 1) := by decide +kernel
theorem dX0_pushed_50 : decode cX0_pushed 50 = .ok (.iaload, 1) := by decide +kernel
theorem dX0_pushed_51 : decode cX0_pushed 51 = .ok (.goto 9, 3) := by decide +kernel
theorem dX0_pushed_54 : decode cX0_pushed 54 = .ok (.aload_n 0, 1) := by decide +kernel
theorem dX0_pushed_55 : decode cX0_pushed 55 = .ok (.getfield 50, 3) := by decide +kernel
theorem dX0_pushed_58 : decode cX0_pushed 58 = .ok (.iload_n 1, 1) := by decide +kernel
theorem dX0_pushed_59 : decode cX0_pushed 59 = .ok (.iaload, 1) := by decide +kernel
theorem dX0_pushed_60 : decode cX0_pushed 60 = .ok (.ireturn, 1) := by decide +kernel
theorem dX0_has_0 : decode cX0_has 0 = .ok (.aload_n 0, 1) := by decide +kernel
theorem dX0_has_1 : decode cX0_has 1 = .ok (.iload_n 1, 1) := by decide +kernel
theorem dX0_has_2 : decode cX0_has 2 = .ok (.invokevirtual 106, 3) := by decide +kernel
theorem dX0_has_5 : decode cX0_has 5 = .ok (.aload_n 0, 1) := by decide +kernel
theorem dX0_has_6 : decode cX0_has 6 = .ok (.iload_n 2, 1) := by decide +kernel
theorem dX0_has_7 : decode cX0_has 7 = .ok (.invokevirtual 71, 3) := by decide +kernel
theorem dX0_has_10 : decode cX0_has 10 = .ok (.aload_n 0, 1) := by decide +kernel
theorem dX0_has_11 : decode cX0_has 11 = .ok (.iload_n 3, 1) := by decide +kernel
theorem dX0_has_12 : decode cX0_has 12 = .ok (.invokevirtual 71, 3) := by decide +kernel
theorem dX0_has_15 : decode cX0_has 15 = .ok (.aload_n 0, 1) := by decide +kernel
theorem dX0_has_16 : decode cX0_has 16 = .ok (.iload_n 1, 1) := by decide +kernel
theorem dX0_has_17 : decode cX0_has 17 = .ok (.invokevirtual 149, 3) := by decide +kernel
theorem dX0_has_20 : decode cX0_has 20 = .ok (.aload_n 0, 1) := by decide +kernel
theorem dX0_has_21 : decode cX0_has 21 = .ok (.iload_n 1, 1) := by decide +kernel
theorem dX0_has_22 : decode cX0_has 22 = .ok (.iload_n 2, 1) := by decide +kernel
theorem dX0_has_23 : decode cX0_has 23 = .ok (.iload_n 3, 1) := by decide +kernel
theorem dX0_has_24 : decode cX0_has 24 = .ok (.invokevirtual 119, 3) := by decide +kernel
theorem dX0_has_27 : decode cX0_has 27 = .ok (.ireturn, 1) := by decide +kernel
theorem dX0_next_0 : decode cX0_next 0 = .ok (.aload_n 0, 1) := by decide +kernel
theorem dX0_next_1 : decode cX0_next 1 = .ok (.iload_n 1, 1) := by decide +kernel
theorem dX0_next_2 : decode cX0_next 2 = .ok (.invokevirtual 106, 3) := by decide +kernel
theorem dX0_next_5 : decode cX0_next 5 = .ok (.aload_n 0, 1) := by decide +kernel
theorem dX0_next_6 : decode cX0_next 6 = .ok (.iload_n 2, 1) := by decide +kernel
theorem dX0_next_7 : decode cX0_next 7 = .ok (.invokevirtual 71, 3) := by decide +kernel
theorem dX0_next_10 : decode cX0_next 10 = .ok (.aload_n 0, 1) := by decide +kernel
theorem dX0_next_11 : decode cX0_next 11 = .ok (.iload_n 1, 1) := by decide +kernel
theorem dX0_next_12 : decode cX0_next 12 = .ok (.invokevirtual 149, 3) := by decide +kernel
theorem dX0_next_15 : decode cX0_next 15 = .ok (.aload_n 0, 1) := by decide +kernel
theorem dX0_next_16 : decode cX0_next 16 = .ok (.aload_n 0, 1) := by decide +kernel
theorem dX0_next_17 : decode cX0_next 17 = .ok (.getfield 44, 3) := by decide +kernel
theorem dX0_next_20 : decode cX0_next 20 = .ok (.iload_n 1, 1) := by decide +kernel
theorem dX0_next_21 : decode cX0_next 21 = .ok (.aaload, 1) := by decide +kernel
theorem dX0_next_22 : decode cX0_next 22 = .ok (.iload_n 2, 1) := by decide +kernel
theorem dX0_next_23 : decode cX0_next 23 = .ok (.laload, 1) := by decide +kernel
theorem dX0_next_24 : decode cX0_next 24 = .ok (.iload_n 3, 1) := by decide +kernel
theorem dX0_next_25 : decode cX0_next 25 = .ok (.invokevirtual 152, 3) := by decide +kernel
theorem dX0_next_28 : decode cX0_next 28 = .ok (.ireturn, 1) := by decide +kernel
theorem dX0_back_0 : decode cX0_back 0 = .ok (.aload_n 0, 1) := by decide +kernel
theorem dX0_back_1 : decode cX0_back 1 = .ok (.iload_n 1, 1) := by decide +kernel
theorem dX0_back_2 : decode cX0_back 2 = .ok (.invokevirtual 106, 3) := by decide +kernel
theorem dX0_back_5 : decode cX0_back 5 = .ok (.aload_n 0, 1) := by decide +kernel
theorem dX0_back_6 : decode cX0_back 6 = .ok (.iload_n 2, 1) := by decide +kernel
theorem dX0_back_7 : decode cX0_back 7 = .ok (.invokevirtual 71, 3) := by decide +kernel
theorem dX0_back_10 : decode cX0_back 10 = .ok (.aload_n 0, 1) := by decide +kernel
theorem dX0_back_11 : decode cX0_back 11 = .ok (.iload_n 1, 1) := by decide +kernel
theorem dX0_back_12 : decode cX0_back 12 = .ok (.invokevirtual 149, 3) := by decide +kernel
theorem dX0_back_15 : decode cX0_back 15 = .ok (.aload_n 0, 1) := by decide +kernel
theorem dX0_back_16 : decode cX0_back 16 = .ok (.aload_n 0, 1) := by decide +kernel
theorem dX0_back_17 : decode cX0_back 17 = .ok (.iload_n 1, 1) := by decide +kernel
theorem dX0_back_18 : decode cX0_back 18 = .ok (.iload_n 2, 1) := by decide +kernel
theorem dX0_back_19 : decode cX0_back 19 = .ok (.invokevirtual 156, 3) := by decide +kernel
theorem dX0_back_22 : decode cX0_back 22 = .ok (.iload_n 3, 1) := by decide +kernel
theorem dX0_back_23 : decode cX0_back 23 = .ok (.invokevirtual 152, 3) := by decide +kernel
theorem dX0_back_26 : decode cX0_back 26 = .ok (.ireturn, 1) := by decide +kernel
theorem dX0_count_0 : decode cX0_count 0 = .ok (.aload_n 0, 1) := by decide +kernel
theorem dX0_count_1 : decode cX0_count 1 = .ok (.iload_n 1, 1) := by decide +kernel
theorem dX0_count_2 : decode cX0_count 2 = .ok (.invokevirtual 106, 3) := by decide +kernel
theorem dX0_count_5 : decode cX0_count 5 = .ok (.aload_n 0, 1) := by decide +kernel
theorem dX0_count_6 : decode cX0_count 6 = .ok (.iload_n 1, 1) := by decide +kernel
theorem dX0_count_7 : decode cX0_count 7 = .ok (.invokevirtual 149, 3) := by decide +kernel
theorem dX0_count_10 : decode cX0_count 10 = .ok (.aload_n 0, 1) := by decide +kernel
theorem dX0_count_11 : decode cX0_count 11 = .ok (.iload_n 1, 1) := by decide +kernel
theorem dX0_count_12 : decode cX0_count 12 = .ok (.invokevirtual 138, 3) := by decide +kernel
theorem dX0_count_15 : decode cX0_count 15 = .ok (.ireturn, 1) := by decide +kernel
theorem dX0_length_0 : decode cX0_length 0 = .ok (.aload_n 0, 1) := by decide +kernel
theorem dX0_length_1 : decode cX0_length 1 = .ok (.iload_n 1, 1) := by decide +kernel
theorem dX0_length_2 : decode cX0_length 2 = .ok (.invokevirtual 106, 3) := by decide +kernel
theorem dX0_length_5 : decode cX0_length 5 = .ok (.aload_n 0, 1) := by decide +kernel
theorem dX0_length_6 : decode cX0_length 6 = .ok (.iload_n 2, 1) := by decide +kernel
theorem dX0_length_7 : decode cX0_length 7 = .ok (.invokevirtual 71, 3) := by decide +kernel
theorem dX0_length_10 : decode cX0_length 10 = .ok (.aload_n 0, 1) := by decide +kernel
theorem dX0_length_11 : decode cX0_length 11 = .ok (.iload_n 3, 1) := by decide +kernel
theorem dX0_length_12 : decode cX0_length 12 = .ok (.invokevirtual 71, 3) := by decide +kernel
theorem dX0_length_15 : decode cX0_length 15 = .ok (.aload_n 0, 1) := by decide +kernel
theorem dX0_length_16 : decode cX0_length 16 = .ok (.iload_n 1, 1) := by decide +kernel
theorem dX0_length_17 : decode cX0_length 17 = .ok (.invokevirtual 149, 3) := by decide +kernel
theorem dX0_length_20 : decode cX0_length 20 = .ok (.aload_n 0, 1) := by decide +kernel
theorem dX0_length_21 : decode cX0_length 21 = .ok (.iload_n 1, 1) := by decide +kernel
theorem dX0_length_22 : decode cX0_length 22 = .ok (.iload_n 3, 1) := by decide +kernel
theorem dX0_length_23 : decode cX0_length 23 = .ok (.invokevirtual 160, 3) := by decide +kernel
theorem dX0_length_26 : decode cX0_length 26 = .ok (.aload_n 0, 1) := by decide +kernel
theorem dX0_length_27 : decode cX0_length 27 = .ok (.getfield 53, 3) := by decide +kernel
theorem dX0_length_30 : decode cX0_length 30 = .ok (.iload_n 2, 1) := by decide +kernel
theorem dX0_length_31 : decode cX0_length 31 = .ok (.iaload, 1) := by decide +kernel
theorem dX0_length_32 : decode cX0_length 32 = .ok (.ireturn, 1) := by decide +kernel
theorem dX0_route_0 : decode cX0_route 0 = .ok (.aload_n 0, 1) := by decide +kernel
theorem dX0_route_1 : decode cX0_route 1 = .ok (.iload_n 1, 1) := by decide +kernel
theorem dX0_route_2 : decode cX0_route 2 = .ok (.invokevirtual 106, 3) := by decide +kernel
theorem dX0_route_5 : decode cX0_route 5 = .ok (.aload_n 0, 1) := by decide +kernel
theorem dX0_route_6 : decode cX0_route 6 = .ok (.iload_n 2, 1) := by decide +kernel
theorem dX0_route_7 : decode cX0_route 7 = .ok (.invokevirtual 71, 3) := by decide +kernel
theorem dX0_route_10 : decode cX0_route 10 = .ok (.aload_n 0, 1) := by decide +kernel
theorem dX0_route_11 : decode cX0_route 11 = .ok (.iload_n 3, 1) := by decide +kernel
theorem dX0_route_12 : decode cX0_route 12 = .ok (.invokevirtual 71, 3) := by decide +kernel
theorem dX0_route_15 : decode cX0_route 15 = .ok (.aload_n 0, 1) := by decide +kernel
theorem dX0_route_16 : decode cX0_route 16 = .ok (.iload_n 1, 1) := by decide +kernel
theorem dX0_route_17 : decode cX0_route 17 = .ok (.invokevirtual 149, 3) := by decide +kernel
theorem dX0_route_20 : decode cX0_route 20 = .ok (.aload_n 0, 1) := by decide +kernel
theorem dX0_route_21 : decode cX0_route 21 = .ok (.iload_n 1, 1) := by decide +kernel
theorem dX0_route_22 : decode cX0_route 22 = .ok (.iload_n 3, 1) := by decide +kernel
theorem dX0_route_23 : decode cX0_route 23 = .ok (.invokevirtual 160, 3) := by decide +kernel
theorem dX0_route_26 : decode cX0_route 26 = .ok (.iload 4, 2) := by decide +kernel
theorem dX0_route_28 : decode cX0_route 28 = .ok (.ifCond .lt 14, 3) := by decide +kernel
theorem dX0_route_31 : decode cX0_route 31 = .ok (.iload 4, 2) := by decide +kernel
theorem dX0_route_33 : decode cX0_route 33 = .ok (.aload_n 0, 1) := by decide +kernel
theorem dX0_route_34 : decode cX0_route 34 = .ok (.getfield 53, 3) := by decide +kernel
theorem dX0_route_37 : decode cX0_route 37 = .ok (.iload_n 2, 1) := by decide +kernel
theorem dX0_route_38 : decode cX0_route 38 = .ok (.iaload, 1) := by decide +kernel
theorem dX0_route_39 : decode cX0_route 39 = .ok (.if_icmp .le 13, 3) := by decide +kernel
theorem dX0_route_42 : decode cX0_route 42 = .ok (.new 144, 3) := by decide +kernel
theorem dX0_route_45 : decode cX0_route 45 = .ok (.dup, 1) := by decide +kernel
theorem dX0_route_46 : decode cX0_route 46 = .ok (.ldc 164, 2) := by decide +kernel
theorem dX0_route_48 : decode cX0_route 48 = .ok (.invokespecial 148, 3) := by decide +kernel
theorem dX0_route_51 : decode cX0_route 51 = .ok (.athrow, 1) := by decide +kernel
theorem dX0_route_52 : decode cX0_route 52 = .ok (.iload_n 2, 1) := by decide +kernel
theorem dX0_route_53 : decode cX0_route 53 = .ok (.istore 5, 2) := by decide +kernel
theorem dX0_route_55 : decode cX0_route 55 = .ok (.iconst 0, 1) := by decide +kernel
theorem dX0_route_56 : decode cX0_route 56 = .ok (.istore 6, 2) := by decide +kernel
theorem dX0_route_58 : decode cX0_route 58 = .ok (.iload 6, 2) := by decide +kernel
theorem dX0_route_60 : decode cX0_route 60 = .ok (.iload 4, 2) := by decide +kernel
theorem dX0_route_62 : decode cX0_route 62 = .ok (.if_icmp .ge 18, 3) := by decide +kernel
theorem dX0_route_65 : decode cX0_route 65 = .ok (.aload_n 0, 1) := by decide +kernel
theorem dX0_route_66 : decode cX0_route 66 = .ok (.iload_n 1, 1) := by decide +kernel
theorem dX0_route_67 : decode cX0_route 67 = .ok (.iload 5, 2) := by decide +kernel
theorem dX0_route_69 : decode cX0_route 69 = .ok (.invokevirtual 166, 3) := by decide +kernel
theorem dX0_route_72 : decode cX0_route 72 = .ok (.istore 5, 2) := by decide +kernel
theorem dX0_route_74 : decode cX0_route 74 = .ok (.iinc 6 1, 3) := by decide +kernel
theorem dX0_route_77 : decode cX0_route 77 = .ok (.goto (-19), 3) := by decide +kernel
theorem dX0_route_80 : decode cX0_route 80 = .ok (.iload 5, 2) := by decide +kernel
theorem dX0_route_82 : decode cX0_route 82 = .ok (.ireturn, 1) := by decide +kernel
theorem dX0_leader_0 : decode cX0_leader 0 = .ok (.aload_n 0, 1) := by decide +kernel
theorem dX0_leader_1 : decode cX0_leader 1 = .ok (.iload_n 1, 1) := by decide +kernel
theorem dX0_leader_2 : decode cX0_leader 2 = .ok (.invokevirtual 106, 3) := by decide +kernel
theorem dX0_leader_5 : decode cX0_leader 5 = .ok (.aload_n 0, 1) := by decide +kernel
theorem dX0_leader_6 : decode cX0_leader 6 = .ok (.iload_n 2, 1) := by decide +kernel
theorem dX0_leader_7 : decode cX0_leader 7 = .ok (.invokevirtual 71, 3) := by decide +kernel
theorem dX0_leader_10 : decode cX0_leader 10 = .ok (.aload_n 0, 1) := by decide +kernel
theorem dX0_leader_11 : decode cX0_leader 11 = .ok (.getfield 33, 3) := by decide +kernel
theorem dX0_leader_14 : decode cX0_leader 14 = .ok (.iload_n 1, 1) := by decide +kernel
theorem dX0_leader_15 : decode cX0_leader 15 = .ok (.iaload, 1) := by decide +kernel
theorem dX0_leader_16 : decode cX0_leader 16 = .ok (.bipush 6, 2) := by decide +kernel
theorem dX0_leader_18 : decode cX0_leader 18 = .ok (.if_icmp .eq 13, 3) := by decide +kernel
theorem dX0_leader_21 : decode cX0_leader 21 = .ok (.new 82, 3) := by decide +kernel
theorem dX0_leader_24 : decode cX0_leader 24 = .ok (.dup, 1) := by decide +kernel
theorem dX0_leader_25 : decode cX0_leader 25 = .ok (.ldc 169, 2) := by decide +kernel
theorem dX0_leader_27 : decode cX0_leader 27 = .ok (.invokespecial 86, 3) := by decide +kernel
theorem dX0_leader_30 : decode cX0_leader 30 = .ok (.athrow, 1) := by decide +kernel
theorem dX0_leader_31 : decode cX0_leader 31 = .ok (.aload_n 0, 1) := by decide +kernel
theorem dX0_leader_32 : decode cX0_leader 32 = .ok (.iload_n 2, 1) := by decide +kernel
theorem dX0_leader_33 : decode cX0_leader 33 = .ok (.aload_n 0, 1) := by decide +kernel
theorem dX0_leader_34 : decode cX0_leader 34 = .ok (.getfield 36, 3) := by decide +kernel
theorem dX0_leader_37 : decode cX0_leader 37 = .ok (.iload_n 1, 1) := by decide +kernel
theorem dX0_leader_38 : decode cX0_leader 38 = .ok (.iaload, 1) := by decide +kernel
theorem dX0_leader_39 : decode cX0_leader 39 = .ok (.invokevirtual 171, 3) := by decide +kernel
theorem dX0_leader_42 : decode cX0_leader 42 = .ok (.ifCond .ne 13, 3) := by decide +kernel
theorem dX0_leader_45 : decode cX0_leader 45 = .ok (.new 75, 3) := by decide +kernel
theorem dX0_leader_48 : decode cX0_leader 48 = .ok (.dup, 1) := by decide +kernel
theorem dX0_leader_49 : decode cX0_leader 49 = .ok (.ldc 175, 2) := by decide +kernel
theorem dX0_leader_51 : decode cX0_leader 51 = .ok (.invokespecial 79, 3) := by decide +kernel
theorem dX0_leader_54 : decode cX0_leader 54 = .ok (.athrow, 1) := by decide +kernel
theorem dX0_leader_55 : decode cX0_leader 55 = .ok (.aload_n 0, 1) := by decide +kernel
theorem dX0_leader_56 : decode cX0_leader 56 = .ok (.getfield 44, 3) := by decide +kernel
theorem dX0_leader_59 : decode cX0_leader 59 = .ok (.iload_n 1, 1) := by decide +kernel
theorem dX0_leader_60 : decode cX0_leader 60 = .ok (.aaload, 1) := by decide +kernel
theorem dX0_leader_61 : decode cX0_leader 61 = .ok (.iload_n 2, 1) := by decide +kernel
theorem dX0_leader_62 : decode cX0_leader 62 = .ok (.laload, 1) := by decide +kernel
theorem dX0_leader_63 : decode cX0_leader 63 = .ok (.invokestatic 177, 3) := by decide +kernel
theorem dX0_leader_66 : decode cX0_leader 66 = .ok (.ireturn, 1) := by decide +kernel
theorem dX0_differ_0 : decode cX0_differ 0 = .ok (.aload_n 0, 1) := by decide +kernel
theorem dX0_differ_1 : decode cX0_differ 1 = .ok (.iload_n 1, 1) := by decide +kernel
theorem dX0_differ_2 : decode cX0_differ 2 = .ok (.invokevirtual 106, 3) := by decide +kernel
theorem dX0_differ_5 : decode cX0_differ 5 = .ok (.aload_n 0, 1) := by decide +kernel
theorem dX0_differ_6 : decode cX0_differ 6 = .ok (.iload_n 2, 1) := by decide +kernel
theorem dX0_differ_7 : decode cX0_differ 7 = .ok (.invokevirtual 106, 3) := by decide +kernel
theorem dX0_differ_10 : decode cX0_differ 10 = .ok (.aload_n 0, 1) := by decide +kernel
theorem dX0_differ_11 : decode cX0_differ 11 = .ok (.iload_n 1, 1) := by decide +kernel
theorem dX0_differ_12 : decode cX0_differ 12 = .ok (.iload_n 2, 1) := by decide +kernel
theorem dX0_differ_13 : decode cX0_differ 13 = .ok (.invokestatic 15, 3) := by decide +kernel
theorem dX0_differ_16 : decode cX0_differ 16 = .ok (.invokevirtual 149, 3) := by decide +kernel
theorem dX0_differ_19 : decode cX0_differ 19 = .ok (.iconst 0, 1) := by decide +kernel
theorem dX0_differ_20 : decode cX0_differ 20 = .ok (.istore_n 3, 1) := by decide +kernel
theorem dX0_differ_21 : decode cX0_differ 21 = .ok (.iload_n 3, 1) := by decide +kernel
theorem dX0_differ_22 : decode cX0_differ 22 = .ok (.aload_n 0, 1) := by decide +kernel
theorem dX0_differ_23 : decode cX0_differ 23 = .ok (.getfield 18, 3) := by decide +kernel
theorem dX0_differ_26 : decode cX0_differ 26 = .ok (.if_icmp .ge 46, 3) := by decide +kernel
theorem dX0_differ_29 : decode cX0_differ 29 = .ok (.aload_n 0, 1) := by decide +kernel
theorem dX0_differ_30 : decode cX0_differ 30 = .ok (.getfield 44, 3) := by decide +kernel
theorem dX0_differ_33 : decode cX0_differ 33 = .ok (.iload_n 1, 1) := by decide +kernel
theorem dX0_differ_34 : decode cX0_differ 34 = .ok (.aaload, 1) := by decide +kernel
theorem dX0_differ_35 : decode cX0_differ 35 = .ok (.iload_n 3, 1) := by decide +kernel
theorem dX0_differ_36 : decode cX0_differ 36 = .ok (.laload, 1) := by decide +kernel
theorem dX0_differ_37 : decode cX0_differ 37 = .ok (.aload_n 0, 1) := by decide +kernel
theorem dX0_differ_38 : decode cX0_differ 38 = .ok (.getfield 44, 3) := by decide +kernel
theorem dX0_differ_41 : decode cX0_differ 41 = .ok (.iload_n 2, 1) := by decide +kernel
theorem dX0_differ_42 : decode cX0_differ 42 = .ok (.aaload, 1) := by decide +kernel
theorem dX0_differ_43 : decode cX0_differ 43 = .ok (.iload_n 3, 1) := by decide +kernel
theorem dX0_differ_44 : decode cX0_differ 44 = .ok (.laload, 1) := by decide +kernel
theorem dX0_differ_45 : decode cX0_differ 45 = .ok (.lxor, 1) := by decide +kernel
theorem dX0_differ_46 : decode cX0_differ 46 = .ok (.lstore 4, 2) := by decide +kernel
theorem dX0_differ_48 : decode cX0_differ 48 = .ok (.lload 4, 2) := by decide +kernel
theorem dX0_differ_50 : decode cX0_differ 50 = .ok (.lconst 0, 1) := by decide +kernel
theorem dX0_differ_51 : decode cX0_differ 51 = .ok (.lcmp, 1) := by decide +kernel
theorem dX0_differ_52 : decode cX0_differ 52 = .ok (.ifCond .eq 14, 3) := by decide +kernel
theorem dX0_differ_55 : decode cX0_differ 55 = .ok (.iload_n 3, 1) := by decide +kernel
theorem dX0_differ_56 : decode cX0_differ 56 = .ok (.bipush 40, 2) := by decide +kernel
theorem dX0_differ_58 : decode cX0_differ 58 = .ok (.imul, 1) := by decide +kernel
theorem dX0_differ_59 : decode cX0_differ 59 = .ok (.lload 4, 2) := by decide +kernel
theorem dX0_differ_61 : decode cX0_differ 61 = .ok (.invokestatic 177, 3) := by decide +kernel
theorem dX0_differ_64 : decode cX0_differ 64 = .ok (.iadd, 1) := by decide +kernel
theorem dX0_differ_65 : decode cX0_differ 65 = .ok (.ireturn, 1) := by decide +kernel
theorem dX0_differ_66 : decode cX0_differ 66 = .ok (.iinc 3 1, 3) := by decide +kernel
theorem dX0_differ_69 : decode cX0_differ 69 = .ok (.goto (-48), 3) := by decide +kernel
theorem dX0_differ_72 : decode cX0_differ 72 = .ok (.iconst (-1), 1) := by decide +kernel
theorem dX0_differ_73 : decode cX0_differ 73 = .ok (.ireturn, 1) := by decide +kernel
theorem dX0_tally_0 : decode cX0_tally 0 = .ok (.aload_n 0, 1) := by decide +kernel
theorem dX0_tally_1 : decode cX0_tally 1 = .ok (.iload_n 1, 1) := by decide +kernel
theorem dX0_tally_2 : decode cX0_tally 2 = .ok (.invokevirtual 183, 3) := by decide +kernel
theorem dX0_tally_5 : decode cX0_tally 5 = .ok (.ifCond .eq 11, 3) := by decide +kernel
theorem dX0_tally_8 : decode cX0_tally 8 = .ok (.aload_n 0, 1) := by decide +kernel
theorem dX0_tally_9 : decode cX0_tally 9 = .ok (.iload_n 2, 1) := by decide +kernel
theorem dX0_tally_10 : decode cX0_tally 10 = .ok (.invokevirtual 183, 3) := by decide +kernel
theorem dX0_tally_13 : decode cX0_tally 13 = .ok (.ifCond .ne 13, 3) := by decide +kernel
theorem dX0_tally_16 : decode cX0_tally 16 = .ok (.new 186, 3) := by decide +kernel
theorem dX0_tally_19 : decode cX0_tally 19 = .ok (.dup, 1) := by decide +kernel
theorem dX0_tally_20 : decode cX0_tally 20 = .ok (.ldc 188, 2) := by decide +kernel
theorem dX0_tally_22 : decode cX0_tally 22 = .ok (.invokespecial 190, 3) := by decide +kernel
theorem dX0_tally_25 : decode cX0_tally 25 = .ok (.athrow, 1) := by decide +kernel
theorem dX0_tally_26 : decode cX0_tally 26 = .ok (.aload_n 0, 1) := by decide +kernel
theorem dX0_tally_27 : decode cX0_tally 27 = .ok (.getfield 30, 3) := by decide +kernel
theorem dX0_tally_30 : decode cX0_tally 30 = .ok (.iload_n 1, 1) := by decide +kernel
theorem dX0_tally_31 : decode cX0_tally 31 = .ok (.aload_n 0, 1) := by decide +kernel
theorem dX0_tally_32 : decode cX0_tally 32 = .ok (.getfield 18, 3) := by decide +kernel
theorem dX0_tally_35 : decode cX0_tally 35 = .ok (.imul, 1) := by decide +kernel
theorem dX0_tally_36 : decode cX0_tally 36 = .ok (.iload_n 2, 1) := by decide +kernel
theorem dX0_tally_37 : decode cX0_tally 37 = .ok (.iadd, 1) := by decide +kernel
theorem dX0_tally_38 : decode cX0_tally 38 = .ok (.iaload, 1) := by decide +kernel
theorem dX0_tally_39 : decode cX0_tally 39 = .ok (.ireturn, 1) := by decide +kernel
theorem dX0_of_0 : decode cX0_of 0 = .ok (.iload_n 1, 1) := by decide +kernel
theorem dX0_of_1 : decode cX0_of 1 = .ok (.tableswitch 42 0 2 #[27, 32, 37], 27) := by decide +kernel
theorem dX0_of_28 : decode cX0_of 28 = .ok (.aload_n 0, 1) := by decide +kernel
theorem dX0_of_29 : decode cX0_of 29 = .ok (.getfield 18, 3) := by decide +kernel
theorem dX0_of_32 : decode cX0_of 32 = .ok (.ireturn, 1) := by decide +kernel
theorem dX0_of_33 : decode cX0_of 33 = .ok (.aload_n 0, 1) := by decide +kernel
theorem dX0_of_34 : decode cX0_of 34 = .ok (.getfield 56, 3) := by decide +kernel
theorem dX0_of_37 : decode cX0_of 37 = .ok (.ireturn, 1) := by decide +kernel
theorem dX0_of_38 : decode cX0_of 38 = .ok (.aload_n 0, 1) := by decide +kernel
theorem dX0_of_39 : decode cX0_of 39 = .ok (.getfield 62, 3) := by decide +kernel
theorem dX0_of_42 : decode cX0_of 42 = .ok (.ireturn, 1) := by decide +kernel
theorem dX0_of_43 : decode cX0_of 43 = .ok (.new 75, 3) := by decide +kernel
theorem dX0_of_46 : decode cX0_of 46 = .ok (.dup, 1) := by decide +kernel
theorem dX0_of_47 : decode cX0_of 47 = .ok (.ldc 191, 2) := by decide +kernel
theorem dX0_of_49 : decode cX0_of 49 = .ok (.invokespecial 79, 3) := by decide +kernel
theorem dX0_of_52 : decode cX0_of 52 = .ok (.athrow, 1) := by decide +kernel
theorem dX0_told_0 : decode cX0_told 0 = .ok (.aload_n 0, 1) := by decide +kernel
theorem dX0_told_1 : decode cX0_told 1 = .ok (.iload_n 1, 1) := by decide +kernel
theorem dX0_told_2 : decode cX0_told 2 = .ok (.invokevirtual 106, 3) := by decide +kernel
theorem dX0_told_5 : decode cX0_told 5 = .ok (.iload_n 2, 1) := by decide +kernel
theorem dX0_told_6 : decode cX0_told 6 = .ok (.tableswitch 47 0 2 #[26, 33, 40], 26) := by decide +kernel
theorem dX0_told_32 : decode cX0_told 32 = .ok (.aload_n 0, 1) := by decide +kernel
theorem dX0_told_33 : decode cX0_told 33 = .ok (.getfield 33, 3) := by decide +kernel
theorem dX0_told_36 : decode cX0_told 36 = .ok (.iload_n 1, 1) := by decide +kernel
theorem dX0_told_37 : decode cX0_told 37 = .ok (.iaload, 1) := by decide +kernel
theorem dX0_told_38 : decode cX0_told 38 = .ok (.ireturn, 1) := by decide +kernel
theorem dX0_told_39 : decode cX0_told 39 = .ok (.aload_n 0, 1) := by decide +kernel
theorem dX0_told_40 : decode cX0_told 40 = .ok (.getfield 36, 3) := by decide +kernel
theorem dX0_told_43 : decode cX0_told 43 = .ok (.iload_n 1, 1) := by decide +kernel
theorem dX0_told_44 : decode cX0_told 44 = .ok (.iaload, 1) := by decide +kernel
theorem dX0_told_45 : decode cX0_told 45 = .ok (.ireturn, 1) := by decide +kernel
theorem dX0_told_46 : decode cX0_told 46 = .ok (.aload_n 0, 1) := by decide +kernel
theorem dX0_told_47 : decode cX0_told 47 = .ok (.getfield 39, 3) := by decide +kernel
theorem dX0_told_50 : decode cX0_told 50 = .ok (.iload_n 1, 1) := by decide +kernel
theorem dX0_told_51 : decode cX0_told 51 = .ok (.iaload, 1) := by decide +kernel
theorem dX0_told_52 : decode cX0_told 52 = .ok (.ireturn, 1) := by decide +kernel
theorem dX0_told_53 : decode cX0_told 53 = .ok (.new 75, 3) := by decide +kernel
theorem dX0_told_56 : decode cX0_told 56 = .ok (.dup, 1) := by decide +kernel
theorem dX0_told_57 : decode cX0_told 57 = .ok (.ldc 191, 2) := by decide +kernel
theorem dX0_told_59 : decode cX0_told 59 = .ok (.invokespecial 79, 3) := by decide +kernel
theorem dX0_told_62 : decode cX0_told 62 = .ok (.athrow, 1) := by decide +kernel
theorem dX0_isThing_0 : decode cX0_isThing 0 = .ok (.iload_n 1, 1) := by decide +kernel
theorem dX0_isThing_1 : decode cX0_isThing 1 = .ok (.ifCond .lt 15, 3) := by decide +kernel
theorem dX0_isThing_4 : decode cX0_isThing 4 = .ok (.iload_n 1, 1) := by decide +kernel
theorem dX0_isThing_5 : decode cX0_isThing 5 = .ok (.aload_n 0, 1) := by decide +kernel
theorem dX0_isThing_6 : decode cX0_isThing 6 = .ok (.getfield 18, 3) := by decide +kernel
theorem dX0_isThing_9 : decode cX0_isThing 9 = .ok (.if_icmp .ge 7, 3) := by decide +kernel
theorem dX0_isThing_12 : decode cX0_isThing 12 = .ok (.iconst 1, 1) := by decide +kernel
theorem dX0_isThing_13 : decode cX0_isThing 13 = .ok (.goto 4, 3) := by decide +kernel
theorem dX0_isThing_16 : decode cX0_isThing 16 = .ok (.iconst 0, 1) := by decide +kernel
theorem dX0_isThing_17 : decode cX0_isThing 17 = .ok (.ireturn, 1) := by decide +kernel
theorem dX0_needThing_0 : decode cX0_needThing 0 = .ok (.aload_n 0, 1) := by decide +kernel
theorem dX0_needThing_1 : decode cX0_needThing 1 = .ok (.iload_n 1, 1) := by decide +kernel
theorem dX0_needThing_2 : decode cX0_needThing 2 = .ok (.invokevirtual 183, 3) := by decide +kernel
theorem dX0_needThing_5 : decode cX0_needThing 5 = .ok (.ifCond .ne 13, 3) := by decide +kernel
theorem dX0_needThing_8 : decode cX0_needThing 8 = .ok (.new 75, 3) := by decide +kernel
theorem dX0_needThing_11 : decode cX0_needThing 11 = .ok (.dup, 1) := by decide +kernel
theorem dX0_needThing_12 : decode cX0_needThing 12 = .ok (.ldc 188, 2) := by decide +kernel
theorem dX0_needThing_14 : decode cX0_needThing 14 = .ok (.invokespecial 79, 3) := by decide +kernel
theorem dX0_needThing_17 : decode cX0_needThing 17 = .ok (.athrow, 1) := by decide +kernel
theorem dX0_needThing_18 : decode cX0_needThing 18 = .ok (.return_, 1) := by decide +kernel
theorem dX0_needRelation_0 : decode cX0_needRelation 0 = .ok (.iload_n 1, 1) := by decide +kernel
theorem dX0_needRelation_1 : decode cX0_needRelation 1 = .ok (.ifCond .lt 11, 3) := by decide +kernel
theorem dX0_needRelation_4 : decode cX0_needRelation 4 = .ok (.iload_n 1, 1) := by decide +kernel
theorem dX0_needRelation_5 : decode cX0_needRelation 5 = .ok (.aload_n 0, 1) := by decide +kernel
theorem dX0_needRelation_6 : decode cX0_needRelation 6 = .ok (.getfield 56, 3) := by decide +kernel
theorem dX0_needRelation_9 : decode cX0_needRelation 9 = .ok (.if_icmp .lt 13, 3) := by decide +kernel
theorem dX0_needRelation_12 : decode cX0_needRelation 12 = .ok (.new 75, 3) := by decide +kernel
theorem dX0_needRelation_15 : decode cX0_needRelation 15 = .ok (.dup, 1) := by decide +kernel
theorem dX0_needRelation_16 : decode cX0_needRelation 16 = .ok (.ldc 193, 2) := by decide +kernel
theorem dX0_needRelation_18 : decode cX0_needRelation 18 = .ok (.invokespecial 79, 3) := by decide +kernel
theorem dX0_needRelation_21 : decode cX0_needRelation 21 = .ok (.athrow, 1) := by decide +kernel
theorem dX0_needRelation_22 : decode cX0_needRelation 22 = .ok (.return_, 1) := by decide +kernel
theorem dX0_needKindOrNone_0 : decode cX0_needKindOrNone 0 = .ok (.iload_n 1, 1) := by decide +kernel
theorem dX0_needKindOrNone_1 : decode cX0_needKindOrNone 1 = .ok (.iconst (-1), 1) := by decide +kernel
theorem dX0_needKindOrNone_2 : decode cX0_needKindOrNone 2 = .ok (.if_icmp .eq 22, 3) := by decide +kernel
theorem dX0_needKindOrNone_5 : decode cX0_needKindOrNone 5 = .ok (.iload_n 1, 1) := by decide +kernel
theorem dX0_needKindOrNone_6 : decode cX0_needKindOrNone 6 = .ok (.ifCond .lt 8, 3) := by decide +kernel
theorem dX0_needKindOrNone_9 : decode cX0_needKindOrNone 9 = .ok (.iload_n 1, 1) := by decide +kernel
theorem dX0_needKindOrNone_10 : decode cX0_needKindOrNone 10 = .ok (.iconst 3, 1) := by decide +kernel
theorem dX0_needKindOrNone_11 : decode cX0_needKindOrNone 11 = .ok (.if_icmp .le 13, 3) := by decide +kernel
theorem dX0_needKindOrNone_14 : decode cX0_needKindOrNone 14 = .ok (.new 75, 3) := by decide +kernel
theorem dX0_needKindOrNone_17 : decode cX0_needKindOrNone 17 = .ok (.dup, 1) := by decide +kernel
theorem dX0_needKindOrNone_18 : decode cX0_needKindOrNone 18 = .ok (.ldc 77, 2) := by decide +kernel
theorem dX0_needKindOrNone_20 : decode cX0_needKindOrNone 20 = .ok (.invokespecial 79, 3) := by decide +kernel
theorem dX0_needKindOrNone_23 : decode cX0_needKindOrNone 23 = .ok (.athrow, 1) := by decide +kernel
theorem dX0_needKindOrNone_24 : decode cX0_needKindOrNone 24 = .ok (.return_, 1) := by decide +kernel
theorem dX0_needRoomForRelation_0 : decode cX0_needRoomForRelation 0 = .ok (.aload_n 0, 1) := by decide +kernel
theorem dX0_needRoomForRelation_1 : decode cX0_needRoomForRelation 1 = .ok (.getfield 56, 3) := by decide +kernel
theorem dX0_needRoomForRelation_4 : decode cX0_needRoomForRelation 4 = .ok (.bipush 12, 2) := by decide +kernel
theorem dX0_needRoomForRelation_6 : decode cX0_needRoomForRelation 6 = .ok (.if_icmp .lt 13, 3) := by decide +kernel
theorem dX0_needRoomForRelation_9 : decode cX0_needRoomForRelation 9 = .ok (.new 82, 3) := by decide +kernel
theorem dX0_needRoomForRelation_12 : decode cX0_needRoomForRelation 12 = .ok (.dup, 1) := by decide +kernel
theorem dX0_needRoomForRelation_13 : decode cX0_needRoomForRelation 13 = .ok (.ldc 195, 2) := by decide +kernel
theorem dX0_needRoomForRelation_15 : decode cX0_needRoomForRelation 15 = .ok (.invokespecial 86, 3) := by decide +kernel
theorem dX0_needRoomForRelation_18 : decode cX0_needRoomForRelation 18 = .ok (.athrow, 1) := by decide +kernel
theorem dX0_needRoomForRelation_19 : decode cX0_needRoomForRelation 19 = .ok (.return_, 1) := by decide +kernel
theorem dX0_needForm_0 : decode cX0_needForm 0 = .ok (.aload_n 0, 1) := by decide +kernel
theorem dX0_needForm_1 : decode cX0_needForm 1 = .ok (.iload_n 1, 1) := by decide +kernel
theorem dX0_needForm_2 : decode cX0_needForm 2 = .ok (.invokevirtual 197, 3) := by decide +kernel
theorem dX0_needForm_5 : decode cX0_needForm 5 = .ok (.ifCond .eq 13, 3) := by decide +kernel
theorem dX0_needForm_8 : decode cX0_needForm 8 = .ok (.new 82, 3) := by decide +kernel
theorem dX0_needForm_11 : decode cX0_needForm 11 = .ok (.dup, 1) := by decide +kernel
theorem dX0_needForm_12 : decode cX0_needForm 12 = .ok (.ldc 200, 2) := by decide +kernel
theorem dX0_needForm_14 : decode cX0_needForm 14 = .ok (.invokespecial 86, 3) := by decide +kernel
theorem dX0_needForm_17 : decode cX0_needForm 17 = .ok (.athrow, 1) := by decide +kernel
theorem dX0_needForm_18 : decode cX0_needForm 18 = .ok (.return_, 1) := by decide +kernel
theorem dX0_needSettable_0 : decode cX0_needSettable 0 = .ok (.aload_n 0, 1) := by decide +kernel
theorem dX0_needSettable_1 : decode cX0_needSettable 1 = .ok (.iload_n 1, 1) := by decide +kernel
theorem dX0_needSettable_2 : decode cX0_needSettable 2 = .ok (.invokevirtual 106, 3) := by decide +kernel
theorem dX0_needSettable_5 : decode cX0_needSettable 5 = .ok (.aload_n 0, 1) := by decide +kernel
theorem dX0_needSettable_6 : decode cX0_needSettable 6 = .ok (.iload_n 2, 1) := by decide +kernel
theorem dX0_needSettable_7 : decode cX0_needSettable 7 = .ok (.invokevirtual 71, 3) := by decide +kernel
theorem dX0_needSettable_10 : decode cX0_needSettable 10 = .ok (.aload_n 0, 1) := by decide +kernel
theorem dX0_needSettable_11 : decode cX0_needSettable 11 = .ok (.iload_n 3, 1) := by decide +kernel
theorem dX0_needSettable_12 : decode cX0_needSettable 12 = .ok (.invokevirtual 71, 3) := by decide +kernel
theorem dX0_needSettable_15 : decode cX0_needSettable 15 = .ok (.aload_n 0, 1) := by decide +kernel
theorem dX0_needSettable_16 : decode cX0_needSettable 16 = .ok (.iload_n 1, 1) := by decide +kernel
theorem dX0_needSettable_17 : decode cX0_needSettable 17 = .ok (.invokevirtual 135, 3) := by decide +kernel
theorem dX0_needSettable_20 : decode cX0_needSettable 20 = .ok (.aload_n 0, 1) := by decide +kernel
theorem dX0_needSettable_21 : decode cX0_needSettable 21 = .ok (.iload_n 2, 1) := by decide +kernel
theorem dX0_needSettable_22 : decode cX0_needSettable 22 = .ok (.aload_n 0, 1) := by decide +kernel
theorem dX0_needSettable_23 : decode cX0_needSettable 23 = .ok (.getfield 36, 3) := by decide +kernel
theorem dX0_needSettable_26 : decode cX0_needSettable 26 = .ok (.iload_n 1, 1) := by decide +kernel
theorem dX0_needSettable_27 : decode cX0_needSettable 27 = .ok (.iaload, 1) := by decide +kernel
theorem dX0_needSettable_28 : decode cX0_needSettable 28 = .ok (.invokevirtual 171, 3) := by decide +kernel
theorem dX0_needSettable_31 : decode cX0_needSettable 31 = .ok (.ifCond .eq 17, 3) := by decide +kernel
theorem dX0_needSettable_34 : decode cX0_needSettable 34 = .ok (.aload_n 0, 1) := by decide +kernel
theorem dX0_needSettable_35 : decode cX0_needSettable 35 = .ok (.iload_n 3, 1) := by decide +kernel
theorem dX0_needSettable_36 : decode cX0_needSettable 36 = .ok (.aload_n 0, 1) := by decide +kernel
theorem dX0_needSettable_37 : decode cX0_needSettable 37 = .ok (.getfield 39, 3) := by decide +kernel
theorem dX0_needSettable_40 : decode cX0_needSettable 40 = .ok (.iload_n 1, 1) := by decide +kernel
theorem dX0_needSettable_41 : decode cX0_needSettable 41 = .ok (.iaload, 1) := by decide +kernel
theorem dX0_needSettable_42 : decode cX0_needSettable 42 = .ok (.invokevirtual 171, 3) := by decide +kernel
theorem dX0_needSettable_45 : decode cX0_needSettable 45 = .ok (.ifCond .ne 13, 3) := by decide +kernel
theorem dX0_needSettable_48 : decode cX0_needSettable 48 = .ok (.new 75, 3) := by decide +kernel
theorem dX0_needSettable_51 : decode cX0_needSettable 51 = .ok (.dup, 1) := by decide +kernel
theorem dX0_needSettable_52 : decode cX0_needSettable 52 = .ok (.ldc 202, 2) := by decide +kernel
theorem dX0_needSettable_54 : decode cX0_needSettable 54 = .ok (.invokespecial 79, 3) := by decide +kernel
theorem dX0_needSettable_57 : decode cX0_needSettable 57 = .ok (.athrow, 1) := by decide +kernel
theorem dX0_needSettable_58 : decode cX0_needSettable 58 = .ok (.aload_n 0, 1) := by decide +kernel
theorem dX0_needSettable_59 : decode cX0_needSettable 59 = .ok (.getfield 33, 3) := by decide +kernel
theorem dX0_needSettable_62 : decode cX0_needSettable 62 = .ok (.iload_n 1, 1) := by decide +kernel
theorem dX0_needSettable_63 : decode cX0_needSettable 63 = .ok (.iaload, 1) := by decide +kernel
theorem dX0_needSettable_64 : decode cX0_needSettable 64 = .ok (.iconst 4, 1) := by decide +kernel
theorem dX0_needSettable_65 : decode cX0_needSettable 65 = .ok (.if_icmp .ne 18, 3) := by decide +kernel
theorem dX0_needSettable_68 : decode cX0_needSettable 68 = .ok (.iload_n 2, 1) := by decide +kernel
theorem dX0_needSettable_69 : decode cX0_needSettable 69 = .ok (.iload_n 3, 1) := by decide +kernel
theorem dX0_needSettable_70 : decode cX0_needSettable 70 = .ok (.if_icmp .ne 13, 3) := by decide +kernel
theorem dX0_needSettable_73 : decode cX0_needSettable 73 = .ok (.new 75, 3) := by decide +kernel
theorem dX0_needSettable_76 : decode cX0_needSettable 76 = .ok (.dup, 1) := by decide +kernel
theorem dX0_needSettable_77 : decode cX0_needSettable 77 = .ok (.ldc 204, 2) := by decide +kernel
theorem dX0_needSettable_79 : decode cX0_needSettable 79 = .ok (.invokespecial 79, 3) := by decide +kernel
theorem dX0_needSettable_82 : decode cX0_needSettable 82 = .ok (.athrow, 1) := by decide +kernel
theorem dX0_needSettable_83 : decode cX0_needSettable 83 = .ok (.return_, 1) := by decide +kernel
theorem dX0_isOfKind_0 : decode cX0_isOfKind 0 = .ok (.iload_n 2, 1) := by decide +kernel
theorem dX0_isOfKind_1 : decode cX0_isOfKind 1 = .ok (.iconst (-1), 1) := by decide +kernel
theorem dX0_isOfKind_2 : decode cX0_isOfKind 2 = .ok (.if_icmp .eq 13, 3) := by decide +kernel
theorem dX0_isOfKind_5 : decode cX0_isOfKind 5 = .ok (.aload_n 0, 1) := by decide +kernel
theorem dX0_isOfKind_6 : decode cX0_isOfKind 6 = .ok (.getfield 26, 3) := by decide +kernel
theorem dX0_isOfKind_9 : decode cX0_isOfKind 9 = .ok (.iload_n 1, 1) := by decide +kernel
theorem dX0_isOfKind_10 : decode cX0_isOfKind 10 = .ok (.iaload, 1) := by decide +kernel
theorem dX0_isOfKind_11 : decode cX0_isOfKind 11 = .ok (.iload_n 2, 1) := by decide +kernel
theorem dX0_isOfKind_12 : decode cX0_isOfKind 12 = .ok (.if_icmp .ne 7, 3) := by decide +kernel
theorem dX0_isOfKind_15 : decode cX0_isOfKind 15 = .ok (.iconst 1, 1) := by decide +kernel
theorem dX0_isOfKind_16 : decode cX0_isOfKind 16 = .ok (.goto 4, 3) := by decide +kernel
theorem dX0_isOfKind_19 : decode cX0_isOfKind 19 = .ok (.iconst 0, 1) := by decide +kernel
theorem dX0_isOfKind_20 : decode cX0_isOfKind 20 = .ok (.ireturn, 1) := by decide +kernel
theorem dX0_isByCondition_0 : decode cX0_isByCondition 0 = .ok (.aload_n 0, 1) := by decide +kernel
theorem dX0_isByCondition_1 : decode cX0_isByCondition 1 = .ok (.getfield 33, 3) := by decide +kernel
theorem dX0_isByCondition_4 : decode cX0_isByCondition 4 = .ok (.iload_n 1, 1) := by decide +kernel
theorem dX0_isByCondition_5 : decode cX0_isByCondition 5 = .ok (.iaload, 1) := by decide +kernel
theorem dX0_isByCondition_6 : decode cX0_isByCondition 6 = .ok (.bipush 10, 2) := by decide +kernel
theorem dX0_isByCondition_8 : decode cX0_isByCondition 8 = .ok (.if_icmp .lt 7, 3) := by decide +kernel
theorem dX0_isByCondition_11 : decode cX0_isByCondition 11 = .ok (.iconst 1, 1) := by decide +kernel
theorem dX0_isByCondition_12 : decode cX0_isByCondition 12 = .ok (.goto 4, 3) := by decide +kernel
theorem dX0_isByCondition_15 : decode cX0_isByCondition 15 = .ok (.iconst 0, 1) := by decide +kernel
theorem dX0_isByCondition_16 : decode cX0_isByCondition 16 = .ok (.ireturn, 1) := by decide +kernel
theorem dX0_takesTwo_0 : decode cX0_takesTwo 0 = .ok (.iload_n 0, 1) := by decide +kernel
theorem dX0_takesTwo_1 : decode cX0_takesTwo 1 = .ok (.iconst 2, 1) := by decide +kernel
theorem dX0_takesTwo_2 : decode cX0_takesTwo 2 = .ok (.if_icmp .eq 13, 3) := by decide +kernel
theorem dX0_takesTwo_5 : decode cX0_takesTwo 5 = .ok (.iload_n 0, 1) := by decide +kernel
theorem dX0_takesTwo_6 : decode cX0_takesTwo 6 = .ok (.iconst 3, 1) := by decide +kernel
theorem dX0_takesTwo_7 : decode cX0_takesTwo 7 = .ok (.if_icmp .eq 8, 3) := by decide +kernel
theorem dX0_takesTwo_10 : decode cX0_takesTwo 10 = .ok (.iload_n 0, 1) := by decide +kernel
theorem dX0_takesTwo_11 : decode cX0_takesTwo 11 = .ok (.iconst 4, 1) := by decide +kernel
theorem dX0_takesTwo_12 : decode cX0_takesTwo 12 = .ok (.if_icmp .ne 7, 3) := by decide +kernel
theorem dX0_takesTwo_15 : decode cX0_takesTwo 15 = .ok (.iconst 1, 1) := by decide +kernel
theorem dX0_takesTwo_16 : decode cX0_takesTwo 16 = .ok (.goto 4, 3) := by decide +kernel
theorem dX0_takesTwo_19 : decode cX0_takesTwo 19 = .ok (.iconst 0, 1) := by decide +kernel
theorem dX0_takesTwo_20 : decode cX0_takesTwo 20 = .ok (.ireturn, 1) := by decide +kernel
theorem dX0_addRelation_0 : decode cX0_addRelation 0 = .ok (.aload_n 0, 1) := by decide +kernel
theorem dX0_addRelation_1 : decode cX0_addRelation 1 = .ok (.getfield 56, 3) := by decide +kernel
theorem dX0_addRelation_4 : decode cX0_addRelation 4 = .ok (.istore 4, 2) := by decide +kernel
theorem dX0_addRelation_6 : decode cX0_addRelation 6 = .ok (.aload_n 0, 1) := by decide +kernel
theorem dX0_addRelation_7 : decode cX0_addRelation 7 = .ok (.getfield 33, 3) := by decide +kernel
theorem dX0_addRelation_10 : decode cX0_addRelation 10 = .ok (.iload 4, 2) := by decide +kernel
theorem dX0_addRelation_12 : decode cX0_addRelation 12 = .ok (.iload_n 1, 1) := by decide +kernel
theorem dX0_addRelation_13 : decode cX0_addRelation 13 = .ok (.iastore, 1) := by decide +kernel
theorem dX0_addRelation_14 : decode cX0_addRelation 14 = .ok (.aload_n 0, 1) := by decide +kernel
theorem dX0_addRelation_15 : decode cX0_addRelation 15 = .ok (.getfield 36, 3) := by decide +kernel
theorem dX0_addRelation_18 : decode cX0_addRelation 18 = .ok (.iload 4, 2) := by decide +kernel
theorem dX0_addRelation_20 : decode cX0_addRelation 20 = .ok (.iload_n 2, 1) := by decide +kernel
theorem dX0_addRelation_21 : decode cX0_addRelation 21 = .ok (.iastore, 1) := by decide +kernel
theorem dX0_addRelation_22 : decode cX0_addRelation 22 = .ok (.aload_n 0, 1) := by decide +kernel
theorem dX0_addRelation_23 : decode cX0_addRelation 23 = .ok (.getfield 39, 3) := by decide +kernel
theorem dX0_addRelation_26 : decode cX0_addRelation 26 = .ok (.iload 4, 2) := by decide +kernel
theorem dX0_addRelation_28 : decode cX0_addRelation 28 = .ok (.iload_n 3, 1) := by decide +kernel
theorem dX0_addRelation_29 : decode cX0_addRelation 29 = .ok (.iastore, 1) := by decide +kernel
theorem dX0_addRelation_30 : decode cX0_addRelation 30 = .ok (.aload_n 0, 1) := by decide +kernel
theorem dX0_addRelation_31 : decode cX0_addRelation 31 = .ok (.dup, 1) := by decide +kernel
theorem dX0_addRelation_32 : decode cX0_addRelation 32 = .ok (.getfield 56, 3) := by decide +kernel
theorem dX0_addRelation_35 : decode cX0_addRelation 35 = .ok (.iconst 1, 1) := by decide +kernel
theorem dX0_addRelation_36 : decode cX0_addRelation 36 = .ok (.iadd, 1) := by decide +kernel
theorem dX0_addRelation_37 : decode cX0_addRelation 37 = .ok (.putfield 56, 3) := by decide +kernel
theorem dX0_addRelation_40 : decode cX0_addRelation 40 = .ok (.iload 4, 2) := by decide +kernel
theorem dX0_addRelation_42 : decode cX0_addRelation 42 = .ok (.ireturn, 1) := by decide +kernel
theorem dX0_startRows_0 : decode cX0_startRows 0 = .ok (.aload_n 0, 1) := by decide +kernel
theorem dX0_startRows_1 : decode cX0_startRows 1 = .ok (.getfield 33, 3) := by decide +kernel
theorem dX0_startRows_4 : decode cX0_startRows 4 = .ok (.iload_n 1, 1) := by decide +kernel
theorem dX0_startRows_5 : decode cX0_startRows 5 = .ok (.iaload, 1) := by decide +kernel
theorem dX0_startRows_6 : decode cX0_startRows 6 = .ok (.bipush 6, 2) := by decide +kernel
theorem dX0_startRows_8 : decode cX0_startRows 8 = .ok (.if_icmp .ne 7, 3) := by decide +kernel
theorem dX0_startRows_11 : decode cX0_startRows 11 = .ok (.iconst 1, 1) := by decide +kernel
theorem dX0_startRows_12 : decode cX0_startRows 12 = .ok (.goto 4, 3) := by decide +kernel
theorem dX0_startRows_15 : decode cX0_startRows 15 = .ok (.iconst 0, 1) := by decide +kernel
theorem dX0_startRows_16 : decode cX0_startRows 16 = .ok (.istore_n 2, 1) := by decide +kernel
theorem dX0_startRows_17 : decode cX0_startRows 17 = .ok (.iconst 0, 1) := by decide +kernel
theorem dX0_startRows_18 : decode cX0_startRows 18 = .ok (.istore_n 3, 1) := by decide +kernel
theorem dX0_startRows_19 : decode cX0_startRows 19 = .ok (.iload_n 3, 1) := by decide +kernel
theorem dX0_startRows_20 : decode cX0_startRows 20 = .ok (.aload_n 0, 1) := by decide +kernel
theorem dX0_startRows_21 : decode cX0_startRows 21 = .ok (.getfield 18, 3) := by decide +kernel
theorem dX0_startRows_24 : decode cX0_startRows 24 = .ok (.if_icmp .ge 43, 3) := by decide +kernel
theorem dX0_startRows_27 : decode cX0_startRows 27 = .ok (.aload_n 0, 1) := by decide +kernel
theorem dX0_startRows_28 : decode cX0_startRows 28 = .ok (.getfield 44, 3) := by decide +kernel
theorem dX0_startRows_31 : decode cX0_startRows 31 = .ok (.iload_n 1, 1) := by decide +kernel
theorem dX0_startRows_32 : decode cX0_startRows 32 = .ok (.aaload, 1) := by decide +kernel
theorem dX0_startRows_33 : decode cX0_startRows 33 = .ok (.iload_n 3, 1) := by decide +kernel
theorem dX0_startRows_34 : decode cX0_startRows 34 = .ok (.iload_n 2, 1) := by decide +kernel
theorem dX0_startRows_35 : decode cX0_startRows 35 = .ok (.ifCond .eq 24, 3) := by decide +kernel
theorem dX0_startRows_38 : decode cX0_startRows 38 = .ok (.aload_n 0, 1) := by decide +kernel
theorem dX0_startRows_39 : decode cX0_startRows 39 = .ok (.iload_n 3, 1) := by decide +kernel
theorem dX0_startRows_40 : decode cX0_startRows 40 = .ok (.aload_n 0, 1) := by decide +kernel
theorem dX0_startRows_41 : decode cX0_startRows 41 = .ok (.getfield 36, 3) := by decide +kernel
theorem dX0_startRows_44 : decode cX0_startRows 44 = .ok (.iload_n 1, 1) := by decide +kernel
theorem dX0_startRows_45 : decode cX0_startRows 45 = .ok (.iaload, 1) := by decide +kernel
theorem dX0_startRows_46 : decode cX0_startRows 46 = .ok (.invokevirtual 171, 3) := by decide +kernel
theorem dX0_startRows_49 : decode cX0_startRows 49 = .ok (.ifCond .eq 10, 3) := by decide +kernel
theorem dX0_startRows_52 : decode cX0_startRows 52 = .ok (.iload_n 3, 1) := by decide +kernel
theorem dX0_startRows_53 : decode cX0_startRows 53 = .ok (.invokestatic 206, 3) := by decide +kernel
theorem dX0_startRows_56 : decode cX0_startRows 56 = .ok (.goto 4, 3) := by decide +kernel
theorem dX0_startRows_59 : decode cX0_startRows 59 = .ok (.lconst 0, 1) := by decide +kernel
theorem dX0_startRows_60 : decode cX0_startRows 60 = .ok (.lastore, 1) := by decide +kernel
theorem dX0_startRows_61 : decode cX0_startRows 61 = .ok (.iinc 3 1, 3) := by decide +kernel
theorem dX0_startRows_64 : decode cX0_startRows 64 = .ok (.goto (-45), 3) := by decide +kernel
theorem dX0_startRows_67 : decode cX0_startRows 67 = .ok (.return_, 1) := by decide +kernel
theorem dX0_bit_0 : decode cX0_bit 0 = .ok (.lconst 1, 1) := by decide +kernel
theorem dX0_bit_1 : decode cX0_bit 1 = .ok (.iload_n 0, 1) := by decide +kernel
theorem dX0_bit_2 : decode cX0_bit 2 = .ok (.lshl, 1) := by decide +kernel
theorem dX0_bit_3 : decode cX0_bit 3 = .ok (.lreturn, 1) := by decide +kernel
theorem dX0_holds_0 : decode cX0_holds 0 = .ok (.aload_n 0, 1) := by decide +kernel
theorem dX0_holds_1 : decode cX0_holds 1 = .ok (.getfield 44, 3) := by decide +kernel
theorem dX0_holds_4 : decode cX0_holds 4 = .ok (.iload_n 1, 1) := by decide +kernel
theorem dX0_holds_5 : decode cX0_holds 5 = .ok (.aaload, 1) := by decide +kernel
theorem dX0_holds_6 : decode cX0_holds 6 = .ok (.iload_n 2, 1) := by decide +kernel
theorem dX0_holds_7 : decode cX0_holds 7 = .ok (.laload, 1) := by decide +kernel
theorem dX0_holds_8 : decode cX0_holds 8 = .ok (.iload_n 3, 1) := by decide +kernel
theorem dX0_holds_9 : decode cX0_holds 9 = .ok (.invokestatic 206, 3) := by decide +kernel
theorem dX0_holds_12 : decode cX0_holds 12 = .ok (.land, 1) := by decide +kernel
theorem dX0_holds_13 : decode cX0_holds 13 = .ok (.lconst 0, 1) := by decide +kernel
theorem dX0_holds_14 : decode cX0_holds 14 = .ok (.lcmp, 1) := by decide +kernel
theorem dX0_holds_15 : decode cX0_holds 15 = .ok (.ifCond .eq 7, 3) := by decide +kernel
theorem dX0_holds_18 : decode cX0_holds 18 = .ok (.iconst 1, 1) := by decide +kernel
theorem dX0_holds_19 : decode cX0_holds 19 = .ok (.goto 4, 3) := by decide +kernel
theorem dX0_holds_22 : decode cX0_holds 22 = .ok (.iconst 0, 1) := by decide +kernel
theorem dX0_holds_23 : decode cX0_holds 23 = .ok (.ireturn, 1) := by decide +kernel
theorem dX0_column_0 : decode cX0_column 0 = .ok (.lconst 0, 1) := by decide +kernel
theorem dX0_column_1 : decode cX0_column 1 = .ok (.lstore_n 3, 1) := by decide +kernel
theorem dX0_column_2 : decode cX0_column 2 = .ok (.iconst 0, 1) := by decide +kernel
theorem dX0_column_3 : decode cX0_column 3 = .ok (.istore 5, 2) := by decide +kernel
theorem dX0_column_5 : decode cX0_column 5 = .ok (.iload 5, 2) := by decide +kernel
theorem dX0_column_7 : decode cX0_column 7 = .ok (.aload_n 0, 1) := by decide +kernel
theorem dX0_column_8 : decode cX0_column 8 = .ok (.getfield 18, 3) := by decide +kernel
theorem dX0_column_11 : decode cX0_column 11 = .ok (.if_icmp .ge 28, 3) := by decide +kernel
theorem dX0_column_14 : decode cX0_column 14 = .ok (.aload_n 0, 1) := by decide +kernel
theorem dX0_column_15 : decode cX0_column 15 = .ok (.iload_n 1, 1) := by decide +kernel
theorem dX0_column_16 : decode cX0_column 16 = .ok (.iload 5, 2) := by decide +kernel
theorem dX0_column_18 : decode cX0_column 18 = .ok (.iload_n 2, 1) := by decide +kernel
theorem dX0_column_19 : decode cX0_column 19 = .ok (.invokevirtual 119, 3) := by decide +kernel
theorem dX0_column_22 : decode cX0_column 22 = .ok (.ifCond .eq 11, 3) := by decide +kernel
theorem dX0_column_25 : decode cX0_column 25 = .ok (.lload_n 3, 1) := by decide +kernel
theorem dX0_column_26 : decode cX0_column 26 = .ok (.iload 5, 2) := by decide +kernel
theorem dX0_column_28 : decode cX0_column 28 = .ok (.invokestatic 206, 3) := by decide +kernel
theorem dX0_column_31 : decode cX0_column 31 = .ok (.lor, 1) := by decide +kernel
theorem dX0_column_32 : decode cX0_column 32 = .ok (.lstore_n 3, 1) := by decide +kernel
theorem dX0_column_33 : decode cX0_column 33 = .ok (.iinc 5 1, 3) := by decide +kernel
theorem dX0_column_36 : decode cX0_column 36 = .ok (.goto (-31), 3) := by decide +kernel
theorem dX0_column_39 : decode cX0_column 39 = .ok (.lload_n 3, 1) := by decide +kernel
theorem dX0_column_40 : decode cX0_column 40 = .ok (.lreturn, 1) := by decide +kernel
theorem dX0_pairsOf_0 : decode cX0_pairsOf 0 = .ok (.iconst 0, 1) := by decide +kernel
theorem dX0_pairsOf_1 : decode cX0_pairsOf 1 = .ok (.istore_n 2, 1) := by decide +kernel
theorem dX0_pairsOf_2 : decode cX0_pairsOf 2 = .ok (.iconst 0, 1) := by decide +kernel
theorem dX0_pairsOf_3 : decode cX0_pairsOf 3 = .ok (.istore_n 3, 1) := by decide +kernel
theorem dX0_pairsOf_4 : decode cX0_pairsOf 4 = .ok (.iload_n 3, 1) := by decide +kernel
theorem dX0_pairsOf_5 : decode cX0_pairsOf 5 = .ok (.aload_n 0, 1) := by decide +kernel
theorem dX0_pairsOf_6 : decode cX0_pairsOf 6 = .ok (.getfield 18, 3) := by decide +kernel
theorem dX0_pairsOf_9 : decode cX0_pairsOf 9 = .ok (.if_icmp .ge 23, 3) := by decide +kernel
theorem dX0_pairsOf_12 : decode cX0_pairsOf 12 = .ok (.iload_n 2, 1) := by decide +kernel
theorem dX0_pairsOf_13 : decode cX0_pairsOf 13 = .ok (.aload_n 0, 1) := by decide +kernel
theorem dX0_pairsOf_14 : decode cX0_pairsOf 14 = .ok (.getfield 44, 3) := by decide +kernel
theorem dX0_pairsOf_17 : decode cX0_pairsOf 17 = .ok (.iload_n 1, 1) := by decide +kernel
theorem dX0_pairsOf_18 : decode cX0_pairsOf 18 = .ok (.aaload, 1) := by decide +kernel
theorem dX0_pairsOf_19 : decode cX0_pairsOf 19 = .ok (.iload_n 3, 1) := by decide +kernel
theorem dX0_pairsOf_20 : decode cX0_pairsOf 20 = .ok (.laload, 1) := by decide +kernel
theorem dX0_pairsOf_21 : decode cX0_pairsOf 21 = .ok (.invokestatic 210, 3) := by decide +kernel
theorem dX0_pairsOf_24 : decode cX0_pairsOf 24 = .ok (.iadd, 1) := by decide +kernel
theorem dX0_pairsOf_25 : decode cX0_pairsOf 25 = .ok (.istore_n 2, 1) := by decide +kernel
theorem dX0_pairsOf_26 : decode cX0_pairsOf 26 = .ok (.iinc 3 1, 3) := by decide +kernel
theorem dX0_pairsOf_29 : decode cX0_pairsOf 29 = .ok (.goto (-25), 3) := by decide +kernel
theorem dX0_pairsOf_32 : decode cX0_pairsOf 32 = .ok (.iload_n 2, 1) := by decide +kernel
theorem dX0_pairsOf_33 : decode cX0_pairsOf 33 = .ok (.ireturn, 1) := by decide +kernel
theorem dX0_pick_0 : decode cX0_pick 0 = .ok (.iload_n 3, 1) := by decide +kernel
theorem dX0_pick_1 : decode cX0_pick 1 = .ok (.ifCond .lt 11, 3) := by decide +kernel
theorem dX0_pick_4 : decode cX0_pick 4 = .ok (.iload_n 3, 1) := by decide +kernel
theorem dX0_pick_5 : decode cX0_pick 5 = .ok (.lload_n 1, 1) := by decide +kernel
theorem dX0_pick_6 : decode cX0_pick 6 = .ok (.invokestatic 210, 3) := by decide +kernel
theorem dX0_pick_9 : decode cX0_pick 9 = .ok (.if_icmp .lt 13, 3) := by decide +kernel
theorem dX0_pick_12 : decode cX0_pick 12 = .ok (.new 144, 3) := by decide +kernel
theorem dX0_pick_15 : decode cX0_pick 15 = .ok (.dup, 1) := by decide +kernel
theorem dX0_pick_16 : decode cX0_pick 16 = .ok (.ldc 213, 2) := by decide +kernel
theorem dX0_pick_18 : decode cX0_pick 18 = .ok (.invokespecial 148, 3) := by decide +kernel
theorem dX0_pick_21 : decode cX0_pick 21 = .ok (.athrow, 1) := by decide +kernel
theorem dX0_pick_22 : decode cX0_pick 22 = .ok (.lload_n 1, 1) := by decide +kernel
theorem dX0_pick_23 : decode cX0_pick 23 = .ok (.lstore 4, 2) := by decide +kernel
theorem dX0_pick_25 : decode cX0_pick 25 = .ok (.iconst 0, 1) := by decide +kernel
theorem dX0_pick_26 : decode cX0_pick 26 = .ok (.istore 6, 2) := by decide +kernel
theorem dX0_pick_28 : decode cX0_pick 28 = .ok (.iload 6, 2) := by decide +kernel
theorem dX0_pick_30 : decode cX0_pick 30 = .ok (.iload_n 3, 1) := by decide +kernel
theorem dX0_pick_31 : decode cX0_pick 31 = .ok (.if_icmp .ge 18, 3) := by decide +kernel
theorem dX0_pick_34 : decode cX0_pick 34 = .ok (.lload 4, 2) := by decide +kernel
theorem dX0_pick_36 : decode cX0_pick 36 = .ok (.lload 4, 2) := by decide +kernel
theorem dX0_pick_38 : decode cX0_pick 38 = .ok (.lconst 1, 1) := by decide +kernel
theorem dX0_pick_39 : decode cX0_pick 39 = .ok (.lsub, 1) := by decide +kernel
theorem dX0_pick_40 : decode cX0_pick 40 = .ok (.land, 1) := by decide +kernel
theorem dX0_pick_41 : decode cX0_pick 41 = .ok (.lstore 4, 2) := by decide +kernel
theorem dX0_pick_43 : decode cX0_pick 43 = .ok (.iinc 6 1, 3) := by decide +kernel
theorem dX0_pick_46 : decode cX0_pick 46 = .ok (.goto (-18), 3) := by decide +kernel
theorem dX0_pick_49 : decode cX0_pick 49 = .ok (.lload 4, 2) := by decide +kernel
theorem dX0_pick_51 : decode cX0_pick 51 = .ok (.invokestatic 177, 3) := by decide +kernel
theorem dX0_pick_54 : decode cX0_pick 54 = .ok (.ireturn, 1) := by decide +kernel
theorem dX0_pushOut_0 : decode cX0_pushOut 0 = .ok (.aload_n 0, 1) := by decide +kernel
theorem dX0_pushOut_1 : decode cX0_pushOut 1 = .ok (.getfield 33, 3) := by decide +kernel
theorem dX0_pushOut_4 : decode cX0_pushOut 4 = .ok (.iload_n 1, 1) := by decide +kernel
theorem dX0_pushOut_5 : decode cX0_pushOut 5 = .ok (.iaload, 1) := by decide +kernel
theorem dX0_pushOut_6 : decode cX0_pushOut 6 = .ok (.tableswitch 82 0 4 #[34, 49, 58, 82, 67], 34) := by decide +kernel
theorem dX0_pushOut_40 : decode cX0_pushOut 40 = .ok (.aload_n 0, 1) := by decide +kernel
theorem dX0_pushOut_41 : decode cX0_pushOut 41 = .ok (.iload_n 1, 1) := by decide +kernel
theorem dX0_pushOut_42 : decode cX0_pushOut 42 = .ok (.iload_n 2, 1) := by decide +kernel
theorem dX0_pushOut_43 : decode cX0_pushOut 43 = .ok (.invokevirtual 215, 3) := by decide +kernel
theorem dX0_pushOut_46 : decode cX0_pushOut 46 = .ok (.aload_n 0, 1) := by decide +kernel
theorem dX0_pushOut_47 : decode cX0_pushOut 47 = .ok (.iload_n 1, 1) := by decide +kernel
theorem dX0_pushOut_48 : decode cX0_pushOut 48 = .ok (.iload_n 3, 1) := by decide +kernel
theorem dX0_pushOut_49 : decode cX0_pushOut 49 = .ok (.invokevirtual 218, 3) := by decide +kernel
theorem dX0_pushOut_52 : decode cX0_pushOut 52 = .ok (.goto 36, 3) := by decide +kernel
theorem dX0_pushOut_55 : decode cX0_pushOut 55 = .ok (.aload_n 0, 1) := by decide +kernel
theorem dX0_pushOut_56 : decode cX0_pushOut 56 = .ok (.iload_n 1, 1) := by decide +kernel
theorem dX0_pushOut_57 : decode cX0_pushOut 57 = .ok (.iload_n 3, 1) := by decide +kernel
theorem dX0_pushOut_58 : decode cX0_pushOut 58 = .ok (.invokevirtual 218, 3) := by decide +kernel
theorem dX0_pushOut_61 : decode cX0_pushOut 61 = .ok (.goto 27, 3) := by decide +kernel
theorem dX0_pushOut_64 : decode cX0_pushOut 64 = .ok (.aload_n 0, 1) := by decide +kernel
theorem dX0_pushOut_65 : decode cX0_pushOut 65 = .ok (.iload_n 1, 1) := by decide +kernel
theorem dX0_pushOut_66 : decode cX0_pushOut 66 = .ok (.iload_n 2, 1) := by decide +kernel
theorem dX0_pushOut_67 : decode cX0_pushOut 67 = .ok (.invokevirtual 215, 3) := by decide +kernel
theorem dX0_pushOut_70 : decode cX0_pushOut 70 = .ok (.goto 18, 3) := by decide +kernel
theorem dX0_pushOut_73 : decode cX0_pushOut 73 = .ok (.aload_n 0, 1) := by decide +kernel
theorem dX0_pushOut_74 : decode cX0_pushOut 74 = .ok (.iload_n 1, 1) := by decide +kernel
theorem dX0_pushOut_75 : decode cX0_pushOut 75 = .ok (.iload_n 2, 1) := by decide +kernel
theorem dX0_pushOut_76 : decode cX0_pushOut 76 = .ok (.invokevirtual 215, 3) := by decide +kernel
theorem dX0_pushOut_79 : decode cX0_pushOut 79 = .ok (.aload_n 0, 1) := by decide +kernel
theorem dX0_pushOut_80 : decode cX0_pushOut 80 = .ok (.iload_n 1, 1) := by decide +kernel
theorem dX0_pushOut_81 : decode cX0_pushOut 81 = .ok (.iload_n 3, 1) := by decide +kernel
theorem dX0_pushOut_82 : decode cX0_pushOut 82 = .ok (.invokevirtual 215, 3) := by decide +kernel
theorem dX0_pushOut_85 : decode cX0_pushOut 85 = .ok (.goto 3, 3) := by decide +kernel
theorem dX0_pushOut_88 : decode cX0_pushOut 88 = .ok (.return_, 1) := by decide +kernel
theorem dX0_pushRow_0 : decode cX0_pushRow 0 = .ok (.iconst 0, 1) := by decide +kernel
theorem dX0_pushRow_1 : decode cX0_pushRow 1 = .ok (.istore_n 3, 1) := by decide +kernel
theorem dX0_pushRow_2 : decode cX0_pushRow 2 = .ok (.iload_n 3, 1) := by decide +kernel
theorem dX0_pushRow_3 : decode cX0_pushRow 3 = .ok (.aload_n 0, 1) := by decide +kernel
theorem dX0_pushRow_4 : decode cX0_pushRow 4 = .ok (.getfield 18, 3) := by decide +kernel
theorem dX0_pushRow_7 : decode cX0_pushRow 7 = .ok (.if_icmp .ge 26, 3) := by decide +kernel
theorem dX0_pushRow_10 : decode cX0_pushRow 10 = .ok (.aload_n 0, 1) := by decide +kernel
theorem dX0_pushRow_11 : decode cX0_pushRow 11 = .ok (.iload_n 1, 1) := by decide +kernel
theorem dX0_pushRow_12 : decode cX0_pushRow 12 = .ok (.iload_n 2, 1) := by decide +kernel
theorem dX0_pushRow_13 : decode cX0_pushRow 13 = .ok (.iload_n 3, 1) := by decide +kernel
theorem dX0_pushRow_14 : decode cX0_pushRow 14 = .ok (.invokevirtual 119, 3) := by decide +kernel
theorem dX0_pushRow_17 : decode cX0_pushRow 17 = .ok (.ifCond .eq 10, 3) := by decide +kernel
theorem dX0_pushRow_20 : decode cX0_pushRow 20 = .ok (.aload_n 0, 1) := by decide +kernel
theorem dX0_pushRow_21 : decode cX0_pushRow 21 = .ok (.iload_n 1, 1) := by decide +kernel
theorem dX0_pushRow_22 : decode cX0_pushRow 22 = .ok (.iload_n 2, 1) := by decide +kernel
theorem dX0_pushRow_23 : decode cX0_pushRow 23 = .ok (.iload_n 3, 1) := by decide +kernel
theorem dX0_pushRow_24 : decode cX0_pushRow 24 = .ok (.invokevirtual 221, 3) := by decide +kernel
theorem dX0_pushRow_27 : decode cX0_pushRow 27 = .ok (.iinc 3 1, 3) := by decide +kernel
theorem dX0_pushRow_30 : decode cX0_pushRow 30 = .ok (.goto (-28), 3) := by decide +kernel
theorem dX0_pushRow_33 : decode cX0_pushRow 33 = .ok (.return_, 1) := by decide +kernel
theorem dX0_pushColumn_0 : decode cX0_pushColumn 0 = .ok (.iconst 0, 1) := by decide +kernel
theorem dX0_pushColumn_1 : decode cX0_pushColumn 1 = .ok (.istore_n 3, 1) := by decide +kernel
theorem dX0_pushColumn_2 : decode cX0_pushColumn 2 = .ok (.iload_n 3, 1) := by decide +kernel
theorem dX0_pushColumn_3 : decode cX0_pushColumn 3 = .ok (.aload_n 0, 1) := by decide +kernel
theorem dX0_pushColumn_4 : decode cX0_pushColumn 4 = .ok (.getfield 18, 3) := by decide +kernel
theorem dX0_pushColumn_7 : decode cX0_pushColumn 7 = .ok (.if_icmp .ge 26, 3) := by decide +kernel
theorem dX0_pushColumn_10 : decode cX0_pushColumn 10 = .ok (.aload_n 0, 1) := by decide +kernel
theorem dX0_pushColumn_11 : decode cX0_pushColumn 11 = .ok (.iload_n 1, 1) := by decide +kernel
theorem dX0_pushColumn_12 : decode cX0_pushColumn 12 = .ok (.iload_n 3, 1) := by decide +kernel
theorem dX0_pushColumn_13 : decode cX0_pushColumn 13 = .ok (.iload_n 2, 1) := by decide +kernel
theorem dX0_pushColumn_14 : decode cX0_pushColumn 14 = .ok (.invokevirtual 119, 3) := by decide +kernel
theorem dX0_pushColumn_17 : decode cX0_pushColumn 17 = .ok (.ifCond .eq 10, 3) := by decide +kernel
theorem dX0_pushColumn_20 : decode cX0_pushColumn 20 = .ok (.aload_n 0, 1) := by decide +kernel
theorem dX0_pushColumn_21 : decode cX0_pushColumn 21 = .ok (.iload_n 1, 1) := by decide +kernel
theorem dX0_pushColumn_22 : decode cX0_pushColumn 22 = .ok (.iload_n 3, 1) := by decide +kernel
theorem dX0_pushColumn_23 : decode cX0_pushColumn 23 = .ok (.iload_n 2, 1) := by decide +kernel
theorem dX0_pushColumn_24 : decode cX0_pushColumn 24 = .ok (.invokevirtual 221, 3) := by decide +kernel
theorem dX0_pushColumn_27 : decode cX0_pushColumn 27 = .ok (.iinc 3 1, 3) := by decide +kernel
theorem dX0_pushColumn_30 : decode cX0_pushColumn 30 = .ok (.goto (-28), 3) := by decide +kernel
theorem dX0_pushColumn_33 : decode cX0_pushColumn 33 = .ok (.return_, 1) := by decide +kernel
theorem dX0_pushPair_0 : decode cX0_pushPair 0 = .ok (.aload_n 0, 1) := by decide +kernel
theorem dX0_pushPair_1 : decode cX0_pushPair 1 = .ok (.iload_n 1, 1) := by decide +kernel
theorem dX0_pushPair_2 : decode cX0_pushPair 2 = .ok (.iload_n 2, 1) := by decide +kernel
theorem dX0_pushPair_3 : decode cX0_pushPair 3 = .ok (.iload_n 3, 1) := by decide +kernel
theorem dX0_pushPair_4 : decode cX0_pushPair 4 = .ok (.invokevirtual 132, 3) := by decide +kernel
theorem dX0_pushPair_7 : decode cX0_pushPair 7 = .ok (.aload_n 0, 1) := by decide +kernel
theorem dX0_pushPair_8 : decode cX0_pushPair 8 = .ok (.getfield 62, 3) := by decide +kernel
theorem dX0_pushPair_11 : decode cX0_pushPair 11 = .ok (.iconst 2, 1) := by decide +kernel
theorem dX0_pushPair_12 : decode cX0_pushPair 12 = .ok (.if_icmp .ge 33, 3) := by decide +kernel
theorem dX0_pushPair_15 : decode cX0_pushPair 15 = .ok (.aload_n 0, 1) := by decide +kernel
theorem dX0_pushPair_16 : decode cX0_pushPair 16 = .ok (.getfield 47, 3) := by decide +kernel
theorem dX0_pushPair_19 : decode cX0_pushPair 19 = .ok (.aload_n 0, 1) := by decide +kernel
theorem dX0_pushPair_20 : decode cX0_pushPair 20 = .ok (.getfield 62, 3) := by decide +kernel
theorem dX0_pushPair_23 : decode cX0_pushPair 23 = .ok (.iload_n 2, 1) := by decide +kernel
theorem dX0_pushPair_24 : decode cX0_pushPair 24 = .ok (.iastore, 1) := by decide +kernel
theorem dX0_pushPair_25 : decode cX0_pushPair 25 = .ok (.aload_n 0, 1) := by decide +kernel
theorem dX0_pushPair_26 : decode cX0_pushPair 26 = .ok (.getfield 50, 3) := by decide +kernel
theorem dX0_pushPair_29 : decode cX0_pushPair 29 = .ok (.aload_n 0, 1) := by decide +kernel
theorem dX0_pushPair_30 : decode cX0_pushPair 30 = .ok (.getfield 62, 3) := by decide +kernel
theorem dX0_pushPair_33 : decode cX0_pushPair 33 = .ok (.iload_n 3, 1) := by decide +kernel
theorem dX0_pushPair_34 : decode cX0_pushPair 34 = .ok (.iastore, 1) := by decide +kernel
theorem dX0_pushPair_35 : decode cX0_pushPair 35 = .ok (.aload_n 0, 1) := by decide +kernel
theorem dX0_pushPair_36 : decode cX0_pushPair 36 = .ok (.dup, 1) := by decide +kernel
theorem dX0_pushPair_37 : decode cX0_pushPair 37 = .ok (.getfield 62, 3) := by decide +kernel
theorem dX0_pushPair_40 : decode cX0_pushPair 40 = .ok (.iconst 1, 1) := by decide +kernel
theorem dX0_pushPair_41 : decode cX0_pushPair 41 = .ok (.iadd, 1) := by decide +kernel
theorem dX0_pushPair_42 : decode cX0_pushPair 42 = .ok (.putfield 62, 3) := by decide +kernel
theorem dX0_pushPair_45 : decode cX0_pushPair 45 = .ok (.return_, 1) := by decide +kernel
theorem dX0_goesBothWays_0 : decode cX0_goesBothWays 0 = .ok (.aload_n 0, 1) := by decide +kernel
theorem dX0_goesBothWays_1 : decode cX0_goesBothWays 1 = .ok (.getfield 33, 3) := by decide +kernel
theorem dX0_goesBothWays_4 : decode cX0_goesBothWays 4 = .ok (.iload_n 1, 1) := by decide +kernel
theorem dX0_goesBothWays_5 : decode cX0_goesBothWays 5 = .ok (.iaload, 1) := by decide +kernel
theorem dX0_goesBothWays_6 : decode cX0_goesBothWays 6 = .ok (.iconst 4, 1) := by decide +kernel
theorem dX0_goesBothWays_7 : decode cX0_goesBothWays 7 = .ok (.if_icmp .eq 13, 3) := by decide +kernel
theorem dX0_goesBothWays_10 : decode cX0_goesBothWays 10 = .ok (.aload_n 0, 1) := by decide +kernel
theorem dX0_goesBothWays_11 : decode cX0_goesBothWays 11 = .ok (.getfield 33, 3) := by decide +kernel
theorem dX0_goesBothWays_14 : decode cX0_goesBothWays 14 = .ok (.iload_n 1, 1) := by decide +kernel
theorem dX0_goesBothWays_15 : decode cX0_goesBothWays 15 = .ok (.iaload, 1) := by decide +kernel
theorem dX0_goesBothWays_16 : decode cX0_goesBothWays 16 = .ok (.iconst 5, 1) := by decide +kernel
theorem dX0_goesBothWays_17 : decode cX0_goesBothWays 17 = .ok (.if_icmp .ne 7, 3) := by decide +kernel
theorem dX0_goesBothWays_20 : decode cX0_goesBothWays 20 = .ok (.iconst 1, 1) := by decide +kernel
theorem dX0_goesBothWays_21 : decode cX0_goesBothWays 21 = .ok (.goto 4, 3) := by decide +kernel
theorem dX0_goesBothWays_24 : decode cX0_goesBothWays 24 = .ok (.iconst 0, 1) := by decide +kernel
theorem dX0_goesBothWays_25 : decode cX0_goesBothWays 25 = .ok (.ireturn, 1) := by decide +kernel
theorem dX0_join_0 : decode cX0_join 0 = .ok (.aload_n 0, 1) := by decide +kernel
theorem dX0_join_1 : decode cX0_join 1 = .ok (.getfield 33, 3) := by decide +kernel
theorem dX0_join_4 : decode cX0_join 4 = .ok (.iload_n 1, 1) := by decide +kernel
theorem dX0_join_5 : decode cX0_join 5 = .ok (.iaload, 1) := by decide +kernel
theorem dX0_join_6 : decode cX0_join 6 = .ok (.bipush 6, 2) := by decide +kernel
theorem dX0_join_8 : decode cX0_join 8 = .ok (.if_icmp .ne 26, 3) := by decide +kernel
theorem dX0_join_11 : decode cX0_join 11 = .ok (.aload_n 0, 1) := by decide +kernel
theorem dX0_join_12 : decode cX0_join 12 = .ok (.iload_n 1, 1) := by decide +kernel
theorem dX0_join_13 : decode cX0_join 13 = .ok (.aload_n 0, 1) := by decide +kernel
theorem dX0_join_14 : decode cX0_join 14 = .ok (.getfield 44, 3) := by decide +kernel
theorem dX0_join_17 : decode cX0_join 17 = .ok (.iload_n 1, 1) := by decide +kernel
theorem dX0_join_18 : decode cX0_join 18 = .ok (.aaload, 1) := by decide +kernel
theorem dX0_join_19 : decode cX0_join 19 = .ok (.iload_n 2, 1) := by decide +kernel
theorem dX0_join_20 : decode cX0_join 20 = .ok (.laload, 1) := by decide +kernel
theorem dX0_join_21 : decode cX0_join 21 = .ok (.aload_n 0, 1) := by decide +kernel
theorem dX0_join_22 : decode cX0_join 22 = .ok (.getfield 44, 3) := by decide +kernel
theorem dX0_join_25 : decode cX0_join 25 = .ok (.iload_n 1, 1) := by decide +kernel
theorem dX0_join_26 : decode cX0_join 26 = .ok (.aaload, 1) := by decide +kernel
theorem dX0_join_27 : decode cX0_join 27 = .ok (.iload_n 3, 1) := by decide +kernel
theorem dX0_join_28 : decode cX0_join 28 = .ok (.laload, 1) := by decide +kernel
theorem dX0_join_29 : decode cX0_join 29 = .ok (.lor, 1) := by decide +kernel
theorem dX0_join_30 : decode cX0_join 30 = .ok (.invokevirtual 224, 3) := by decide +kernel
theorem dX0_join_33 : decode cX0_join 33 = .ok (.return_, 1) := by decide +kernel
theorem dX0_join_34 : decode cX0_join 34 = .ok (.aload_n 0, 1) := by decide +kernel
theorem dX0_join_35 : decode cX0_join 35 = .ok (.getfield 44, 3) := by decide +kernel
theorem dX0_join_38 : decode cX0_join 38 = .ok (.iload_n 1, 1) := by decide +kernel
theorem dX0_join_39 : decode cX0_join 39 = .ok (.aaload, 1) := by decide +kernel
theorem dX0_join_40 : decode cX0_join 40 = .ok (.iload_n 2, 1) := by decide +kernel
theorem dX0_join_41 : decode cX0_join 41 = .ok (.dup2, 1) := by decide +kernel
theorem dX0_join_42 : decode cX0_join 42 = .ok (.laload, 1) := by decide +kernel
theorem dX0_join_43 : decode cX0_join 43 = .ok (.iload_n 3, 1) := by decide +kernel
theorem dX0_join_44 : decode cX0_join 44 = .ok (.invokestatic 206, 3) := by decide +kernel
theorem dX0_join_47 : decode cX0_join 47 = .ok (.lor, 1) := by decide +kernel
theorem dX0_join_48 : decode cX0_join 48 = .ok (.lastore, 1) := by decide +kernel
theorem dX0_join_49 : decode cX0_join 49 = .ok (.aload_n 0, 1) := by decide +kernel
theorem dX0_join_50 : decode cX0_join 50 = .ok (.iload_n 1, 1) := by decide +kernel
theorem dX0_join_51 : decode cX0_join 51 = .ok (.invokevirtual 228, 3) := by decide +kernel
theorem dX0_join_54 : decode cX0_join 54 = .ok (.ifCond .eq 18, 3) := by decide +kernel
theorem dX0_join_57 : decode cX0_join 57 = .ok (.aload_n 0, 1) := by decide +kernel
theorem dX0_join_58 : decode cX0_join 58 = .ok (.getfield 44, 3) := by decide +kernel
theorem dX0_join_61 : decode cX0_join 61 = .ok (.iload_n 1, 1) := by decide +kernel
theorem dX0_join_62 : decode cX0_join 62 = .ok (.aaload, 1) := by decide +kernel
theorem dX0_join_63 : decode cX0_join 63 = .ok (.iload_n 3, 1) := by decide +kernel
theorem dX0_join_64 : decode cX0_join 64 = .ok (.dup2, 1) := by decide +kernel
theorem dX0_join_65 : decode cX0_join 65 = .ok (.laload, 1) := by decide +kernel
theorem dX0_join_66 : decode cX0_join 66 = .ok (.iload_n 2, 1) := by decide +kernel
theorem dX0_join_67 : decode cX0_join 67 = .ok (.invokestatic 206, 3) := by decide +kernel
theorem dX0_join_70 : decode cX0_join 70 = .ok (.lor, 1) := by decide +kernel
theorem dX0_join_71 : decode cX0_join 71 = .ok (.lastore, 1) := by decide +kernel
theorem dX0_join_72 : decode cX0_join 72 = .ok (.return_, 1) := by decide +kernel
theorem dX0_part_0 : decode cX0_part 0 = .ok (.aload_n 0, 1) := by decide +kernel
theorem dX0_part_1 : decode cX0_part 1 = .ok (.getfield 33, 3) := by decide +kernel
theorem dX0_part_4 : decode cX0_part 4 = .ok (.iload_n 1, 1) := by decide +kernel
theorem dX0_part_5 : decode cX0_part 5 = .ok (.iaload, 1) := by decide +kernel
theorem dX0_part_6 : decode cX0_part 6 = .ok (.bipush 6, 2) := by decide +kernel
theorem dX0_part_8 : decode cX0_part 8 = .ok (.if_icmp .ne 35, 3) := by decide +kernel
theorem dX0_part_11 : decode cX0_part 11 = .ok (.aload_n 0, 1) := by decide +kernel
theorem dX0_part_12 : decode cX0_part 12 = .ok (.iload_n 1, 1) := by decide +kernel
theorem dX0_part_13 : decode cX0_part 13 = .ok (.aload_n 0, 1) := by decide +kernel
theorem dX0_part_14 : decode cX0_part 14 = .ok (.getfield 44, 3) := by decide +kernel
theorem dX0_part_17 : decode cX0_part 17 = .ok (.iload_n 1, 1) := by decide +kernel
theorem dX0_part_18 : decode cX0_part 18 = .ok (.aaload, 1) := by decide +kernel
theorem dX0_part_19 : decode cX0_part 19 = .ok (.iload_n 2, 1) := by decide +kernel
theorem dX0_part_20 : decode cX0_part 20 = .ok (.laload, 1) := by decide +kernel
theorem dX0_part_21 : decode cX0_part 21 = .ok (.iload_n 2, 1) := by decide +kernel
theorem dX0_part_22 : decode cX0_part 22 = .ok (.invokestatic 206, 3) := by decide +kernel
theorem dX0_part_25 : decode cX0_part 25 = .ok (.ldc2_w 231, 3) := by decide +kernel
theorem dX0_part_28 : decode cX0_part 28 = .ok (.lxor, 1) := by decide +kernel
theorem dX0_part_29 : decode cX0_part 29 = .ok (.land, 1) := by decide +kernel
theorem dX0_part_30 : decode cX0_part 30 = .ok (.invokevirtual 224, 3) := by decide +kernel
theorem dX0_part_33 : decode cX0_part 33 = .ok (.aload_n 0, 1) := by decide +kernel
theorem dX0_part_34 : decode cX0_part 34 = .ok (.iload_n 1, 1) := by decide +kernel
theorem dX0_part_35 : decode cX0_part 35 = .ok (.iload_n 2, 1) := by decide +kernel
theorem dX0_part_36 : decode cX0_part 36 = .ok (.invokestatic 206, 3) := by decide +kernel
theorem dX0_part_39 : decode cX0_part 39 = .ok (.invokevirtual 224, 3) := by decide +kernel
theorem dX0_part_42 : decode cX0_part 42 = .ok (.return_, 1) := by decide +kernel
theorem dX0_part_43 : decode cX0_part 43 = .ok (.aload_n 0, 1) := by decide +kernel
theorem dX0_part_44 : decode cX0_part 44 = .ok (.getfield 44, 3) := by decide +kernel
theorem dX0_part_47 : decode cX0_part 47 = .ok (.iload_n 1, 1) := by decide +kernel
theorem dX0_part_48 : decode cX0_part 48 = .ok (.aaload, 1) := by decide +kernel
theorem dX0_part_49 : decode cX0_part 49 = .ok (.iload_n 2, 1) := by decide +kernel
theorem dX0_part_50 : decode cX0_part 50 = .ok (.dup2, 1) := by decide +kernel
theorem dX0_part_51 : decode cX0_part 51 = .ok (.laload, 1) := by decide +kernel
theorem dX0_part_52 : decode cX0_part 52 = .ok (.iload_n 3, 1) := by decide +kernel
theorem dX0_part_53 : decode cX0_part 53 = .ok (.invokestatic 206, 3) := by decide +kernel
theorem dX0_part_56 : decode cX0_part 56 = .ok (.ldc2_w 231, 3) := by decide +kernel
theorem dX0_part_59 : decode cX0_part 59 = .ok (.lxor, 1) := by decide +kernel
theorem dX0_part_60 : decode cX0_part 60 = .ok (.land, 1) := by decide +kernel
theorem dX0_part_61 : decode cX0_part 61 = .ok (.lastore, 1) := by decide +kernel
theorem dX0_part_62 : decode cX0_part 62 = .ok (.aload_n 0, 1) := by decide +kernel
theorem dX0_part_63 : decode cX0_part 63 = .ok (.iload_n 1, 1) := by decide +kernel
theorem dX0_part_64 : decode cX0_part 64 = .ok (.invokevirtual 228, 3) := by decide +kernel
theorem dX0_part_67 : decode cX0_part 67 = .ok (.ifCond .eq 22, 3) := by decide +kernel
theorem dX0_part_70 : decode cX0_part 70 = .ok (.aload_n 0, 1) := by decide +kernel
theorem dX0_part_71 : decode cX0_part 71 = .ok (.getfield 44, 3) := by decide +kernel
theorem dX0_part_74 : decode cX0_part 74 = .ok (.iload_n 1, 1) := by decide +kernel
theorem dX0_part_75 : decode cX0_part 75 = .ok (.aaload, 1) := by decide +kernel
theorem dX0_part_76 : decode cX0_part 76 = .ok (.iload_n 3, 1) := by decide +kernel
theorem dX0_part_77 : decode cX0_part 77 = .ok (.dup2, 1) := by decide +kernel
theorem dX0_part_78 : decode cX0_part 78 = .ok (.laload, 1) := by decide +kernel
theorem dX0_part_79 : decode cX0_part 79 = .ok (.iload_n 2, 1) := by decide +kernel
theorem dX0_part_80 : decode cX0_part 80 = .ok (.invokestatic 206, 3) := by decide +kernel
theorem dX0_part_83 : decode cX0_part 83 = .ok (.ldc2_w 231, 3) := by decide +kernel
theorem dX0_part_86 : decode cX0_part 86 = .ok (.lxor, 1) := by decide +kernel
theorem dX0_part_87 : decode cX0_part 87 = .ok (.land, 1) := by decide +kernel
theorem dX0_part_88 : decode cX0_part 88 = .ok (.lastore, 1) := by decide +kernel
theorem dX0_part_89 : decode cX0_part 89 = .ok (.return_, 1) := by decide +kernel
theorem dX0_makeClass_0 : decode cX0_makeClass 0 = .ok (.iconst 0, 1) := by decide +kernel
theorem dX0_makeClass_1 : decode cX0_makeClass 1 = .ok (.istore 4, 2) := by decide +kernel
theorem dX0_makeClass_3 : decode cX0_makeClass 3 = .ok (.iload 4, 2) := by decide +kernel
theorem dX0_makeClass_5 : decode cX0_makeClass 5 = .ok (.aload_n 0, 1) := by decide +kernel
theorem dX0_makeClass_6 : decode cX0_makeClass 6 = .ok (.getfield 18, 3) := by decide +kernel
theorem dX0_makeClass_9 : decode cX0_makeClass 9 = .ok (.if_icmp .ge 31, 3) := by decide +kernel
theorem dX0_makeClass_12 : decode cX0_makeClass 12 = .ok (.lload_n 2, 1) := by decide +kernel
theorem dX0_makeClass_13 : decode cX0_makeClass 13 = .ok (.iload 4, 2) := by decide +kernel
theorem dX0_makeClass_15 : decode cX0_makeClass 15 = .ok (.invokestatic 206, 3) := by decide +kernel
theorem dX0_makeClass_18 : decode cX0_makeClass 18 = .ok (.land, 1) := by decide +kernel
theorem dX0_makeClass_19 : decode cX0_makeClass 19 = .ok (.lconst 0, 1) := by decide +kernel
theorem dX0_makeClass_20 : decode cX0_makeClass 20 = .ok (.lcmp, 1) := by decide +kernel
theorem dX0_makeClass_21 : decode cX0_makeClass 21 = .ok (.ifCond .eq 13, 3) := by decide +kernel
theorem dX0_makeClass_24 : decode cX0_makeClass 24 = .ok (.aload_n 0, 1) := by decide +kernel
theorem dX0_makeClass_25 : decode cX0_makeClass 25 = .ok (.getfield 44, 3) := by decide +kernel
theorem dX0_makeClass_28 : decode cX0_makeClass 28 = .ok (.iload_n 1, 1) := by decide +kernel
theorem dX0_makeClass_29 : decode cX0_makeClass 29 = .ok (.aaload, 1) := by decide +kernel
theorem dX0_makeClass_30 : decode cX0_makeClass 30 = .ok (.iload 4, 2) := by decide +kernel
theorem dX0_makeClass_32 : decode cX0_makeClass 32 = .ok (.lload_n 2, 1) := by decide +kernel
theorem dX0_makeClass_33 : decode cX0_makeClass 33 = .ok (.lastore, 1) := by decide +kernel
theorem dX0_makeClass_34 : decode cX0_makeClass 34 = .ok (.iinc 4 1, 3) := by decide +kernel
theorem dX0_makeClass_37 : decode cX0_makeClass 37 = .ok (.goto (-34), 3) := by decide +kernel
theorem dX0_makeClass_40 : decode cX0_makeClass 40 = .ok (.return_, 1) := by decide +kernel
theorem dX0_makeStale_0 : decode cX0_makeStale 0 = .ok (.aload_n 0, 1) := by decide +kernel
theorem dX0_makeStale_1 : decode cX0_makeStale 1 = .ok (.aload_n 0, 1) := by decide +kernel
theorem dX0_makeStale_2 : decode cX0_makeStale 2 = .ok (.getfield 59, 3) := by decide +kernel
theorem dX0_makeStale_5 : decode cX0_makeStale 5 = .ok (.iload_n 1, 1) := by decide +kernel
theorem dX0_makeStale_6 : decode cX0_makeStale 6 = .ok (.iconst 1, 1) := by decide +kernel
theorem dX0_makeStale_7 : decode cX0_makeStale 7 = .ok (.iadd, 1) := by decide +kernel
theorem dX0_makeStale_8 : decode cX0_makeStale 8 = .ok (.invokestatic 9, 3) := by decide +kernel
theorem dX0_makeStale_11 : decode cX0_makeStale 11 = .ok (.putfield 59, 3) := by decide +kernel
theorem dX0_makeStale_14 : decode cX0_makeStale 14 = .ok (.return_, 1) := by decide +kernel
theorem dX0_settle_0 : decode cX0_settle 0 = .ok (.aload_n 0, 1) := by decide +kernel
theorem dX0_settle_1 : decode cX0_settle 1 = .ok (.getfield 59, 3) := by decide +kernel
theorem dX0_settle_4 : decode cX0_settle 4 = .ok (.istore_n 2, 1) := by decide +kernel
theorem dX0_settle_5 : decode cX0_settle 5 = .ok (.iload_n 2, 1) := by decide +kernel
theorem dX0_settle_6 : decode cX0_settle 6 = .ok (.iload_n 1, 1) := by decide +kernel
theorem dX0_settle_7 : decode cX0_settle 7 = .ok (.if_icmp .gt 22, 3) := by decide +kernel
theorem dX0_settle_10 : decode cX0_settle 10 = .ok (.aload_n 0, 1) := by decide +kernel
theorem dX0_settle_11 : decode cX0_settle 11 = .ok (.iload_n 2, 1) := by decide +kernel
theorem dX0_settle_12 : decode cX0_settle 12 = .ok (.invokevirtual 197, 3) := by decide +kernel
theorem dX0_settle_15 : decode cX0_settle 15 = .ok (.ifCond .eq 8, 3) := by decide +kernel
theorem dX0_settle_18 : decode cX0_settle 18 = .ok (.aload_n 0, 1) := by decide +kernel
theorem dX0_settle_19 : decode cX0_settle 19 = .ok (.iload_n 2, 1) := by decide +kernel
theorem dX0_settle_20 : decode cX0_settle 20 = .ok (.invokevirtual 233, 3) := by decide +kernel
theorem dX0_settle_23 : decode cX0_settle 23 = .ok (.iinc 2 1, 3) := by decide +kernel
theorem dX0_settle_26 : decode cX0_settle 26 = .ok (.goto (-21), 3) := by decide +kernel
theorem dX0_settle_29 : decode cX0_settle 29 = .ok (.aload_n 0, 1) := by decide +kernel
theorem dX0_settle_30 : decode cX0_settle 30 = .ok (.aload_n 0, 1) := by decide +kernel
theorem dX0_settle_31 : decode cX0_settle 31 = .ok (.getfield 59, 3) := by decide +kernel
theorem dX0_settle_34 : decode cX0_settle 34 = .ok (.iload_n 1, 1) := by decide +kernel
theorem dX0_settle_35 : decode cX0_settle 35 = .ok (.iconst 1, 1) := by decide +kernel
theorem dX0_settle_36 : decode cX0_settle 36 = .ok (.iadd, 1) := by decide +kernel
theorem dX0_settle_37 : decode cX0_settle 37 = .ok (.invokestatic 15, 3) := by decide +kernel
theorem dX0_settle_40 : decode cX0_settle 40 = .ok (.putfield 59, 3) := by decide +kernel
theorem dX0_settle_43 : decode cX0_settle 43 = .ok (.return_, 1) := by decide +kernel
theorem dX0_workOut_0 : decode cX0_workOut 0 = .ok (.aload_n 0, 1) := by decide +kernel
theorem dX0_workOut_1 : decode cX0_workOut 1 = .ok (.getfield 33, 3) := by decide +kernel
theorem dX0_workOut_4 : decode cX0_workOut 4 = .ok (.iload_n 1, 1) := by decide +kernel
theorem dX0_workOut_5 : decode cX0_workOut 5 = .ok (.iaload, 1) := by decide +kernel
theorem dX0_workOut_6 : decode cX0_workOut 6 = .ok (.bipush 10, 2) := by decide +kernel
theorem dX0_workOut_8 : decode cX0_workOut 8 = .ok (.isub, 1) := by decide +kernel
theorem dX0_workOut_9 : decode cX0_workOut 9 = .ok (.istore_n 2, 1) := by decide +kernel
theorem dX0_workOut_10 : decode cX0_workOut 10 = .ok (.iload_n 2, 1) := by decide +kernel
theorem dX0_workOut_11 : decode cX0_workOut 11 = .ok (.iconst 5, 1) := by decide +kernel
theorem dX0_workOut_12 : decode cX0_workOut 12 = .ok (.if_icmp .ne 9, 3) := by decide +kernel
theorem dX0_workOut_15 : decode cX0_workOut 15 = .ok (.aload_n 0, 1) := by decide +kernel
theorem dX0_workOut_16 : decode cX0_workOut 16 = .ok (.iload_n 1, 1) := by decide +kernel
theorem dX0_workOut_17 : decode cX0_workOut 17 = .ok (.invokevirtual 236, 3) := by decide +kernel
theorem dX0_workOut_20 : decode cX0_workOut 20 = .ok (.return_, 1) := by decide +kernel
theorem dX0_workOut_21 : decode cX0_workOut 21 = .ok (.iconst 0, 1) := by decide +kernel
theorem dX0_workOut_22 : decode cX0_workOut 22 = .ok (.istore_n 3, 1) := by decide +kernel
theorem dX0_workOut_23 : decode cX0_workOut 23 = .ok (.iload_n 3, 1) := by decide +kernel
theorem dX0_workOut_24 : decode cX0_workOut 24 = .ok (.aload_n 0, 1) := by decide +kernel
theorem dX0_workOut_25 : decode cX0_workOut 25 = .ok (.getfield 18, 3) := by decide +kernel
theorem dX0_workOut_28 : decode cX0_workOut 28 = .ok (.if_icmp .ge 35, 3) := by decide +kernel
theorem dX0_workOut_31 : decode cX0_workOut 31 = .ok (.aload_n 0, 1) := by decide +kernel
theorem dX0_workOut_32 : decode cX0_workOut 32 = .ok (.getfield 44, 3) := by decide +kernel
theorem dX0_workOut_35 : decode cX0_workOut 35 = .ok (.iload_n 1, 1) := by decide +kernel
theorem dX0_workOut_36 : decode cX0_workOut 36 = .ok (.aaload, 1) := by decide +kernel
theorem dX0_workOut_37 : decode cX0_workOut 37 = .ok (.iload_n 3, 1) := by decide +kernel
theorem dX0_workOut_38 : decode cX0_workOut 38 = .ok (.aload_n 0, 1) := by decide +kernel
theorem dX0_workOut_39 : decode cX0_workOut 39 = .ok (.iload_n 2, 1) := by decide +kernel
theorem dX0_workOut_40 : decode cX0_workOut 40 = .ok (.aload_n 0, 1) := by decide +kernel
theorem dX0_workOut_41 : decode cX0_workOut 41 = .ok (.getfield 36, 3) := by decide +kernel
theorem dX0_workOut_44 : decode cX0_workOut 44 = .ok (.iload_n 1, 1) := by decide +kernel
theorem dX0_workOut_45 : decode cX0_workOut 45 = .ok (.iaload, 1) := by decide +kernel
theorem dX0_workOut_46 : decode cX0_workOut 46 = .ok (.aload_n 0, 1) := by decide +kernel
theorem dX0_workOut_47 : decode cX0_workOut 47 = .ok (.getfield 39, 3) := by decide +kernel
theorem dX0_workOut_50 : decode cX0_workOut 50 = .ok (.iload_n 1, 1) := by decide +kernel
theorem dX0_workOut_51 : decode cX0_workOut 51 = .ok (.iaload, 1) := by decide +kernel
theorem dX0_workOut_52 : decode cX0_workOut 52 = .ok (.iload_n 3, 1) := by decide +kernel
theorem dX0_workOut_53 : decode cX0_workOut 53 = .ok (.invokevirtual 239, 3) := by decide +kernel
theorem dX0_workOut_56 : decode cX0_workOut 56 = .ok (.lastore, 1) := by decide +kernel
theorem dX0_workOut_57 : decode cX0_workOut 57 = .ok (.iinc 3 1, 3) := by decide +kernel
theorem dX0_workOut_60 : decode cX0_workOut 60 = .ok (.goto (-37), 3) := by decide +kernel
theorem dX0_workOut_63 : decode cX0_workOut 63 = .ok (.return_, 1) := by decide +kernel
theorem dX0_rowBy_0 : decode cX0_rowBy 0 = .ok (.iload_n 1, 1) := by decide +kernel
theorem dX0_rowBy_1 : decode cX0_rowBy 1 = .ok (.tableswitch 98 0 3 #[31, 39, 58, 78], 31) := by decide +kernel
theorem dX0_rowBy_32 : decode cX0_rowBy 32 = .ok (.aload_n 0, 1) := by decide +kernel
theorem dX0_rowBy_33 : decode cX0_rowBy 33 = .ok (.iload_n 2, 1) := by decide +kernel
theorem dX0_rowBy_34 : decode cX0_rowBy 34 = .ok (.iload 4, 2) := by decide +kernel
theorem dX0_rowBy_36 : decode cX0_rowBy 36 = .ok (.invokevirtual 156, 3) := by decide +kernel
theorem dX0_rowBy_39 : decode cX0_rowBy 39 = .ok (.lreturn, 1) := by decide +kernel
theorem dX0_rowBy_40 : decode cX0_rowBy 40 = .ok (.aload_n 0, 1) := by decide +kernel
theorem dX0_rowBy_41 : decode cX0_rowBy 41 = .ok (.getfield 44, 3) := by decide +kernel
theorem dX0_rowBy_44 : decode cX0_rowBy 44 = .ok (.iload_n 2, 1) := by decide +kernel
theorem dX0_rowBy_45 : decode cX0_rowBy 45 = .ok (.aaload, 1) := by decide +kernel
theorem dX0_rowBy_46 : decode cX0_rowBy 46 = .ok (.iload 4, 2) := by decide +kernel
theorem dX0_rowBy_48 : decode cX0_rowBy 48 = .ok (.laload, 1) := by decide +kernel
theorem dX0_rowBy_49 : decode cX0_rowBy 49 = .ok (.ldc2_w 231, 3) := by decide +kernel
theorem dX0_rowBy_52 : decode cX0_rowBy 52 = .ok (.lxor, 1) := by decide +kernel
theorem dX0_rowBy_53 : decode cX0_rowBy 53 = .ok (.aload_n 0, 1) := by decide +kernel
theorem dX0_rowBy_54 : decode cX0_rowBy 54 = .ok (.getfield 22, 3) := by decide +kernel
theorem dX0_rowBy_57 : decode cX0_rowBy 57 = .ok (.land, 1) := by decide +kernel
theorem dX0_rowBy_58 : decode cX0_rowBy 58 = .ok (.lreturn, 1) := by decide +kernel
theorem dX0_rowBy_59 : decode cX0_rowBy 59 = .ok (.aload_n 0, 1) := by decide +kernel
theorem dX0_rowBy_60 : decode cX0_rowBy 60 = .ok (.getfield 44, 3) := by decide +kernel
theorem dX0_rowBy_63 : decode cX0_rowBy 63 = .ok (.iload_n 2, 1) := by decide +kernel
theorem dX0_rowBy_64 : decode cX0_rowBy 64 = .ok (.aaload, 1) := by decide +kernel
theorem dX0_rowBy_65 : decode cX0_rowBy 65 = .ok (.iload 4, 2) := by decide +kernel
theorem dX0_rowBy_67 : decode cX0_rowBy 67 = .ok (.laload, 1) := by decide +kernel
theorem dX0_rowBy_68 : decode cX0_rowBy 68 = .ok (.aload_n 0, 1) := by decide +kernel
theorem dX0_rowBy_69 : decode cX0_rowBy 69 = .ok (.getfield 44, 3) := by decide +kernel
theorem dX0_rowBy_72 : decode cX0_rowBy 72 = .ok (.iload_n 3, 1) := by decide +kernel
theorem dX0_rowBy_73 : decode cX0_rowBy 73 = .ok (.aaload, 1) := by decide +kernel
theorem dX0_rowBy_74 : decode cX0_rowBy 74 = .ok (.iload 4, 2) := by decide +kernel
theorem dX0_rowBy_76 : decode cX0_rowBy 76 = .ok (.laload, 1) := by decide +kernel
theorem dX0_rowBy_77 : decode cX0_rowBy 77 = .ok (.land, 1) := by decide +kernel
theorem dX0_rowBy_78 : decode cX0_rowBy 78 = .ok (.lreturn, 1) := by decide +kernel
theorem dX0_rowBy_79 : decode cX0_rowBy 79 = .ok (.aload_n 0, 1) := by decide +kernel
theorem dX0_rowBy_80 : decode cX0_rowBy 80 = .ok (.getfield 44, 3) := by decide +kernel
theorem dX0_rowBy_83 : decode cX0_rowBy 83 = .ok (.iload_n 2, 1) := by decide +kernel
theorem dX0_rowBy_84 : decode cX0_rowBy 84 = .ok (.aaload, 1) := by decide +kernel
theorem dX0_rowBy_85 : decode cX0_rowBy 85 = .ok (.iload 4, 2) := by decide +kernel
theorem dX0_rowBy_87 : decode cX0_rowBy 87 = .ok (.laload, 1) := by decide +kernel
theorem dX0_rowBy_88 : decode cX0_rowBy 88 = .ok (.aload_n 0, 1) := by decide +kernel
theorem dX0_rowBy_89 : decode cX0_rowBy 89 = .ok (.getfield 44, 3) := by decide +kernel
theorem dX0_rowBy_92 : decode cX0_rowBy 92 = .ok (.iload_n 3, 1) := by decide +kernel
theorem dX0_rowBy_93 : decode cX0_rowBy 93 = .ok (.aaload, 1) := by decide +kernel
theorem dX0_rowBy_94 : decode cX0_rowBy 94 = .ok (.iload 4, 2) := by decide +kernel
theorem dX0_rowBy_96 : decode cX0_rowBy 96 = .ok (.laload, 1) := by decide +kernel
theorem dX0_rowBy_97 : decode cX0_rowBy 97 = .ok (.lor, 1) := by decide +kernel
theorem dX0_rowBy_98 : decode cX0_rowBy 98 = .ok (.lreturn, 1) := by decide +kernel
theorem dX0_rowBy_99 : decode cX0_rowBy 99 = .ok (.aload_n 0, 1) := by decide +kernel
theorem dX0_rowBy_100 : decode cX0_rowBy 100 = .ok (.iload_n 2, 1) := by decide +kernel
theorem dX0_rowBy_101 : decode cX0_rowBy 101 = .ok (.iload_n 3, 1) := by decide +kernel
theorem dX0_rowBy_102 : decode cX0_rowBy 102 = .ok (.iload 4, 2) := by decide +kernel
theorem dX0_rowBy_104 : decode cX0_rowBy 104 = .ok (.invokevirtual 243, 3) := by decide +kernel
theorem dX0_rowBy_107 : decode cX0_rowBy 107 = .ok (.lreturn, 1) := by decide +kernel
theorem dX0_rowThrough_0 : decode cX0_rowThrough 0 = .ok (.lconst 0, 1) := by decide +kernel
theorem dX0_rowThrough_1 : decode cX0_rowThrough 1 = .ok (.lstore 4, 2) := by decide +kernel
theorem dX0_rowThrough_3 : decode cX0_rowThrough 3 = .ok (.iconst 0, 1) := by decide +kernel
theorem dX0_rowThrough_4 : decode cX0_rowThrough 4 = .ok (.istore 6, 2) := by decide +kernel
theorem dX0_rowThrough_6 : decode cX0_rowThrough 6 = .ok (.iload 6, 2) := by decide +kernel
theorem dX0_rowThrough_8 : decode cX0_rowThrough 8 = .ok (.aload_n 0, 1) := by decide +kernel
theorem dX0_rowThrough_9 : decode cX0_rowThrough 9 = .ok (.getfield 18, 3) := by decide +kernel
theorem dX0_rowThrough_12 : decode cX0_rowThrough 12 = .ok (.if_icmp .ge 34, 3) := by decide +kernel
theorem dX0_rowThrough_15 : decode cX0_rowThrough 15 = .ok (.aload_n 0, 1) := by decide +kernel
theorem dX0_rowThrough_16 : decode cX0_rowThrough 16 = .ok (.iload_n 1, 1) := by decide +kernel
theorem dX0_rowThrough_17 : decode cX0_rowThrough 17 = .ok (.iload_n 3, 1) := by decide +kernel
theorem dX0_rowThrough_18 : decode cX0_rowThrough 18 = .ok (.iload 6, 2) := by decide +kernel
theorem dX0_rowThrough_20 : decode cX0_rowThrough 20 = .ok (.invokevirtual 119, 3) := by decide +kernel
theorem dX0_rowThrough_23 : decode cX0_rowThrough 23 = .ok (.ifCond .eq 17, 3) := by decide +kernel
theorem dX0_rowThrough_26 : decode cX0_rowThrough 26 = .ok (.lload 4, 2) := by decide +kernel
theorem dX0_rowThrough_28 : decode cX0_rowThrough 28 = .ok (.aload_n 0, 1) := by decide +kernel
theorem dX0_rowThrough_29 : decode cX0_rowThrough 29 = .ok (.getfield 44, 3) := by decide +kernel
theorem dX0_rowThrough_32 : decode cX0_rowThrough 32 = .ok (.iload_n 2, 1) := by decide +kernel
theorem dX0_rowThrough_33 : decode cX0_rowThrough 33 = .ok (.aaload, 1) := by decide +kernel
theorem dX0_rowThrough_34 : decode cX0_rowThrough 34 = .ok (.iload 6, 2) := by decide +kernel
theorem dX0_rowThrough_36 : decode cX0_rowThrough 36 = .ok (.laload, 1) := by decide +kernel
theorem dX0_rowThrough_37 : decode cX0_rowThrough 37 = .ok (.lor, 1) := by decide +kernel
theorem dX0_rowThrough_38 : decode cX0_rowThrough 38 = .ok (.lstore 4, 2) := by decide +kernel
theorem dX0_rowThrough_40 : decode cX0_rowThrough 40 = .ok (.iinc 6 1, 3) := by decide +kernel
theorem dX0_rowThrough_43 : decode cX0_rowThrough 43 = .ok (.goto (-37), 3) := by decide +kernel
theorem dX0_rowThrough_46 : decode cX0_rowThrough 46 = .ok (.lload 4, 2) := by decide +kernel
theorem dX0_rowThrough_48 : decode cX0_rowThrough 48 = .ok (.lreturn, 1) := by decide +kernel
theorem dX0_workOutFar_0 : decode cX0_workOutFar 0 = .ok (.aload_n 0, 1) := by decide +kernel
theorem dX0_workOutFar_1 : decode cX0_workOutFar 1 = .ok (.getfield 44, 3) := by decide +kernel
theorem dX0_workOutFar_4 : decode cX0_workOutFar 4 = .ok (.aload_n 0, 1) := by decide +kernel
theorem dX0_workOutFar_5 : decode cX0_workOutFar 5 = .ok (.getfield 36, 3) := by decide +kernel
theorem dX0_workOutFar_8 : decode cX0_workOutFar 8 = .ok (.iload_n 1, 1) := by decide +kernel
theorem dX0_workOutFar_9 : decode cX0_workOutFar 9 = .ok (.iaload, 1) := by decide +kernel
theorem dX0_workOutFar_10 : decode cX0_workOutFar 10 = .ok (.aaload, 1) := by decide +kernel
theorem dX0_workOutFar_11 : decode cX0_workOutFar 11 = .ok (.iconst 0, 1) := by decide +kernel
theorem dX0_workOutFar_12 : decode cX0_workOutFar 12 = .ok (.aload_n 0, 1) := by decide +kernel
theorem dX0_workOutFar_13 : decode cX0_workOutFar 13 = .ok (.getfield 44, 3) := by decide +kernel
theorem dX0_workOutFar_16 : decode cX0_workOutFar 16 = .ok (.iload_n 1, 1) := by decide +kernel
theorem dX0_workOutFar_17 : decode cX0_workOutFar 17 = .ok (.aaload, 1) := by decide +kernel
theorem dX0_workOutFar_18 : decode cX0_workOutFar 18 = .ok (.iconst 0, 1) := by decide +kernel
theorem dX0_workOutFar_19 : decode cX0_workOutFar 19 = .ok (.aload_n 0, 1) := by decide +kernel
theorem dX0_workOutFar_20 : decode cX0_workOutFar 20 = .ok (.getfield 18, 3) := by decide +kernel
theorem dX0_workOutFar_23 : decode cX0_workOutFar 23 = .ok (.invokestatic 247, 3) := by decide +kernel
theorem dX0_workOutFar_26 : decode cX0_workOutFar 26 = .ok (.iconst 0, 1) := by decide +kernel
theorem dX0_workOutFar_27 : decode cX0_workOutFar 27 = .ok (.istore_n 2, 1) := by decide +kernel
theorem dX0_workOutFar_28 : decode cX0_workOutFar 28 = .ok (.iload_n 2, 1) := by decide +kernel
theorem dX0_workOutFar_29 : decode cX0_workOutFar 29 = .ok (.aload_n 0, 1) := by decide +kernel
theorem dX0_workOutFar_30 : decode cX0_workOutFar 30 = .ok (.getfield 18, 3) := by decide +kernel
theorem dX0_workOutFar_33 : decode cX0_workOutFar 33 = .ok (.if_icmp .ge 54, 3) := by decide +kernel
theorem dX0_workOutFar_36 : decode cX0_workOutFar 36 = .ok (.iconst 0, 1) := by decide +kernel
theorem dX0_workOutFar_37 : decode cX0_workOutFar 37 = .ok (.istore_n 3, 1) := by decide +kernel
theorem dX0_workOutFar_38 : decode cX0_workOutFar 38 = .ok (.iload_n 3, 1) := by decide +kernel
theorem dX0_workOutFar_39 : decode cX0_workOutFar 39 = .ok (.aload_n 0, 1) := by decide +kernel
theorem dX0_workOutFar_40 : decode cX0_workOutFar 40 = .ok (.getfield 18, 3) := by decide +kernel
theorem dX0_workOutFar_43 : decode cX0_workOutFar 43 = .ok (.if_icmp .ge 38, 3) := by decide +kernel
theorem dX0_workOutFar_46 : decode cX0_workOutFar 46 = .ok (.aload_n 0, 1) := by decide +kernel
theorem dX0_workOutFar_47 : decode cX0_workOutFar 47 = .ok (.iload_n 1, 1) := by decide +kernel
theorem dX0_workOutFar_48 : decode cX0_workOutFar 48 = .ok (.iload_n 3, 1) := by decide +kernel
theorem dX0_workOutFar_49 : decode cX0_workOutFar 49 = .ok (.iload_n 2, 1) := by decide +kernel
theorem dX0_workOutFar_50 : decode cX0_workOutFar 50 = .ok (.invokevirtual 119, 3) := by decide +kernel
theorem dX0_workOutFar_53 : decode cX0_workOutFar 53 = .ok (.ifCond .eq 22, 3) := by decide +kernel
theorem dX0_workOutFar_56 : decode cX0_workOutFar 56 = .ok (.aload_n 0, 1) := by decide +kernel
theorem dX0_workOutFar_57 : decode cX0_workOutFar 57 = .ok (.getfield 44, 3) := by decide +kernel
theorem dX0_workOutFar_60 : decode cX0_workOutFar 60 = .ok (.iload_n 1, 1) := by decide +kernel
theorem dX0_workOutFar_61 : decode cX0_workOutFar 61 = .ok (.aaload, 1) := by decide +kernel
theorem dX0_workOutFar_62 : decode cX0_workOutFar 62 = .ok (.iload_n 3, 1) := by decide +kernel
theorem dX0_workOutFar_63 : decode cX0_workOutFar 63 = .ok (.dup2, 1) := by decide +kernel
theorem dX0_workOutFar_64 : decode cX0_workOutFar 64 = .ok (.laload, 1) := by decide +kernel
theorem dX0_workOutFar_65 : decode cX0_workOutFar 65 = .ok (.aload_n 0, 1) := by decide +kernel
theorem dX0_workOutFar_66 : decode cX0_workOutFar 66 = .ok (.getfield 44, 3) := by decide +kernel
theorem dX0_workOutFar_69 : decode cX0_workOutFar 69 = .ok (.iload_n 1, 1) := by decide +kernel
theorem dX0_workOutFar_70 : decode cX0_workOutFar 70 = .ok (.aaload, 1) := by decide +kernel
theorem dX0_workOutFar_71 : decode cX0_workOutFar 71 = .ok (.iload_n 2, 1) := by decide +kernel
theorem dX0_workOutFar_72 : decode cX0_workOutFar 72 = .ok (.laload, 1) := by decide +kernel
theorem dX0_workOutFar_73 : decode cX0_workOutFar 73 = .ok (.lor, 1) := by decide +kernel
theorem dX0_workOutFar_74 : decode cX0_workOutFar 74 = .ok (.lastore, 1) := by decide +kernel
theorem dX0_workOutFar_75 : decode cX0_workOutFar 75 = .ok (.iinc 3 1, 3) := by decide +kernel
theorem dX0_workOutFar_78 : decode cX0_workOutFar 78 = .ok (.goto (-40), 3) := by decide +kernel
theorem dX0_workOutFar_81 : decode cX0_workOutFar 81 = .ok (.iinc 2 1, 3) := by decide +kernel
theorem dX0_workOutFar_84 : decode cX0_workOutFar 84 = .ok (.goto (-56), 3) := by decide +kernel
theorem dX0_workOutFar_87 : decode cX0_workOutFar 87 = .ok (.return_, 1) := by decide +kernel
theorem dX0_measureSteps_0 : decode cX0_measureSteps 0 = .ok (.aload_n 0, 1) := by decide +kernel
theorem dX0_measureSteps_1 : decode cX0_measureSteps 1 = .ok (.getfield 53, 3) := by decide +kernel
theorem dX0_measureSteps_4 : decode cX0_measureSteps 4 = .ok (.iconst (-1), 1) := by decide +kernel
theorem dX0_measureSteps_5 : decode cX0_measureSteps 5 = .ok (.invokestatic 65, 3) := by decide +kernel
theorem dX0_measureSteps_8 : decode cX0_measureSteps 8 = .ok (.aload_n 0, 1) := by decide +kernel
theorem dX0_measureSteps_9 : decode cX0_measureSteps 9 = .ok (.getfield 53, 3) := by decide +kernel
theorem dX0_measureSteps_12 : decode cX0_measureSteps 12 = .ok (.iload_n 2, 1) := by decide +kernel
theorem dX0_measureSteps_13 : decode cX0_measureSteps 13 = .ok (.iconst 0, 1) := by decide +kernel
theorem dX0_measureSteps_14 : decode cX0_measureSteps 14 = .ok (.iastore, 1) := by decide +kernel
theorem dX0_measureSteps_15 : decode cX0_measureSteps 15 = .ok (.iload_n 2, 1) := by decide +kernel
theorem dX0_measureSteps_16 : decode cX0_measureSteps 16 = .ok (.invokestatic 206, 3) := by decide +kernel
theorem dX0_measureSteps_19 : decode cX0_measureSteps 19 = .ok (.lstore_n 3, 1) := by decide +kernel
theorem dX0_measureSteps_20 : decode cX0_measureSteps 20 = .ok (.iconst 1, 1) := by decide +kernel
theorem dX0_measureSteps_21 : decode cX0_measureSteps 21 = .ok (.istore 5, 2) := by decide +kernel
theorem dX0_measureSteps_23 : decode cX0_measureSteps 23 = .ok (.iload 5, 2) := by decide +kernel
theorem dX0_measureSteps_25 : decode cX0_measureSteps 25 = .ok (.aload_n 0, 1) := by decide +kernel
theorem dX0_measureSteps_26 : decode cX0_measureSteps 26 = .ok (.getfield 18, 3) := by decide +kernel
theorem dX0_measureSteps_29 : decode cX0_measureSteps 29 = .ok (.if_icmp .ge 85, 3) := by decide +kernel
theorem dX0_measureSteps_32 : decode cX0_measureSteps 32 = .ok (.lload_n 3, 1) := by decide +kernel
theorem dX0_measureSteps_33 : decode cX0_measureSteps 33 = .ok (.lstore 6, 2) := by decide +kernel
theorem dX0_measureSteps_35 : decode cX0_measureSteps 35 = .ok (.iconst 0, 1) := by decide +kernel
theorem dX0_measureSteps_36 : decode cX0_measureSteps 36 = .ok (.istore 8, 2) := by decide +kernel
theorem dX0_measureSteps_38 : decode cX0_measureSteps 38 = .ok (.iload 8, 2) := by decide +kernel
theorem dX0_measureSteps_40 : decode cX0_measureSteps 40 = .ok (.aload_n 0, 1) := by decide +kernel
theorem dX0_measureSteps_41 : decode cX0_measureSteps 41 = .ok (.getfield 18, 3) := by decide +kernel
theorem dX0_measureSteps_44 : decode cX0_measureSteps 44 = .ok (.if_icmp .ge 54, 3) := by decide +kernel
theorem dX0_measureSteps_47 : decode cX0_measureSteps 47 = .ok (.aload_n 0, 1) := by decide +kernel
theorem dX0_measureSteps_48 : decode cX0_measureSteps 48 = .ok (.getfield 53, 3) := by decide +kernel
theorem dX0_measureSteps_51 : decode cX0_measureSteps 51 = .ok (.iload 8, 2) := by decide +kernel
theorem dX0_measureSteps_53 : decode cX0_measureSteps 53 = .ok (.iaload, 1) := by decide +kernel
theorem dX0_measureSteps_54 : decode cX0_measureSteps 54 = .ok (.iconst (-1), 1) := by decide +kernel
theorem dX0_measureSteps_55 : decode cX0_measureSteps 55 = .ok (.if_icmp .ne 37, 3) := by decide +kernel
theorem dX0_measureSteps_58 : decode cX0_measureSteps 58 = .ok (.aload_n 0, 1) := by decide +kernel
theorem dX0_measureSteps_59 : decode cX0_measureSteps 59 = .ok (.getfield 44, 3) := by decide +kernel
theorem dX0_measureSteps_62 : decode cX0_measureSteps 62 = .ok (.iload_n 1, 1) := by decide +kernel
theorem dX0_measureSteps_63 : decode cX0_measureSteps 63 = .ok (.aaload, 1) := by decide +kernel
theorem dX0_measureSteps_64 : decode cX0_measureSteps 64 = .ok (.iload 8, 2) := by decide +kernel
theorem dX0_measureSteps_66 : decode cX0_measureSteps 66 = .ok (.laload, 1) := by decide +kernel
theorem dX0_measureSteps_67 : decode cX0_measureSteps 67 = .ok (.lload 6, 2) := by decide +kernel
theorem dX0_measureSteps_69 : decode cX0_measureSteps 69 = .ok (.land, 1) := by decide +kernel
theorem dX0_measureSteps_70 : decode cX0_measureSteps 70 = .ok (.lconst 0, 1) := by decide +kernel
theorem dX0_measureSteps_71 : decode cX0_measureSteps 71 = .ok (.lcmp, 1) := by decide +kernel
theorem dX0_measureSteps_72 : decode cX0_measureSteps 72 = .ok (.ifCond .eq 20, 3) := by decide +kernel
theorem dX0_measureSteps_75 : decode cX0_measureSteps 75 = .ok (.aload_n 0, 1) := by decide +kernel
theorem dX0_measureSteps_76 : decode cX0_measureSteps 76 = .ok (.getfield 53, 3) := by decide +kernel
theorem dX0_measureSteps_79 : decode cX0_measureSteps 79 = .ok (.iload 8, 2) := by decide +kernel
theorem dX0_measureSteps_81 : decode cX0_measureSteps 81 = .ok (.iload 5, 2) := by decide +kernel
theorem dX0_measureSteps_83 : decode cX0_measureSteps 83 = .ok (.iastore, 1) := by decide +kernel
theorem dX0_measureSteps_84 : decode cX0_measureSteps 84 = .ok (.lload_n 3, 1) := by decide +kernel
theorem dX0_measureSteps_85 : decode cX0_measureSteps 85 = .ok (.iload 8, 2) := by decide +kernel
theorem dX0_measureSteps_87 : decode cX0_measureSteps 87 = .ok (.invokestatic 206, 3) := by decide +kernel
theorem dX0_measureSteps_90 : decode cX0_measureSteps 90 = .ok (.lor, 1) := by decide +kernel
theorem dX0_measureSteps_91 : decode cX0_measureSteps 91 = .ok (.lstore_n 3, 1) := by decide +kernel
theorem dX0_measureSteps_92 : decode cX0_measureSteps 92 = .ok (.iinc 8 1, 3) := by decide +kernel
theorem dX0_measureSteps_95 : decode cX0_measureSteps 95 = .ok (.goto (-57), 3) := by decide +kernel
theorem dX0_measureSteps_98 : decode cX0_measureSteps 98 = .ok (.lload_n 3, 1) := by decide +kernel
theorem dX0_measureSteps_99 : decode cX0_measureSteps 99 = .ok (.lload 6, 2) := by decide +kernel
theorem dX0_measureSteps_101 : decode cX0_measureSteps 101 = .ok (.lcmp, 1) := by decide +kernel
theorem dX0_measureSteps_102 : decode cX0_measureSteps 102 = .ok (.ifCond .ne 6, 3) := by decide +kernel
theorem dX0_measureSteps_105 : decode cX0_measureSteps 105 = .ok (.goto 9, 3) := by decide +kernel
theorem dX0_measureSteps_108 : decode cX0_measureSteps 108 = .ok (.iinc 5 1, 3) := by decide +kernel
theorem dX0_measureSteps_111 : decode cX0_measureSteps 111 = .ok (.goto (-88), 3) := by decide +kernel
theorem dX0_measureSteps_114 : decode cX0_measureSteps 114 = .ok (.return_, 1) := by decide +kernel
theorem dX0_stepNearer_0 : decode cX0_stepNearer 0 = .ok (.iconst 0, 1) := by decide +kernel
theorem dX0_stepNearer_1 : decode cX0_stepNearer 1 = .ok (.istore_n 3, 1) := by decide +kernel
theorem dX0_stepNearer_2 : decode cX0_stepNearer 2 = .ok (.iload_n 3, 1) := by decide +kernel
theorem dX0_stepNearer_3 : decode cX0_stepNearer 3 = .ok (.aload_n 0, 1) := by decide +kernel
theorem dX0_stepNearer_4 : decode cX0_stepNearer 4 = .ok (.getfield 18, 3) := by decide +kernel
theorem dX0_stepNearer_7 : decode cX0_stepNearer 7 = .ok (.if_icmp .ge 38, 3) := by decide +kernel
theorem dX0_stepNearer_10 : decode cX0_stepNearer 10 = .ok (.aload_n 0, 1) := by decide +kernel
theorem dX0_stepNearer_11 : decode cX0_stepNearer 11 = .ok (.iload_n 1, 1) := by decide +kernel
theorem dX0_stepNearer_12 : decode cX0_stepNearer 12 = .ok (.iload_n 2, 1) := by decide +kernel
theorem dX0_stepNearer_13 : decode cX0_stepNearer 13 = .ok (.iload_n 3, 1) := by decide +kernel
theorem dX0_stepNearer_14 : decode cX0_stepNearer 14 = .ok (.invokevirtual 119, 3) := by decide +kernel
theorem dX0_stepNearer_17 : decode cX0_stepNearer 17 = .ok (.ifCond .eq 22, 3) := by decide +kernel
theorem dX0_stepNearer_20 : decode cX0_stepNearer 20 = .ok (.aload_n 0, 1) := by decide +kernel
theorem dX0_stepNearer_21 : decode cX0_stepNearer 21 = .ok (.getfield 53, 3) := by decide +kernel
theorem dX0_stepNearer_24 : decode cX0_stepNearer 24 = .ok (.iload_n 3, 1) := by decide +kernel
theorem dX0_stepNearer_25 : decode cX0_stepNearer 25 = .ok (.iaload, 1) := by decide +kernel
theorem dX0_stepNearer_26 : decode cX0_stepNearer 26 = .ok (.aload_n 0, 1) := by decide +kernel
theorem dX0_stepNearer_27 : decode cX0_stepNearer 27 = .ok (.getfield 53, 3) := by decide +kernel
theorem dX0_stepNearer_30 : decode cX0_stepNearer 30 = .ok (.iload_n 2, 1) := by decide +kernel
theorem dX0_stepNearer_31 : decode cX0_stepNearer 31 = .ok (.iaload, 1) := by decide +kernel
theorem dX0_stepNearer_32 : decode cX0_stepNearer 32 = .ok (.iconst 1, 1) := by decide +kernel
theorem dX0_stepNearer_33 : decode cX0_stepNearer 33 = .ok (.isub, 1) := by decide +kernel
theorem dX0_stepNearer_34 : decode cX0_stepNearer 34 = .ok (.if_icmp .ne 5, 3) := by decide +kernel
theorem dX0_stepNearer_37 : decode cX0_stepNearer 37 = .ok (.iload_n 3, 1) := by decide +kernel
theorem dX0_stepNearer_38 : decode cX0_stepNearer 38 = .ok (.ireturn, 1) := by decide +kernel
theorem dX0_stepNearer_39 : decode cX0_stepNearer 39 = .ok (.iinc 3 1, 3) := by decide +kernel
theorem dX0_stepNearer_42 : decode cX0_stepNearer 42 = .ok (.goto (-40), 3) := by decide +kernel
theorem dX0_stepNearer_45 : decode cX0_stepNearer 45 = .ok (.iload_n 2, 1) := by decide +kernel
theorem dX0_stepNearer_46 : decode cX0_stepNearer 46 = .ok (.ireturn, 1) := by decide +kernel
