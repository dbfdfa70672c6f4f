theorem dX0_init_0 : decode cX0_init 0 = .ok (.aload_n 0, 1) := by decide +kernel
theorem dX0_init_1 : decode cX0_init 1 = .ok (.invokespecial 1, 3) := by decide +kernel
theorem dX0_init_4 : decode cX0_init 4 = .ok (.aload_n 0, 1) := by decide +kernel
theorem dX0_init_5 : decode cX0_init 5 = .ok (.bipush 16, 2) := by decide +kernel
theorem dX0_init_7 : decode cX0_init 7 = .ok (.newarray .int, 2) := by decide +kernel
theorem dX0_init_9 : decode cX0_init 9 = .ok (.putfield 9, 3) := by decide +kernel
theorem dX0_init_12 : decode cX0_init 12 = .ok (.aload_n 0, 1) := by decide +kernel
theorem dX0_init_13 : decode cX0_init 13 = .ok (.bipush 16, 2) := by decide +kernel
theorem dX0_init_15 : decode cX0_init 15 = .ok (.newarray .int, 2) := by decide +kernel
theorem dX0_init_17 : decode cX0_init 17 = .ok (.putfield 13, 3) := by decide +kernel
theorem dX0_init_20 : decode cX0_init 20 = .ok (.aload_n 0, 1) := by decide +kernel
theorem dX0_init_21 : decode cX0_init 21 = .ok (.bipush 16, 2) := by decide +kernel
theorem dX0_init_23 : decode cX0_init 23 = .ok (.newarray .int, 2) := by decide +kernel
theorem dX0_init_25 : decode cX0_init 25 = .ok (.putfield 16, 3) := by decide +kernel
theorem dX0_init_28 : decode cX0_init 28 = .ok (.aload_n 0, 1) := by decide +kernel
theorem dX0_init_29 : decode cX0_init 29 = .ok (.bipush 16, 2) := by decide +kernel
theorem dX0_init_31 : decode cX0_init 31 = .ok (.newarray .int, 2) := by decide +kernel
theorem dX0_init_33 : decode cX0_init 33 = .ok (.putfield 19, 3) := by decide +kernel
theorem dX0_init_36 : decode cX0_init 36 = .ok (.aload_n 0, 1) := by decide +kernel
theorem dX0_init_37 : decode cX0_init 37 = .ok (.bipush 16, 2) := by decide +kernel
theorem dX0_init_39 : decode cX0_init 39 = .ok (.newarray .int, 2) := by decide +kernel
theorem dX0_init_41 : decode cX0_init 41 = .ok (.putfield 22, 3) := by decide +kernel
theorem dX0_init_44 : decode cX0_init 44 = .ok (.aload_n 0, 1) := by decide +kernel
theorem dX0_init_45 : decode cX0_init 45 = .ok (.bipush 16, 2) := by decide +kernel
theorem dX0_init_47 : decode cX0_init 47 = .ok (.newarray .int, 2) := by decide +kernel
theorem dX0_init_49 : decode cX0_init 49 = .ok (.putfield 25, 3) := by decide +kernel
theorem dX0_init_52 : decode cX0_init 52 = .ok (.aload_n 0, 1) := by decide +kernel
theorem dX0_init_53 : decode cX0_init 53 = .ok (.bipush 16, 2) := by decide +kernel
theorem dX0_init_55 : decode cX0_init 55 = .ok (.newarray .int, 2) := by decide +kernel
theorem dX0_init_57 : decode cX0_init 57 = .ok (.putfield 28, 3) := by decide +kernel
theorem dX0_init_60 : decode cX0_init 60 = .ok (.aload_n 0, 1) := by decide +kernel
theorem dX0_init_61 : decode cX0_init 61 = .ok (.bipush 16, 2) := by decide +kernel
theorem dX0_init_63 : decode cX0_init 63 = .ok (.newarray .int, 2) := by decide +kernel
theorem dX0_init_65 : decode cX0_init 65 = .ok (.putfield 31, 3) := by decide +kernel
theorem dX0_init_68 : decode cX0_init 68 = .ok (.aload_n 0, 1) := by decide +kernel
theorem dX0_init_69 : decode cX0_init 69 = .ok (.getfield 9, 3) := by decide +kernel
theorem dX0_init_72 : decode cX0_init 72 = .ok (.iconst 0, 1) := by decide +kernel
theorem dX0_init_73 : decode cX0_init 73 = .ok (.iconst (-1), 1) := by decide +kernel
theorem dX0_init_74 : decode cX0_init 74 = .ok (.iastore, 1) := by decide +kernel
theorem dX0_init_75 : decode cX0_init 75 = .ok (.aload_n 0, 1) := by decide +kernel
theorem dX0_init_76 : decode cX0_init 76 = .ok (.getfield 13, 3) := by decide +kernel
theorem dX0_init_79 : decode cX0_init 79 = .ok (.iconst 0, 1) := by decide +kernel
theorem dX0_init_80 : decode cX0_init 80 = .ok (.iconst (-1), 1) := by decide +kernel
theorem dX0_init_81 : decode cX0_init 81 = .ok (.iastore, 1) := by decide +kernel
theorem dX0_init_82 : decode cX0_init 82 = .ok (.aload_n 0, 1) := by decide +kernel
theorem dX0_init_83 : decode cX0_init 83 = .ok (.iconst 1, 1) := by decide +kernel
theorem dX0_init_84 : decode cX0_init 84 = .ok (.putfield 34, 3) := by decide +kernel
theorem dX0_init_87 : decode cX0_init 87 = .ok (.aload_n 0, 1) := by decide +kernel
theorem dX0_init_88 : decode cX0_init 88 = .ok (.iconst 0, 1) := by decide +kernel
theorem dX0_init_89 : decode cX0_init 89 = .ok (.putfield 38, 3) := by decide +kernel
theorem dX0_init_92 : decode cX0_init 92 = .ok (.aload_n 0, 1) := by decide +kernel
theorem dX0_init_93 : decode cX0_init 93 = .ok (.iconst 1, 1) := by decide +kernel
theorem dX0_init_94 : decode cX0_init 94 = .ok (.putfield 41, 3) := by decide +kernel
theorem dX0_init_97 : decode cX0_init 97 = .ok (.return_, 1) := by decide +kernel
theorem dX0_input_0 : decode cX0_input 0 = .ok (.aload_n 0, 1) := by decide +kernel
theorem dX0_input_1 : decode cX0_input 1 = .ok (.iconst (-1), 1) := by decide +kernel
theorem dX0_input_2 : decode cX0_input 2 = .ok (.iconst (-1), 1) := by decide +kernel
theorem dX0_input_3 : decode cX0_input 3 = .ok (.invokevirtual 44, 3) := by decide +kernel
theorem dX0_input_6 : decode cX0_input 6 = .ok (.istore_n 1, 1) := by decide +kernel
theorem dX0_input_7 : decode cX0_input 7 = .ok (.aload_n 0, 1) := by decide +kernel
theorem dX0_input_8 : decode cX0_input 8 = .ok (.dup, 1) := by decide +kernel
theorem dX0_input_9 : decode cX0_input 9 = .ok (.getfield 38, 3) := by decide +kernel
theorem dX0_input_12 : decode cX0_input 12 = .ok (.iconst 1, 1) := by decide +kernel
theorem dX0_input_13 : decode cX0_input 13 = .ok (.iadd, 1) := by decide +kernel
theorem dX0_input_14 : decode cX0_input 14 = .ok (.putfield 38, 3) := by decide +kernel
theorem dX0_input_17 : decode cX0_input 17 = .ok (.iload_n 1, 1) := by decide +kernel
theorem dX0_input_18 : decode cX0_input 18 = .ok (.iconst 1, 1) := by decide +kernel
theorem dX0_input_19 : decode cX0_input 19 = .ok (.ishl, 1) := by decide +kernel
theorem dX0_input_20 : decode cX0_input 20 = .ok (.ireturn, 1) := by decide +kernel
theorem dX0_and_0 : decode cX0_and 0 = .ok (.aload_n 0, 1) := by decide +kernel
theorem dX0_and_1 : decode cX0_and 1 = .ok (.iload_n 1, 1) := by decide +kernel
theorem dX0_and_2 : decode cX0_and 2 = .ok (.invokevirtual 48, 3) := by decide +kernel
theorem dX0_and_5 : decode cX0_and 5 = .ok (.aload_n 0, 1) := by decide +kernel
theorem dX0_and_6 : decode cX0_and 6 = .ok (.iload_n 2, 1) := by decide +kernel
theorem dX0_and_7 : decode cX0_and 7 = .ok (.invokevirtual 48, 3) := by decide +kernel
theorem dX0_and_10 : decode cX0_and 10 = .ok (.aload_n 0, 1) := by decide +kernel
theorem dX0_and_11 : decode cX0_and 11 = .ok (.iload_n 1, 1) := by decide +kernel
theorem dX0_and_12 : decode cX0_and 12 = .ok (.iload_n 2, 1) := by decide +kernel
theorem dX0_and_13 : decode cX0_and 13 = .ok (.invokevirtual 52, 3) := by decide +kernel
theorem dX0_and_16 : decode cX0_and 16 = .ok (.ireturn, 1) := by decide +kernel
theorem dX0_join_0 : decode cX0_join 0 = .ok (.aload_n 0, 1) := by decide +kernel
theorem dX0_join_1 : decode cX0_join 1 = .ok (.iload_n 2, 1) := by decide +kernel
theorem dX0_join_2 : decode cX0_join 2 = .ok (.invokevirtual 48, 3) := by decide +kernel
theorem dX0_join_5 : decode cX0_join 5 = .ok (.aload_n 0, 1) := by decide +kernel
theorem dX0_join_6 : decode cX0_join 6 = .ok (.iload_n 3, 1) := by decide +kernel
theorem dX0_join_7 : decode cX0_join 7 = .ok (.invokevirtual 48, 3) := by decide +kernel
theorem dX0_join_10 : decode cX0_join 10 = .ok (.iload_n 1, 1) := by decide +kernel
theorem dX0_join_11 : decode cX0_join 11 = .ok (.ifCond .ne 10, 3) := by decide +kernel
theorem dX0_join_14 : decode cX0_join 14 = .ok (.aload_n 0, 1) := by decide +kernel
theorem dX0_join_15 : decode cX0_join 15 = .ok (.iload_n 2, 1) := by decide +kernel
theorem dX0_join_16 : decode cX0_join 16 = .ok (.iload_n 3, 1) := by decide +kernel
theorem dX0_join_17 : decode cX0_join 17 = .ok (.invokevirtual 55, 3) := by decide +kernel
theorem dX0_join_20 : decode cX0_join 20 = .ok (.ireturn, 1) := by decide +kernel
theorem dX0_join_21 : decode cX0_join 21 = .ok (.iload_n 1, 1) := by decide +kernel
theorem dX0_join_22 : decode cX0_join 22 = .ok (.iconst 1, 1) := by decide +kernel
theorem dX0_join_23 : decode cX0_join 23 = .ok (.if_icmp .ne 10, 3) := by decide +kernel
theorem dX0_join_26 : decode cX0_join 26 = .ok (.aload_n 0, 1) := by decide +kernel
theorem dX0_join_27 : decode cX0_join 27 = .ok (.iload_n 2, 1) := by decide +kernel
theorem dX0_join_28 : decode cX0_join 28 = .ok (.iload_n 3, 1) := by decide +kernel
theorem dX0_join_29 : decode cX0_join 29 = .ok (.invokevirtual 58, 3) := by decide +kernel
theorem dX0_join_32 : decode cX0_join 32 = .ok (.ireturn, 1) := by decide +kernel
theorem dX0_join_33 : decode cX0_join 33 = .ok (.new 61, 3) := by decide +kernel
theorem dX0_join_36 : decode cX0_join 36 = .ok (.dup, 1) := by decide +kernel
theorem dX0_join_37 : decode cX0_join 37 = .ok (.ldc 63, 2) := by decide +kernel
theorem dX0_join_39 : decode cX0_join 39 = .ok (.invokespecial 65, 3) := by decide +kernel
theorem dX0_join_42 : decode cX0_join 42 = .ok (.athrow, 1) := by decide +kernel
theorem dX0_nodes_0 : decode cX0_nodes 0 = .ok (.aload_n 0, 1) := by decide +kernel
theorem dX0_nodes_1 : decode cX0_nodes 1 = .ok (.getfield 34, 3) := by decide +kernel
theorem dX0_nodes_4 : decode cX0_nodes 4 = .ok (.ireturn, 1) := by decide +kernel
theorem dX0_inputs_0 : decode cX0_inputs 0 = .ok (.aload_n 0, 1) := by decide +kernel
theorem dX0_inputs_1 : decode cX0_inputs 1 = .ok (.getfield 38, 3) := by decide +kernel
theorem dX0_inputs_4 : decode cX0_inputs 4 = .ok (.ireturn, 1) := by decide +kernel
theorem dX0_needLiteral_0 : decode cX0_needLiteral 0 = .ok (.iload_n 1, 1) := by decide +kernel
theorem dX0_needLiteral_1 : decode cX0_needLiteral 1 = .ok (.ifCond .lt 13, 3) := by decide +kernel
theorem dX0_needLiteral_4 : decode cX0_needLiteral 4 = .ok (.iload_n 1, 1) := by decide +kernel
theorem dX0_needLiteral_5 : decode cX0_needLiteral 5 = .ok (.iconst 1, 1) := by decide +kernel
theorem dX0_needLiteral_6 : decode cX0_needLiteral 6 = .ok (.ishr, 1) := by decide +kernel
theorem dX0_needLiteral_7 : decode cX0_needLiteral 7 = .ok (.aload_n 0, 1) := by decide +kernel
theorem dX0_needLiteral_8 : decode cX0_needLiteral 8 = .ok (.getfield 34, 3) := by decide +kernel
theorem dX0_needLiteral_11 : decode cX0_needLiteral 11 = .ok (.if_icmp .lt 13, 3) := by decide +kernel
theorem dX0_needLiteral_14 : decode cX0_needLiteral 14 = .ok (.new 61, 3) := by decide +kernel
theorem dX0_needLiteral_17 : decode cX0_needLiteral 17 = .ok (.dup, 1) := by decide +kernel
theorem dX0_needLiteral_18 : decode cX0_needLiteral 18 = .ok (.ldc 108, 2) := by decide +kernel
theorem dX0_needLiteral_20 : decode cX0_needLiteral 20 = .ok (.invokespecial 65, 3) := by decide +kernel
theorem dX0_needLiteral_23 : decode cX0_needLiteral 23 = .ok (.athrow, 1) := by decide +kernel
theorem dX0_needLiteral_24 : decode cX0_needLiteral 24 = .ok (.return_, 1) := by decide +kernel
theorem dX0_isGate_0 : decode cX0_isGate 0 = .ok (.aload_n 0, 1) := by decide +kernel
theorem dX0_isGate_1 : decode cX0_isGate 1 = .ok (.getfield 9, 3) := by decide +kernel
theorem dX0_isGate_4 : decode cX0_isGate 4 = .ok (.iload_n 1, 1) := by decide +kernel
theorem dX0_isGate_5 : decode cX0_isGate 5 = .ok (.iaload, 1) := by decide +kernel
theorem dX0_isGate_6 : decode cX0_isGate 6 = .ok (.iconst (-1), 1) := by decide +kernel
theorem dX0_isGate_7 : decode cX0_isGate 7 = .ok (.if_icmp .eq 7, 3) := by decide +kernel
theorem dX0_isGate_10 : decode cX0_isGate 10 = .ok (.iconst 1, 1) := by decide +kernel
theorem dX0_isGate_11 : decode cX0_isGate 11 = .ok (.goto 4, 3) := by decide +kernel
theorem dX0_isGate_14 : decode cX0_isGate 14 = .ok (.iconst 0, 1) := by decide +kernel
theorem dX0_isGate_15 : decode cX0_isGate 15 = .ok (.ireturn, 1) := by decide +kernel
theorem dX0_not_0 : decode cX0_not 0 = .ok (.iload_n 0, 1) := by decide +kernel
theorem dX0_not_1 : decode cX0_not 1 = .ok (.iconst 1, 1) := by decide +kernel
theorem dX0_not_2 : decode cX0_not 2 = .ok (.ixor, 1) := by decide +kernel
theorem dX0_not_3 : decode cX0_not 3 = .ok (.ireturn, 1) := by decide +kernel
theorem dX0_isNegated_0 : decode cX0_isNegated 0 = .ok (.iload_n 0, 1) := by decide +kernel
theorem dX0_isNegated_1 : decode cX0_isNegated 1 = .ok (.iconst 1, 1) := by decide +kernel
theorem dX0_isNegated_2 : decode cX0_isNegated 2 = .ok (.iand, 1) := by decide +kernel
theorem dX0_isNegated_3 : decode cX0_isNegated 3 = .ok (.iconst 1, 1) := by decide +kernel
theorem dX0_isNegated_4 : decode cX0_isNegated 4 = .ok (.if_icmp .ne 7, 3) := by decide +kernel
theorem dX0_isNegated_7 : decode cX0_isNegated 7 = .ok (.iconst 1, 1) := by decide +kernel
theorem dX0_isNegated_8 : decode cX0_isNegated 8 = .ok (.goto 4, 3) := by decide +kernel
theorem dX0_isNegated_11 : decode cX0_isNegated 11 = .ok (.iconst 0, 1) := by decide +kernel
theorem dX0_isNegated_12 : decode cX0_isNegated 12 = .ok (.ireturn, 1) := by decide +kernel
theorem dX0_andOf_0 : decode cX0_andOf 0 = .ok (.iload_n 1, 1) := by decide +kernel
theorem dX0_andOf_1 : decode cX0_andOf 1 = .ok (.iload_n 2, 1) := by decide +kernel
theorem dX0_andOf_2 : decode cX0_andOf 2 = .ok (.invokestatic 77, 3) := by decide +kernel
theorem dX0_andOf_5 : decode cX0_andOf 5 = .ok (.istore_n 3, 1) := by decide +kernel
theorem dX0_andOf_6 : decode cX0_andOf 6 = .ok (.iload_n 1, 1) := by decide +kernel
theorem dX0_andOf_7 : decode cX0_andOf 7 = .ok (.iload_n 2, 1) := by decide +kernel
theorem dX0_andOf_8 : decode cX0_andOf 8 = .ok (.invokestatic 113, 3) := by decide +kernel
theorem dX0_andOf_11 : decode cX0_andOf 11 = .ok (.istore 4, 2) := by decide +kernel
theorem dX0_andOf_13 : decode cX0_andOf 13 = .ok (.iconst 0, 1) := by decide +kernel
theorem dX0_andOf_14 : decode cX0_andOf 14 = .ok (.istore 5, 2) := by decide +kernel
theorem dX0_andOf_16 : decode cX0_andOf 16 = .ok (.iload 5, 2) := by decide +kernel
theorem dX0_andOf_18 : decode cX0_andOf 18 = .ok (.aload_n 0, 1) := by decide +kernel
theorem dX0_andOf_19 : decode cX0_andOf 19 = .ok (.getfield 34, 3) := by decide +kernel
theorem dX0_andOf_22 : decode cX0_andOf 22 = .ok (.if_icmp .ge 65, 3) := by decide +kernel
theorem dX0_andOf_25 : decode cX0_andOf 25 = .ok (.aload_n 0, 1) := by decide +kernel
theorem dX0_andOf_26 : decode cX0_andOf 26 = .ok (.iload_n 3, 1) := by decide +kernel
theorem dX0_andOf_27 : decode cX0_andOf 27 = .ok (.iload 4, 2) := by decide +kernel
theorem dX0_andOf_29 : decode cX0_andOf 29 = .ok (.invokevirtual 116, 3) := by decide +kernel
theorem dX0_andOf_32 : decode cX0_andOf 32 = .ok (.istore 6, 2) := by decide +kernel
theorem dX0_andOf_34 : decode cX0_andOf 34 = .ok (.iload 6, 2) := by decide +kernel
theorem dX0_andOf_36 : decode cX0_andOf 36 = .ok (.iconst (-1), 1) := by decide +kernel
theorem dX0_andOf_37 : decode cX0_andOf 37 = .ok (.if_icmp .eq 6, 3) := by decide +kernel
theorem dX0_andOf_40 : decode cX0_andOf 40 = .ok (.iload 6, 2) := by decide +kernel
theorem dX0_andOf_42 : decode cX0_andOf 42 = .ok (.ireturn, 1) := by decide +kernel
theorem dX0_andOf_43 : decode cX0_andOf 43 = .ok (.aload_n 0, 1) := by decide +kernel
theorem dX0_andOf_44 : decode cX0_andOf 44 = .ok (.iload_n 3, 1) := by decide +kernel
theorem dX0_andOf_45 : decode cX0_andOf 45 = .ok (.iload 4, 2) := by decide +kernel
theorem dX0_andOf_47 : decode cX0_andOf 47 = .ok (.invokevirtual 119, 3) := by decide +kernel
theorem dX0_andOf_50 : decode cX0_andOf 50 = .ok (.istore 7, 2) := by decide +kernel
theorem dX0_andOf_52 : decode cX0_andOf 52 = .ok (.iload 7, 2) := by decide +kernel
theorem dX0_andOf_54 : decode cX0_andOf 54 = .ok (.iconst (-1), 1) := by decide +kernel
theorem dX0_andOf_55 : decode cX0_andOf 55 = .ok (.if_icmp .ne 11, 3) := by decide +kernel
theorem dX0_andOf_58 : decode cX0_andOf 58 = .ok (.aload_n 0, 1) := by decide +kernel
theorem dX0_andOf_59 : decode cX0_andOf 59 = .ok (.iload_n 3, 1) := by decide +kernel
theorem dX0_andOf_60 : decode cX0_andOf 60 = .ok (.iload 4, 2) := by decide +kernel
theorem dX0_andOf_62 : decode cX0_andOf 62 = .ok (.invokevirtual 122, 3) := by decide +kernel
theorem dX0_andOf_65 : decode cX0_andOf 65 = .ok (.ireturn, 1) := by decide +kernel
theorem dX0_andOf_66 : decode cX0_andOf 66 = .ok (.iload_n 3, 1) := by decide +kernel
theorem dX0_andOf_67 : decode cX0_andOf 67 = .ok (.iload 7, 2) := by decide +kernel
theorem dX0_andOf_69 : decode cX0_andOf 69 = .ok (.invokestatic 113, 3) := by decide +kernel
theorem dX0_andOf_72 : decode cX0_andOf 72 = .ok (.istore 4, 2) := by decide +kernel
theorem dX0_andOf_74 : decode cX0_andOf 74 = .ok (.iload_n 3, 1) := by decide +kernel
theorem dX0_andOf_75 : decode cX0_andOf 75 = .ok (.iload 7, 2) := by decide +kernel
theorem dX0_andOf_77 : decode cX0_andOf 77 = .ok (.invokestatic 77, 3) := by decide +kernel
theorem dX0_andOf_80 : decode cX0_andOf 80 = .ok (.istore_n 3, 1) := by decide +kernel
theorem dX0_andOf_81 : decode cX0_andOf 81 = .ok (.iinc 5 1, 3) := by decide +kernel
theorem dX0_andOf_84 : decode cX0_andOf 84 = .ok (.goto (-68), 3) := by decide +kernel
theorem dX0_andOf_87 : decode cX0_andOf 87 = .ok (.aload_n 0, 1) := by decide +kernel
theorem dX0_andOf_88 : decode cX0_andOf 88 = .ok (.iload_n 3, 1) := by decide +kernel
theorem dX0_andOf_89 : decode cX0_andOf 89 = .ok (.iload 4, 2) := by decide +kernel
theorem dX0_andOf_91 : decode cX0_andOf 91 = .ok (.invokevirtual 122, 3) := by decide +kernel
theorem dX0_andOf_94 : decode cX0_andOf 94 = .ok (.ireturn, 1) := by decide +kernel
theorem dX0_knownAnd_0 : decode cX0_knownAnd 0 = .ok (.iload_n 1, 1) := by decide +kernel
theorem dX0_knownAnd_1 : decode cX0_knownAnd 1 = .ok (.ifCond .eq 11, 3) := by decide +kernel
theorem dX0_knownAnd_4 : decode cX0_knownAnd 4 = .ok (.iload_n 1, 1) := by decide +kernel
theorem dX0_knownAnd_5 : decode cX0_knownAnd 5 = .ok (.iload_n 2, 1) := by decide +kernel
theorem dX0_knownAnd_6 : decode cX0_knownAnd 6 = .ok (.invokestatic 110, 3) := by decide +kernel
theorem dX0_knownAnd_9 : decode cX0_knownAnd 9 = .ok (.if_icmp .ne 5, 3) := by decide +kernel
theorem dX0_knownAnd_12 : decode cX0_knownAnd 12 = .ok (.iconst 0, 1) := by decide +kernel
theorem dX0_knownAnd_13 : decode cX0_knownAnd 13 = .ok (.ireturn, 1) := by decide +kernel
theorem dX0_knownAnd_14 : decode cX0_knownAnd 14 = .ok (.iload_n 1, 1) := by decide +kernel
theorem dX0_knownAnd_15 : decode cX0_knownAnd 15 = .ok (.iconst 1, 1) := by decide +kernel
theorem dX0_knownAnd_16 : decode cX0_knownAnd 16 = .ok (.if_icmp .ne 5, 3) := by decide +kernel
theorem dX0_knownAnd_19 : decode cX0_knownAnd 19 = .ok (.iload_n 2, 1) := by decide +kernel
theorem dX0_knownAnd_20 : decode cX0_knownAnd 20 = .ok (.ireturn, 1) := by decide +kernel
theorem dX0_knownAnd_21 : decode cX0_knownAnd 21 = .ok (.iload_n 1, 1) := by decide +kernel
theorem dX0_knownAnd_22 : decode cX0_knownAnd 22 = .ok (.iload_n 2, 1) := by decide +kernel
theorem dX0_knownAnd_23 : decode cX0_knownAnd 23 = .ok (.if_icmp .ne 5, 3) := by decide +kernel
theorem dX0_knownAnd_26 : decode cX0_knownAnd 26 = .ok (.iload_n 1, 1) := by decide +kernel
theorem dX0_knownAnd_27 : decode cX0_knownAnd 27 = .ok (.ireturn, 1) := by decide +kernel
theorem dX0_knownAnd_28 : decode cX0_knownAnd 28 = .ok (.iload_n 2, 1) := by decide +kernel
theorem dX0_knownAnd_29 : decode cX0_knownAnd 29 = .ok (.iconst 1, 1) := by decide +kernel
theorem dX0_knownAnd_30 : decode cX0_knownAnd 30 = .ok (.ishr, 1) := by decide +kernel
theorem dX0_knownAnd_31 : decode cX0_knownAnd 31 = .ok (.istore_n 3, 1) := by decide +kernel
theorem dX0_knownAnd_32 : decode cX0_knownAnd 32 = .ok (.aload_n 0, 1) := by decide +kernel
theorem dX0_knownAnd_33 : decode cX0_knownAnd 33 = .ok (.iload_n 3, 1) := by decide +kernel
theorem dX0_knownAnd_34 : decode cX0_knownAnd 34 = .ok (.invokevirtual 100, 3) := by decide +kernel
theorem dX0_knownAnd_37 : decode cX0_knownAnd 37 = .ok (.ifCond .ne 5, 3) := by decide +kernel
theorem dX0_knownAnd_40 : decode cX0_knownAnd 40 = .ok (.iconst (-1), 1) := by decide +kernel
theorem dX0_knownAnd_41 : decode cX0_knownAnd 41 = .ok (.ireturn, 1) := by decide +kernel
theorem dX0_knownAnd_42 : decode cX0_knownAnd 42 = .ok (.iload_n 2, 1) := by decide +kernel
theorem dX0_knownAnd_43 : decode cX0_knownAnd 43 = .ok (.invokestatic 125, 3) := by decide +kernel
theorem dX0_knownAnd_46 : decode cX0_knownAnd 46 = .ok (.ifCond .eq 21, 3) := by decide +kernel
theorem dX0_knownAnd_49 : decode cX0_knownAnd 49 = .ok (.aload_n 0, 1) := by decide +kernel
theorem dX0_knownAnd_50 : decode cX0_knownAnd 50 = .ok (.iload_n 3, 1) := by decide +kernel
theorem dX0_knownAnd_51 : decode cX0_knownAnd 51 = .ok (.iload_n 1, 1) := by decide +kernel
theorem dX0_knownAnd_52 : decode cX0_knownAnd 52 = .ok (.invokestatic 110, 3) := by decide +kernel
theorem dX0_knownAnd_55 : decode cX0_knownAnd 55 = .ok (.invokevirtual 128, 3) := by decide +kernel
theorem dX0_knownAnd_58 : decode cX0_knownAnd 58 = .ok (.ifCond .eq 7, 3) := by decide +kernel
theorem dX0_knownAnd_61 : decode cX0_knownAnd 61 = .ok (.iload_n 1, 1) := by decide +kernel
theorem dX0_knownAnd_62 : decode cX0_knownAnd 62 = .ok (.goto 4, 3) := by decide +kernel
theorem dX0_knownAnd_65 : decode cX0_knownAnd 65 = .ok (.iconst (-1), 1) := by decide +kernel
theorem dX0_knownAnd_66 : decode cX0_knownAnd 66 = .ok (.ireturn, 1) := by decide +kernel
theorem dX0_knownAnd_67 : decode cX0_knownAnd 67 = .ok (.aload_n 0, 1) := by decide +kernel
theorem dX0_knownAnd_68 : decode cX0_knownAnd 68 = .ok (.iload_n 3, 1) := by decide +kernel
theorem dX0_knownAnd_69 : decode cX0_knownAnd 69 = .ok (.iload_n 1, 1) := by decide +kernel
theorem dX0_knownAnd_70 : decode cX0_knownAnd 70 = .ok (.invokevirtual 128, 3) := by decide +kernel
theorem dX0_knownAnd_73 : decode cX0_knownAnd 73 = .ok (.ifCond .eq 5, 3) := by decide +kernel
theorem dX0_knownAnd_76 : decode cX0_knownAnd 76 = .ok (.iload_n 2, 1) := by decide +kernel
theorem dX0_knownAnd_77 : decode cX0_knownAnd 77 = .ok (.ireturn, 1) := by decide +kernel
theorem dX0_knownAnd_78 : decode cX0_knownAnd 78 = .ok (.aload_n 0, 1) := by decide +kernel
theorem dX0_knownAnd_79 : decode cX0_knownAnd 79 = .ok (.iload_n 3, 1) := by decide +kernel
theorem dX0_knownAnd_80 : decode cX0_knownAnd 80 = .ok (.iload_n 1, 1) := by decide +kernel
theorem dX0_knownAnd_81 : decode cX0_knownAnd 81 = .ok (.invokestatic 110, 3) := by decide +kernel
theorem dX0_knownAnd_84 : decode cX0_knownAnd 84 = .ok (.invokevirtual 128, 3) := by decide +kernel
theorem dX0_knownAnd_87 : decode cX0_knownAnd 87 = .ok (.ifCond .ne 12, 3) := by decide +kernel
theorem dX0_knownAnd_90 : decode cX0_knownAnd 90 = .ok (.aload_n 0, 1) := by decide +kernel
theorem dX0_knownAnd_91 : decode cX0_knownAnd 91 = .ok (.iload_n 1, 1) := by decide +kernel
theorem dX0_knownAnd_92 : decode cX0_knownAnd 92 = .ok (.iload_n 3, 1) := by decide +kernel
theorem dX0_knownAnd_93 : decode cX0_knownAnd 93 = .ok (.invokevirtual 132, 3) := by decide +kernel
theorem dX0_knownAnd_96 : decode cX0_knownAnd 96 = .ok (.ifCond .eq 7, 3) := by decide +kernel
theorem dX0_knownAnd_99 : decode cX0_knownAnd 99 = .ok (.iconst 0, 1) := by decide +kernel
theorem dX0_knownAnd_100 : decode cX0_knownAnd 100 = .ok (.goto 4, 3) := by decide +kernel
theorem dX0_knownAnd_103 : decode cX0_knownAnd 103 = .ok (.iconst (-1), 1) := by decide +kernel
theorem dX0_knownAnd_104 : decode cX0_knownAnd 104 = .ok (.ireturn, 1) := by decide +kernel
theorem dX0_hasLiteral_0 : decode cX0_hasLiteral 0 = .ok (.aload_n 0, 1) := by decide +kernel
theorem dX0_hasLiteral_1 : decode cX0_hasLiteral 1 = .ok (.getfield 9, 3) := by decide +kernel
theorem dX0_hasLiteral_4 : decode cX0_hasLiteral 4 = .ok (.iload_n 1, 1) := by decide +kernel
theorem dX0_hasLiteral_5 : decode cX0_hasLiteral 5 = .ok (.iaload, 1) := by decide +kernel
theorem dX0_hasLiteral_6 : decode cX0_hasLiteral 6 = .ok (.iload_n 2, 1) := by decide +kernel
theorem dX0_hasLiteral_7 : decode cX0_hasLiteral 7 = .ok (.if_icmp .eq 13, 3) := by decide +kernel
theorem dX0_hasLiteral_10 : decode cX0_hasLiteral 10 = .ok (.aload_n 0, 1) := by decide +kernel
theorem dX0_hasLiteral_11 : decode cX0_hasLiteral 11 = .ok (.getfield 13, 3) := by decide +kernel
theorem dX0_hasLiteral_14 : decode cX0_hasLiteral 14 = .ok (.iload_n 1, 1) := by decide +kernel
theorem dX0_hasLiteral_15 : decode cX0_hasLiteral 15 = .ok (.iaload, 1) := by decide +kernel
theorem dX0_hasLiteral_16 : decode cX0_hasLiteral 16 = .ok (.iload_n 2, 1) := by decide +kernel
theorem dX0_hasLiteral_17 : decode cX0_hasLiteral 17 = .ok (.if_icmp .ne 7, 3) := by decide +kernel
theorem dX0_hasLiteral_20 : decode cX0_hasLiteral 20 = .ok (.iconst 1, 1) := by decide +kernel
theorem dX0_hasLiteral_21 : decode cX0_hasLiteral 21 = .ok (.goto 4, 3) := by decide +kernel
theorem dX0_hasLiteral_24 : decode cX0_hasLiteral 24 = .ok (.iconst 0, 1) := by decide +kernel
theorem dX0_hasLiteral_25 : decode cX0_hasLiteral 25 = .ok (.ireturn, 1) := by decide +kernel
theorem dX0_isGateAgainst_0 : decode cX0_isGateAgainst 0 = .ok (.iload_n 1, 1) := by decide +kernel
theorem dX0_isGateAgainst_1 : decode cX0_isGateAgainst 1 = .ok (.iconst 1, 1) := by decide +kernel
theorem dX0_isGateAgainst_2 : decode cX0_isGateAgainst 2 = .ok (.ishr, 1) := by decide +kernel
theorem dX0_isGateAgainst_3 : decode cX0_isGateAgainst 3 = .ok (.istore_n 3, 1) := by decide +kernel
theorem dX0_isGateAgainst_4 : decode cX0_isGateAgainst 4 = .ok (.iload_n 1, 1) := by decide +kernel
theorem dX0_isGateAgainst_5 : decode cX0_isGateAgainst 5 = .ok (.invokestatic 125, 3) := by decide +kernel
theorem dX0_isGateAgainst_8 : decode cX0_isGateAgainst 8 = .ok (.ifCond .ne 11, 3) := by decide +kernel
theorem dX0_isGateAgainst_11 : decode cX0_isGateAgainst 11 = .ok (.aload_n 0, 1) := by decide +kernel
theorem dX0_isGateAgainst_12 : decode cX0_isGateAgainst 12 = .ok (.iload_n 3, 1) := by decide +kernel
theorem dX0_isGateAgainst_13 : decode cX0_isGateAgainst 13 = .ok (.invokevirtual 100, 3) := by decide +kernel
theorem dX0_isGateAgainst_16 : decode cX0_isGateAgainst 16 = .ok (.ifCond .ne 5, 3) := by decide +kernel
theorem dX0_isGateAgainst_19 : decode cX0_isGateAgainst 19 = .ok (.iconst 0, 1) := by decide +kernel
theorem dX0_isGateAgainst_20 : decode cX0_isGateAgainst 20 = .ok (.ireturn, 1) := by decide +kernel
theorem dX0_isGateAgainst_21 : decode cX0_isGateAgainst 21 = .ok (.aload_n 0, 1) := by decide +kernel
theorem dX0_isGateAgainst_22 : decode cX0_isGateAgainst 22 = .ok (.iload_n 2, 1) := by decide +kernel
theorem dX0_isGateAgainst_23 : decode cX0_isGateAgainst 23 = .ok (.aload_n 0, 1) := by decide +kernel
theorem dX0_isGateAgainst_24 : decode cX0_isGateAgainst 24 = .ok (.getfield 9, 3) := by decide +kernel
theorem dX0_isGateAgainst_27 : decode cX0_isGateAgainst 27 = .ok (.iload_n 3, 1) := by decide +kernel
theorem dX0_isGateAgainst_28 : decode cX0_isGateAgainst 28 = .ok (.iaload, 1) := by decide +kernel
theorem dX0_isGateAgainst_29 : decode cX0_isGateAgainst 29 = .ok (.invokestatic 110, 3) := by decide +kernel
theorem dX0_isGateAgainst_32 : decode cX0_isGateAgainst 32 = .ok (.invokevirtual 128, 3) := by decide +kernel
theorem dX0_isGateAgainst_35 : decode cX0_isGateAgainst 35 = .ok (.ifCond .ne 20, 3) := by decide +kernel
theorem dX0_isGateAgainst_38 : decode cX0_isGateAgainst 38 = .ok (.aload_n 0, 1) := by decide +kernel
theorem dX0_isGateAgainst_39 : decode cX0_isGateAgainst 39 = .ok (.iload_n 2, 1) := by decide +kernel
theorem dX0_isGateAgainst_40 : decode cX0_isGateAgainst 40 = .ok (.aload_n 0, 1) := by decide +kernel
theorem dX0_isGateAgainst_41 : decode cX0_isGateAgainst 41 = .ok (.getfield 13, 3) := by decide +kernel
theorem dX0_isGateAgainst_44 : decode cX0_isGateAgainst 44 = .ok (.iload_n 3, 1) := by decide +kernel
theorem dX0_isGateAgainst_45 : decode cX0_isGateAgainst 45 = .ok (.iaload, 1) := by decide +kernel
theorem dX0_isGateAgainst_46 : decode cX0_isGateAgainst 46 = .ok (.invokestatic 110, 3) := by decide +kernel
theorem dX0_isGateAgainst_49 : decode cX0_isGateAgainst 49 = .ok (.invokevirtual 128, 3) := by decide +kernel
theorem dX0_isGateAgainst_52 : decode cX0_isGateAgainst 52 = .ok (.ifCond .eq 7, 3) := by decide +kernel
theorem dX0_isGateAgainst_55 : decode cX0_isGateAgainst 55 = .ok (.iconst 1, 1) := by decide +kernel
theorem dX0_isGateAgainst_56 : decode cX0_isGateAgainst 56 = .ok (.goto 4, 3) := by decide +kernel
theorem dX0_isGateAgainst_59 : decode cX0_isGateAgainst 59 = .ok (.iconst 0, 1) := by decide +kernel
theorem dX0_isGateAgainst_60 : decode cX0_isGateAgainst 60 = .ok (.ireturn, 1) := by decide +kernel
theorem dX0_restOf_0 : decode cX0_restOf 0 = .ok (.iload_n 2, 1) := by decide +kernel
theorem dX0_restOf_1 : decode cX0_restOf 1 = .ok (.iconst 1, 1) := by decide +kernel
theorem dX0_restOf_2 : decode cX0_restOf 2 = .ok (.ishr, 1) := by decide +kernel
theorem dX0_restOf_3 : decode cX0_restOf 3 = .ok (.istore_n 3, 1) := by decide +kernel
theorem dX0_restOf_4 : decode cX0_restOf 4 = .ok (.iload_n 2, 1) := by decide +kernel
theorem dX0_restOf_5 : decode cX0_restOf 5 = .ok (.invokestatic 125, 3) := by decide +kernel
theorem dX0_restOf_8 : decode cX0_restOf 8 = .ok (.ifCond .eq 11, 3) := by decide +kernel
theorem dX0_restOf_11 : decode cX0_restOf 11 = .ok (.aload_n 0, 1) := by decide +kernel
theorem dX0_restOf_12 : decode cX0_restOf 12 = .ok (.iload_n 3, 1) := by decide +kernel
theorem dX0_restOf_13 : decode cX0_restOf 13 = .ok (.invokevirtual 100, 3) := by decide +kernel
theorem dX0_restOf_16 : decode cX0_restOf 16 = .ok (.ifCond .ne 5, 3) := by decide +kernel
theorem dX0_restOf_19 : decode cX0_restOf 19 = .ok (.iconst (-1), 1) := by decide +kernel
theorem dX0_restOf_20 : decode cX0_restOf 20 = .ok (.ireturn, 1) := by decide +kernel
theorem dX0_restOf_21 : decode cX0_restOf 21 = .ok (.aload_n 0, 1) := by decide +kernel
theorem dX0_restOf_22 : decode cX0_restOf 22 = .ok (.getfield 9, 3) := by decide +kernel
theorem dX0_restOf_25 : decode cX0_restOf 25 = .ok (.iload_n 3, 1) := by decide +kernel
theorem dX0_restOf_26 : decode cX0_restOf 26 = .ok (.iaload, 1) := by decide +kernel
theorem dX0_restOf_27 : decode cX0_restOf 27 = .ok (.iload_n 1, 1) := by decide +kernel
theorem dX0_restOf_28 : decode cX0_restOf 28 = .ok (.if_icmp .ne 13, 3) := by decide +kernel
theorem dX0_restOf_31 : decode cX0_restOf 31 = .ok (.aload_n 0, 1) := by decide +kernel
theorem dX0_restOf_32 : decode cX0_restOf 32 = .ok (.getfield 13, 3) := by decide +kernel
theorem dX0_restOf_35 : decode cX0_restOf 35 = .ok (.iload_n 3, 1) := by decide +kernel
theorem dX0_restOf_36 : decode cX0_restOf 36 = .ok (.iaload, 1) := by decide +kernel
theorem dX0_restOf_37 : decode cX0_restOf 37 = .ok (.invokestatic 110, 3) := by decide +kernel
theorem dX0_restOf_40 : decode cX0_restOf 40 = .ok (.ireturn, 1) := by decide +kernel
theorem dX0_restOf_41 : decode cX0_restOf 41 = .ok (.aload_n 0, 1) := by decide +kernel
theorem dX0_restOf_42 : decode cX0_restOf 42 = .ok (.getfield 13, 3) := by decide +kernel
theorem dX0_restOf_45 : decode cX0_restOf 45 = .ok (.iload_n 3, 1) := by decide +kernel
theorem dX0_restOf_46 : decode cX0_restOf 46 = .ok (.iaload, 1) := by decide +kernel
theorem dX0_restOf_47 : decode cX0_restOf 47 = .ok (.iload_n 1, 1) := by decide +kernel
theorem dX0_restOf_48 : decode cX0_restOf 48 = .ok (.if_icmp .ne 15, 3) := by decide +kernel
theorem dX0_restOf_51 : decode cX0_restOf 51 = .ok (.aload_n 0, 1) := by decide +kernel
theorem dX0_restOf_52 : decode cX0_restOf 52 = .ok (.getfield 9, 3) := by decide +kernel
theorem dX0_restOf_55 : decode cX0_restOf 55 = .ok (.iload_n 3, 1) := by decide +kernel
theorem dX0_restOf_56 : decode cX0_restOf 56 = .ok (.iaload, 1) := by decide +kernel
theorem dX0_restOf_57 : decode cX0_restOf 57 = .ok (.invokestatic 110, 3) := by decide +kernel
theorem dX0_restOf_60 : decode cX0_restOf 60 = .ok (.goto 4, 3) := by decide +kernel
theorem dX0_restOf_63 : decode cX0_restOf 63 = .ok (.iconst (-1), 1) := by decide +kernel
theorem dX0_restOf_64 : decode cX0_restOf 64 = .ok (.ireturn, 1) := by decide +kernel
theorem dX0_gateOf_0 : decode cX0_gateOf 0 = .ok (.aload_n 0, 1) := by decide +kernel
theorem dX0_gateOf_1 : decode cX0_gateOf 1 = .ok (.getfield 28, 3) := by decide +kernel
theorem dX0_gateOf_4 : decode cX0_gateOf 4 = .ok (.iload_n 2, 1) := by decide +kernel
theorem dX0_gateOf_5 : decode cX0_gateOf 5 = .ok (.iconst 1, 1) := by decide +kernel
theorem dX0_gateOf_6 : decode cX0_gateOf 6 = .ok (.ishr, 1) := by decide +kernel
theorem dX0_gateOf_7 : decode cX0_gateOf 7 = .ok (.iaload, 1) := by decide +kernel
theorem dX0_gateOf_8 : decode cX0_gateOf 8 = .ok (.istore_n 3, 1) := by decide +kernel
theorem dX0_gateOf_9 : decode cX0_gateOf 9 = .ok (.iconst 0, 1) := by decide +kernel
theorem dX0_gateOf_10 : decode cX0_gateOf 10 = .ok (.istore 4, 2) := by decide +kernel
theorem dX0_gateOf_12 : decode cX0_gateOf 12 = .ok (.iload 4, 2) := by decide +kernel
theorem dX0_gateOf_14 : decode cX0_gateOf 14 = .ok (.aload_n 0, 1) := by decide +kernel
theorem dX0_gateOf_15 : decode cX0_gateOf 15 = .ok (.getfield 34, 3) := by decide +kernel
theorem dX0_gateOf_18 : decode cX0_gateOf 18 = .ok (.if_icmp .ge 44, 3) := by decide +kernel
theorem dX0_gateOf_21 : decode cX0_gateOf 21 = .ok (.iload_n 3, 1) := by decide +kernel
theorem dX0_gateOf_22 : decode cX0_gateOf 22 = .ok (.ifCond .eq 40, 3) := by decide +kernel
theorem dX0_gateOf_25 : decode cX0_gateOf 25 = .ok (.aload_n 0, 1) := by decide +kernel
theorem dX0_gateOf_26 : decode cX0_gateOf 26 = .ok (.getfield 9, 3) := by decide +kernel
theorem dX0_gateOf_29 : decode cX0_gateOf 29 = .ok (.iload_n 3, 1) := by decide +kernel
theorem dX0_gateOf_30 : decode cX0_gateOf 30 = .ok (.iaload, 1) := by decide +kernel
theorem dX0_gateOf_31 : decode cX0_gateOf 31 = .ok (.iload_n 1, 1) := by decide +kernel
theorem dX0_gateOf_32 : decode cX0_gateOf 32 = .ok (.if_icmp .ne 17, 3) := by decide +kernel
theorem dX0_gateOf_35 : decode cX0_gateOf 35 = .ok (.aload_n 0, 1) := by decide +kernel
theorem dX0_gateOf_36 : decode cX0_gateOf 36 = .ok (.getfield 13, 3) := by decide +kernel
theorem dX0_gateOf_39 : decode cX0_gateOf 39 = .ok (.iload_n 3, 1) := by decide +kernel
theorem dX0_gateOf_40 : decode cX0_gateOf 40 = .ok (.iaload, 1) := by decide +kernel
theorem dX0_gateOf_41 : decode cX0_gateOf 41 = .ok (.iload_n 2, 1) := by decide +kernel
theorem dX0_gateOf_42 : decode cX0_gateOf 42 = .ok (.if_icmp .ne 7, 3) := by decide +kernel
theorem dX0_gateOf_45 : decode cX0_gateOf 45 = .ok (.iload_n 3, 1) := by decide +kernel
theorem dX0_gateOf_46 : decode cX0_gateOf 46 = .ok (.iconst 1, 1) := by decide +kernel
theorem dX0_gateOf_47 : decode cX0_gateOf 47 = .ok (.ishl, 1) := by decide +kernel
theorem dX0_gateOf_48 : decode cX0_gateOf 48 = .ok (.ireturn, 1) := by decide +kernel
theorem dX0_gateOf_49 : decode cX0_gateOf 49 = .ok (.aload_n 0, 1) := by decide +kernel
theorem dX0_gateOf_50 : decode cX0_gateOf 50 = .ok (.getfield 31, 3) := by decide +kernel
theorem dX0_gateOf_53 : decode cX0_gateOf 53 = .ok (.iload_n 3, 1) := by decide +kernel
theorem dX0_gateOf_54 : decode cX0_gateOf 54 = .ok (.iaload, 1) := by decide +kernel
theorem dX0_gateOf_55 : decode cX0_gateOf 55 = .ok (.istore_n 3, 1) := by decide +kernel
theorem dX0_gateOf_56 : decode cX0_gateOf 56 = .ok (.iinc 4 1, 3) := by decide +kernel
theorem dX0_gateOf_59 : decode cX0_gateOf 59 = .ok (.goto (-47), 3) := by decide +kernel
theorem dX0_gateOf_62 : decode cX0_gateOf 62 = .ok (.aload_n 0, 1) := by decide +kernel
theorem dX0_gateOf_63 : decode cX0_gateOf 63 = .ok (.iload_n 1, 1) := by decide +kernel
theorem dX0_gateOf_64 : decode cX0_gateOf 64 = .ok (.iload_n 2, 1) := by decide +kernel
theorem dX0_gateOf_65 : decode cX0_gateOf 65 = .ok (.invokevirtual 44, 3) := by decide +kernel
theorem dX0_gateOf_68 : decode cX0_gateOf 68 = .ok (.istore 4, 2) := by decide +kernel
theorem dX0_gateOf_70 : decode cX0_gateOf 70 = .ok (.aload_n 0, 1) := by decide +kernel
theorem dX0_gateOf_71 : decode cX0_gateOf 71 = .ok (.iload 4, 2) := by decide +kernel
theorem dX0_gateOf_73 : decode cX0_gateOf 73 = .ok (.iload_n 1, 1) := by decide +kernel
theorem dX0_gateOf_74 : decode cX0_gateOf 74 = .ok (.iconst 1, 1) := by decide +kernel
theorem dX0_gateOf_75 : decode cX0_gateOf 75 = .ok (.ishr, 1) := by decide +kernel
theorem dX0_gateOf_76 : decode cX0_gateOf 76 = .ok (.iload_n 2, 1) := by decide +kernel
theorem dX0_gateOf_77 : decode cX0_gateOf 77 = .ok (.iconst 1, 1) := by decide +kernel
theorem dX0_gateOf_78 : decode cX0_gateOf 78 = .ok (.ishr, 1) := by decide +kernel
theorem dX0_gateOf_79 : decode cX0_gateOf 79 = .ok (.invokevirtual 135, 3) := by decide +kernel
theorem dX0_gateOf_82 : decode cX0_gateOf 82 = .ok (.iload 4, 2) := by decide +kernel
theorem dX0_gateOf_84 : decode cX0_gateOf 84 = .ok (.iconst 1, 1) := by decide +kernel
theorem dX0_gateOf_85 : decode cX0_gateOf 85 = .ok (.ishl, 1) := by decide +kernel
theorem dX0_gateOf_86 : decode cX0_gateOf 86 = .ok (.ireturn, 1) := by decide +kernel
theorem dX0_enterGate_0 : decode cX0_enterGate 0 = .ok (.aload_n 0, 1) := by decide +kernel
theorem dX0_enterGate_1 : decode cX0_enterGate 1 = .ok (.getfield 19, 3) := by decide +kernel
theorem dX0_enterGate_4 : decode cX0_enterGate 4 = .ok (.iload_n 1, 1) := by decide +kernel
theorem dX0_enterGate_5 : decode cX0_enterGate 5 = .ok (.iconst 1, 1) := by decide +kernel
theorem dX0_enterGate_6 : decode cX0_enterGate 6 = .ok (.aload_n 0, 1) := by decide +kernel
theorem dX0_enterGate_7 : decode cX0_enterGate 7 = .ok (.getfield 19, 3) := by decide +kernel
theorem dX0_enterGate_10 : decode cX0_enterGate 10 = .ok (.iload_n 2, 1) := by decide +kernel
theorem dX0_enterGate_11 : decode cX0_enterGate 11 = .ok (.iaload, 1) := by decide +kernel
theorem dX0_enterGate_12 : decode cX0_enterGate 12 = .ok (.aload_n 0, 1) := by decide +kernel
theorem dX0_enterGate_13 : decode cX0_enterGate 13 = .ok (.getfield 19, 3) := by decide +kernel
theorem dX0_enterGate_16 : decode cX0_enterGate 16 = .ok (.iload_n 3, 1) := by decide +kernel
theorem dX0_enterGate_17 : decode cX0_enterGate 17 = .ok (.iaload, 1) := by decide +kernel
theorem dX0_enterGate_18 : decode cX0_enterGate 18 = .ok (.invokestatic 113, 3) := by decide +kernel
theorem dX0_enterGate_21 : decode cX0_enterGate 21 = .ok (.iadd, 1) := by decide +kernel
theorem dX0_enterGate_22 : decode cX0_enterGate 22 = .ok (.iastore, 1) := by decide +kernel
theorem dX0_enterGate_23 : decode cX0_enterGate 23 = .ok (.aload_n 0, 1) := by decide +kernel
theorem dX0_enterGate_24 : decode cX0_enterGate 24 = .ok (.getfield 16, 3) := by decide +kernel
theorem dX0_enterGate_27 : decode cX0_enterGate 27 = .ok (.iload_n 2, 1) := by decide +kernel
theorem dX0_enterGate_28 : decode cX0_enterGate 28 = .ok (.dup2, 1) := by decide +kernel
theorem dX0_enterGate_29 : decode cX0_enterGate 29 = .ok (.iaload, 1) := by decide +kernel
theorem dX0_enterGate_30 : decode cX0_enterGate 30 = .ok (.iconst 1, 1) := by decide +kernel
theorem dX0_enterGate_31 : decode cX0_enterGate 31 = .ok (.iadd, 1) := by decide +kernel
theorem dX0_enterGate_32 : decode cX0_enterGate 32 = .ok (.iastore, 1) := by decide +kernel
theorem dX0_enterGate_33 : decode cX0_enterGate 33 = .ok (.aload_n 0, 1) := by decide +kernel
theorem dX0_enterGate_34 : decode cX0_enterGate 34 = .ok (.getfield 16, 3) := by decide +kernel
theorem dX0_enterGate_37 : decode cX0_enterGate 37 = .ok (.iload_n 3, 1) := by decide +kernel
theorem dX0_enterGate_38 : decode cX0_enterGate 38 = .ok (.dup2, 1) := by decide +kernel
theorem dX0_enterGate_39 : decode cX0_enterGate 39 = .ok (.iaload, 1) := by decide +kernel
theorem dX0_enterGate_40 : decode cX0_enterGate 40 = .ok (.iconst 1, 1) := by decide +kernel
theorem dX0_enterGate_41 : decode cX0_enterGate 41 = .ok (.iadd, 1) := by decide +kernel
theorem dX0_enterGate_42 : decode cX0_enterGate 42 = .ok (.iastore, 1) := by decide +kernel
theorem dX0_enterGate_43 : decode cX0_enterGate 43 = .ok (.aload_n 0, 1) := by decide +kernel
theorem dX0_enterGate_44 : decode cX0_enterGate 44 = .ok (.getfield 31, 3) := by decide +kernel
theorem dX0_enterGate_47 : decode cX0_enterGate 47 = .ok (.iload_n 1, 1) := by decide +kernel
theorem dX0_enterGate_48 : decode cX0_enterGate 48 = .ok (.aload_n 0, 1) := by decide +kernel
theorem dX0_enterGate_49 : decode cX0_enterGate 49 = .ok (.getfield 28, 3) := by decide +kernel
theorem dX0_enterGate_52 : decode cX0_enterGate 52 = .ok (.iload_n 3, 1) := by decide +kernel
theorem dX0_enterGate_53 : decode cX0_enterGate 53 = .ok (.iaload, 1) := by decide +kernel
theorem dX0_enterGate_54 : decode cX0_enterGate 54 = .ok (.iastore, 1) := by decide +kernel
theorem dX0_enterGate_55 : decode cX0_enterGate 55 = .ok (.aload_n 0, 1) := by decide +kernel
theorem dX0_enterGate_56 : decode cX0_enterGate 56 = .ok (.getfield 28, 3) := by decide +kernel
theorem dX0_enterGate_59 : decode cX0_enterGate 59 = .ok (.iload_n 3, 1) := by decide +kernel
theorem dX0_enterGate_60 : decode cX0_enterGate 60 = .ok (.iload_n 1, 1) := by decide +kernel
theorem dX0_enterGate_61 : decode cX0_enterGate 61 = .ok (.iastore, 1) := by decide +kernel
theorem dX0_enterGate_62 : decode cX0_enterGate 62 = .ok (.return_, 1) := by decide +kernel
theorem dX0_newNode_0 : decode cX0_newNode 0 = .ok (.aload_n 0, 1) := by decide +kernel
theorem dX0_newNode_1 : decode cX0_newNode 1 = .ok (.getfield 34, 3) := by decide +kernel
theorem dX0_newNode_4 : decode cX0_newNode 4 = .ok (.sipush 20000, 3) := by decide +kernel
theorem dX0_newNode_7 : decode cX0_newNode 7 = .ok (.if_icmp .lt 13, 3) := by decide +kernel
theorem dX0_newNode_10 : decode cX0_newNode 10 = .ok (.new 139, 3) := by decide +kernel
theorem dX0_newNode_13 : decode cX0_newNode 13 = .ok (.dup, 1) := by decide +kernel
theorem dX0_newNode_14 : decode cX0_newNode 14 = .ok (.ldc 141, 2) := by decide +kernel
theorem dX0_newNode_16 : decode cX0_newNode 16 = .ok (.invokespecial 143, 3) := by decide +kernel
theorem dX0_newNode_19 : decode cX0_newNode 19 = .ok (.athrow, 1) := by decide +kernel
theorem dX0_newNode_20 : decode cX0_newNode 20 = .ok (.aload_n 0, 1) := by decide +kernel
theorem dX0_newNode_21 : decode cX0_newNode 21 = .ok (.getfield 34, 3) := by decide +kernel
theorem dX0_newNode_24 : decode cX0_newNode 24 = .ok (.aload_n 0, 1) := by decide +kernel
theorem dX0_newNode_25 : decode cX0_newNode 25 = .ok (.getfield 9, 3) := by decide +kernel
theorem dX0_newNode_28 : decode cX0_newNode 28 = .ok (.arraylength, 1) := by decide +kernel
theorem dX0_newNode_29 : decode cX0_newNode 29 = .ok (.if_icmp .lt 7, 3) := by decide +kernel
theorem dX0_newNode_32 : decode cX0_newNode 32 = .ok (.aload_n 0, 1) := by decide +kernel
theorem dX0_newNode_33 : decode cX0_newNode 33 = .ok (.invokevirtual 144, 3) := by decide +kernel
theorem dX0_newNode_36 : decode cX0_newNode 36 = .ok (.aload_n 0, 1) := by decide +kernel
theorem dX0_newNode_37 : decode cX0_newNode 37 = .ok (.getfield 34, 3) := by decide +kernel
theorem dX0_newNode_40 : decode cX0_newNode 40 = .ok (.istore_n 3, 1) := by decide +kernel
theorem dX0_newNode_41 : decode cX0_newNode 41 = .ok (.aload_n 0, 1) := by decide +kernel
theorem dX0_newNode_42 : decode cX0_newNode 42 = .ok (.getfield 9, 3) := by decide +kernel
theorem dX0_newNode_45 : decode cX0_newNode 45 = .ok (.iload_n 3, 1) := by decide +kernel
theorem dX0_newNode_46 : decode cX0_newNode 46 = .ok (.iload_n 1, 1) := by decide +kernel
theorem dX0_newNode_47 : decode cX0_newNode 47 = .ok (.iastore, 1) := by decide +kernel
theorem dX0_newNode_48 : decode cX0_newNode 48 = .ok (.aload_n 0, 1) := by decide +kernel
theorem dX0_newNode_49 : decode cX0_newNode 49 = .ok (.getfield 13, 3) := by decide +kernel
theorem dX0_newNode_52 : decode cX0_newNode 52 = .ok (.iload_n 3, 1) := by decide +kernel
theorem dX0_newNode_53 : decode cX0_newNode 53 = .ok (.iload_n 2, 1) := by decide +kernel
theorem dX0_newNode_54 : decode cX0_newNode 54 = .ok (.iastore, 1) := by decide +kernel
theorem dX0_newNode_55 : decode cX0_newNode 55 = .ok (.aload_n 0, 1) := by decide +kernel
theorem dX0_newNode_56 : decode cX0_newNode 56 = .ok (.dup, 1) := by decide +kernel
theorem dX0_newNode_57 : decode cX0_newNode 57 = .ok (.getfield 34, 3) := by decide +kernel
theorem dX0_newNode_60 : decode cX0_newNode 60 = .ok (.iconst 1, 1) := by decide +kernel
theorem dX0_newNode_61 : decode cX0_newNode 61 = .ok (.iadd, 1) := by decide +kernel
theorem dX0_newNode_62 : decode cX0_newNode 62 = .ok (.putfield 34, 3) := by decide +kernel
theorem dX0_newNode_65 : decode cX0_newNode 65 = .ok (.iload_n 3, 1) := by decide +kernel
theorem dX0_newNode_66 : decode cX0_newNode 66 = .ok (.ireturn, 1) := by decide +kernel
theorem dX0_growRows_0 : decode cX0_growRows 0 = .ok (.iconst 2, 1) := by decide +kernel
theorem dX0_growRows_1 : decode cX0_growRows 1 = .ok (.aload_n 0, 1) := by decide +kernel
theorem dX0_growRows_2 : decode cX0_growRows 2 = .ok (.getfield 9, 3) := by decide +kernel
theorem dX0_growRows_5 : decode cX0_growRows 5 = .ok (.arraylength, 1) := by decide +kernel
theorem dX0_growRows_6 : decode cX0_growRows 6 = .ok (.imul, 1) := by decide +kernel
theorem dX0_growRows_7 : decode cX0_growRows 7 = .ok (.istore_n 1, 1) := by decide +kernel
theorem dX0_growRows_8 : decode cX0_growRows 8 = .ok (.aload_n 0, 1) := by decide +kernel
theorem dX0_growRows_9 : decode cX0_growRows 9 = .ok (.aload_n 0, 1) := by decide +kernel
theorem dX0_growRows_10 : decode cX0_growRows 10 = .ok (.getfield 9, 3) := by decide +kernel
theorem dX0_growRows_13 : decode cX0_growRows 13 = .ok (.iload_n 1, 1) := by decide +kernel
theorem dX0_growRows_14 : decode cX0_growRows 14 = .ok (.invokestatic 147, 3) := by decide +kernel
theorem dX0_growRows_17 : decode cX0_growRows 17 = .ok (.putfield 9, 3) := by decide +kernel
theorem dX0_growRows_20 : decode cX0_growRows 20 = .ok (.aload_n 0, 1) := by decide +kernel
theorem dX0_growRows_21 : decode cX0_growRows 21 = .ok (.aload_n 0, 1) := by decide +kernel
theorem dX0_growRows_22 : decode cX0_growRows 22 = .ok (.getfield 13, 3) := by decide +kernel
theorem dX0_growRows_25 : decode cX0_growRows 25 = .ok (.iload_n 1, 1) := by decide +kernel
theorem dX0_growRows_26 : decode cX0_growRows 26 = .ok (.invokestatic 147, 3) := by decide +kernel
theorem dX0_growRows_29 : decode cX0_growRows 29 = .ok (.putfield 13, 3) := by decide +kernel
theorem dX0_growRows_32 : decode cX0_growRows 32 = .ok (.aload_n 0, 1) := by decide +kernel
theorem dX0_growRows_33 : decode cX0_growRows 33 = .ok (.aload_n 0, 1) := by decide +kernel
theorem dX0_growRows_34 : decode cX0_growRows 34 = .ok (.getfield 16, 3) := by decide +kernel
theorem dX0_growRows_37 : decode cX0_growRows 37 = .ok (.iload_n 1, 1) := by decide +kernel
theorem dX0_growRows_38 : decode cX0_growRows 38 = .ok (.invokestatic 147, 3) := by decide +kernel
theorem dX0_growRows_41 : decode cX0_growRows 41 = .ok (.putfield 16, 3) := by decide +kernel
theorem dX0_growRows_44 : decode cX0_growRows 44 = .ok (.aload_n 0, 1) := by decide +kernel
theorem dX0_growRows_45 : decode cX0_growRows 45 = .ok (.aload_n 0, 1) := by decide +kernel
theorem dX0_growRows_46 : decode cX0_growRows 46 = .ok (.getfield 19, 3) := by decide +kernel
theorem dX0_growRows_49 : decode cX0_growRows 49 = .ok (.iload_n 1, 1) := by decide +kernel
theorem dX0_growRows_50 : decode cX0_growRows 50 = .ok (.invokestatic 147, 3) := by decide +kernel
theorem dX0_growRows_53 : decode cX0_growRows 53 = .ok (.putfield 19, 3) := by decide +kernel
theorem dX0_growRows_56 : decode cX0_growRows 56 = .ok (.aload_n 0, 1) := by decide +kernel
theorem dX0_growRows_57 : decode cX0_growRows 57 = .ok (.aload_n 0, 1) := by decide +kernel
theorem dX0_growRows_58 : decode cX0_growRows 58 = .ok (.getfield 22, 3) := by decide +kernel
theorem dX0_growRows_61 : decode cX0_growRows 61 = .ok (.iload_n 1, 1) := by decide +kernel
theorem dX0_growRows_62 : decode cX0_growRows 62 = .ok (.invokestatic 147, 3) := by decide +kernel
theorem dX0_growRows_65 : decode cX0_growRows 65 = .ok (.putfield 22, 3) := by decide +kernel
theorem dX0_growRows_68 : decode cX0_growRows 68 = .ok (.aload_n 0, 1) := by decide +kernel
theorem dX0_growRows_69 : decode cX0_growRows 69 = .ok (.aload_n 0, 1) := by decide +kernel
theorem dX0_growRows_70 : decode cX0_growRows 70 = .ok (.getfield 25, 3) := by decide +kernel
theorem dX0_growRows_73 : decode cX0_growRows 73 = .ok (.iload_n 1, 1) := by decide +kernel
theorem dX0_growRows_74 : decode cX0_growRows 74 = .ok (.invokestatic 147, 3) := by decide +kernel
theorem dX0_growRows_77 : decode cX0_growRows 77 = .ok (.putfield 25, 3) := by decide +kernel
theorem dX0_growRows_80 : decode cX0_growRows 80 = .ok (.aload_n 0, 1) := by decide +kernel
theorem dX0_growRows_81 : decode cX0_growRows 81 = .ok (.aload_n 0, 1) := by decide +kernel
theorem dX0_growRows_82 : decode cX0_growRows 82 = .ok (.getfield 28, 3) := by decide +kernel
theorem dX0_growRows_85 : decode cX0_growRows 85 = .ok (.iload_n 1, 1) := by decide +kernel
theorem dX0_growRows_86 : decode cX0_growRows 86 = .ok (.invokestatic 147, 3) := by decide +kernel
theorem dX0_growRows_89 : decode cX0_growRows 89 = .ok (.putfield 28, 3) := by decide +kernel
theorem dX0_growRows_92 : decode cX0_growRows 92 = .ok (.aload_n 0, 1) := by decide +kernel
theorem dX0_growRows_93 : decode cX0_growRows 93 = .ok (.aload_n 0, 1) := by decide +kernel
theorem dX0_growRows_94 : decode cX0_growRows 94 = .ok (.getfield 31, 3) := by decide +kernel
theorem dX0_growRows_97 : decode cX0_growRows 97 = .ok (.iload_n 1, 1) := by decide +kernel
theorem dX0_growRows_98 : decode cX0_growRows 98 = .ok (.invokestatic 147, 3) := by decide +kernel
theorem dX0_growRows_101 : decode cX0_growRows 101 = .ok (.putfield 31, 3) := by decide +kernel
theorem dX0_growRows_104 : decode cX0_growRows 104 = .ok (.return_, 1) := by decide +kernel
theorem dX0_three_0 : decode cX0_three 0 = .ok (.aload_n 0, 1) := by decide +kernel
theorem dX0_three_1 : decode cX0_three 1 = .ok (.iload_n 2, 1) := by decide +kernel
theorem dX0_three_2 : decode cX0_three 2 = .ok (.invokevirtual 48, 3) := by decide +kernel
theorem dX0_three_5 : decode cX0_three 5 = .ok (.aload_n 0, 1) := by decide +kernel
theorem dX0_three_6 : decode cX0_three 6 = .ok (.iload_n 3, 1) := by decide +kernel
theorem dX0_three_7 : decode cX0_three 7 = .ok (.invokevirtual 48, 3) := by decide +kernel
theorem dX0_three_10 : decode cX0_three 10 = .ok (.aload_n 0, 1) := by decide +kernel
theorem dX0_three_11 : decode cX0_three 11 = .ok (.iload 4, 2) := by decide +kernel
theorem dX0_three_13 : decode cX0_three 13 = .ok (.invokevirtual 48, 3) := by decide +kernel
theorem dX0_three_16 : decode cX0_three 16 = .ok (.iload_n 1, 1) := by decide +kernel
theorem dX0_three_17 : decode cX0_three 17 = .ok (.ifCond .ne 12, 3) := by decide +kernel
theorem dX0_three_20 : decode cX0_three 20 = .ok (.aload_n 0, 1) := by decide +kernel
theorem dX0_three_21 : decode cX0_three 21 = .ok (.iload_n 2, 1) := by decide +kernel
theorem dX0_three_22 : decode cX0_three 22 = .ok (.iload_n 3, 1) := by decide +kernel
theorem dX0_three_23 : decode cX0_three 23 = .ok (.iload 4, 2) := by decide +kernel
theorem dX0_three_25 : decode cX0_three 25 = .ok (.invokevirtual 68, 3) := by decide +kernel
theorem dX0_three_28 : decode cX0_three 28 = .ok (.ireturn, 1) := by decide +kernel
theorem dX0_three_29 : decode cX0_three 29 = .ok (.iload_n 1, 1) := by decide +kernel
theorem dX0_three_30 : decode cX0_three 30 = .ok (.iconst 1, 1) := by decide +kernel
theorem dX0_three_31 : decode cX0_three 31 = .ok (.if_icmp .ne 16, 3) := by decide +kernel
theorem dX0_three_34 : decode cX0_three 34 = .ok (.aload_n 0, 1) := by decide +kernel
theorem dX0_three_35 : decode cX0_three 35 = .ok (.aload_n 0, 1) := by decide +kernel
theorem dX0_three_36 : decode cX0_three 36 = .ok (.iload_n 2, 1) := by decide +kernel
theorem dX0_three_37 : decode cX0_three 37 = .ok (.iload_n 3, 1) := by decide +kernel
theorem dX0_three_38 : decode cX0_three 38 = .ok (.invokevirtual 58, 3) := by decide +kernel
theorem dX0_three_41 : decode cX0_three 41 = .ok (.iload 4, 2) := by decide +kernel
theorem dX0_three_43 : decode cX0_three 43 = .ok (.invokevirtual 58, 3) := by decide +kernel
theorem dX0_three_46 : decode cX0_three 46 = .ok (.ireturn, 1) := by decide +kernel
theorem dX0_three_47 : decode cX0_three 47 = .ok (.iload_n 1, 1) := by decide +kernel
theorem dX0_three_48 : decode cX0_three 48 = .ok (.iconst 2, 1) := by decide +kernel
theorem dX0_three_49 : decode cX0_three 49 = .ok (.if_icmp .ne 34, 3) := by decide +kernel
theorem dX0_three_52 : decode cX0_three 52 = .ok (.aload_n 0, 1) := by decide +kernel
theorem dX0_three_53 : decode cX0_three 53 = .ok (.iload_n 2, 1) := by decide +kernel
theorem dX0_three_54 : decode cX0_three 54 = .ok (.iload_n 3, 1) := by decide +kernel
theorem dX0_three_55 : decode cX0_three 55 = .ok (.invokevirtual 52, 3) := by decide +kernel
theorem dX0_three_58 : decode cX0_three 58 = .ok (.istore 5, 2) := by decide +kernel
theorem dX0_three_60 : decode cX0_three 60 = .ok (.aload_n 0, 1) := by decide +kernel
theorem dX0_three_61 : decode cX0_three 61 = .ok (.iload_n 2, 1) := by decide +kernel
theorem dX0_three_62 : decode cX0_three 62 = .ok (.iload_n 3, 1) := by decide +kernel
theorem dX0_three_63 : decode cX0_three 63 = .ok (.invokevirtual 58, 3) := by decide +kernel
theorem dX0_three_66 : decode cX0_three 66 = .ok (.istore 6, 2) := by decide +kernel
theorem dX0_three_68 : decode cX0_three 68 = .ok (.aload_n 0, 1) := by decide +kernel
theorem dX0_three_69 : decode cX0_three 69 = .ok (.iload 5, 2) := by decide +kernel
theorem dX0_three_71 : decode cX0_three 71 = .ok (.aload_n 0, 1) := by decide +kernel
theorem dX0_three_72 : decode cX0_three 72 = .ok (.iload 4, 2) := by decide +kernel
theorem dX0_three_74 : decode cX0_three 74 = .ok (.iload 6, 2) := by decide +kernel
theorem dX0_three_76 : decode cX0_three 76 = .ok (.invokevirtual 52, 3) := by decide +kernel
theorem dX0_three_79 : decode cX0_three 79 = .ok (.invokevirtual 55, 3) := by decide +kernel
theorem dX0_three_82 : decode cX0_three 82 = .ok (.ireturn, 1) := by decide +kernel
theorem dX0_three_83 : decode cX0_three 83 = .ok (.new 61, 3) := by decide +kernel
theorem dX0_three_86 : decode cX0_three 86 = .ok (.dup, 1) := by decide +kernel
theorem dX0_three_87 : decode cX0_three 87 = .ok (.ldc 72, 2) := by decide +kernel
theorem dX0_three_89 : decode cX0_three 89 = .ok (.invokespecial 65, 3) := by decide +kernel
theorem dX0_three_92 : decode cX0_three 92 = .ok (.athrow, 1) := by decide +kernel
theorem dX0_set_0 : decode cX0_set 0 = .ok (.aload_n 0, 1) := by decide +kernel
theorem dX0_set_1 : decode cX0_set 1 = .ok (.iload_n 1, 1) := by decide +kernel
theorem dX0_set_2 : decode cX0_set 2 = .ok (.invokevirtual 74, 3) := by decide +kernel
theorem dX0_set_5 : decode cX0_set 5 = .ok (.iload_n 2, 1) := by decide +kernel
theorem dX0_set_6 : decode cX0_set 6 = .ok (.ifCond .eq 7, 3) := by decide +kernel
theorem dX0_set_9 : decode cX0_set 9 = .ok (.iconst 1, 1) := by decide +kernel
theorem dX0_set_10 : decode cX0_set 10 = .ok (.goto 4, 3) := by decide +kernel
theorem dX0_set_13 : decode cX0_set 13 = .ok (.iconst 0, 1) := by decide +kernel
theorem dX0_set_14 : decode cX0_set 14 = .ok (.istore_n 3, 1) := by decide +kernel
theorem dX0_set_15 : decode cX0_set 15 = .ok (.aload_n 0, 1) := by decide +kernel
theorem dX0_set_16 : decode cX0_set 16 = .ok (.getfield 22, 3) := by decide +kernel
theorem dX0_set_19 : decode cX0_set 19 = .ok (.iload_n 1, 1) := by decide +kernel
theorem dX0_set_20 : decode cX0_set 20 = .ok (.iaload, 1) := by decide +kernel
theorem dX0_set_21 : decode cX0_set 21 = .ok (.iload_n 3, 1) := by decide +kernel
theorem dX0_set_22 : decode cX0_set 22 = .ok (.if_icmp .ne 5, 3) := by decide +kernel
theorem dX0_set_25 : decode cX0_set 25 = .ok (.iconst 1, 1) := by decide +kernel
theorem dX0_set_26 : decode cX0_set 26 = .ok (.ireturn, 1) := by decide +kernel
theorem dX0_set_27 : decode cX0_set 27 = .ok (.aload_n 0, 1) := by decide +kernel
theorem dX0_set_28 : decode cX0_set 28 = .ok (.getfield 22, 3) := by decide +kernel
theorem dX0_set_31 : decode cX0_set 31 = .ok (.iload_n 1, 1) := by decide +kernel
theorem dX0_set_32 : decode cX0_set 32 = .ok (.iload_n 3, 1) := by decide +kernel
theorem dX0_set_33 : decode cX0_set 33 = .ok (.iastore, 1) := by decide +kernel
theorem dX0_set_34 : decode cX0_set 34 = .ok (.aload_n 0, 1) := by decide +kernel
theorem dX0_set_35 : decode cX0_set 35 = .ok (.aload_n 0, 1) := by decide +kernel
theorem dX0_set_36 : decode cX0_set 36 = .ok (.getfield 41, 3) := by decide +kernel
theorem dX0_set_39 : decode cX0_set 39 = .ok (.iload_n 1, 1) := by decide +kernel
theorem dX0_set_40 : decode cX0_set 40 = .ok (.iconst 1, 1) := by decide +kernel
theorem dX0_set_41 : decode cX0_set 41 = .ok (.iadd, 1) := by decide +kernel
theorem dX0_set_42 : decode cX0_set 42 = .ok (.invokestatic 77, 3) := by decide +kernel
theorem dX0_set_45 : decode cX0_set 45 = .ok (.putfield 41, 3) := by decide +kernel
theorem dX0_set_48 : decode cX0_set 48 = .ok (.iconst 0, 1) := by decide +kernel
theorem dX0_set_49 : decode cX0_set 49 = .ok (.ireturn, 1) := by decide +kernel
theorem dX0_value_0 : decode cX0_value 0 = .ok (.aload_n 0, 1) := by decide +kernel
theorem dX0_value_1 : decode cX0_value 1 = .ok (.iload_n 1, 1) := by decide +kernel
theorem dX0_value_2 : decode cX0_value 2 = .ok (.invokevirtual 48, 3) := by decide +kernel
theorem dX0_value_5 : decode cX0_value 5 = .ok (.aload_n 0, 1) := by decide +kernel
theorem dX0_value_6 : decode cX0_value 6 = .ok (.iload_n 1, 1) := by decide +kernel
theorem dX0_value_7 : decode cX0_value 7 = .ok (.iconst 1, 1) := by decide +kernel
theorem dX0_value_8 : decode cX0_value 8 = .ok (.ishr, 1) := by decide +kernel
theorem dX0_value_9 : decode cX0_value 9 = .ok (.invokevirtual 82, 3) := by decide +kernel
theorem dX0_value_12 : decode cX0_value 12 = .ok (.aload_n 0, 1) := by decide +kernel
theorem dX0_value_13 : decode cX0_value 13 = .ok (.iload_n 1, 1) := by decide +kernel
theorem dX0_value_14 : decode cX0_value 14 = .ok (.invokevirtual 85, 3) := by decide +kernel
theorem dX0_value_17 : decode cX0_value 17 = .ok (.iconst 1, 1) := by decide +kernel
theorem dX0_value_18 : decode cX0_value 18 = .ok (.if_icmp .ne 7, 3) := by decide +kernel
theorem dX0_value_21 : decode cX0_value 21 = .ok (.iconst 1, 1) := by decide +kernel
theorem dX0_value_22 : decode cX0_value 22 = .ok (.goto 4, 3) := by decide +kernel
theorem dX0_value_25 : decode cX0_value 25 = .ok (.iconst 0, 1) := by decide +kernel
theorem dX0_value_26 : decode cX0_value 26 = .ok (.ireturn, 1) := by decide +kernel
theorem dX0_node_0 : decode cX0_node 0 = .ok (.aload_n 0, 1) := by decide +kernel
theorem dX0_node_1 : decode cX0_node 1 = .ok (.iload_n 1, 1) := by decide +kernel
theorem dX0_node_2 : decode cX0_node 2 = .ok (.invokevirtual 89, 3) := by decide +kernel
theorem dX0_node_5 : decode cX0_node 5 = .ok (.iload_n 2, 1) := by decide +kernel
theorem dX0_node_6 : decode cX0_node 6 = .ok (.ifCond .ne 9, 3) := by decide +kernel
theorem dX0_node_9 : decode cX0_node 9 = .ok (.aload_n 0, 1) := by decide +kernel
theorem dX0_node_10 : decode cX0_node 10 = .ok (.iload_n 1, 1) := by decide +kernel
theorem dX0_node_11 : decode cX0_node 11 = .ok (.invokevirtual 92, 3) := by decide +kernel
theorem dX0_node_14 : decode cX0_node 14 = .ok (.ireturn, 1) := by decide +kernel
theorem dX0_node_15 : decode cX0_node 15 = .ok (.iload_n 2, 1) := by decide +kernel
theorem dX0_node_16 : decode cX0_node 16 = .ok (.iconst 1, 1) := by decide +kernel
theorem dX0_node_17 : decode cX0_node 17 = .ok (.if_icmp .ne 10, 3) := by decide +kernel
theorem dX0_node_20 : decode cX0_node 20 = .ok (.aload_n 0, 1) := by decide +kernel
theorem dX0_node_21 : decode cX0_node 21 = .ok (.getfield 9, 3) := by decide +kernel
theorem dX0_node_24 : decode cX0_node 24 = .ok (.iload_n 1, 1) := by decide +kernel
theorem dX0_node_25 : decode cX0_node 25 = .ok (.iaload, 1) := by decide +kernel
theorem dX0_node_26 : decode cX0_node 26 = .ok (.ireturn, 1) := by decide +kernel
theorem dX0_node_27 : decode cX0_node 27 = .ok (.iload_n 2, 1) := by decide +kernel
theorem dX0_node_28 : decode cX0_node 28 = .ok (.iconst 2, 1) := by decide +kernel
theorem dX0_node_29 : decode cX0_node 29 = .ok (.if_icmp .ne 10, 3) := by decide +kernel
theorem dX0_node_32 : decode cX0_node 32 = .ok (.aload_n 0, 1) := by decide +kernel
theorem dX0_node_33 : decode cX0_node 33 = .ok (.getfield 13, 3) := by decide +kernel
theorem dX0_node_36 : decode cX0_node 36 = .ok (.iload_n 1, 1) := by decide +kernel
theorem dX0_node_37 : decode cX0_node 37 = .ok (.iaload, 1) := by decide +kernel
theorem dX0_node_38 : decode cX0_node 38 = .ok (.ireturn, 1) := by decide +kernel
theorem dX0_node_39 : decode cX0_node 39 = .ok (.iload_n 2, 1) := by decide +kernel
theorem dX0_node_40 : decode cX0_node 40 = .ok (.iconst 3, 1) := by decide +kernel
theorem dX0_node_41 : decode cX0_node 41 = .ok (.if_icmp .ne 10, 3) := by decide +kernel
theorem dX0_node_44 : decode cX0_node 44 = .ok (.aload_n 0, 1) := by decide +kernel
theorem dX0_node_45 : decode cX0_node 45 = .ok (.getfield 16, 3) := by decide +kernel
theorem dX0_node_48 : decode cX0_node 48 = .ok (.iload_n 1, 1) := by decide +kernel
theorem dX0_node_49 : decode cX0_node 49 = .ok (.iaload, 1) := by decide +kernel
theorem dX0_node_50 : decode cX0_node 50 = .ok (.ireturn, 1) := by decide +kernel
theorem dX0_node_51 : decode cX0_node 51 = .ok (.new 61, 3) := by decide +kernel
theorem dX0_node_54 : decode cX0_node 54 = .ok (.dup, 1) := by decide +kernel
theorem dX0_node_55 : decode cX0_node 55 = .ok (.ldc 95, 2) := by decide +kernel
theorem dX0_node_57 : decode cX0_node 57 = .ok (.invokespecial 65, 3) := by decide +kernel
theorem dX0_node_60 : decode cX0_node 60 = .ok (.athrow, 1) := by decide +kernel
theorem dX0_cone_0 : decode cX0_cone 0 = .ok (.aload_n 0, 1) := by decide +kernel
theorem dX0_cone_1 : decode cX0_cone 1 = .ok (.iload_n 1, 1) := by decide +kernel
theorem dX0_cone_2 : decode cX0_cone 2 = .ok (.invokevirtual 48, 3) := by decide +kernel
theorem dX0_cone_5 : decode cX0_cone 5 = .ok (.iload_n 1, 1) := by decide +kernel
theorem dX0_cone_6 : decode cX0_cone 6 = .ok (.iconst 1, 1) := by decide +kernel
theorem dX0_cone_7 : decode cX0_cone 7 = .ok (.ishr, 1) := by decide +kernel
theorem dX0_cone_8 : decode cX0_cone 8 = .ok (.istore_n 2, 1) := by decide +kernel
theorem dX0_cone_9 : decode cX0_cone 9 = .ok (.aload_n 0, 1) := by decide +kernel
theorem dX0_cone_10 : decode cX0_cone 10 = .ok (.iload_n 2, 1) := by decide +kernel
theorem dX0_cone_11 : decode cX0_cone 11 = .ok (.invokevirtual 97, 3) := by decide +kernel
theorem dX0_cone_14 : decode cX0_cone 14 = .ok (.iconst 0, 1) := by decide +kernel
theorem dX0_cone_15 : decode cX0_cone 15 = .ok (.istore_n 3, 1) := by decide +kernel
theorem dX0_cone_16 : decode cX0_cone 16 = .ok (.iconst 1, 1) := by decide +kernel
theorem dX0_cone_17 : decode cX0_cone 17 = .ok (.istore 4, 2) := by decide +kernel
theorem dX0_cone_19 : decode cX0_cone 19 = .ok (.iload 4, 2) := by decide +kernel
theorem dX0_cone_21 : decode cX0_cone 21 = .ok (.iload_n 2, 1) := by decide +kernel
theorem dX0_cone_22 : decode cX0_cone 22 = .ok (.if_icmp .gt 32, 3) := by decide +kernel
theorem dX0_cone_25 : decode cX0_cone 25 = .ok (.aload_n 0, 1) := by decide +kernel
theorem dX0_cone_26 : decode cX0_cone 26 = .ok (.getfield 25, 3) := by decide +kernel
theorem dX0_cone_29 : decode cX0_cone 29 = .ok (.iload 4, 2) := by decide +kernel
theorem dX0_cone_31 : decode cX0_cone 31 = .ok (.iaload, 1) := by decide +kernel
theorem dX0_cone_32 : decode cX0_cone 32 = .ok (.iconst 1, 1) := by decide +kernel
theorem dX0_cone_33 : decode cX0_cone 33 = .ok (.if_icmp .ne 15, 3) := by decide +kernel
theorem dX0_cone_36 : decode cX0_cone 36 = .ok (.aload_n 0, 1) := by decide +kernel
theorem dX0_cone_37 : decode cX0_cone 37 = .ok (.iload 4, 2) := by decide +kernel
theorem dX0_cone_39 : decode cX0_cone 39 = .ok (.invokevirtual 100, 3) := by decide +kernel
theorem dX0_cone_42 : decode cX0_cone 42 = .ok (.ifCond .eq 6, 3) := by decide +kernel
theorem dX0_cone_45 : decode cX0_cone 45 = .ok (.iinc 3 1, 3) := by decide +kernel
theorem dX0_cone_48 : decode cX0_cone 48 = .ok (.iinc 4 1, 3) := by decide +kernel
theorem dX0_cone_51 : decode cX0_cone 51 = .ok (.goto (-32), 3) := by decide +kernel
theorem dX0_cone_54 : decode cX0_cone 54 = .ok (.iload_n 3, 1) := by decide +kernel
theorem dX0_cone_55 : decode cX0_cone 55 = .ok (.ireturn, 1) := by decide +kernel
theorem dX0_below_0 : decode cX0_below 0 = .ok (.aload_n 0, 1) := by decide +kernel
theorem dX0_below_1 : decode cX0_below 1 = .ok (.iload_n 1, 1) := by decide +kernel
theorem dX0_below_2 : decode cX0_below 2 = .ok (.invokevirtual 74, 3) := by decide +kernel
theorem dX0_below_5 : decode cX0_below 5 = .ok (.aload_n 0, 1) := by decide +kernel
theorem dX0_below_6 : decode cX0_below 6 = .ok (.iload_n 2, 1) := by decide +kernel
theorem dX0_below_7 : decode cX0_below 7 = .ok (.invokevirtual 48, 3) := by decide +kernel
theorem dX0_below_10 : decode cX0_below 10 = .ok (.iload_n 2, 1) := by decide +kernel
theorem dX0_below_11 : decode cX0_below 11 = .ok (.iconst 1, 1) := by decide +kernel
theorem dX0_below_12 : decode cX0_below 12 = .ok (.ishr, 1) := by decide +kernel
theorem dX0_below_13 : decode cX0_below 13 = .ok (.istore_n 3, 1) := by decide +kernel
theorem dX0_below_14 : decode cX0_below 14 = .ok (.iload_n 1, 1) := by decide +kernel
theorem dX0_below_15 : decode cX0_below 15 = .ok (.iload_n 3, 1) := by decide +kernel
theorem dX0_below_16 : decode cX0_below 16 = .ok (.if_icmp .le 5, 3) := by decide +kernel
theorem dX0_below_19 : decode cX0_below 19 = .ok (.iconst 0, 1) := by decide +kernel
theorem dX0_below_20 : decode cX0_below 20 = .ok (.ireturn, 1) := by decide +kernel
theorem dX0_below_21 : decode cX0_below 21 = .ok (.aload_n 0, 1) := by decide +kernel
theorem dX0_below_22 : decode cX0_below 22 = .ok (.iload_n 3, 1) := by decide +kernel
theorem dX0_below_23 : decode cX0_below 23 = .ok (.invokevirtual 97, 3) := by decide +kernel
theorem dX0_below_26 : decode cX0_below 26 = .ok (.aload_n 0, 1) := by decide +kernel
theorem dX0_below_27 : decode cX0_below 27 = .ok (.getfield 25, 3) := by decide +kernel
theorem dX0_below_30 : decode cX0_below 30 = .ok (.iload_n 1, 1) := by decide +kernel
theorem dX0_below_31 : decode cX0_below 31 = .ok (.iaload, 1) := by decide +kernel
theorem dX0_below_32 : decode cX0_below 32 = .ok (.iconst 1, 1) := by decide +kernel
theorem dX0_below_33 : decode cX0_below 33 = .ok (.if_icmp .ne 7, 3) := by decide +kernel
theorem dX0_below_36 : decode cX0_below 36 = .ok (.iconst 1, 1) := by decide +kernel
theorem dX0_below_37 : decode cX0_below 37 = .ok (.goto 4, 3) := by decide +kernel
theorem dX0_below_40 : decode cX0_below 40 = .ok (.iconst 0, 1) := by decide +kernel
theorem dX0_below_41 : decode cX0_below 41 = .ok (.ireturn, 1) := by decide +kernel
theorem dX0_depth_0 : decode cX0_depth 0 = .ok (.aload_n 0, 1) := by decide +kernel
theorem dX0_depth_1 : decode cX0_depth 1 = .ok (.iload_n 1, 1) := by decide +kernel
theorem dX0_depth_2 : decode cX0_depth 2 = .ok (.invokevirtual 48, 3) := by decide +kernel
theorem dX0_depth_5 : decode cX0_depth 5 = .ok (.aload_n 0, 1) := by decide +kernel
theorem dX0_depth_6 : decode cX0_depth 6 = .ok (.getfield 19, 3) := by decide +kernel
theorem dX0_depth_9 : decode cX0_depth 9 = .ok (.iload_n 1, 1) := by decide +kernel
theorem dX0_depth_10 : decode cX0_depth 10 = .ok (.iconst 1, 1) := by decide +kernel
theorem dX0_depth_11 : decode cX0_depth 11 = .ok (.ishr, 1) := by decide +kernel
theorem dX0_depth_12 : decode cX0_depth 12 = .ok (.iaload, 1) := by decide +kernel
theorem dX0_depth_13 : decode cX0_depth 13 = .ok (.ireturn, 1) := by decide +kernel
theorem dX0_needNode_0 : decode cX0_needNode 0 = .ok (.iload_n 1, 1) := by decide +kernel
theorem dX0_needNode_1 : decode cX0_needNode 1 = .ok (.ifCond .lt 11, 3) := by decide +kernel
theorem dX0_needNode_4 : decode cX0_needNode 4 = .ok (.iload_n 1, 1) := by decide +kernel
theorem dX0_needNode_5 : decode cX0_needNode 5 = .ok (.aload_n 0, 1) := by decide +kernel
theorem dX0_needNode_6 : decode cX0_needNode 6 = .ok (.getfield 34, 3) := by decide +kernel
theorem dX0_needNode_9 : decode cX0_needNode 9 = .ok (.if_icmp .lt 13, 3) := by decide +kernel
theorem dX0_needNode_12 : decode cX0_needNode 12 = .ok (.new 61, 3) := by decide +kernel
theorem dX0_needNode_15 : decode cX0_needNode 15 = .ok (.dup, 1) := by decide +kernel
theorem dX0_needNode_16 : decode cX0_needNode 16 = .ok (.ldc 104, 2) := by decide +kernel
theorem dX0_needNode_18 : decode cX0_needNode 18 = .ok (.invokespecial 65, 3) := by decide +kernel
theorem dX0_needNode_21 : decode cX0_needNode 21 = .ok (.athrow, 1) := by decide +kernel
theorem dX0_needNode_22 : decode cX0_needNode 22 = .ok (.return_, 1) := by decide +kernel
theorem dX0_needInput_0 : decode cX0_needInput 0 = .ok (.aload_n 0, 1) := by decide +kernel
theorem dX0_needInput_1 : decode cX0_needInput 1 = .ok (.iload_n 1, 1) := by decide +kernel
theorem dX0_needInput_2 : decode cX0_needInput 2 = .ok (.invokevirtual 89, 3) := by decide +kernel
theorem dX0_needInput_5 : decode cX0_needInput 5 = .ok (.aload_n 0, 1) := by decide +kernel
theorem dX0_needInput_6 : decode cX0_needInput 6 = .ok (.iload_n 1, 1) := by decide +kernel
theorem dX0_needInput_7 : decode cX0_needInput 7 = .ok (.invokevirtual 92, 3) := by decide +kernel
theorem dX0_needInput_10 : decode cX0_needInput 10 = .ok (.iconst 1, 1) := by decide +kernel
theorem dX0_needInput_11 : decode cX0_needInput 11 = .ok (.if_icmp .eq 13, 3) := by decide +kernel
theorem dX0_needInput_14 : decode cX0_needInput 14 = .ok (.new 61, 3) := by decide +kernel
theorem dX0_needInput_17 : decode cX0_needInput 17 = .ok (.dup, 1) := by decide +kernel
theorem dX0_needInput_18 : decode cX0_needInput 18 = .ok (.ldc 106, 2) := by decide +kernel
theorem dX0_needInput_20 : decode cX0_needInput 20 = .ok (.invokespecial 65, 3) := by decide +kernel
theorem dX0_needInput_23 : decode cX0_needInput 23 = .ok (.athrow, 1) := by decide +kernel
theorem dX0_needInput_24 : decode cX0_needInput 24 = .ok (.return_, 1) := by decide +kernel
theorem dX0_kindOf_0 : decode cX0_kindOf 0 = .ok (.iload_n 1, 1) := by decide +kernel
theorem dX0_kindOf_1 : decode cX0_kindOf 1 = .ok (.ifCond .ne 5, 3) := by decide +kernel
theorem dX0_kindOf_4 : decode cX0_kindOf 4 = .ok (.iconst 0, 1) := by decide +kernel
theorem dX0_kindOf_5 : decode cX0_kindOf 5 = .ok (.ireturn, 1) := by decide +kernel
theorem dX0_kindOf_6 : decode cX0_kindOf 6 = .ok (.aload_n 0, 1) := by decide +kernel
theorem dX0_kindOf_7 : decode cX0_kindOf 7 = .ok (.iload_n 1, 1) := by decide +kernel
theorem dX0_kindOf_8 : decode cX0_kindOf 8 = .ok (.invokevirtual 100, 3) := by decide +kernel
theorem dX0_kindOf_11 : decode cX0_kindOf 11 = .ok (.ifCond .eq 7, 3) := by decide +kernel
theorem dX0_kindOf_14 : decode cX0_kindOf 14 = .ok (.iconst 2, 1) := by decide +kernel
theorem dX0_kindOf_15 : decode cX0_kindOf 15 = .ok (.goto 4, 3) := by decide +kernel
theorem dX0_kindOf_18 : decode cX0_kindOf 18 = .ok (.iconst 1, 1) := by decide +kernel
theorem dX0_kindOf_19 : decode cX0_kindOf 19 = .ok (.ireturn, 1) := by decide +kernel
theorem dX0_orOf_0 : decode cX0_orOf 0 = .ok (.aload_n 0, 1) := by decide +kernel
theorem dX0_orOf_1 : decode cX0_orOf 1 = .ok (.iload_n 1, 1) := by decide +kernel
theorem dX0_orOf_2 : decode cX0_orOf 2 = .ok (.invokestatic 110, 3) := by decide +kernel
theorem dX0_orOf_5 : decode cX0_orOf 5 = .ok (.iload_n 2, 1) := by decide +kernel
theorem dX0_orOf_6 : decode cX0_orOf 6 = .ok (.invokestatic 110, 3) := by decide +kernel
theorem dX0_orOf_9 : decode cX0_orOf 9 = .ok (.invokevirtual 52, 3) := by decide +kernel
theorem dX0_orOf_12 : decode cX0_orOf 12 = .ok (.invokestatic 110, 3) := by decide +kernel
theorem dX0_orOf_15 : decode cX0_orOf 15 = .ok (.ireturn, 1) := by decide +kernel
theorem dX0_xorOf_0 : decode cX0_xorOf 0 = .ok (.aload_n 0, 1) := by decide +kernel
theorem dX0_xorOf_1 : decode cX0_xorOf 1 = .ok (.aload_n 0, 1) := by decide +kernel
theorem dX0_xorOf_2 : decode cX0_xorOf 2 = .ok (.iload_n 1, 1) := by decide +kernel
theorem dX0_xorOf_3 : decode cX0_xorOf 3 = .ok (.iload_n 2, 1) := by decide +kernel
theorem dX0_xorOf_4 : decode cX0_xorOf 4 = .ok (.invokestatic 110, 3) := by decide +kernel
theorem dX0_xorOf_7 : decode cX0_xorOf 7 = .ok (.invokevirtual 52, 3) := by decide +kernel
theorem dX0_xorOf_10 : decode cX0_xorOf 10 = .ok (.aload_n 0, 1) := by decide +kernel
theorem dX0_xorOf_11 : decode cX0_xorOf 11 = .ok (.iload_n 1, 1) := by decide +kernel
theorem dX0_xorOf_12 : decode cX0_xorOf 12 = .ok (.invokestatic 110, 3) := by decide +kernel
theorem dX0_xorOf_15 : decode cX0_xorOf 15 = .ok (.iload_n 2, 1) := by decide +kernel
theorem dX0_xorOf_16 : decode cX0_xorOf 16 = .ok (.invokevirtual 52, 3) := by decide +kernel
theorem dX0_xorOf_19 : decode cX0_xorOf 19 = .ok (.invokevirtual 55, 3) := by decide +kernel
theorem dX0_xorOf_22 : decode cX0_xorOf 22 = .ok (.ireturn, 1) := by decide +kernel
theorem dX0_ifOf_0 : decode cX0_ifOf 0 = .ok (.aload_n 0, 1) := by decide +kernel
theorem dX0_ifOf_1 : decode cX0_ifOf 1 = .ok (.aload_n 0, 1) := by decide +kernel
theorem dX0_ifOf_2 : decode cX0_ifOf 2 = .ok (.iload_n 1, 1) := by decide +kernel
theorem dX0_ifOf_3 : decode cX0_ifOf 3 = .ok (.iload_n 2, 1) := by decide +kernel
theorem dX0_ifOf_4 : decode cX0_ifOf 4 = .ok (.invokevirtual 52, 3) := by decide +kernel
theorem dX0_ifOf_7 : decode cX0_ifOf 7 = .ok (.aload_n 0, 1) := by decide +kernel
theorem dX0_ifOf_8 : decode cX0_ifOf 8 = .ok (.iload_n 1, 1) := by decide +kernel
theorem dX0_ifOf_9 : decode cX0_ifOf 9 = .ok (.invokestatic 110, 3) := by decide +kernel
theorem dX0_ifOf_12 : decode cX0_ifOf 12 = .ok (.iload_n 3, 1) := by decide +kernel
theorem dX0_ifOf_13 : decode cX0_ifOf 13 = .ok (.invokevirtual 52, 3) := by decide +kernel
theorem dX0_ifOf_16 : decode cX0_ifOf 16 = .ok (.invokevirtual 55, 3) := by decide +kernel
theorem dX0_ifOf_19 : decode cX0_ifOf 19 = .ok (.ireturn, 1) := by decide +kernel
theorem dX0_valueNow_0 : decode cX0_valueNow 0 = .ok (.aload_n 0, 1) := by decide +kernel
theorem dX0_valueNow_1 : decode cX0_valueNow 1 = .ok (.getfield 22, 3) := by decide +kernel
theorem dX0_valueNow_4 : decode cX0_valueNow 4 = .ok (.iload_n 1, 1) := by decide +kernel
theorem dX0_valueNow_5 : decode cX0_valueNow 5 = .ok (.iconst 1, 1) := by decide +kernel
theorem dX0_valueNow_6 : decode cX0_valueNow 6 = .ok (.ishr, 1) := by decide +kernel
theorem dX0_valueNow_7 : decode cX0_valueNow 7 = .ok (.iaload, 1) := by decide +kernel
theorem dX0_valueNow_8 : decode cX0_valueNow 8 = .ok (.iload_n 1, 1) := by decide +kernel
theorem dX0_valueNow_9 : decode cX0_valueNow 9 = .ok (.iconst 1, 1) := by decide +kernel
theorem dX0_valueNow_10 : decode cX0_valueNow 10 = .ok (.iand, 1) := by decide +kernel
theorem dX0_valueNow_11 : decode cX0_valueNow 11 = .ok (.ixor, 1) := by decide +kernel
theorem dX0_valueNow_12 : decode cX0_valueNow 12 = .ok (.ireturn, 1) := by decide +kernel
theorem dX0_settle_0 : decode cX0_settle 0 = .ok (.aload_n 0, 1) := by decide +kernel
theorem dX0_settle_1 : decode cX0_settle 1 = .ok (.getfield 41, 3) := by decide +kernel
theorem dX0_settle_4 : decode cX0_settle 4 = .ok (.istore_n 2, 1) := by decide +kernel
theorem dX0_settle_5 : decode cX0_settle 5 = .ok (.iload_n 2, 1) := by decide +kernel
theorem dX0_settle_6 : decode cX0_settle 6 = .ok (.iload_n 1, 1) := by decide +kernel
theorem dX0_settle_7 : decode cX0_settle 7 = .ok (.if_icmp .gt 44, 3) := by decide +kernel
theorem dX0_settle_10 : decode cX0_settle 10 = .ok (.aload_n 0, 1) := by decide +kernel
theorem dX0_settle_11 : decode cX0_settle 11 = .ok (.iload_n 2, 1) := by decide +kernel
theorem dX0_settle_12 : decode cX0_settle 12 = .ok (.invokevirtual 100, 3) := by decide +kernel
theorem dX0_settle_15 : decode cX0_settle 15 = .ok (.ifCond .eq 30, 3) := by decide +kernel
theorem dX0_settle_18 : decode cX0_settle 18 = .ok (.aload_n 0, 1) := by decide +kernel
theorem dX0_settle_19 : decode cX0_settle 19 = .ok (.getfield 22, 3) := by decide +kernel
theorem dX0_settle_22 : decode cX0_settle 22 = .ok (.iload_n 2, 1) := by decide +kernel
theorem dX0_settle_23 : decode cX0_settle 23 = .ok (.aload_n 0, 1) := by decide +kernel
theorem dX0_settle_24 : decode cX0_settle 24 = .ok (.aload_n 0, 1) := by decide +kernel
theorem dX0_settle_25 : decode cX0_settle 25 = .ok (.getfield 9, 3) := by decide +kernel
theorem dX0_settle_28 : decode cX0_settle 28 = .ok (.iload_n 2, 1) := by decide +kernel
theorem dX0_settle_29 : decode cX0_settle 29 = .ok (.iaload, 1) := by decide +kernel
theorem dX0_settle_30 : decode cX0_settle 30 = .ok (.invokevirtual 85, 3) := by decide +kernel
theorem dX0_settle_33 : decode cX0_settle 33 = .ok (.aload_n 0, 1) := by decide +kernel
theorem dX0_settle_34 : decode cX0_settle 34 = .ok (.aload_n 0, 1) := by decide +kernel
theorem dX0_settle_35 : decode cX0_settle 35 = .ok (.getfield 13, 3) := by decide +kernel
theorem dX0_settle_38 : decode cX0_settle 38 = .ok (.iload_n 2, 1) := by decide +kernel
theorem dX0_settle_39 : decode cX0_settle 39 = .ok (.iaload, 1) := by decide +kernel
theorem dX0_settle_40 : decode cX0_settle 40 = .ok (.invokevirtual 85, 3) := by decide +kernel
theorem dX0_settle_43 : decode cX0_settle 43 = .ok (.iand, 1) := by decide +kernel
theorem dX0_settle_44 : decode cX0_settle 44 = .ok (.iastore, 1) := by decide +kernel
theorem dX0_settle_45 : decode cX0_settle 45 = .ok (.iinc 2 1, 3) := by decide +kernel
theorem dX0_settle_48 : decode cX0_settle 48 = .ok (.goto (-43), 3) := by decide +kernel
theorem dX0_settle_51 : decode cX0_settle 51 = .ok (.aload_n 0, 1) := by decide +kernel
theorem dX0_settle_52 : decode cX0_settle 52 = .ok (.aload_n 0, 1) := by decide +kernel
theorem dX0_settle_53 : decode cX0_settle 53 = .ok (.getfield 41, 3) := by decide +kernel
theorem dX0_settle_56 : decode cX0_settle 56 = .ok (.iload_n 1, 1) := by decide +kernel
theorem dX0_settle_57 : decode cX0_settle 57 = .ok (.iconst 1, 1) := by decide +kernel
theorem dX0_settle_58 : decode cX0_settle 58 = .ok (.iadd, 1) := by decide +kernel
theorem dX0_settle_59 : decode cX0_settle 59 = .ok (.invokestatic 113, 3) := by decide +kernel
theorem dX0_settle_62 : decode cX0_settle 62 = .ok (.putfield 41, 3) := by decide +kernel
theorem dX0_settle_65 : decode cX0_settle 65 = .ok (.return_, 1) := by decide +kernel
theorem dX0_markUnder_0 : decode cX0_markUnder 0 = .ok (.iconst 0, 1) := by decide +kernel
theorem dX0_markUnder_1 : decode cX0_markUnder 1 = .ok (.istore_n 2, 1) := by decide +kernel
theorem dX0_markUnder_2 : decode cX0_markUnder 2 = .ok (.iload_n 2, 1) := by decide +kernel
theorem dX0_markUnder_3 : decode cX0_markUnder 3 = .ok (.iload_n 1, 1) := by decide +kernel
theorem dX0_markUnder_4 : decode cX0_markUnder 4 = .ok (.if_icmp .ge 16, 3) := by decide +kernel
theorem dX0_markUnder_7 : decode cX0_markUnder 7 = .ok (.aload_n 0, 1) := by decide +kernel
theorem dX0_markUnder_8 : decode cX0_markUnder 8 = .ok (.getfield 25, 3) := by decide +kernel
theorem dX0_markUnder_11 : decode cX0_markUnder 11 = .ok (.iload_n 2, 1) := by decide +kernel
theorem dX0_markUnder_12 : decode cX0_markUnder 12 = .ok (.iconst 0, 1) := by decide +kernel
theorem dX0_markUnder_13 : decode cX0_markUnder 13 = .ok (.iastore, 1) := by decide +kernel
theorem dX0_markUnder_14 : decode cX0_markUnder 14 = .ok (.iinc 2 1, 3) := by decide +kernel
theorem dX0_markUnder_17 : decode cX0_markUnder 17 = .ok (.goto (-15), 3) := by decide +kernel
theorem dX0_markUnder_20 : decode cX0_markUnder 20 = .ok (.aload_n 0, 1) := by decide +kernel
theorem dX0_markUnder_21 : decode cX0_markUnder 21 = .ok (.getfield 25, 3) := by decide +kernel
theorem dX0_markUnder_24 : decode cX0_markUnder 24 = .ok (.iload_n 1, 1) := by decide +kernel
theorem dX0_markUnder_25 : decode cX0_markUnder 25 = .ok (.iconst 1, 1) := by decide +kernel
theorem dX0_markUnder_26 : decode cX0_markUnder 26 = .ok (.iastore, 1) := by decide +kernel
theorem dX0_markUnder_27 : decode cX0_markUnder 27 = .ok (.iload_n 1, 1) := by decide +kernel
theorem dX0_markUnder_28 : decode cX0_markUnder 28 = .ok (.istore_n 2, 1) := by decide +kernel
theorem dX0_markUnder_29 : decode cX0_markUnder 29 = .ok (.iload_n 2, 1) := by decide +kernel
theorem dX0_markUnder_30 : decode cX0_markUnder 30 = .ok (.ifCond .le 55, 3) := by decide +kernel
theorem dX0_markUnder_33 : decode cX0_markUnder 33 = .ok (.aload_n 0, 1) := by decide +kernel
theorem dX0_markUnder_34 : decode cX0_markUnder 34 = .ok (.getfield 25, 3) := by decide +kernel
theorem dX0_markUnder_37 : decode cX0_markUnder 37 = .ok (.iload_n 2, 1) := by decide +kernel
theorem dX0_markUnder_38 : decode cX0_markUnder 38 = .ok (.iaload, 1) := by decide +kernel
theorem dX0_markUnder_39 : decode cX0_markUnder 39 = .ok (.iconst 1, 1) := by decide +kernel
theorem dX0_markUnder_40 : decode cX0_markUnder 40 = .ok (.if_icmp .ne 39, 3) := by decide +kernel
theorem dX0_markUnder_43 : decode cX0_markUnder 43 = .ok (.aload_n 0, 1) := by decide +kernel
theorem dX0_markUnder_44 : decode cX0_markUnder 44 = .ok (.iload_n 2, 1) := by decide +kernel
theorem dX0_markUnder_45 : decode cX0_markUnder 45 = .ok (.invokevirtual 100, 3) := by decide +kernel
theorem dX0_markUnder_48 : decode cX0_markUnder 48 = .ok (.ifCond .eq 31, 3) := by decide +kernel
theorem dX0_markUnder_51 : decode cX0_markUnder 51 = .ok (.aload_n 0, 1) := by decide +kernel
theorem dX0_markUnder_52 : decode cX0_markUnder 52 = .ok (.getfield 25, 3) := by decide +kernel
theorem dX0_markUnder_55 : decode cX0_markUnder 55 = .ok (.aload_n 0, 1) := by decide +kernel
theorem dX0_markUnder_56 : decode cX0_markUnder 56 = .ok (.getfield 9, 3) := by decide +kernel
theorem dX0_markUnder_59 : decode cX0_markUnder 59 = .ok (.iload_n 2, 1) := by decide +kernel
theorem dX0_markUnder_60 : decode cX0_markUnder 60 = .ok (.iaload, 1) := by decide +kernel
theorem dX0_markUnder_61 : decode cX0_markUnder 61 = .ok (.iconst 1, 1) := by decide +kernel
theorem dX0_markUnder_62 : decode cX0_markUnder 62 = .ok (.ishr, 1) := by decide +kernel
theorem dX0_markUnder_63 : decode cX0_markUnder 63 = .ok (.iconst 1, 1) := by decide +kernel
theorem dX0_markUnder_64 : decode cX0_markUnder 64 = .ok (.iastore, 1) := by decide +kernel
theorem dX0_markUnder_65 : decode cX0_markUnder 65 = .ok (.aload_n 0, 1) := by decide +kernel
theorem dX0_markUnder_66 : decode cX0_markUnder 66 = .ok (.getfield 25, 3) := by decide +kernel
theorem dX0_markUnder_69 : decode cX0_markUnder 69 = .ok (.aload_n 0, 1) := by decide +kernel
theorem dX0_markUnder_70 : decode cX0_markUnder 70 = .ok (.getfield 13, 3) := by decide +kernel
theorem dX0_markUnder_73 : decode cX0_markUnder 73 = .ok (.iload_n 2, 1) := by decide +kernel
theorem dX0_markUnder_74 : decode cX0_markUnder 74 = .ok (.iaload, 1) := by decide +kernel
theorem dX0_markUnder_75 : decode cX0_markUnder 75 = .ok (.iconst 1, 1) := by decide +kernel
theorem dX0_markUnder_76 : decode cX0_markUnder 76 = .ok (.ishr, 1) := by decide +kernel
theorem dX0_markUnder_77 : decode cX0_markUnder 77 = .ok (.iconst 1, 1) := by decide +kernel
theorem dX0_markUnder_78 : decode cX0_markUnder 78 = .ok (.iastore, 1) := by decide +kernel
theorem dX0_markUnder_79 : decode cX0_markUnder 79 = .ok (.iinc 2 (-1), 3) := by decide +kernel
theorem dX0_markUnder_82 : decode cX0_markUnder 82 = .ok (.goto (-53), 3) := by decide +kernel
theorem dX0_markUnder_85 : decode cX0_markUnder 85 = .ok (.return_, 1) := by decide +kernel
theorem dJ7_copyOf_0 : decode cJ7_copyOf 0 = .ok (.iload_n 1, 1) := by decide +kernel
theorem dJ7_copyOf_1 : decode cJ7_copyOf 1 = .ok (.aload_n 0, 1) := by decide +kernel
theorem dJ7_copyOf_2 : decode cJ7_copyOf 2 = .ok (.arraylength, 1) := by decide +kernel
theorem dJ7_copyOf_3 : decode cJ7_copyOf 3 = .ok (.if_icmp .ne 11, 3) := by decide +kernel
theorem dJ7_copyOf_6 : decode cJ7_copyOf 6 = .ok (.aload_n 0, 1) := by decide +kernel
theorem dJ7_copyOf_7 : decode cJ7_copyOf 7 = .ok (.invokevirtual 316, 3) := by decide +kernel
theorem dJ7_copyOf_10 : decode cJ7_copyOf 10 = .ok (.checkcast 317, 3) := by decide +kernel
theorem dJ7_copyOf_13 : decode cJ7_copyOf 13 = .ok (.areturn, 1) := by decide +kernel
theorem dJ7_copyOf_14 : decode cJ7_copyOf 14 = .ok (.iload_n 1, 1) := by decide +kernel
theorem dJ7_copyOf_15 : decode cJ7_copyOf 15 = .ok (.newarray .int, 2) := by decide +kernel
theorem dJ7_copyOf_17 : decode cJ7_copyOf 17 = .ok (.astore_n 2, 1) := by decide +kernel
theorem dJ7_copyOf_18 : decode cJ7_copyOf 18 = .ok (.aload_n 0, 1) := by decide +kernel
theorem dJ7_copyOf_19 : decode cJ7_copyOf 19 = .ok (.iconst 0, 1) := by decide +kernel
theorem dJ7_copyOf_20 : decode cJ7_copyOf 20 = .ok (.aload_n 2, 1) := by decide +kernel
theorem dJ7_copyOf_21 : decode cJ7_copyOf 21 = .ok (.iconst 0, 1) := by decide +kernel
theorem dJ7_copyOf_22 : decode cJ7_copyOf 22 = .ok (.aload_n 0, 1) := by decide +kernel
theorem dJ7_copyOf_23 : decode cJ7_copyOf 23 = .ok (.arraylength, 1) := by decide +kernel
theorem dJ7_copyOf_24 : decode cJ7_copyOf 24 = .ok (.iload_n 1, 1) := by decide +kernel
theorem dJ7_copyOf_25 : decode cJ7_copyOf 25 = .ok (.invokestatic 304, 3) := by decide +kernel
theorem dJ7_copyOf_28 : decode cJ7_copyOf 28 = .ok (.invokestatic 150, 3) := by decide +kernel
theorem dJ7_copyOf_31 : decode cJ7_copyOf 31 = .ok (.aload_n 2, 1) := by decide +kernel
theorem dJ7_copyOf_32 : decode cJ7_copyOf 32 = .ok (.areturn, 1) := by decide +kernel
