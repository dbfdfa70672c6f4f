theorem dX1_init_0 : decode cX1_init 0 = .ok (.aload_n 0, 1) := by decide +kernel
theorem dX1_init_1 : decode cX1_init 1 = .ok (.invokespecial 1, 3) := by decide +kernel
theorem dX1_init_4 : decode cX1_init 4 = .ok (.aload_n 0, 1) := by decide +kernel
theorem dX1_init_5 : decode cX1_init 5 = .ok (.iconst 1, 1) := by decide +kernel
theorem dX1_init_6 : decode cX1_init 6 = .ok (.putfield 7, 3) := by decide +kernel
theorem dX1_init_9 : decode cX1_init 9 = .ok (.aload_n 0, 1) := by decide +kernel
theorem dX1_init_10 : decode cX1_init 10 = .ok (.sipush 20000, 3) := by decide +kernel
theorem dX1_init_13 : decode cX1_init 13 = .ok (.newarray .byte, 2) := by decide +kernel
theorem dX1_init_15 : decode cX1_init 15 = .ok (.putfield 13, 3) := by decide +kernel
theorem dX1_init_18 : decode cX1_init 18 = .ok (.aload_n 0, 1) := by decide +kernel
theorem dX1_init_19 : decode cX1_init 19 = .ok (.sipush 20000, 3) := by decide +kernel
theorem dX1_init_22 : decode cX1_init 22 = .ok (.newarray .int, 2) := by decide +kernel
theorem dX1_init_24 : decode cX1_init 24 = .ok (.putfield 17, 3) := by decide +kernel
theorem dX1_init_27 : decode cX1_init 27 = .ok (.aload_n 0, 1) := by decide +kernel
theorem dX1_init_28 : decode cX1_init 28 = .ok (.sipush 20000, 3) := by decide +kernel
theorem dX1_init_31 : decode cX1_init 31 = .ok (.newarray .int, 2) := by decide +kernel
theorem dX1_init_33 : decode cX1_init 33 = .ok (.putfield 21, 3) := by decide +kernel
theorem dX1_init_36 : decode cX1_init 36 = .ok (.aload_n 0, 1) := by decide +kernel
theorem dX1_init_37 : decode cX1_init 37 = .ok (.sipush 20000, 3) := by decide +kernel
theorem dX1_init_40 : decode cX1_init 40 = .ok (.newarray .boolean, 2) := by decide +kernel
theorem dX1_init_42 : decode cX1_init 42 = .ok (.putfield 24, 3) := by decide +kernel
theorem dX1_init_45 : decode cX1_init 45 = .ok (.aload_n 0, 1) := by decide +kernel
theorem dX1_init_46 : decode cX1_init 46 = .ok (.sipush 20000, 3) := by decide +kernel
theorem dX1_init_49 : decode cX1_init 49 = .ok (.newarray .int, 2) := by decide +kernel
theorem dX1_init_51 : decode cX1_init 51 = .ok (.putfield 28, 3) := by decide +kernel
theorem dX1_init_54 : decode cX1_init 54 = .ok (.return_, 1) := by decide +kernel
theorem dX1_thrown_0 : decode cX1_thrown 0 = .ok (.aload_n 0, 1) := by decide +kernel
theorem dX1_thrown_1 : decode cX1_thrown 1 = .ok (.getfield 31, 3) := by decide +kernel
theorem dX1_thrown_4 : decode cX1_thrown 4 = .ok (.ireturn, 1) := by decide +kernel
theorem dX1_isLiteral_0 : decode cX1_isLiteral 0 = .ok (.iload_n 1, 1) := by decide +kernel
theorem dX1_isLiteral_1 : decode cX1_isLiteral 1 = .ok (.ifCond .lt 17, 3) := by decide +kernel
theorem dX1_isLiteral_4 : decode cX1_isLiteral 4 = .ok (.iload_n 1, 1) := by decide +kernel
theorem dX1_isLiteral_5 : decode cX1_isLiteral 5 = .ok (.iconst 2, 1) := by decide +kernel
theorem dX1_isLiteral_6 : decode cX1_isLiteral 6 = .ok (.aload_n 0, 1) := by decide +kernel
theorem dX1_isLiteral_7 : decode cX1_isLiteral 7 = .ok (.getfield 7, 3) := by decide +kernel
theorem dX1_isLiteral_10 : decode cX1_isLiteral 10 = .ok (.imul, 1) := by decide +kernel
theorem dX1_isLiteral_11 : decode cX1_isLiteral 11 = .ok (.if_icmp .ge 7, 3) := by decide +kernel
theorem dX1_isLiteral_14 : decode cX1_isLiteral 14 = .ok (.iconst 1, 1) := by decide +kernel
theorem dX1_isLiteral_15 : decode cX1_isLiteral 15 = .ok (.goto 4, 3) := by decide +kernel
theorem dX1_isLiteral_18 : decode cX1_isLiteral 18 = .ok (.iconst 0, 1) := by decide +kernel
theorem dX1_isLiteral_19 : decode cX1_isLiteral 19 = .ok (.ireturn, 1) := by decide +kernel
theorem dX1_isInput_0 : decode cX1_isInput 0 = .ok (.iload_n 1, 1) := by decide +kernel
theorem dX1_isInput_1 : decode cX1_isInput 1 = .ok (.ifCond .lt 25, 3) := by decide +kernel
theorem dX1_isInput_4 : decode cX1_isInput 4 = .ok (.iload_n 1, 1) := by decide +kernel
theorem dX1_isInput_5 : decode cX1_isInput 5 = .ok (.aload_n 0, 1) := by decide +kernel
theorem dX1_isInput_6 : decode cX1_isInput 6 = .ok (.getfield 7, 3) := by decide +kernel
theorem dX1_isInput_9 : decode cX1_isInput 9 = .ok (.if_icmp .ge 17, 3) := by decide +kernel
theorem dX1_isInput_12 : decode cX1_isInput 12 = .ok (.aload_n 0, 1) := by decide +kernel
theorem dX1_isInput_13 : decode cX1_isInput 13 = .ok (.getfield 13, 3) := by decide +kernel
theorem dX1_isInput_16 : decode cX1_isInput 16 = .ok (.iload_n 1, 1) := by decide +kernel
theorem dX1_isInput_17 : decode cX1_isInput 17 = .ok (.baload, 1) := by decide +kernel
theorem dX1_isInput_18 : decode cX1_isInput 18 = .ok (.iconst 1, 1) := by decide +kernel
theorem dX1_isInput_19 : decode cX1_isInput 19 = .ok (.if_icmp .ne 7, 3) := by decide +kernel
theorem dX1_isInput_22 : decode cX1_isInput 22 = .ok (.iconst 1, 1) := by decide +kernel
theorem dX1_isInput_23 : decode cX1_isInput 23 = .ok (.goto 4, 3) := by decide +kernel
theorem dX1_isInput_26 : decode cX1_isInput 26 = .ok (.iconst 0, 1) := by decide +kernel
theorem dX1_isInput_27 : decode cX1_isInput 27 = .ok (.ireturn, 1) := by decide +kernel
theorem dX1_add_0 : decode cX1_add 0 = .ok (.aload_n 0, 1) := by decide +kernel
theorem dX1_add_1 : decode cX1_add 1 = .ok (.getfield 7, 3) := by decide +kernel
theorem dX1_add_4 : decode cX1_add 4 = .ok (.sipush 20000, 3) := by decide +kernel
theorem dX1_add_7 : decode cX1_add 7 = .ok (.if_icmp .ne 10, 3) := by decide +kernel
theorem dX1_add_10 : decode cX1_add 10 = .ok (.aload_n 0, 1) := by decide +kernel
theorem dX1_add_11 : decode cX1_add 11 = .ok (.iconst 2, 1) := by decide +kernel
theorem dX1_add_12 : decode cX1_add 12 = .ok (.putfield 31, 3) := by decide +kernel
theorem dX1_add_15 : decode cX1_add 15 = .ok (.iconst 0, 1) := by decide +kernel
theorem dX1_add_16 : decode cX1_add 16 = .ok (.ireturn, 1) := by decide +kernel
theorem dX1_add_17 : decode cX1_add 17 = .ok (.aload_n 0, 1) := by decide +kernel
theorem dX1_add_18 : decode cX1_add 18 = .ok (.getfield 13, 3) := by decide +kernel
theorem dX1_add_21 : decode cX1_add 21 = .ok (.aload_n 0, 1) := by decide +kernel
theorem dX1_add_22 : decode cX1_add 22 = .ok (.getfield 7, 3) := by decide +kernel
theorem dX1_add_25 : decode cX1_add 25 = .ok (.iload_n 1, 1) := by decide +kernel
theorem dX1_add_26 : decode cX1_add 26 = .ok (.i2b, 1) := by decide +kernel
theorem dX1_add_27 : decode cX1_add 27 = .ok (.bastore, 1) := by decide +kernel
theorem dX1_add_28 : decode cX1_add 28 = .ok (.aload_n 0, 1) := by decide +kernel
theorem dX1_add_29 : decode cX1_add 29 = .ok (.getfield 17, 3) := by decide +kernel
theorem dX1_add_32 : decode cX1_add 32 = .ok (.aload_n 0, 1) := by decide +kernel
theorem dX1_add_33 : decode cX1_add 33 = .ok (.getfield 7, 3) := by decide +kernel
theorem dX1_add_36 : decode cX1_add 36 = .ok (.iload_n 2, 1) := by decide +kernel
theorem dX1_add_37 : decode cX1_add 37 = .ok (.iastore, 1) := by decide +kernel
theorem dX1_add_38 : decode cX1_add 38 = .ok (.aload_n 0, 1) := by decide +kernel
theorem dX1_add_39 : decode cX1_add 39 = .ok (.getfield 21, 3) := by decide +kernel
theorem dX1_add_42 : decode cX1_add 42 = .ok (.aload_n 0, 1) := by decide +kernel
theorem dX1_add_43 : decode cX1_add 43 = .ok (.getfield 7, 3) := by decide +kernel
theorem dX1_add_46 : decode cX1_add 46 = .ok (.iload_n 3, 1) := by decide +kernel
theorem dX1_add_47 : decode cX1_add 47 = .ok (.iastore, 1) := by decide +kernel
theorem dX1_add_48 : decode cX1_add 48 = .ok (.aload_n 0, 1) := by decide +kernel
theorem dX1_add_49 : decode cX1_add 49 = .ok (.getfield 24, 3) := by decide +kernel
theorem dX1_add_52 : decode cX1_add 52 = .ok (.aload_n 0, 1) := by decide +kernel
theorem dX1_add_53 : decode cX1_add 53 = .ok (.getfield 7, 3) := by decide +kernel
theorem dX1_add_56 : decode cX1_add 56 = .ok (.iconst 0, 1) := by decide +kernel
theorem dX1_add_57 : decode cX1_add 57 = .ok (.bastore, 1) := by decide +kernel
theorem dX1_add_58 : decode cX1_add 58 = .ok (.aload_n 0, 1) := by decide +kernel
theorem dX1_add_59 : decode cX1_add 59 = .ok (.dup, 1) := by decide +kernel
theorem dX1_add_60 : decode cX1_add 60 = .ok (.getfield 7, 3) := by decide +kernel
theorem dX1_add_63 : decode cX1_add 63 = .ok (.iconst 1, 1) := by decide +kernel
theorem dX1_add_64 : decode cX1_add 64 = .ok (.iadd, 1) := by decide +kernel
theorem dX1_add_65 : decode cX1_add 65 = .ok (.putfield 7, 3) := by decide +kernel
theorem dX1_add_68 : decode cX1_add 68 = .ok (.aload_n 0, 1) := by decide +kernel
theorem dX1_add_69 : decode cX1_add 69 = .ok (.getfield 7, 3) := by decide +kernel
theorem dX1_add_72 : decode cX1_add 72 = .ok (.iconst 1, 1) := by decide +kernel
theorem dX1_add_73 : decode cX1_add 73 = .ok (.isub, 1) := by decide +kernel
theorem dX1_add_74 : decode cX1_add 74 = .ok (.ireturn, 1) := by decide +kernel
theorem dX1_input_0 : decode cX1_input 0 = .ok (.aload_n 0, 1) := by decide +kernel
theorem dX1_input_1 : decode cX1_input 1 = .ok (.iconst 0, 1) := by decide +kernel
theorem dX1_input_2 : decode cX1_input 2 = .ok (.putfield 31, 3) := by decide +kernel
theorem dX1_input_5 : decode cX1_input 5 = .ok (.aload_n 0, 1) := by decide +kernel
theorem dX1_input_6 : decode cX1_input 6 = .ok (.iconst 1, 1) := by decide +kernel
theorem dX1_input_7 : decode cX1_input 7 = .ok (.iconst (-1), 1) := by decide +kernel
theorem dX1_input_8 : decode cX1_input 8 = .ok (.iconst (-1), 1) := by decide +kernel
theorem dX1_input_9 : decode cX1_input 9 = .ok (.invokevirtual 34, 3) := by decide +kernel
theorem dX1_input_12 : decode cX1_input 12 = .ok (.istore_n 1, 1) := by decide +kernel
theorem dX1_input_13 : decode cX1_input 13 = .ok (.aload_n 0, 1) := by decide +kernel
theorem dX1_input_14 : decode cX1_input 14 = .ok (.aload_n 0, 1) := by decide +kernel
theorem dX1_input_15 : decode cX1_input 15 = .ok (.getfield 31, 3) := by decide +kernel
theorem dX1_input_18 : decode cX1_input 18 = .ok (.ifCond .le 7, 3) := by decide +kernel
theorem dX1_input_21 : decode cX1_input 21 = .ok (.iconst 1, 1) := by decide +kernel
theorem dX1_input_22 : decode cX1_input 22 = .ok (.goto 4, 3) := by decide +kernel
theorem dX1_input_25 : decode cX1_input 25 = .ok (.iconst 0, 1) := by decide +kernel
theorem dX1_input_26 : decode cX1_input 26 = .ok (.putfield 31, 3) := by decide +kernel
theorem dX1_input_29 : decode cX1_input 29 = .ok (.aload_n 0, 1) := by decide +kernel
theorem dX1_input_30 : decode cX1_input 30 = .ok (.dup, 1) := by decide +kernel
theorem dX1_input_31 : decode cX1_input 31 = .ok (.getfield 38, 3) := by decide +kernel
theorem dX1_input_34 : decode cX1_input 34 = .ok (.aload_n 0, 1) := by decide +kernel
theorem dX1_input_35 : decode cX1_input 35 = .ok (.getfield 31, 3) := by decide +kernel
theorem dX1_input_38 : decode cX1_input 38 = .ok (.ifCond .le 7, 3) := by decide +kernel
theorem dX1_input_41 : decode cX1_input 41 = .ok (.iconst 0, 1) := by decide +kernel
theorem dX1_input_42 : decode cX1_input 42 = .ok (.goto 4, 3) := by decide +kernel
theorem dX1_input_45 : decode cX1_input 45 = .ok (.iconst 1, 1) := by decide +kernel
theorem dX1_input_46 : decode cX1_input 46 = .ok (.iadd, 1) := by decide +kernel
theorem dX1_input_47 : decode cX1_input 47 = .ok (.putfield 38, 3) := by decide +kernel
theorem dX1_input_50 : decode cX1_input 50 = .ok (.aload_n 0, 1) := by decide +kernel
theorem dX1_input_51 : decode cX1_input 51 = .ok (.getfield 31, 3) := by decide +kernel
theorem dX1_input_54 : decode cX1_input 54 = .ok (.ifCond .le 7, 3) := by decide +kernel
theorem dX1_input_57 : decode cX1_input 57 = .ok (.iconst 0, 1) := by decide +kernel
theorem dX1_input_58 : decode cX1_input 58 = .ok (.goto 6, 3) := by decide +kernel
theorem dX1_input_61 : decode cX1_input 61 = .ok (.iconst 2, 1) := by decide +kernel
theorem dX1_input_62 : decode cX1_input 62 = .ok (.iload_n 1, 1) := by decide +kernel
theorem dX1_input_63 : decode cX1_input 63 = .ok (.imul, 1) := by decide +kernel
theorem dX1_input_64 : decode cX1_input 64 = .ok (.ireturn, 1) := by decide +kernel
theorem dX1_isGate_0 : decode cX1_isGate 0 = .ok (.aload_n 0, 1) := by decide +kernel
theorem dX1_isGate_1 : decode cX1_isGate 1 = .ok (.getfield 13, 3) := by decide +kernel
theorem dX1_isGate_4 : decode cX1_isGate 4 = .ok (.iload_n 1, 1) := by decide +kernel
theorem dX1_isGate_5 : decode cX1_isGate 5 = .ok (.iconst 1, 1) := by decide +kernel
theorem dX1_isGate_6 : decode cX1_isGate 6 = .ok (.ishr, 1) := by decide +kernel
theorem dX1_isGate_7 : decode cX1_isGate 7 = .ok (.baload, 1) := by decide +kernel
theorem dX1_isGate_8 : decode cX1_isGate 8 = .ok (.iconst 2, 1) := by decide +kernel
theorem dX1_isGate_9 : decode cX1_isGate 9 = .ok (.if_icmp .ne 23, 3) := by decide +kernel
theorem dX1_isGate_12 : decode cX1_isGate 12 = .ok (.iload_n 1, 1) := by decide +kernel
theorem dX1_isGate_13 : decode cX1_isGate 13 = .ok (.iconst 1, 1) := by decide +kernel
theorem dX1_isGate_14 : decode cX1_isGate 14 = .ok (.iand, 1) := by decide +kernel
theorem dX1_isGate_15 : decode cX1_isGate 15 = .ok (.iconst 1, 1) := by decide +kernel
theorem dX1_isGate_16 : decode cX1_isGate 16 = .ok (.if_icmp .ne 7, 3) := by decide +kernel
theorem dX1_isGate_19 : decode cX1_isGate 19 = .ok (.iconst 1, 1) := by decide +kernel
theorem dX1_isGate_20 : decode cX1_isGate 20 = .ok (.goto 4, 3) := by decide +kernel
theorem dX1_isGate_23 : decode cX1_isGate 23 = .ok (.iconst 0, 1) := by decide +kernel
theorem dX1_isGate_24 : decode cX1_isGate 24 = .ok (.iload_n 2, 1) := by decide +kernel
theorem dX1_isGate_25 : decode cX1_isGate 25 = .ok (.if_icmp .ne 7, 3) := by decide +kernel
theorem dX1_isGate_28 : decode cX1_isGate 28 = .ok (.iconst 1, 1) := by decide +kernel
theorem dX1_isGate_29 : decode cX1_isGate 29 = .ok (.goto 4, 3) := by decide +kernel
theorem dX1_isGate_32 : decode cX1_isGate 32 = .ok (.iconst 0, 1) := by decide +kernel
theorem dX1_isGate_33 : decode cX1_isGate 33 = .ok (.ireturn, 1) := by decide +kernel
theorem dX1_has_0 : decode cX1_has 0 = .ok (.aload_n 0, 1) := by decide +kernel
theorem dX1_has_1 : decode cX1_has 1 = .ok (.getfield 17, 3) := by decide +kernel
theorem dX1_has_4 : decode cX1_has 4 = .ok (.iload_n 1, 1) := by decide +kernel
theorem dX1_has_5 : decode cX1_has 5 = .ok (.iconst 1, 1) := by decide +kernel
theorem dX1_has_6 : decode cX1_has 6 = .ok (.ishr, 1) := by decide +kernel
theorem dX1_has_7 : decode cX1_has 7 = .ok (.iaload, 1) := by decide +kernel
theorem dX1_has_8 : decode cX1_has 8 = .ok (.iload_n 2, 1) := by decide +kernel
theorem dX1_has_9 : decode cX1_has 9 = .ok (.if_icmp .eq 15, 3) := by decide +kernel
theorem dX1_has_12 : decode cX1_has 12 = .ok (.aload_n 0, 1) := by decide +kernel
theorem dX1_has_13 : decode cX1_has 13 = .ok (.getfield 21, 3) := by decide +kernel
theorem dX1_has_16 : decode cX1_has 16 = .ok (.iload_n 1, 1) := by decide +kernel
theorem dX1_has_17 : decode cX1_has 17 = .ok (.iconst 1, 1) := by decide +kernel
theorem dX1_has_18 : decode cX1_has 18 = .ok (.ishr, 1) := by decide +kernel
theorem dX1_has_19 : decode cX1_has 19 = .ok (.iaload, 1) := by decide +kernel
theorem dX1_has_20 : decode cX1_has 20 = .ok (.iload_n 2, 1) := by decide +kernel
theorem dX1_has_21 : decode cX1_has 21 = .ok (.if_icmp .ne 7, 3) := by decide +kernel
theorem dX1_has_24 : decode cX1_has 24 = .ok (.iconst 1, 1) := by decide +kernel
theorem dX1_has_25 : decode cX1_has 25 = .ok (.goto 4, 3) := by decide +kernel
theorem dX1_has_28 : decode cX1_has 28 = .ok (.iconst 0, 1) := by decide +kernel
theorem dX1_has_29 : decode cX1_has 29 = .ok (.ireturn, 1) := by decide +kernel
theorem dX1_beside_0 : decode cX1_beside 0 = .ok (.aload_n 0, 1) := by decide +kernel
theorem dX1_beside_1 : decode cX1_beside 1 = .ok (.getfield 17, 3) := by decide +kernel
theorem dX1_beside_4 : decode cX1_beside 4 = .ok (.iload_n 1, 1) := by decide +kernel
theorem dX1_beside_5 : decode cX1_beside 5 = .ok (.iconst 1, 1) := by decide +kernel
theorem dX1_beside_6 : decode cX1_beside 6 = .ok (.ishr, 1) := by decide +kernel
theorem dX1_beside_7 : decode cX1_beside 7 = .ok (.iaload, 1) := by decide +kernel
theorem dX1_beside_8 : decode cX1_beside 8 = .ok (.iload_n 2, 1) := by decide +kernel
theorem dX1_beside_9 : decode cX1_beside 9 = .ok (.if_icmp .ne 14, 3) := by decide +kernel
theorem dX1_beside_12 : decode cX1_beside 12 = .ok (.aload_n 0, 1) := by decide +kernel
theorem dX1_beside_13 : decode cX1_beside 13 = .ok (.getfield 21, 3) := by decide +kernel
theorem dX1_beside_16 : decode cX1_beside 16 = .ok (.iload_n 1, 1) := by decide +kernel
theorem dX1_beside_17 : decode cX1_beside 17 = .ok (.iconst 1, 1) := by decide +kernel
theorem dX1_beside_18 : decode cX1_beside 18 = .ok (.ishr, 1) := by decide +kernel
theorem dX1_beside_19 : decode cX1_beside 19 = .ok (.iaload, 1) := by decide +kernel
theorem dX1_beside_20 : decode cX1_beside 20 = .ok (.goto 11, 3) := by decide +kernel
theorem dX1_beside_23 : decode cX1_beside 23 = .ok (.aload_n 0, 1) := by decide +kernel
theorem dX1_beside_24 : decode cX1_beside 24 = .ok (.getfield 17, 3) := by decide +kernel
theorem dX1_beside_27 : decode cX1_beside 27 = .ok (.iload_n 1, 1) := by decide +kernel
theorem dX1_beside_28 : decode cX1_beside 28 = .ok (.iconst 1, 1) := by decide +kernel
theorem dX1_beside_29 : decode cX1_beside 29 = .ok (.ishr, 1) := by decide +kernel
theorem dX1_beside_30 : decode cX1_beside 30 = .ok (.iaload, 1) := by decide +kernel
theorem dX1_beside_31 : decode cX1_beside 31 = .ok (.ireturn, 1) := by decide +kernel
theorem dX1_rule_0 : decode cX1_rule 0 = .ok (.iload_n 1, 1) := by decide +kernel
theorem dX1_rule_1 : decode cX1_rule 1 = .ok (.tableswitch 164 0 6 #[43, 53, 64, 75, 88, 112, 138], 43) := by decide +kernel
theorem dX1_rule_44 : decode cX1_rule 44 = .ok (.iload_n 2, 1) := by decide +kernel
theorem dX1_rule_45 : decode cX1_rule 45 = .ok (.ifCond .ne 7, 3) := by decide +kernel
theorem dX1_rule_48 : decode cX1_rule 48 = .ok (.iconst 0, 1) := by decide +kernel
theorem dX1_rule_49 : decode cX1_rule 49 = .ok (.goto 4, 3) := by decide +kernel
theorem dX1_rule_52 : decode cX1_rule 52 = .ok (.iconst (-1), 1) := by decide +kernel
theorem dX1_rule_53 : decode cX1_rule 53 = .ok (.ireturn, 1) := by decide +kernel
theorem dX1_rule_54 : decode cX1_rule 54 = .ok (.iload_n 2, 1) := by decide +kernel
theorem dX1_rule_55 : decode cX1_rule 55 = .ok (.iconst 1, 1) := by decide +kernel
theorem dX1_rule_56 : decode cX1_rule 56 = .ok (.if_icmp .ne 7, 3) := by decide +kernel
theorem dX1_rule_59 : decode cX1_rule 59 = .ok (.iload_n 3, 1) := by decide +kernel
theorem dX1_rule_60 : decode cX1_rule 60 = .ok (.goto 4, 3) := by decide +kernel
theorem dX1_rule_63 : decode cX1_rule 63 = .ok (.iconst (-1), 1) := by decide +kernel
theorem dX1_rule_64 : decode cX1_rule 64 = .ok (.ireturn, 1) := by decide +kernel
theorem dX1_rule_65 : decode cX1_rule 65 = .ok (.iload_n 2, 1) := by decide +kernel
theorem dX1_rule_66 : decode cX1_rule 66 = .ok (.iload_n 3, 1) := by decide +kernel
theorem dX1_rule_67 : decode cX1_rule 67 = .ok (.if_icmp .ne 7, 3) := by decide +kernel
theorem dX1_rule_70 : decode cX1_rule 70 = .ok (.iload_n 2, 1) := by decide +kernel
theorem dX1_rule_71 : decode cX1_rule 71 = .ok (.goto 4, 3) := by decide +kernel
theorem dX1_rule_74 : decode cX1_rule 74 = .ok (.iconst (-1), 1) := by decide +kernel
theorem dX1_rule_75 : decode cX1_rule 75 = .ok (.ireturn, 1) := by decide +kernel
theorem dX1_rule_76 : decode cX1_rule 76 = .ok (.iload_n 2, 1) := by decide +kernel
theorem dX1_rule_77 : decode cX1_rule 77 = .ok (.iload_n 3, 1) := by decide +kernel
theorem dX1_rule_78 : decode cX1_rule 78 = .ok (.iconst 1, 1) := by decide +kernel
theorem dX1_rule_79 : decode cX1_rule 79 = .ok (.ixor, 1) := by decide +kernel
theorem dX1_rule_80 : decode cX1_rule 80 = .ok (.if_icmp .ne 7, 3) := by decide +kernel
theorem dX1_rule_83 : decode cX1_rule 83 = .ok (.iconst 0, 1) := by decide +kernel
theorem dX1_rule_84 : decode cX1_rule 84 = .ok (.goto 4, 3) := by decide +kernel
theorem dX1_rule_87 : decode cX1_rule 87 = .ok (.iconst (-1), 1) := by decide +kernel
theorem dX1_rule_88 : decode cX1_rule 88 = .ok (.ireturn, 1) := by decide +kernel
theorem dX1_rule_89 : decode cX1_rule 89 = .ok (.aload_n 0, 1) := by decide +kernel
theorem dX1_rule_90 : decode cX1_rule 90 = .ok (.iload_n 2, 1) := by decide +kernel
theorem dX1_rule_91 : decode cX1_rule 91 = .ok (.iconst 0, 1) := by decide +kernel
theorem dX1_rule_92 : decode cX1_rule 92 = .ok (.invokevirtual 41, 3) := by decide +kernel
theorem dX1_rule_95 : decode cX1_rule 95 = .ok (.ifCond .eq 16, 3) := by decide +kernel
theorem dX1_rule_98 : decode cX1_rule 98 = .ok (.aload_n 0, 1) := by decide +kernel
theorem dX1_rule_99 : decode cX1_rule 99 = .ok (.iload_n 2, 1) := by decide +kernel
theorem dX1_rule_100 : decode cX1_rule 100 = .ok (.iload_n 3, 1) := by decide +kernel
theorem dX1_rule_101 : decode cX1_rule 101 = .ok (.invokevirtual 45, 3) := by decide +kernel
theorem dX1_rule_104 : decode cX1_rule 104 = .ok (.ifCond .eq 7, 3) := by decide +kernel
theorem dX1_rule_107 : decode cX1_rule 107 = .ok (.iload_n 2, 1) := by decide +kernel
theorem dX1_rule_108 : decode cX1_rule 108 = .ok (.goto 4, 3) := by decide +kernel
theorem dX1_rule_111 : decode cX1_rule 111 = .ok (.iconst (-1), 1) := by decide +kernel
theorem dX1_rule_112 : decode cX1_rule 112 = .ok (.ireturn, 1) := by decide +kernel
theorem dX1_rule_113 : decode cX1_rule 113 = .ok (.aload_n 0, 1) := by decide +kernel
theorem dX1_rule_114 : decode cX1_rule 114 = .ok (.iload_n 2, 1) := by decide +kernel
theorem dX1_rule_115 : decode cX1_rule 115 = .ok (.iconst 0, 1) := by decide +kernel
theorem dX1_rule_116 : decode cX1_rule 116 = .ok (.invokevirtual 41, 3) := by decide +kernel
theorem dX1_rule_119 : decode cX1_rule 119 = .ok (.ifCond .eq 18, 3) := by decide +kernel
theorem dX1_rule_122 : decode cX1_rule 122 = .ok (.aload_n 0, 1) := by decide +kernel
theorem dX1_rule_123 : decode cX1_rule 123 = .ok (.iload_n 2, 1) := by decide +kernel
theorem dX1_rule_124 : decode cX1_rule 124 = .ok (.iload_n 3, 1) := by decide +kernel
theorem dX1_rule_125 : decode cX1_rule 125 = .ok (.iconst 1, 1) := by decide +kernel
theorem dX1_rule_126 : decode cX1_rule 126 = .ok (.ixor, 1) := by decide +kernel
theorem dX1_rule_127 : decode cX1_rule 127 = .ok (.invokevirtual 45, 3) := by decide +kernel
theorem dX1_rule_130 : decode cX1_rule 130 = .ok (.ifCond .eq 7, 3) := by decide +kernel
theorem dX1_rule_133 : decode cX1_rule 133 = .ok (.iconst 0, 1) := by decide +kernel
theorem dX1_rule_134 : decode cX1_rule 134 = .ok (.goto 4, 3) := by decide +kernel
theorem dX1_rule_137 : decode cX1_rule 137 = .ok (.iconst (-1), 1) := by decide +kernel
theorem dX1_rule_138 : decode cX1_rule 138 = .ok (.ireturn, 1) := by decide +kernel
theorem dX1_rule_139 : decode cX1_rule 139 = .ok (.aload_n 0, 1) := by decide +kernel
theorem dX1_rule_140 : decode cX1_rule 140 = .ok (.iload_n 2, 1) := by decide +kernel
theorem dX1_rule_141 : decode cX1_rule 141 = .ok (.iconst 1, 1) := by decide +kernel
theorem dX1_rule_142 : decode cX1_rule 142 = .ok (.invokevirtual 41, 3) := by decide +kernel
theorem dX1_rule_145 : decode cX1_rule 145 = .ok (.ifCond .eq 18, 3) := by decide +kernel
theorem dX1_rule_148 : decode cX1_rule 148 = .ok (.aload_n 0, 1) := by decide +kernel
theorem dX1_rule_149 : decode cX1_rule 149 = .ok (.iload_n 2, 1) := by decide +kernel
theorem dX1_rule_150 : decode cX1_rule 150 = .ok (.iload_n 3, 1) := by decide +kernel
theorem dX1_rule_151 : decode cX1_rule 151 = .ok (.iconst 1, 1) := by decide +kernel
theorem dX1_rule_152 : decode cX1_rule 152 = .ok (.ixor, 1) := by decide +kernel
theorem dX1_rule_153 : decode cX1_rule 153 = .ok (.invokevirtual 45, 3) := by decide +kernel
theorem dX1_rule_156 : decode cX1_rule 156 = .ok (.ifCond .eq 7, 3) := by decide +kernel
theorem dX1_rule_159 : decode cX1_rule 159 = .ok (.iload_n 3, 1) := by decide +kernel
theorem dX1_rule_160 : decode cX1_rule 160 = .ok (.goto 4, 3) := by decide +kernel
theorem dX1_rule_163 : decode cX1_rule 163 = .ok (.iconst (-1), 1) := by decide +kernel
theorem dX1_rule_164 : decode cX1_rule 164 = .ok (.ireturn, 1) := by decide +kernel
theorem dX1_rule_165 : decode cX1_rule 165 = .ok (.aload_n 0, 1) := by decide +kernel
theorem dX1_rule_166 : decode cX1_rule 166 = .ok (.iload_n 2, 1) := by decide +kernel
theorem dX1_rule_167 : decode cX1_rule 167 = .ok (.iconst 0, 1) := by decide +kernel
theorem dX1_rule_168 : decode cX1_rule 168 = .ok (.invokevirtual 41, 3) := by decide +kernel
theorem dX1_rule_171 : decode cX1_rule 171 = .ok (.ifCond .eq 52, 3) := by decide +kernel
theorem dX1_rule_174 : decode cX1_rule 174 = .ok (.aload_n 0, 1) := by decide +kernel
theorem dX1_rule_175 : decode cX1_rule 175 = .ok (.iload_n 3, 1) := by decide +kernel
theorem dX1_rule_176 : decode cX1_rule 176 = .ok (.iconst 0, 1) := by decide +kernel
theorem dX1_rule_177 : decode cX1_rule 177 = .ok (.invokevirtual 41, 3) := by decide +kernel
theorem dX1_rule_180 : decode cX1_rule 180 = .ok (.ifCond .eq 43, 3) := by decide +kernel
theorem dX1_rule_183 : decode cX1_rule 183 = .ok (.aload_n 0, 1) := by decide +kernel
theorem dX1_rule_184 : decode cX1_rule 184 = .ok (.iload_n 2, 1) := by decide +kernel
theorem dX1_rule_185 : decode cX1_rule 185 = .ok (.aload_n 0, 1) := by decide +kernel
theorem dX1_rule_186 : decode cX1_rule 186 = .ok (.getfield 17, 3) := by decide +kernel
theorem dX1_rule_189 : decode cX1_rule 189 = .ok (.iload_n 3, 1) := by decide +kernel
theorem dX1_rule_190 : decode cX1_rule 190 = .ok (.iconst 1, 1) := by decide +kernel
theorem dX1_rule_191 : decode cX1_rule 191 = .ok (.ishr, 1) := by decide +kernel
theorem dX1_rule_192 : decode cX1_rule 192 = .ok (.iaload, 1) := by decide +kernel
theorem dX1_rule_193 : decode cX1_rule 193 = .ok (.iconst 1, 1) := by decide +kernel
theorem dX1_rule_194 : decode cX1_rule 194 = .ok (.ixor, 1) := by decide +kernel
theorem dX1_rule_195 : decode cX1_rule 195 = .ok (.invokevirtual 45, 3) := by decide +kernel
theorem dX1_rule_198 : decode cX1_rule 198 = .ok (.ifCond .ne 21, 3) := by decide +kernel
theorem dX1_rule_201 : decode cX1_rule 201 = .ok (.aload_n 0, 1) := by decide +kernel
theorem dX1_rule_202 : decode cX1_rule 202 = .ok (.iload_n 2, 1) := by decide +kernel
theorem dX1_rule_203 : decode cX1_rule 203 = .ok (.aload_n 0, 1) := by decide +kernel
theorem dX1_rule_204 : decode cX1_rule 204 = .ok (.getfield 21, 3) := by decide +kernel
theorem dX1_rule_207 : decode cX1_rule 207 = .ok (.iload_n 3, 1) := by decide +kernel
theorem dX1_rule_208 : decode cX1_rule 208 = .ok (.iconst 1, 1) := by decide +kernel
theorem dX1_rule_209 : decode cX1_rule 209 = .ok (.ishr, 1) := by decide +kernel
theorem dX1_rule_210 : decode cX1_rule 210 = .ok (.iaload, 1) := by decide +kernel
theorem dX1_rule_211 : decode cX1_rule 211 = .ok (.iconst 1, 1) := by decide +kernel
theorem dX1_rule_212 : decode cX1_rule 212 = .ok (.ixor, 1) := by decide +kernel
theorem dX1_rule_213 : decode cX1_rule 213 = .ok (.invokevirtual 45, 3) := by decide +kernel
theorem dX1_rule_216 : decode cX1_rule 216 = .ok (.ifCond .eq 7, 3) := by decide +kernel
theorem dX1_rule_219 : decode cX1_rule 219 = .ok (.iconst 1, 1) := by decide +kernel
theorem dX1_rule_220 : decode cX1_rule 220 = .ok (.goto 4, 3) := by decide +kernel
theorem dX1_rule_223 : decode cX1_rule 223 = .ok (.iconst 0, 1) := by decide +kernel
theorem dX1_rule_224 : decode cX1_rule 224 = .ok (.istore 4, 2) := by decide +kernel
theorem dX1_rule_226 : decode cX1_rule 226 = .ok (.iload 4, 2) := by decide +kernel
theorem dX1_rule_228 : decode cX1_rule 228 = .ok (.ifCond .eq 7, 3) := by decide +kernel
theorem dX1_rule_231 : decode cX1_rule 231 = .ok (.iconst 0, 1) := by decide +kernel
theorem dX1_rule_232 : decode cX1_rule 232 = .ok (.goto 4, 3) := by decide +kernel
theorem dX1_rule_235 : decode cX1_rule 235 = .ok (.iconst (-1), 1) := by decide +kernel
theorem dX1_rule_236 : decode cX1_rule 236 = .ok (.ireturn, 1) := by decide +kernel
theorem dX1_gate_0 : decode cX1_gate 0 = .ok (.iload_n 1, 1) := by decide +kernel
theorem dX1_gate_1 : decode cX1_gate 1 = .ok (.iload_n 2, 1) := by decide +kernel
theorem dX1_gate_2 : decode cX1_gate 2 = .ok (.if_icmp .ge 7, 3) := by decide +kernel
theorem dX1_gate_5 : decode cX1_gate 5 = .ok (.iload_n 1, 1) := by decide +kernel
theorem dX1_gate_6 : decode cX1_gate 6 = .ok (.goto 4, 3) := by decide +kernel
theorem dX1_gate_9 : decode cX1_gate 9 = .ok (.iload_n 2, 1) := by decide +kernel
theorem dX1_gate_10 : decode cX1_gate 10 = .ok (.istore_n 3, 1) := by decide +kernel
theorem dX1_gate_11 : decode cX1_gate 11 = .ok (.iload_n 1, 1) := by decide +kernel
theorem dX1_gate_12 : decode cX1_gate 12 = .ok (.iload_n 2, 1) := by decide +kernel
theorem dX1_gate_13 : decode cX1_gate 13 = .ok (.if_icmp .ge 7, 3) := by decide +kernel
theorem dX1_gate_16 : decode cX1_gate 16 = .ok (.iload_n 2, 1) := by decide +kernel
theorem dX1_gate_17 : decode cX1_gate 17 = .ok (.goto 4, 3) := by decide +kernel
theorem dX1_gate_20 : decode cX1_gate 20 = .ok (.iload_n 1, 1) := by decide +kernel
theorem dX1_gate_21 : decode cX1_gate 21 = .ok (.istore 4, 2) := by decide +kernel
theorem dX1_gate_23 : decode cX1_gate 23 = .ok (.iconst 1, 1) := by decide +kernel
theorem dX1_gate_24 : decode cX1_gate 24 = .ok (.istore 5, 2) := by decide +kernel
theorem dX1_gate_26 : decode cX1_gate 26 = .ok (.iload 5, 2) := by decide +kernel
theorem dX1_gate_28 : decode cX1_gate 28 = .ok (.aload_n 0, 1) := by decide +kernel
theorem dX1_gate_29 : decode cX1_gate 29 = .ok (.getfield 7, 3) := by decide +kernel
theorem dX1_gate_32 : decode cX1_gate 32 = .ok (.if_icmp .ge 48, 3) := by decide +kernel
theorem dX1_gate_35 : decode cX1_gate 35 = .ok (.aload_n 0, 1) := by decide +kernel
theorem dX1_gate_36 : decode cX1_gate 36 = .ok (.getfield 13, 3) := by decide +kernel
theorem dX1_gate_39 : decode cX1_gate 39 = .ok (.iload 5, 2) := by decide +kernel
theorem dX1_gate_41 : decode cX1_gate 41 = .ok (.baload, 1) := by decide +kernel
theorem dX1_gate_42 : decode cX1_gate 42 = .ok (.iconst 2, 1) := by decide +kernel
theorem dX1_gate_43 : decode cX1_gate 43 = .ok (.if_icmp .ne 31, 3) := by decide +kernel
theorem dX1_gate_46 : decode cX1_gate 46 = .ok (.aload_n 0, 1) := by decide +kernel
theorem dX1_gate_47 : decode cX1_gate 47 = .ok (.getfield 17, 3) := by decide +kernel
theorem dX1_gate_50 : decode cX1_gate 50 = .ok (.iload 5, 2) := by decide +kernel
theorem dX1_gate_52 : decode cX1_gate 52 = .ok (.iaload, 1) := by decide +kernel
theorem dX1_gate_53 : decode cX1_gate 53 = .ok (.iload_n 3, 1) := by decide +kernel
theorem dX1_gate_54 : decode cX1_gate 54 = .ok (.if_icmp .ne 20, 3) := by decide +kernel
theorem dX1_gate_57 : decode cX1_gate 57 = .ok (.aload_n 0, 1) := by decide +kernel
theorem dX1_gate_58 : decode cX1_gate 58 = .ok (.getfield 21, 3) := by decide +kernel
theorem dX1_gate_61 : decode cX1_gate 61 = .ok (.iload 5, 2) := by decide +kernel
theorem dX1_gate_63 : decode cX1_gate 63 = .ok (.iaload, 1) := by decide +kernel
theorem dX1_gate_64 : decode cX1_gate 64 = .ok (.iload 4, 2) := by decide +kernel
theorem dX1_gate_66 : decode cX1_gate 66 = .ok (.if_icmp .ne 8, 3) := by decide +kernel
theorem dX1_gate_69 : decode cX1_gate 69 = .ok (.iconst 2, 1) := by decide +kernel
theorem dX1_gate_70 : decode cX1_gate 70 = .ok (.iload 5, 2) := by decide +kernel
theorem dX1_gate_72 : decode cX1_gate 72 = .ok (.imul, 1) := by decide +kernel
theorem dX1_gate_73 : decode cX1_gate 73 = .ok (.ireturn, 1) := by decide +kernel
theorem dX1_gate_74 : decode cX1_gate 74 = .ok (.iinc 5 1, 3) := by decide +kernel
theorem dX1_gate_77 : decode cX1_gate 77 = .ok (.goto (-51), 3) := by decide +kernel
theorem dX1_gate_80 : decode cX1_gate 80 = .ok (.iconst 2, 1) := by decide +kernel
theorem dX1_gate_81 : decode cX1_gate 81 = .ok (.aload_n 0, 1) := by decide +kernel
theorem dX1_gate_82 : decode cX1_gate 82 = .ok (.iconst 2, 1) := by decide +kernel
theorem dX1_gate_83 : decode cX1_gate 83 = .ok (.iload_n 3, 1) := by decide +kernel
theorem dX1_gate_84 : decode cX1_gate 84 = .ok (.iload 4, 2) := by decide +kernel
theorem dX1_gate_86 : decode cX1_gate 86 = .ok (.invokevirtual 34, 3) := by decide +kernel
theorem dX1_gate_89 : decode cX1_gate 89 = .ok (.imul, 1) := by decide +kernel
theorem dX1_gate_90 : decode cX1_gate 90 = .ok (.ireturn, 1) := by decide +kernel
theorem dX1_make_0 : decode cX1_make 0 = .ok (.iload_n 1, 1) := by decide +kernel
theorem dX1_make_1 : decode cX1_make 1 = .ok (.istore_n 3, 1) := by decide +kernel
theorem dX1_make_2 : decode cX1_make 2 = .ok (.iload_n 2, 1) := by decide +kernel
theorem dX1_make_3 : decode cX1_make 3 = .ok (.istore 4, 2) := by decide +kernel
theorem dX1_make_5 : decode cX1_make 5 = .ok (.aload_n 0, 1) := by decide +kernel
theorem dX1_make_6 : decode cX1_make 6 = .ok (.getfield 31, 3) := by decide +kernel
theorem dX1_make_9 : decode cX1_make 9 = .ok (.ifCond .ne 216, 3) := by decide +kernel
theorem dX1_make_12 : decode cX1_make 12 = .ok (.iconst 0, 1) := by decide +kernel
theorem dX1_make_13 : decode cX1_make 13 = .ok (.istore 5, 2) := by decide +kernel
theorem dX1_make_15 : decode cX1_make 15 = .ok (.iconst 0, 1) := by decide +kernel
theorem dX1_make_16 : decode cX1_make 16 = .ok (.istore 6, 2) := by decide +kernel
theorem dX1_make_18 : decode cX1_make 18 = .ok (.iload 6, 2) := by decide +kernel
theorem dX1_make_20 : decode cX1_make 20 = .ok (.bipush 8, 2) := by decide +kernel
theorem dX1_make_22 : decode cX1_make 22 = .ok (.if_icmp .ge 187, 3) := by decide +kernel
theorem dX1_make_25 : decode cX1_make 25 = .ok (.iload 5, 2) := by decide +kernel
theorem dX1_make_27 : decode cX1_make 27 = .ok (.ifCond .ne 182, 3) := by decide +kernel
theorem dX1_make_30 : decode cX1_make 30 = .ok (.iload 6, 2) := by decide +kernel
theorem dX1_make_32 : decode cX1_make 32 = .ok (.bipush 7, 2) := by decide +kernel
theorem dX1_make_34 : decode cX1_make 34 = .ok (.if_icmp .ne 115, 3) := by decide +kernel
theorem dX1_make_37 : decode cX1_make 37 = .ok (.aload_n 0, 1) := by decide +kernel
theorem dX1_make_38 : decode cX1_make 38 = .ok (.iload_n 3, 1) := by decide +kernel
theorem dX1_make_39 : decode cX1_make 39 = .ok (.iconst 1, 1) := by decide +kernel
theorem dX1_make_40 : decode cX1_make 40 = .ok (.invokevirtual 41, 3) := by decide +kernel
theorem dX1_make_43 : decode cX1_make 43 = .ok (.ifCond .eq 17, 3) := by decide +kernel
theorem dX1_make_46 : decode cX1_make 46 = .ok (.aload_n 0, 1) := by decide +kernel
theorem dX1_make_47 : decode cX1_make 47 = .ok (.iload_n 3, 1) := by decide +kernel
theorem dX1_make_48 : decode cX1_make 48 = .ok (.iload 4, 2) := by decide +kernel
theorem dX1_make_50 : decode cX1_make 50 = .ok (.invokevirtual 45, 3) := by decide +kernel
theorem dX1_make_53 : decode cX1_make 53 = .ok (.ifCond .eq 7, 3) := by decide +kernel
theorem dX1_make_56 : decode cX1_make 56 = .ok (.iconst 1, 1) := by decide +kernel
theorem dX1_make_57 : decode cX1_make 57 = .ok (.goto 4, 3) := by decide +kernel
theorem dX1_make_60 : decode cX1_make 60 = .ok (.iconst 0, 1) := by decide +kernel
theorem dX1_make_61 : decode cX1_make 61 = .ok (.istore 7, 2) := by decide +kernel
theorem dX1_make_63 : decode cX1_make 63 = .ok (.aload_n 0, 1) := by decide +kernel
theorem dX1_make_64 : decode cX1_make 64 = .ok (.iload 4, 2) := by decide +kernel
theorem dX1_make_66 : decode cX1_make 66 = .ok (.iconst 1, 1) := by decide +kernel
theorem dX1_make_67 : decode cX1_make 67 = .ok (.invokevirtual 41, 3) := by decide +kernel
theorem dX1_make_70 : decode cX1_make 70 = .ok (.ifCond .eq 17, 3) := by decide +kernel
theorem dX1_make_73 : decode cX1_make 73 = .ok (.aload_n 0, 1) := by decide +kernel
theorem dX1_make_74 : decode cX1_make 74 = .ok (.iload 4, 2) := by decide +kernel
theorem dX1_make_76 : decode cX1_make 76 = .ok (.iload_n 3, 1) := by decide +kernel
theorem dX1_make_77 : decode cX1_make 77 = .ok (.invokevirtual 45, 3) := by decide +kernel
theorem dX1_make_80 : decode cX1_make 80 = .ok (.ifCond .eq 7, 3) := by decide +kernel
theorem dX1_make_83 : decode cX1_make 83 = .ok (.iconst 1, 1) := by decide +kernel
theorem dX1_make_84 : decode cX1_make 84 = .ok (.goto 4, 3) := by decide +kernel
theorem dX1_make_87 : decode cX1_make 87 = .ok (.iconst 0, 1) := by decide +kernel
theorem dX1_make_88 : decode cX1_make 88 = .ok (.istore 8, 2) := by decide +kernel
theorem dX1_make_90 : decode cX1_make 90 = .ok (.iload 7, 2) := by decide +kernel
theorem dX1_make_92 : decode cX1_make 92 = .ok (.ifCond .ne 8, 3) := by decide +kernel
theorem dX1_make_95 : decode cX1_make 95 = .ok (.iload 8, 2) := by decide +kernel
theorem dX1_make_97 : decode cX1_make 97 = .ok (.ifCond .eq 52, 3) := by decide +kernel
theorem dX1_make_100 : decode cX1_make 100 = .ok (.iload 7, 2) := by decide +kernel
theorem dX1_make_102 : decode cX1_make 102 = .ok (.ifCond .eq 8, 3) := by decide +kernel
theorem dX1_make_105 : decode cX1_make 105 = .ok (.iload 4, 2) := by decide +kernel
theorem dX1_make_107 : decode cX1_make 107 = .ok (.goto 4, 3) := by decide +kernel
theorem dX1_make_110 : decode cX1_make 110 = .ok (.iload_n 3, 1) := by decide +kernel
theorem dX1_make_111 : decode cX1_make 111 = .ok (.istore 9, 2) := by decide +kernel
theorem dX1_make_113 : decode cX1_make 113 = .ok (.iload 7, 2) := by decide +kernel
theorem dX1_make_115 : decode cX1_make 115 = .ok (.ifCond .eq 13, 3) := by decide +kernel
theorem dX1_make_118 : decode cX1_make 118 = .ok (.aload_n 0, 1) := by decide +kernel
theorem dX1_make_119 : decode cX1_make 119 = .ok (.iload_n 3, 1) := by decide +kernel
theorem dX1_make_120 : decode cX1_make 120 = .ok (.iload 4, 2) := by decide +kernel
theorem dX1_make_122 : decode cX1_make 122 = .ok (.invokevirtual 49, 3) := by decide +kernel
theorem dX1_make_125 : decode cX1_make 125 = .ok (.goto 10, 3) := by decide +kernel
theorem dX1_make_128 : decode cX1_make 128 = .ok (.aload_n 0, 1) := by decide +kernel
theorem dX1_make_129 : decode cX1_make 129 = .ok (.iload 4, 2) := by decide +kernel
theorem dX1_make_131 : decode cX1_make 131 = .ok (.iload_n 3, 1) := by decide +kernel
theorem dX1_make_132 : decode cX1_make 132 = .ok (.invokevirtual 49, 3) := by decide +kernel
theorem dX1_make_135 : decode cX1_make 135 = .ok (.istore 10, 2) := by decide +kernel
theorem dX1_make_137 : decode cX1_make 137 = .ok (.iload 9, 2) := by decide +kernel
theorem dX1_make_139 : decode cX1_make 139 = .ok (.istore_n 3, 1) := by decide +kernel
theorem dX1_make_140 : decode cX1_make 140 = .ok (.iload 10, 2) := by decide +kernel
theorem dX1_make_142 : decode cX1_make 142 = .ok (.iconst 1, 1) := by decide +kernel
theorem dX1_make_143 : decode cX1_make 143 = .ok (.ixor, 1) := by decide +kernel
theorem dX1_make_144 : decode cX1_make 144 = .ok (.istore 4, 2) := by decide +kernel
theorem dX1_make_146 : decode cX1_make 146 = .ok (.iconst 1, 1) := by decide +kernel
theorem dX1_make_147 : decode cX1_make 147 = .ok (.istore 5, 2) := by decide +kernel
theorem dX1_make_149 : decode cX1_make 149 = .ok (.iload 5, 2) := by decide +kernel
theorem dX1_make_151 : decode cX1_make 151 = .ok (.ifCond .eq 7, 3) := by decide +kernel
theorem dX1_make_154 : decode cX1_make 154 = .ok (.iconst (-1), 1) := by decide +kernel
theorem dX1_make_155 : decode cX1_make 155 = .ok (.goto 12, 3) := by decide +kernel
theorem dX1_make_158 : decode cX1_make 158 = .ok (.aload_n 0, 1) := by decide +kernel
theorem dX1_make_159 : decode cX1_make 159 = .ok (.iload 6, 2) := by decide +kernel
theorem dX1_make_161 : decode cX1_make 161 = .ok (.iload_n 3, 1) := by decide +kernel
theorem dX1_make_162 : decode cX1_make 162 = .ok (.iload 4, 2) := by decide +kernel
theorem dX1_make_164 : decode cX1_make 164 = .ok (.invokevirtual 53, 3) := by decide +kernel
theorem dX1_make_167 : decode cX1_make 167 = .ok (.istore 7, 2) := by decide +kernel
theorem dX1_make_169 : decode cX1_make 169 = .ok (.iload 7, 2) := by decide +kernel
theorem dX1_make_171 : decode cX1_make 171 = .ok (.ifCond .ge 20, 3) := by decide +kernel
theorem dX1_make_174 : decode cX1_make 174 = .ok (.iload 5, 2) := by decide +kernel
theorem dX1_make_176 : decode cX1_make 176 = .ok (.ifCond .ne 15, 3) := by decide +kernel
theorem dX1_make_179 : decode cX1_make 179 = .ok (.aload_n 0, 1) := by decide +kernel
theorem dX1_make_180 : decode cX1_make 180 = .ok (.iload 6, 2) := by decide +kernel
theorem dX1_make_182 : decode cX1_make 182 = .ok (.iload 4, 2) := by decide +kernel
theorem dX1_make_184 : decode cX1_make 184 = .ok (.iload_n 3, 1) := by decide +kernel
theorem dX1_make_185 : decode cX1_make 185 = .ok (.invokevirtual 53, 3) := by decide +kernel
theorem dX1_make_188 : decode cX1_make 188 = .ok (.goto 5, 3) := by decide +kernel
theorem dX1_make_191 : decode cX1_make 191 = .ok (.iload 7, 2) := by decide +kernel
theorem dX1_make_193 : decode cX1_make 193 = .ok (.istore 7, 2) := by decide +kernel
theorem dX1_make_195 : decode cX1_make 195 = .ok (.iload 7, 2) := by decide +kernel
theorem dX1_make_197 : decode cX1_make 197 = .ok (.ifCond .lt 6, 3) := by decide +kernel
theorem dX1_make_200 : decode cX1_make 200 = .ok (.iload 7, 2) := by decide +kernel
theorem dX1_make_202 : decode cX1_make 202 = .ok (.ireturn, 1) := by decide +kernel
theorem dX1_make_203 : decode cX1_make 203 = .ok (.iinc 6 1, 3) := by decide +kernel
theorem dX1_make_206 : decode cX1_make 206 = .ok (.goto (-188), 3) := by decide +kernel
theorem dX1_make_209 : decode cX1_make 209 = .ok (.iload 5, 2) := by decide +kernel
theorem dX1_make_211 : decode cX1_make 211 = .ok (.ifCond .ne 11, 3) := by decide +kernel
theorem dX1_make_214 : decode cX1_make 214 = .ok (.aload_n 0, 1) := by decide +kernel
theorem dX1_make_215 : decode cX1_make 215 = .ok (.iload_n 3, 1) := by decide +kernel
theorem dX1_make_216 : decode cX1_make 216 = .ok (.iload 4, 2) := by decide +kernel
theorem dX1_make_218 : decode cX1_make 218 = .ok (.invokevirtual 56, 3) := by decide +kernel
theorem dX1_make_221 : decode cX1_make 221 = .ok (.ireturn, 1) := by decide +kernel
theorem dX1_make_222 : decode cX1_make 222 = .ok (.goto (-217), 3) := by decide +kernel
theorem dX1_make_225 : decode cX1_make 225 = .ok (.iconst 0, 1) := by decide +kernel
theorem dX1_make_226 : decode cX1_make 226 = .ok (.ireturn, 1) := by decide +kernel
theorem dX1_or_0 : decode cX1_or 0 = .ok (.aload_n 0, 1) := by decide +kernel
theorem dX1_or_1 : decode cX1_or 1 = .ok (.iload_n 1, 1) := by decide +kernel
theorem dX1_or_2 : decode cX1_or 2 = .ok (.iconst 1, 1) := by decide +kernel
theorem dX1_or_3 : decode cX1_or 3 = .ok (.ixor, 1) := by decide +kernel
theorem dX1_or_4 : decode cX1_or 4 = .ok (.iload_n 2, 1) := by decide +kernel
theorem dX1_or_5 : decode cX1_or 5 = .ok (.iconst 1, 1) := by decide +kernel
theorem dX1_or_6 : decode cX1_or 6 = .ok (.ixor, 1) := by decide +kernel
theorem dX1_or_7 : decode cX1_or 7 = .ok (.invokevirtual 59, 3) := by decide +kernel
theorem dX1_or_10 : decode cX1_or 10 = .ok (.iconst 1, 1) := by decide +kernel
theorem dX1_or_11 : decode cX1_or 11 = .ok (.ixor, 1) := by decide +kernel
theorem dX1_or_12 : decode cX1_or 12 = .ok (.ireturn, 1) := by decide +kernel
theorem dX1_xor_0 : decode cX1_xor 0 = .ok (.aload_n 0, 1) := by decide +kernel
theorem dX1_xor_1 : decode cX1_xor 1 = .ok (.iload_n 1, 1) := by decide +kernel
theorem dX1_xor_2 : decode cX1_xor 2 = .ok (.iload_n 2, 1) := by decide +kernel
theorem dX1_xor_3 : decode cX1_xor 3 = .ok (.iconst 1, 1) := by decide +kernel
theorem dX1_xor_4 : decode cX1_xor 4 = .ok (.ixor, 1) := by decide +kernel
theorem dX1_xor_5 : decode cX1_xor 5 = .ok (.invokevirtual 59, 3) := by decide +kernel
theorem dX1_xor_8 : decode cX1_xor 8 = .ok (.istore_n 3, 1) := by decide +kernel
theorem dX1_xor_9 : decode cX1_xor 9 = .ok (.aload_n 0, 1) := by decide +kernel
theorem dX1_xor_10 : decode cX1_xor 10 = .ok (.iload_n 1, 1) := by decide +kernel
theorem dX1_xor_11 : decode cX1_xor 11 = .ok (.iconst 1, 1) := by decide +kernel
theorem dX1_xor_12 : decode cX1_xor 12 = .ok (.ixor, 1) := by decide +kernel
theorem dX1_xor_13 : decode cX1_xor 13 = .ok (.iload_n 2, 1) := by decide +kernel
theorem dX1_xor_14 : decode cX1_xor 14 = .ok (.invokevirtual 59, 3) := by decide +kernel
theorem dX1_xor_17 : decode cX1_xor 17 = .ok (.istore 4, 2) := by decide +kernel
theorem dX1_xor_19 : decode cX1_xor 19 = .ok (.aload_n 0, 1) := by decide +kernel
theorem dX1_xor_20 : decode cX1_xor 20 = .ok (.iload_n 3, 1) := by decide +kernel
theorem dX1_xor_21 : decode cX1_xor 21 = .ok (.iload 4, 2) := by decide +kernel
theorem dX1_xor_23 : decode cX1_xor 23 = .ok (.invokevirtual 62, 3) := by decide +kernel
theorem dX1_xor_26 : decode cX1_xor 26 = .ok (.ireturn, 1) := by decide +kernel
theorem dX1_and_0 : decode cX1_and 0 = .ok (.aload_n 0, 1) := by decide +kernel
theorem dX1_and_1 : decode cX1_and 1 = .ok (.aload_n 0, 1) := by decide +kernel
theorem dX1_and_2 : decode cX1_and 2 = .ok (.iload_n 1, 1) := by decide +kernel
theorem dX1_and_3 : decode cX1_and 3 = .ok (.invokevirtual 65, 3) := by decide +kernel
theorem dX1_and_6 : decode cX1_and 6 = .ok (.ifCond .eq 15, 3) := by decide +kernel
theorem dX1_and_9 : decode cX1_and 9 = .ok (.aload_n 0, 1) := by decide +kernel
theorem dX1_and_10 : decode cX1_and 10 = .ok (.iload_n 2, 1) := by decide +kernel
theorem dX1_and_11 : decode cX1_and 11 = .ok (.invokevirtual 65, 3) := by decide +kernel
theorem dX1_and_14 : decode cX1_and 14 = .ok (.ifCond .eq 7, 3) := by decide +kernel
theorem dX1_and_17 : decode cX1_and 17 = .ok (.iconst 0, 1) := by decide +kernel
theorem dX1_and_18 : decode cX1_and 18 = .ok (.goto 4, 3) := by decide +kernel
theorem dX1_and_21 : decode cX1_and 21 = .ok (.iconst 1, 1) := by decide +kernel
theorem dX1_and_22 : decode cX1_and 22 = .ok (.putfield 31, 3) := by decide +kernel
theorem dX1_and_25 : decode cX1_and 25 = .ok (.aload_n 0, 1) := by decide +kernel
theorem dX1_and_26 : decode cX1_and 26 = .ok (.getfield 31, 3) := by decide +kernel
theorem dX1_and_29 : decode cX1_and 29 = .ok (.ifCond .le 7, 3) := by decide +kernel
theorem dX1_and_32 : decode cX1_and 32 = .ok (.iconst 0, 1) := by decide +kernel
theorem dX1_and_33 : decode cX1_and 33 = .ok (.goto 9, 3) := by decide +kernel
theorem dX1_and_36 : decode cX1_and 36 = .ok (.aload_n 0, 1) := by decide +kernel
theorem dX1_and_37 : decode cX1_and 37 = .ok (.iload_n 1, 1) := by decide +kernel
theorem dX1_and_38 : decode cX1_and 38 = .ok (.iload_n 2, 1) := by decide +kernel
theorem dX1_and_39 : decode cX1_and 39 = .ok (.invokevirtual 59, 3) := by decide +kernel
theorem dX1_and_42 : decode cX1_and 42 = .ok (.istore_n 3, 1) := by decide +kernel
theorem dX1_and_43 : decode cX1_and 43 = .ok (.aload_n 0, 1) := by decide +kernel
theorem dX1_and_44 : decode cX1_and 44 = .ok (.getfield 31, 3) := by decide +kernel
theorem dX1_and_47 : decode cX1_and 47 = .ok (.ifCond .le 7, 3) := by decide +kernel
theorem dX1_and_50 : decode cX1_and 50 = .ok (.iconst 0, 1) := by decide +kernel
theorem dX1_and_51 : decode cX1_and 51 = .ok (.goto 4, 3) := by decide +kernel
theorem dX1_and_54 : decode cX1_and 54 = .ok (.iload_n 3, 1) := by decide +kernel
theorem dX1_and_55 : decode cX1_and 55 = .ok (.ireturn, 1) := by decide +kernel
theorem dX1_join_0 : decode cX1_join 0 = .ok (.aload_n 0, 1) := by decide +kernel
theorem dX1_join_1 : decode cX1_join 1 = .ok (.iload_n 1, 1) := by decide +kernel
theorem dX1_join_2 : decode cX1_join 2 = .ok (.ifCond .eq 8, 3) := by decide +kernel
theorem dX1_join_5 : decode cX1_join 5 = .ok (.iload_n 1, 1) := by decide +kernel
theorem dX1_join_6 : decode cX1_join 6 = .ok (.iconst 1, 1) := by decide +kernel
theorem dX1_join_7 : decode cX1_join 7 = .ok (.if_icmp .ne 23, 3) := by decide +kernel
theorem dX1_join_10 : decode cX1_join 10 = .ok (.aload_n 0, 1) := by decide +kernel
theorem dX1_join_11 : decode cX1_join 11 = .ok (.iload_n 2, 1) := by decide +kernel
theorem dX1_join_12 : decode cX1_join 12 = .ok (.invokevirtual 65, 3) := by decide +kernel
theorem dX1_join_15 : decode cX1_join 15 = .ok (.ifCond .eq 15, 3) := by decide +kernel
theorem dX1_join_18 : decode cX1_join 18 = .ok (.aload_n 0, 1) := by decide +kernel
theorem dX1_join_19 : decode cX1_join 19 = .ok (.iload_n 3, 1) := by decide +kernel
theorem dX1_join_20 : decode cX1_join 20 = .ok (.invokevirtual 65, 3) := by decide +kernel
theorem dX1_join_23 : decode cX1_join 23 = .ok (.ifCond .eq 7, 3) := by decide +kernel
theorem dX1_join_26 : decode cX1_join 26 = .ok (.iconst 0, 1) := by decide +kernel
theorem dX1_join_27 : decode cX1_join 27 = .ok (.goto 4, 3) := by decide +kernel
theorem dX1_join_30 : decode cX1_join 30 = .ok (.iconst 1, 1) := by decide +kernel
theorem dX1_join_31 : decode cX1_join 31 = .ok (.putfield 31, 3) := by decide +kernel
theorem dX1_join_34 : decode cX1_join 34 = .ok (.aload_n 0, 1) := by decide +kernel
theorem dX1_join_35 : decode cX1_join 35 = .ok (.getfield 31, 3) := by decide +kernel
theorem dX1_join_38 : decode cX1_join 38 = .ok (.ifCond .le 7, 3) := by decide +kernel
theorem dX1_join_41 : decode cX1_join 41 = .ok (.iconst 0, 1) := by decide +kernel
theorem dX1_join_42 : decode cX1_join 42 = .ok (.goto 22, 3) := by decide +kernel
theorem dX1_join_45 : decode cX1_join 45 = .ok (.iload_n 1, 1) := by decide +kernel
theorem dX1_join_46 : decode cX1_join 46 = .ok (.ifCond .ne 12, 3) := by decide +kernel
theorem dX1_join_49 : decode cX1_join 49 = .ok (.aload_n 0, 1) := by decide +kernel
theorem dX1_join_50 : decode cX1_join 50 = .ok (.iload_n 2, 1) := by decide +kernel
theorem dX1_join_51 : decode cX1_join 51 = .ok (.iload_n 3, 1) := by decide +kernel
theorem dX1_join_52 : decode cX1_join 52 = .ok (.invokevirtual 62, 3) := by decide +kernel
theorem dX1_join_55 : decode cX1_join 55 = .ok (.goto 9, 3) := by decide +kernel
theorem dX1_join_58 : decode cX1_join 58 = .ok (.aload_n 0, 1) := by decide +kernel
theorem dX1_join_59 : decode cX1_join 59 = .ok (.iload_n 2, 1) := by decide +kernel
theorem dX1_join_60 : decode cX1_join 60 = .ok (.iload_n 3, 1) := by decide +kernel
theorem dX1_join_61 : decode cX1_join 61 = .ok (.invokevirtual 69, 3) := by decide +kernel
theorem dX1_join_64 : decode cX1_join 64 = .ok (.istore 4, 2) := by decide +kernel
theorem dX1_join_66 : decode cX1_join 66 = .ok (.aload_n 0, 1) := by decide +kernel
theorem dX1_join_67 : decode cX1_join 67 = .ok (.getfield 31, 3) := by decide +kernel
theorem dX1_join_70 : decode cX1_join 70 = .ok (.ifCond .le 7, 3) := by decide +kernel
theorem dX1_join_73 : decode cX1_join 73 = .ok (.iconst 0, 1) := by decide +kernel
theorem dX1_join_74 : decode cX1_join 74 = .ok (.goto 5, 3) := by decide +kernel
theorem dX1_join_77 : decode cX1_join 77 = .ok (.iload 4, 2) := by decide +kernel
theorem dX1_join_79 : decode cX1_join 79 = .ok (.ireturn, 1) := by decide +kernel
theorem dX1_three_0 : decode cX1_three 0 = .ok (.aload_n 0, 1) := by decide +kernel
theorem dX1_three_1 : decode cX1_three 1 = .ok (.iload_n 1, 1) := by decide +kernel
theorem dX1_three_2 : decode cX1_three 2 = .ok (.ifCond .lt 37, 3) := by decide +kernel
theorem dX1_three_5 : decode cX1_three 5 = .ok (.iload_n 1, 1) := by decide +kernel
theorem dX1_three_6 : decode cX1_three 6 = .ok (.iconst 2, 1) := by decide +kernel
theorem dX1_three_7 : decode cX1_three 7 = .ok (.if_icmp .gt 32, 3) := by decide +kernel
theorem dX1_three_10 : decode cX1_three 10 = .ok (.aload_n 0, 1) := by decide +kernel
theorem dX1_three_11 : decode cX1_three 11 = .ok (.iload_n 2, 1) := by decide +kernel
theorem dX1_three_12 : decode cX1_three 12 = .ok (.invokevirtual 65, 3) := by decide +kernel
theorem dX1_three_15 : decode cX1_three 15 = .ok (.ifCond .eq 24, 3) := by decide +kernel
theorem dX1_three_18 : decode cX1_three 18 = .ok (.aload_n 0, 1) := by decide +kernel
theorem dX1_three_19 : decode cX1_three 19 = .ok (.iload_n 3, 1) := by decide +kernel
theorem dX1_three_20 : decode cX1_three 20 = .ok (.invokevirtual 65, 3) := by decide +kernel
theorem dX1_three_23 : decode cX1_three 23 = .ok (.ifCond .eq 16, 3) := by decide +kernel
theorem dX1_three_26 : decode cX1_three 26 = .ok (.aload_n 0, 1) := by decide +kernel
theorem dX1_three_27 : decode cX1_three 27 = .ok (.iload 4, 2) := by decide +kernel
theorem dX1_three_29 : decode cX1_three 29 = .ok (.invokevirtual 65, 3) := by decide +kernel
theorem dX1_three_32 : decode cX1_three 32 = .ok (.ifCond .eq 7, 3) := by decide +kernel
theorem dX1_three_35 : decode cX1_three 35 = .ok (.iconst 0, 1) := by decide +kernel
theorem dX1_three_36 : decode cX1_three 36 = .ok (.goto 4, 3) := by decide +kernel
theorem dX1_three_39 : decode cX1_three 39 = .ok (.iconst 1, 1) := by decide +kernel
theorem dX1_three_40 : decode cX1_three 40 = .ok (.putfield 31, 3) := by decide +kernel
theorem dX1_three_43 : decode cX1_three 43 = .ok (.aload_n 0, 1) := by decide +kernel
theorem dX1_three_44 : decode cX1_three 44 = .ok (.getfield 31, 3) := by decide +kernel
theorem dX1_three_47 : decode cX1_three 47 = .ok (.ifCond .le 5, 3) := by decide +kernel
theorem dX1_three_50 : decode cX1_three 50 = .ok (.iconst 0, 1) := by decide +kernel
theorem dX1_three_51 : decode cX1_three 51 = .ok (.ireturn, 1) := by decide +kernel
theorem dX1_three_52 : decode cX1_three 52 = .ok (.iconst 0, 1) := by decide +kernel
theorem dX1_three_53 : decode cX1_three 53 = .ok (.istore 5, 2) := by decide +kernel
theorem dX1_three_55 : decode cX1_three 55 = .ok (.iload_n 1, 1) := by decide +kernel
theorem dX1_three_56 : decode cX1_three 56 = .ok (.ifCond .ne 35, 3) := by decide +kernel
theorem dX1_three_59 : decode cX1_three 59 = .ok (.aload_n 0, 1) := by decide +kernel
theorem dX1_three_60 : decode cX1_three 60 = .ok (.iload_n 2, 1) := by decide +kernel
theorem dX1_three_61 : decode cX1_three 61 = .ok (.iload_n 3, 1) := by decide +kernel
theorem dX1_three_62 : decode cX1_three 62 = .ok (.invokevirtual 59, 3) := by decide +kernel
theorem dX1_three_65 : decode cX1_three 65 = .ok (.istore 6, 2) := by decide +kernel
theorem dX1_three_67 : decode cX1_three 67 = .ok (.aload_n 0, 1) := by decide +kernel
theorem dX1_three_68 : decode cX1_three 68 = .ok (.iload_n 2, 1) := by decide +kernel
theorem dX1_three_69 : decode cX1_three 69 = .ok (.iconst 1, 1) := by decide +kernel
theorem dX1_three_70 : decode cX1_three 70 = .ok (.ixor, 1) := by decide +kernel
theorem dX1_three_71 : decode cX1_three 71 = .ok (.iload 4, 2) := by decide +kernel
theorem dX1_three_73 : decode cX1_three 73 = .ok (.invokevirtual 59, 3) := by decide +kernel
theorem dX1_three_76 : decode cX1_three 76 = .ok (.istore 7, 2) := by decide +kernel
theorem dX1_three_78 : decode cX1_three 78 = .ok (.aload_n 0, 1) := by decide +kernel
theorem dX1_three_79 : decode cX1_three 79 = .ok (.iload 6, 2) := by decide +kernel
theorem dX1_three_81 : decode cX1_three 81 = .ok (.iload 7, 2) := by decide +kernel
theorem dX1_three_83 : decode cX1_three 83 = .ok (.invokevirtual 62, 3) := by decide +kernel
theorem dX1_three_86 : decode cX1_three 86 = .ok (.istore 5, 2) := by decide +kernel
theorem dX1_three_88 : decode cX1_three 88 = .ok (.goto 57, 3) := by decide +kernel
theorem dX1_three_91 : decode cX1_three 91 = .ok (.iload_n 1, 1) := by decide +kernel
theorem dX1_three_92 : decode cX1_three 92 = .ok (.iconst 1, 1) := by decide +kernel
theorem dX1_three_93 : decode cX1_three 93 = .ok (.if_icmp .ne 20, 3) := by decide +kernel
theorem dX1_three_96 : decode cX1_three 96 = .ok (.aload_n 0, 1) := by decide +kernel
theorem dX1_three_97 : decode cX1_three 97 = .ok (.aload_n 0, 1) := by decide +kernel
theorem dX1_three_98 : decode cX1_three 98 = .ok (.iload_n 2, 1) := by decide +kernel
theorem dX1_three_99 : decode cX1_three 99 = .ok (.iload_n 3, 1) := by decide +kernel
theorem dX1_three_100 : decode cX1_three 100 = .ok (.invokevirtual 69, 3) := by decide +kernel
theorem dX1_three_103 : decode cX1_three 103 = .ok (.iload 4, 2) := by decide +kernel
theorem dX1_three_105 : decode cX1_three 105 = .ok (.invokevirtual 69, 3) := by decide +kernel
theorem dX1_three_108 : decode cX1_three 108 = .ok (.istore 5, 2) := by decide +kernel
theorem dX1_three_110 : decode cX1_three 110 = .ok (.goto 35, 3) := by decide +kernel
theorem dX1_three_113 : decode cX1_three 113 = .ok (.aload_n 0, 1) := by decide +kernel
theorem dX1_three_114 : decode cX1_three 114 = .ok (.iload_n 2, 1) := by decide +kernel
theorem dX1_three_115 : decode cX1_three 115 = .ok (.iload_n 3, 1) := by decide +kernel
theorem dX1_three_116 : decode cX1_three 116 = .ok (.invokevirtual 59, 3) := by decide +kernel
theorem dX1_three_119 : decode cX1_three 119 = .ok (.istore 6, 2) := by decide +kernel
theorem dX1_three_121 : decode cX1_three 121 = .ok (.aload_n 0, 1) := by decide +kernel
theorem dX1_three_122 : decode cX1_three 122 = .ok (.iload 4, 2) := by decide +kernel
theorem dX1_three_124 : decode cX1_three 124 = .ok (.aload_n 0, 1) := by decide +kernel
theorem dX1_three_125 : decode cX1_three 125 = .ok (.iload_n 2, 1) := by decide +kernel
theorem dX1_three_126 : decode cX1_three 126 = .ok (.iload_n 3, 1) := by decide +kernel
theorem dX1_three_127 : decode cX1_three 127 = .ok (.invokevirtual 69, 3) := by decide +kernel
theorem dX1_three_130 : decode cX1_three 130 = .ok (.invokevirtual 59, 3) := by decide +kernel
theorem dX1_three_133 : decode cX1_three 133 = .ok (.istore 7, 2) := by decide +kernel
theorem dX1_three_135 : decode cX1_three 135 = .ok (.aload_n 0, 1) := by decide +kernel
theorem dX1_three_136 : decode cX1_three 136 = .ok (.iload 6, 2) := by decide +kernel
theorem dX1_three_138 : decode cX1_three 138 = .ok (.iload 7, 2) := by decide +kernel
theorem dX1_three_140 : decode cX1_three 140 = .ok (.invokevirtual 62, 3) := by decide +kernel
theorem dX1_three_143 : decode cX1_three 143 = .ok (.istore 5, 2) := by decide +kernel
theorem dX1_three_145 : decode cX1_three 145 = .ok (.aload_n 0, 1) := by decide +kernel
theorem dX1_three_146 : decode cX1_three 146 = .ok (.getfield 31, 3) := by decide +kernel
theorem dX1_three_149 : decode cX1_three 149 = .ok (.ifCond .le 7, 3) := by decide +kernel
theorem dX1_three_152 : decode cX1_three 152 = .ok (.iconst 0, 1) := by decide +kernel
theorem dX1_three_153 : decode cX1_three 153 = .ok (.goto 5, 3) := by decide +kernel
theorem dX1_three_156 : decode cX1_three 156 = .ok (.iload 5, 2) := by decide +kernel
theorem dX1_three_158 : decode cX1_three 158 = .ok (.ireturn, 1) := by decide +kernel
theorem dX1_set_0 : decode cX1_set 0 = .ok (.aload_n 0, 1) := by decide +kernel
theorem dX1_set_1 : decode cX1_set 1 = .ok (.aload_n 0, 1) := by decide +kernel
theorem dX1_set_2 : decode cX1_set 2 = .ok (.iload_n 1, 1) := by decide +kernel
theorem dX1_set_3 : decode cX1_set 3 = .ok (.invokevirtual 72, 3) := by decide +kernel
theorem dX1_set_6 : decode cX1_set 6 = .ok (.ifCond .eq 7, 3) := by decide +kernel
theorem dX1_set_9 : decode cX1_set 9 = .ok (.iconst 0, 1) := by decide +kernel
theorem dX1_set_10 : decode cX1_set 10 = .ok (.goto 4, 3) := by decide +kernel
theorem dX1_set_13 : decode cX1_set 13 = .ok (.iconst 1, 1) := by decide +kernel
theorem dX1_set_14 : decode cX1_set 14 = .ok (.putfield 31, 3) := by decide +kernel
theorem dX1_set_17 : decode cX1_set 17 = .ok (.aload_n 0, 1) := by decide +kernel
theorem dX1_set_18 : decode cX1_set 18 = .ok (.getfield 31, 3) := by decide +kernel
theorem dX1_set_21 : decode cX1_set 21 = .ok (.ifCond .le 5, 3) := by decide +kernel
theorem dX1_set_24 : decode cX1_set 24 = .ok (.iconst 0, 1) := by decide +kernel
theorem dX1_set_25 : decode cX1_set 25 = .ok (.ireturn, 1) := by decide +kernel
theorem dX1_set_26 : decode cX1_set 26 = .ok (.aload_n 0, 1) := by decide +kernel
theorem dX1_set_27 : decode cX1_set 27 = .ok (.getfield 24, 3) := by decide +kernel
theorem dX1_set_30 : decode cX1_set 30 = .ok (.iload_n 1, 1) := by decide +kernel
theorem dX1_set_31 : decode cX1_set 31 = .ok (.baload, 1) := by decide +kernel
theorem dX1_set_32 : decode cX1_set 32 = .ok (.istore_n 3, 1) := by decide +kernel
theorem dX1_set_33 : decode cX1_set 33 = .ok (.aload_n 0, 1) := by decide +kernel
theorem dX1_set_34 : decode cX1_set 34 = .ok (.getfield 24, 3) := by decide +kernel
theorem dX1_set_37 : decode cX1_set 37 = .ok (.iload_n 1, 1) := by decide +kernel
theorem dX1_set_38 : decode cX1_set 38 = .ok (.iload_n 2, 1) := by decide +kernel
theorem dX1_set_39 : decode cX1_set 39 = .ok (.bastore, 1) := by decide +kernel
theorem dX1_set_40 : decode cX1_set 40 = .ok (.iload_n 3, 1) := by decide +kernel
theorem dX1_set_41 : decode cX1_set 41 = .ok (.iload_n 2, 1) := by decide +kernel
theorem dX1_set_42 : decode cX1_set 42 = .ok (.if_icmp .ne 7, 3) := by decide +kernel
theorem dX1_set_45 : decode cX1_set 45 = .ok (.iconst 1, 1) := by decide +kernel
theorem dX1_set_46 : decode cX1_set 46 = .ok (.goto 4, 3) := by decide +kernel
theorem dX1_set_49 : decode cX1_set 49 = .ok (.iconst 0, 1) := by decide +kernel
theorem dX1_set_50 : decode cX1_set 50 = .ok (.ireturn, 1) := by decide +kernel
theorem dX1_is_0 : decode cX1_is 0 = .ok (.aload_n 0, 1) := by decide +kernel
theorem dX1_is_1 : decode cX1_is 1 = .ok (.getfield 24, 3) := by decide +kernel
theorem dX1_is_4 : decode cX1_is 4 = .ok (.iload_n 1, 1) := by decide +kernel
theorem dX1_is_5 : decode cX1_is 5 = .ok (.iconst 1, 1) := by decide +kernel
theorem dX1_is_6 : decode cX1_is 6 = .ok (.ishr, 1) := by decide +kernel
theorem dX1_is_7 : decode cX1_is 7 = .ok (.baload, 1) := by decide +kernel
theorem dX1_is_8 : decode cX1_is 8 = .ok (.iload_n 1, 1) := by decide +kernel
theorem dX1_is_9 : decode cX1_is 9 = .ok (.iconst 1, 1) := by decide +kernel
theorem dX1_is_10 : decode cX1_is 10 = .ok (.iand, 1) := by decide +kernel
theorem dX1_is_11 : decode cX1_is 11 = .ok (.iconst 1, 1) := by decide +kernel
theorem dX1_is_12 : decode cX1_is 12 = .ok (.if_icmp .ne 7, 3) := by decide +kernel
theorem dX1_is_15 : decode cX1_is 15 = .ok (.iconst 1, 1) := by decide +kernel
theorem dX1_is_16 : decode cX1_is 16 = .ok (.goto 4, 3) := by decide +kernel
theorem dX1_is_19 : decode cX1_is 19 = .ok (.iconst 0, 1) := by decide +kernel
theorem dX1_is_20 : decode cX1_is 20 = .ok (.if_icmp .eq 7, 3) := by decide +kernel
theorem dX1_is_23 : decode cX1_is 23 = .ok (.iconst 1, 1) := by decide +kernel
theorem dX1_is_24 : decode cX1_is 24 = .ok (.goto 4, 3) := by decide +kernel
theorem dX1_is_27 : decode cX1_is 27 = .ok (.iconst 0, 1) := by decide +kernel
theorem dX1_is_28 : decode cX1_is 28 = .ok (.ireturn, 1) := by decide +kernel
theorem dX1_value_0 : decode cX1_value 0 = .ok (.aload_n 0, 1) := by decide +kernel
theorem dX1_value_1 : decode cX1_value 1 = .ok (.aload_n 0, 1) := by decide +kernel
theorem dX1_value_2 : decode cX1_value 2 = .ok (.iload_n 1, 1) := by decide +kernel
theorem dX1_value_3 : decode cX1_value 3 = .ok (.invokevirtual 65, 3) := by decide +kernel
theorem dX1_value_6 : decode cX1_value 6 = .ok (.ifCond .eq 7, 3) := by decide +kernel
theorem dX1_value_9 : decode cX1_value 9 = .ok (.iconst 0, 1) := by decide +kernel
theorem dX1_value_10 : decode cX1_value 10 = .ok (.goto 4, 3) := by decide +kernel
theorem dX1_value_13 : decode cX1_value 13 = .ok (.iconst 1, 1) := by decide +kernel
theorem dX1_value_14 : decode cX1_value 14 = .ok (.putfield 31, 3) := by decide +kernel
theorem dX1_value_17 : decode cX1_value 17 = .ok (.aload_n 0, 1) := by decide +kernel
theorem dX1_value_18 : decode cX1_value 18 = .ok (.getfield 31, 3) := by decide +kernel
theorem dX1_value_21 : decode cX1_value 21 = .ok (.ifCond .le 5, 3) := by decide +kernel
theorem dX1_value_24 : decode cX1_value 24 = .ok (.iconst 0, 1) := by decide +kernel
theorem dX1_value_25 : decode cX1_value 25 = .ok (.ireturn, 1) := by decide +kernel
theorem dX1_value_26 : decode cX1_value 26 = .ok (.iconst 1, 1) := by decide +kernel
theorem dX1_value_27 : decode cX1_value 27 = .ok (.istore_n 2, 1) := by decide +kernel
theorem dX1_value_28 : decode cX1_value 28 = .ok (.iload_n 2, 1) := by decide +kernel
theorem dX1_value_29 : decode cX1_value 29 = .ok (.aload_n 0, 1) := by decide +kernel
theorem dX1_value_30 : decode cX1_value 30 = .ok (.getfield 7, 3) := by decide +kernel
theorem dX1_value_33 : decode cX1_value 33 = .ok (.if_icmp .ge 65, 3) := by decide +kernel
theorem dX1_value_36 : decode cX1_value 36 = .ok (.aload_n 0, 1) := by decide +kernel
theorem dX1_value_37 : decode cX1_value 37 = .ok (.getfield 24, 3) := by decide +kernel
theorem dX1_value_40 : decode cX1_value 40 = .ok (.iload_n 2, 1) := by decide +kernel
theorem dX1_value_41 : decode cX1_value 41 = .ok (.aload_n 0, 1) := by decide +kernel
theorem dX1_value_42 : decode cX1_value 42 = .ok (.getfield 13, 3) := by decide +kernel
theorem dX1_value_45 : decode cX1_value 45 = .ok (.iload_n 2, 1) := by decide +kernel
theorem dX1_value_46 : decode cX1_value 46 = .ok (.baload, 1) := by decide +kernel
theorem dX1_value_47 : decode cX1_value 47 = .ok (.iconst 2, 1) := by decide +kernel
theorem dX1_value_48 : decode cX1_value 48 = .ok (.if_icmp .ne 37, 3) := by decide +kernel
theorem dX1_value_51 : decode cX1_value 51 = .ok (.aload_n 0, 1) := by decide +kernel
theorem dX1_value_52 : decode cX1_value 52 = .ok (.aload_n 0, 1) := by decide +kernel
theorem dX1_value_53 : decode cX1_value 53 = .ok (.getfield 17, 3) := by decide +kernel
theorem dX1_value_56 : decode cX1_value 56 = .ok (.iload_n 2, 1) := by decide +kernel
theorem dX1_value_57 : decode cX1_value 57 = .ok (.iaload, 1) := by decide +kernel
theorem dX1_value_58 : decode cX1_value 58 = .ok (.invokevirtual 75, 3) := by decide +kernel
theorem dX1_value_61 : decode cX1_value 61 = .ok (.ifCond .eq 20, 3) := by decide +kernel
theorem dX1_value_64 : decode cX1_value 64 = .ok (.aload_n 0, 1) := by decide +kernel
theorem dX1_value_65 : decode cX1_value 65 = .ok (.aload_n 0, 1) := by decide +kernel
theorem dX1_value_66 : decode cX1_value 66 = .ok (.getfield 21, 3) := by decide +kernel
theorem dX1_value_69 : decode cX1_value 69 = .ok (.iload_n 2, 1) := by decide +kernel
theorem dX1_value_70 : decode cX1_value 70 = .ok (.iaload, 1) := by decide +kernel
theorem dX1_value_71 : decode cX1_value 71 = .ok (.invokevirtual 75, 3) := by decide +kernel
theorem dX1_value_74 : decode cX1_value 74 = .ok (.ifCond .eq 7, 3) := by decide +kernel
theorem dX1_value_77 : decode cX1_value 77 = .ok (.iconst 1, 1) := by decide +kernel
theorem dX1_value_78 : decode cX1_value 78 = .ok (.goto 13, 3) := by decide +kernel
theorem dX1_value_81 : decode cX1_value 81 = .ok (.iconst 0, 1) := by decide +kernel
theorem dX1_value_82 : decode cX1_value 82 = .ok (.goto 9, 3) := by decide +kernel
theorem dX1_value_85 : decode cX1_value 85 = .ok (.aload_n 0, 1) := by decide +kernel
theorem dX1_value_86 : decode cX1_value 86 = .ok (.getfield 24, 3) := by decide +kernel
theorem dX1_value_89 : decode cX1_value 89 = .ok (.iload_n 2, 1) := by decide +kernel
theorem dX1_value_90 : decode cX1_value 90 = .ok (.baload, 1) := by decide +kernel
theorem dX1_value_91 : decode cX1_value 91 = .ok (.bastore, 1) := by decide +kernel
theorem dX1_value_92 : decode cX1_value 92 = .ok (.iinc 2 1, 3) := by decide +kernel
theorem dX1_value_95 : decode cX1_value 95 = .ok (.goto (-67), 3) := by decide +kernel
theorem dX1_value_98 : decode cX1_value 98 = .ok (.aload_n 0, 1) := by decide +kernel
theorem dX1_value_99 : decode cX1_value 99 = .ok (.iload_n 1, 1) := by decide +kernel
theorem dX1_value_100 : decode cX1_value 100 = .ok (.invokevirtual 75, 3) := by decide +kernel
theorem dX1_value_103 : decode cX1_value 103 = .ok (.ireturn, 1) := by decide +kernel
theorem dX1_node_0 : decode cX1_node 0 = .ok (.aload_n 0, 1) := by decide +kernel
theorem dX1_node_1 : decode cX1_node 1 = .ok (.iload_n 1, 1) := by decide +kernel
theorem dX1_node_2 : decode cX1_node 2 = .ok (.ifCond .lt 24, 3) := by decide +kernel
theorem dX1_node_5 : decode cX1_node 5 = .ok (.iload_n 1, 1) := by decide +kernel
theorem dX1_node_6 : decode cX1_node 6 = .ok (.aload_n 0, 1) := by decide +kernel
theorem dX1_node_7 : decode cX1_node 7 = .ok (.getfield 7, 3) := by decide +kernel
theorem dX1_node_10 : decode cX1_node 10 = .ok (.if_icmp .ge 16, 3) := by decide +kernel
theorem dX1_node_13 : decode cX1_node 13 = .ok (.iload_n 2, 1) := by decide +kernel
theorem dX1_node_14 : decode cX1_node 14 = .ok (.ifCond .lt 12, 3) := by decide +kernel
theorem dX1_node_17 : decode cX1_node 17 = .ok (.iload_n 2, 1) := by decide +kernel
theorem dX1_node_18 : decode cX1_node 18 = .ok (.iconst 3, 1) := by decide +kernel
theorem dX1_node_19 : decode cX1_node 19 = .ok (.if_icmp .gt 7, 3) := by decide +kernel
theorem dX1_node_22 : decode cX1_node 22 = .ok (.iconst 0, 1) := by decide +kernel
theorem dX1_node_23 : decode cX1_node 23 = .ok (.goto 4, 3) := by decide +kernel
theorem dX1_node_26 : decode cX1_node 26 = .ok (.iconst 1, 1) := by decide +kernel
theorem dX1_node_27 : decode cX1_node 27 = .ok (.putfield 31, 3) := by decide +kernel
theorem dX1_node_30 : decode cX1_node 30 = .ok (.aload_n 0, 1) := by decide +kernel
theorem dX1_node_31 : decode cX1_node 31 = .ok (.getfield 31, 3) := by decide +kernel
theorem dX1_node_34 : decode cX1_node 34 = .ok (.ifCond .le 5, 3) := by decide +kernel
theorem dX1_node_37 : decode cX1_node 37 = .ok (.iconst 0, 1) := by decide +kernel
theorem dX1_node_38 : decode cX1_node 38 = .ok (.ireturn, 1) := by decide +kernel
theorem dX1_node_39 : decode cX1_node 39 = .ok (.iload_n 2, 1) := by decide +kernel
theorem dX1_node_40 : decode cX1_node 40 = .ok (.ifCond .ne 10, 3) := by decide +kernel
theorem dX1_node_43 : decode cX1_node 43 = .ok (.aload_n 0, 1) := by decide +kernel
theorem dX1_node_44 : decode cX1_node 44 = .ok (.getfield 13, 3) := by decide +kernel
theorem dX1_node_47 : decode cX1_node 47 = .ok (.iload_n 1, 1) := by decide +kernel
theorem dX1_node_48 : decode cX1_node 48 = .ok (.baload, 1) := by decide +kernel
theorem dX1_node_49 : decode cX1_node 49 = .ok (.ireturn, 1) := by decide +kernel
theorem dX1_node_50 : decode cX1_node 50 = .ok (.iload_n 2, 1) := by decide +kernel
theorem dX1_node_51 : decode cX1_node 51 = .ok (.iconst 3, 1) := by decide +kernel
theorem dX1_node_52 : decode cX1_node 52 = .ok (.if_icmp .ge 38, 3) := by decide +kernel
theorem dX1_node_55 : decode cX1_node 55 = .ok (.aload_n 0, 1) := by decide +kernel
theorem dX1_node_56 : decode cX1_node 56 = .ok (.getfield 13, 3) := by decide +kernel
theorem dX1_node_59 : decode cX1_node 59 = .ok (.iload_n 1, 1) := by decide +kernel
theorem dX1_node_60 : decode cX1_node 60 = .ok (.baload, 1) := by decide +kernel
theorem dX1_node_61 : decode cX1_node 61 = .ok (.iconst 2, 1) := by decide +kernel
theorem dX1_node_62 : decode cX1_node 62 = .ok (.if_icmp .ge 7, 3) := by decide +kernel
theorem dX1_node_65 : decode cX1_node 65 = .ok (.iconst (-1), 1) := by decide +kernel
theorem dX1_node_66 : decode cX1_node 66 = .ok (.goto 23, 3) := by decide +kernel
theorem dX1_node_69 : decode cX1_node 69 = .ok (.iload_n 2, 1) := by decide +kernel
theorem dX1_node_70 : decode cX1_node 70 = .ok (.iconst 1, 1) := by decide +kernel
theorem dX1_node_71 : decode cX1_node 71 = .ok (.if_icmp .ne 12, 3) := by decide +kernel
theorem dX1_node_74 : decode cX1_node 74 = .ok (.aload_n 0, 1) := by decide +kernel
theorem dX1_node_75 : decode cX1_node 75 = .ok (.getfield 17, 3) := by decide +kernel
theorem dX1_node_78 : decode cX1_node 78 = .ok (.iload_n 1, 1) := by decide +kernel
theorem dX1_node_79 : decode cX1_node 79 = .ok (.iaload, 1) := by decide +kernel
theorem dX1_node_80 : decode cX1_node 80 = .ok (.goto 9, 3) := by decide +kernel
theorem dX1_node_83 : decode cX1_node 83 = .ok (.aload_n 0, 1) := by decide +kernel
theorem dX1_node_84 : decode cX1_node 84 = .ok (.getfield 21, 3) := by decide +kernel
theorem dX1_node_87 : decode cX1_node 87 = .ok (.iload_n 1, 1) := by decide +kernel
theorem dX1_node_88 : decode cX1_node 88 = .ok (.iaload, 1) := by decide +kernel
theorem dX1_node_89 : decode cX1_node 89 = .ok (.ireturn, 1) := by decide +kernel
theorem dX1_node_90 : decode cX1_node 90 = .ok (.iconst 0, 1) := by decide +kernel
theorem dX1_node_91 : decode cX1_node 91 = .ok (.istore_n 3, 1) := by decide +kernel
theorem dX1_node_92 : decode cX1_node 92 = .ok (.iconst 1, 1) := by decide +kernel
theorem dX1_node_93 : decode cX1_node 93 = .ok (.istore 4, 2) := by decide +kernel
theorem dX1_node_95 : decode cX1_node 95 = .ok (.iload 4, 2) := by decide +kernel
theorem dX1_node_97 : decode cX1_node 97 = .ok (.aload_n 0, 1) := by decide +kernel
theorem dX1_node_98 : decode cX1_node 98 = .ok (.getfield 7, 3) := by decide +kernel
theorem dX1_node_101 : decode cX1_node 101 = .ok (.if_icmp .ge 54, 3) := by decide +kernel
theorem dX1_node_104 : decode cX1_node 104 = .ok (.iload_n 3, 1) := by decide +kernel
theorem dX1_node_105 : decode cX1_node 105 = .ok (.aload_n 0, 1) := by decide +kernel
theorem dX1_node_106 : decode cX1_node 106 = .ok (.getfield 13, 3) := by decide +kernel
theorem dX1_node_109 : decode cX1_node 109 = .ok (.iload 4, 2) := by decide +kernel
theorem dX1_node_111 : decode cX1_node 111 = .ok (.baload, 1) := by decide +kernel
theorem dX1_node_112 : decode cX1_node 112 = .ok (.iconst 2, 1) := by decide +kernel
theorem dX1_node_113 : decode cX1_node 113 = .ok (.if_icmp .ne 33, 3) := by decide +kernel
theorem dX1_node_116 : decode cX1_node 116 = .ok (.aload_n 0, 1) := by decide +kernel
theorem dX1_node_117 : decode cX1_node 117 = .ok (.getfield 17, 3) := by decide +kernel
theorem dX1_node_120 : decode cX1_node 120 = .ok (.iload 4, 2) := by decide +kernel
theorem dX1_node_122 : decode cX1_node 122 = .ok (.iaload, 1) := by decide +kernel
theorem dX1_node_123 : decode cX1_node 123 = .ok (.iconst 2, 1) := by decide +kernel
theorem dX1_node_124 : decode cX1_node 124 = .ok (.idiv, 1) := by decide +kernel
theorem dX1_node_125 : decode cX1_node 125 = .ok (.iload_n 1, 1) := by decide +kernel
theorem dX1_node_126 : decode cX1_node 126 = .ok (.if_icmp .eq 16, 3) := by decide +kernel
theorem dX1_node_129 : decode cX1_node 129 = .ok (.aload_n 0, 1) := by decide +kernel
theorem dX1_node_130 : decode cX1_node 130 = .ok (.getfield 21, 3) := by decide +kernel
theorem dX1_node_133 : decode cX1_node 133 = .ok (.iload 4, 2) := by decide +kernel
theorem dX1_node_135 : decode cX1_node 135 = .ok (.iaload, 1) := by decide +kernel
theorem dX1_node_136 : decode cX1_node 136 = .ok (.iconst 2, 1) := by decide +kernel
theorem dX1_node_137 : decode cX1_node 137 = .ok (.idiv, 1) := by decide +kernel
theorem dX1_node_138 : decode cX1_node 138 = .ok (.iload_n 1, 1) := by decide +kernel
theorem dX1_node_139 : decode cX1_node 139 = .ok (.if_icmp .ne 7, 3) := by decide +kernel
theorem dX1_node_142 : decode cX1_node 142 = .ok (.iconst 1, 1) := by decide +kernel
theorem dX1_node_143 : decode cX1_node 143 = .ok (.goto 4, 3) := by decide +kernel
theorem dX1_node_146 : decode cX1_node 146 = .ok (.iconst 0, 1) := by decide +kernel
theorem dX1_node_147 : decode cX1_node 147 = .ok (.iadd, 1) := by decide +kernel
theorem dX1_node_148 : decode cX1_node 148 = .ok (.istore_n 3, 1) := by decide +kernel
theorem dX1_node_149 : decode cX1_node 149 = .ok (.iinc 4 1, 3) := by decide +kernel
theorem dX1_node_152 : decode cX1_node 152 = .ok (.goto (-57), 3) := by decide +kernel
theorem dX1_node_155 : decode cX1_node 155 = .ok (.iload_n 3, 1) := by decide +kernel
theorem dX1_node_156 : decode cX1_node 156 = .ok (.ireturn, 1) := by decide +kernel
theorem dX1_markBelow_0 : decode cX1_markBelow 0 = .ok (.iconst 0, 1) := by decide +kernel
theorem dX1_markBelow_1 : decode cX1_markBelow 1 = .ok (.istore_n 2, 1) := by decide +kernel
theorem dX1_markBelow_2 : decode cX1_markBelow 2 = .ok (.iload_n 2, 1) := by decide +kernel
theorem dX1_markBelow_3 : decode cX1_markBelow 3 = .ok (.aload_n 0, 1) := by decide +kernel
theorem dX1_markBelow_4 : decode cX1_markBelow 4 = .ok (.getfield 7, 3) := by decide +kernel
theorem dX1_markBelow_7 : decode cX1_markBelow 7 = .ok (.if_icmp .ge 27, 3) := by decide +kernel
theorem dX1_markBelow_10 : decode cX1_markBelow 10 = .ok (.aload_n 0, 1) := by decide +kernel
theorem dX1_markBelow_11 : decode cX1_markBelow 11 = .ok (.getfield 28, 3) := by decide +kernel
theorem dX1_markBelow_14 : decode cX1_markBelow 14 = .ok (.iload_n 2, 1) := by decide +kernel
theorem dX1_markBelow_15 : decode cX1_markBelow 15 = .ok (.iload_n 2, 1) := by decide +kernel
theorem dX1_markBelow_16 : decode cX1_markBelow 16 = .ok (.iload_n 1, 1) := by decide +kernel
theorem dX1_markBelow_17 : decode cX1_markBelow 17 = .ok (.iconst 1, 1) := by decide +kernel
theorem dX1_markBelow_18 : decode cX1_markBelow 18 = .ok (.ishr, 1) := by decide +kernel
theorem dX1_markBelow_19 : decode cX1_markBelow 19 = .ok (.if_icmp .ne 7, 3) := by decide +kernel
theorem dX1_markBelow_22 : decode cX1_markBelow 22 = .ok (.iconst 1, 1) := by decide +kernel
theorem dX1_markBelow_23 : decode cX1_markBelow 23 = .ok (.goto 4, 3) := by decide +kernel
theorem dX1_markBelow_26 : decode cX1_markBelow 26 = .ok (.iconst 0, 1) := by decide +kernel
theorem dX1_markBelow_27 : decode cX1_markBelow 27 = .ok (.iastore, 1) := by decide +kernel
theorem dX1_markBelow_28 : decode cX1_markBelow 28 = .ok (.iinc 2 1, 3) := by decide +kernel
theorem dX1_markBelow_31 : decode cX1_markBelow 31 = .ok (.goto (-29), 3) := by decide +kernel
theorem dX1_markBelow_34 : decode cX1_markBelow 34 = .ok (.iconst 0, 1) := by decide +kernel
theorem dX1_markBelow_35 : decode cX1_markBelow 35 = .ok (.istore_n 2, 1) := by decide +kernel
theorem dX1_markBelow_36 : decode cX1_markBelow 36 = .ok (.aload_n 0, 1) := by decide +kernel
theorem dX1_markBelow_37 : decode cX1_markBelow 37 = .ok (.getfield 7, 3) := by decide +kernel
theorem dX1_markBelow_40 : decode cX1_markBelow 40 = .ok (.iconst 1, 1) := by decide +kernel
theorem dX1_markBelow_41 : decode cX1_markBelow 41 = .ok (.isub, 1) := by decide +kernel
theorem dX1_markBelow_42 : decode cX1_markBelow 42 = .ok (.istore_n 3, 1) := by decide +kernel
theorem dX1_markBelow_43 : decode cX1_markBelow 43 = .ok (.iload_n 3, 1) := by decide +kernel
theorem dX1_markBelow_44 : decode cX1_markBelow 44 = .ok (.ifCond .le 60, 3) := by decide +kernel
theorem dX1_markBelow_47 : decode cX1_markBelow 47 = .ok (.aload_n 0, 1) := by decide +kernel
theorem dX1_markBelow_48 : decode cX1_markBelow 48 = .ok (.getfield 28, 3) := by decide +kernel
theorem dX1_markBelow_51 : decode cX1_markBelow 51 = .ok (.iload_n 3, 1) := by decide +kernel
theorem dX1_markBelow_52 : decode cX1_markBelow 52 = .ok (.iaload, 1) := by decide +kernel
theorem dX1_markBelow_53 : decode cX1_markBelow 53 = .ok (.iconst 1, 1) := by decide +kernel
theorem dX1_markBelow_54 : decode cX1_markBelow 54 = .ok (.if_icmp .ne 44, 3) := by decide +kernel
theorem dX1_markBelow_57 : decode cX1_markBelow 57 = .ok (.aload_n 0, 1) := by decide +kernel
theorem dX1_markBelow_58 : decode cX1_markBelow 58 = .ok (.getfield 13, 3) := by decide +kernel
theorem dX1_markBelow_61 : decode cX1_markBelow 61 = .ok (.iload_n 3, 1) := by decide +kernel
theorem dX1_markBelow_62 : decode cX1_markBelow 62 = .ok (.baload, 1) := by decide +kernel
theorem dX1_markBelow_63 : decode cX1_markBelow 63 = .ok (.iconst 2, 1) := by decide +kernel
theorem dX1_markBelow_64 : decode cX1_markBelow 64 = .ok (.if_icmp .ne 34, 3) := by decide +kernel
theorem dX1_markBelow_67 : decode cX1_markBelow 67 = .ok (.aload_n 0, 1) := by decide +kernel
theorem dX1_markBelow_68 : decode cX1_markBelow 68 = .ok (.getfield 28, 3) := by decide +kernel
theorem dX1_markBelow_71 : decode cX1_markBelow 71 = .ok (.aload_n 0, 1) := by decide +kernel
theorem dX1_markBelow_72 : decode cX1_markBelow 72 = .ok (.getfield 17, 3) := by decide +kernel
theorem dX1_markBelow_75 : decode cX1_markBelow 75 = .ok (.iload_n 3, 1) := by decide +kernel
theorem dX1_markBelow_76 : decode cX1_markBelow 76 = .ok (.iaload, 1) := by decide +kernel
theorem dX1_markBelow_77 : decode cX1_markBelow 77 = .ok (.iconst 1, 1) := by decide +kernel
theorem dX1_markBelow_78 : decode cX1_markBelow 78 = .ok (.ishr, 1) := by decide +kernel
theorem dX1_markBelow_79 : decode cX1_markBelow 79 = .ok (.iconst 1, 1) := by decide +kernel
theorem dX1_markBelow_80 : decode cX1_markBelow 80 = .ok (.iastore, 1) := by decide +kernel
theorem dX1_markBelow_81 : decode cX1_markBelow 81 = .ok (.aload_n 0, 1) := by decide +kernel
theorem dX1_markBelow_82 : decode cX1_markBelow 82 = .ok (.getfield 28, 3) := by decide +kernel
theorem dX1_markBelow_85 : decode cX1_markBelow 85 = .ok (.aload_n 0, 1) := by decide +kernel
theorem dX1_markBelow_86 : decode cX1_markBelow 86 = .ok (.getfield 21, 3) := by decide +kernel
theorem dX1_markBelow_89 : decode cX1_markBelow 89 = .ok (.iload_n 3, 1) := by decide +kernel
theorem dX1_markBelow_90 : decode cX1_markBelow 90 = .ok (.iaload, 1) := by decide +kernel
theorem dX1_markBelow_91 : decode cX1_markBelow 91 = .ok (.iconst 1, 1) := by decide +kernel
theorem dX1_markBelow_92 : decode cX1_markBelow 92 = .ok (.ishr, 1) := by decide +kernel
theorem dX1_markBelow_93 : decode cX1_markBelow 93 = .ok (.iconst 1, 1) := by decide +kernel
theorem dX1_markBelow_94 : decode cX1_markBelow 94 = .ok (.iastore, 1) := by decide +kernel
theorem dX1_markBelow_95 : decode cX1_markBelow 95 = .ok (.iinc 2 1, 3) := by decide +kernel
theorem dX1_markBelow_98 : decode cX1_markBelow 98 = .ok (.iinc 3 (-1), 3) := by decide +kernel
theorem dX1_markBelow_101 : decode cX1_markBelow 101 = .ok (.goto (-58), 3) := by decide +kernel
theorem dX1_markBelow_104 : decode cX1_markBelow 104 = .ok (.iload_n 2, 1) := by decide +kernel
theorem dX1_markBelow_105 : decode cX1_markBelow 105 = .ok (.ireturn, 1) := by decide +kernel
theorem dX1_cone_0 : decode cX1_cone 0 = .ok (.aload_n 0, 1) := by decide +kernel
theorem dX1_cone_1 : decode cX1_cone 1 = .ok (.aload_n 0, 1) := by decide +kernel
theorem dX1_cone_2 : decode cX1_cone 2 = .ok (.iload_n 1, 1) := by decide +kernel
theorem dX1_cone_3 : decode cX1_cone 3 = .ok (.invokevirtual 65, 3) := by decide +kernel
theorem dX1_cone_6 : decode cX1_cone 6 = .ok (.ifCond .eq 7, 3) := by decide +kernel
theorem dX1_cone_9 : decode cX1_cone 9 = .ok (.iconst 0, 1) := by decide +kernel
theorem dX1_cone_10 : decode cX1_cone 10 = .ok (.goto 4, 3) := by decide +kernel
theorem dX1_cone_13 : decode cX1_cone 13 = .ok (.iconst 1, 1) := by decide +kernel
theorem dX1_cone_14 : decode cX1_cone 14 = .ok (.putfield 31, 3) := by decide +kernel
theorem dX1_cone_17 : decode cX1_cone 17 = .ok (.aload_n 0, 1) := by decide +kernel
theorem dX1_cone_18 : decode cX1_cone 18 = .ok (.getfield 31, 3) := by decide +kernel
theorem dX1_cone_21 : decode cX1_cone 21 = .ok (.ifCond .le 7, 3) := by decide +kernel
theorem dX1_cone_24 : decode cX1_cone 24 = .ok (.iconst 0, 1) := by decide +kernel
theorem dX1_cone_25 : decode cX1_cone 25 = .ok (.goto 8, 3) := by decide +kernel
theorem dX1_cone_28 : decode cX1_cone 28 = .ok (.aload_n 0, 1) := by decide +kernel
theorem dX1_cone_29 : decode cX1_cone 29 = .ok (.iload_n 1, 1) := by decide +kernel
theorem dX1_cone_30 : decode cX1_cone 30 = .ok (.invokevirtual 78, 3) := by decide +kernel
theorem dX1_cone_33 : decode cX1_cone 33 = .ok (.ireturn, 1) := by decide +kernel
theorem dX1_below_0 : decode cX1_below 0 = .ok (.aload_n 0, 1) := by decide +kernel
theorem dX1_below_1 : decode cX1_below 1 = .ok (.aload_n 0, 1) := by decide +kernel
theorem dX1_below_2 : decode cX1_below 2 = .ok (.iload_n 1, 1) := by decide +kernel
theorem dX1_below_3 : decode cX1_below 3 = .ok (.invokevirtual 72, 3) := by decide +kernel
theorem dX1_below_6 : decode cX1_below 6 = .ok (.ifCond .eq 15, 3) := by decide +kernel
theorem dX1_below_9 : decode cX1_below 9 = .ok (.aload_n 0, 1) := by decide +kernel
theorem dX1_below_10 : decode cX1_below 10 = .ok (.iload_n 2, 1) := by decide +kernel
theorem dX1_below_11 : decode cX1_below 11 = .ok (.invokevirtual 65, 3) := by decide +kernel
theorem dX1_below_14 : decode cX1_below 14 = .ok (.ifCond .eq 7, 3) := by decide +kernel
theorem dX1_below_17 : decode cX1_below 17 = .ok (.iconst 0, 1) := by decide +kernel
theorem dX1_below_18 : decode cX1_below 18 = .ok (.goto 4, 3) := by decide +kernel
theorem dX1_below_21 : decode cX1_below 21 = .ok (.iconst 1, 1) := by decide +kernel
theorem dX1_below_22 : decode cX1_below 22 = .ok (.putfield 31, 3) := by decide +kernel
theorem dX1_below_25 : decode cX1_below 25 = .ok (.aload_n 0, 1) := by decide +kernel
theorem dX1_below_26 : decode cX1_below 26 = .ok (.getfield 31, 3) := by decide +kernel
theorem dX1_below_29 : decode cX1_below 29 = .ok (.ifCond .le 5, 3) := by decide +kernel
theorem dX1_below_32 : decode cX1_below 32 = .ok (.iconst 0, 1) := by decide +kernel
theorem dX1_below_33 : decode cX1_below 33 = .ok (.ireturn, 1) := by decide +kernel
theorem dX1_below_34 : decode cX1_below 34 = .ok (.aload_n 0, 1) := by decide +kernel
theorem dX1_below_35 : decode cX1_below 35 = .ok (.iload_n 2, 1) := by decide +kernel
theorem dX1_below_36 : decode cX1_below 36 = .ok (.invokevirtual 78, 3) := by decide +kernel
theorem dX1_below_39 : decode cX1_below 39 = .ok (.istore_n 3, 1) := by decide +kernel
theorem dX1_below_40 : decode cX1_below 40 = .ok (.iload_n 3, 1) := by decide +kernel
theorem dX1_below_41 : decode cX1_below 41 = .ok (.ifCond .lt 17, 3) := by decide +kernel
theorem dX1_below_44 : decode cX1_below 44 = .ok (.aload_n 0, 1) := by decide +kernel
theorem dX1_below_45 : decode cX1_below 45 = .ok (.getfield 28, 3) := by decide +kernel
theorem dX1_below_48 : decode cX1_below 48 = .ok (.iload_n 1, 1) := by decide +kernel
theorem dX1_below_49 : decode cX1_below 49 = .ok (.iaload, 1) := by decide +kernel
theorem dX1_below_50 : decode cX1_below 50 = .ok (.iconst 1, 1) := by decide +kernel
theorem dX1_below_51 : decode cX1_below 51 = .ok (.if_icmp .ne 7, 3) := by decide +kernel
theorem dX1_below_54 : decode cX1_below 54 = .ok (.iconst 1, 1) := by decide +kernel
theorem dX1_below_55 : decode cX1_below 55 = .ok (.goto 4, 3) := by decide +kernel
theorem dX1_below_58 : decode cX1_below 58 = .ok (.iconst 0, 1) := by decide +kernel
theorem dX1_below_59 : decode cX1_below 59 = .ok (.ireturn, 1) := by decide +kernel
theorem dX1_depth_0 : decode cX1_depth 0 = .ok (.aload_n 0, 1) := by decide +kernel
theorem dX1_depth_1 : decode cX1_depth 1 = .ok (.aload_n 0, 1) := by decide +kernel
theorem dX1_depth_2 : decode cX1_depth 2 = .ok (.iload_n 1, 1) := by decide +kernel
theorem dX1_depth_3 : decode cX1_depth 3 = .ok (.invokevirtual 65, 3) := by decide +kernel
theorem dX1_depth_6 : decode cX1_depth 6 = .ok (.ifCond .eq 7, 3) := by decide +kernel
theorem dX1_depth_9 : decode cX1_depth 9 = .ok (.iconst 0, 1) := by decide +kernel
theorem dX1_depth_10 : decode cX1_depth 10 = .ok (.goto 4, 3) := by decide +kernel
theorem dX1_depth_13 : decode cX1_depth 13 = .ok (.iconst 1, 1) := by decide +kernel
theorem dX1_depth_14 : decode cX1_depth 14 = .ok (.putfield 31, 3) := by decide +kernel
theorem dX1_depth_17 : decode cX1_depth 17 = .ok (.iconst 0, 1) := by decide +kernel
theorem dX1_depth_18 : decode cX1_depth 18 = .ok (.istore_n 2, 1) := by decide +kernel
theorem dX1_depth_19 : decode cX1_depth 19 = .ok (.iload_n 2, 1) := by decide +kernel
theorem dX1_depth_20 : decode cX1_depth 20 = .ok (.aload_n 0, 1) := by decide +kernel
theorem dX1_depth_21 : decode cX1_depth 21 = .ok (.getfield 7, 3) := by decide +kernel
theorem dX1_depth_24 : decode cX1_depth 24 = .ok (.if_icmp .ge 93, 3) := by decide +kernel
theorem dX1_depth_27 : decode cX1_depth 27 = .ok (.aload_n 0, 1) := by decide +kernel
theorem dX1_depth_28 : decode cX1_depth 28 = .ok (.getfield 31, 3) := by decide +kernel
theorem dX1_depth_31 : decode cX1_depth 31 = .ok (.ifCond .ne 86, 3) := by decide +kernel
theorem dX1_depth_34 : decode cX1_depth 34 = .ok (.aload_n 0, 1) := by decide +kernel
theorem dX1_depth_35 : decode cX1_depth 35 = .ok (.getfield 13, 3) := by decide +kernel
theorem dX1_depth_38 : decode cX1_depth 38 = .ok (.iload_n 2, 1) := by decide +kernel
theorem dX1_depth_39 : decode cX1_depth 39 = .ok (.baload, 1) := by decide +kernel
theorem dX1_depth_40 : decode cX1_depth 40 = .ok (.iconst 2, 1) := by decide +kernel
theorem dX1_depth_41 : decode cX1_depth 41 = .ok (.if_icmp .ne 19, 3) := by decide +kernel
theorem dX1_depth_44 : decode cX1_depth 44 = .ok (.aload_n 0, 1) := by decide +kernel
theorem dX1_depth_45 : decode cX1_depth 45 = .ok (.getfield 28, 3) := by decide +kernel
theorem dX1_depth_48 : decode cX1_depth 48 = .ok (.aload_n 0, 1) := by decide +kernel
theorem dX1_depth_49 : decode cX1_depth 49 = .ok (.getfield 17, 3) := by decide +kernel
theorem dX1_depth_52 : decode cX1_depth 52 = .ok (.iload_n 2, 1) := by decide +kernel
theorem dX1_depth_53 : decode cX1_depth 53 = .ok (.iaload, 1) := by decide +kernel
theorem dX1_depth_54 : decode cX1_depth 54 = .ok (.iconst 1, 1) := by decide +kernel
theorem dX1_depth_55 : decode cX1_depth 55 = .ok (.ishr, 1) := by decide +kernel
theorem dX1_depth_56 : decode cX1_depth 56 = .ok (.iaload, 1) := by decide +kernel
theorem dX1_depth_57 : decode cX1_depth 57 = .ok (.goto 4, 3) := by decide +kernel
theorem dX1_depth_60 : decode cX1_depth 60 = .ok (.iconst (-1), 1) := by decide +kernel
theorem dX1_depth_61 : decode cX1_depth 61 = .ok (.istore_n 3, 1) := by decide +kernel
theorem dX1_depth_62 : decode cX1_depth 62 = .ok (.aload_n 0, 1) := by decide +kernel
theorem dX1_depth_63 : decode cX1_depth 63 = .ok (.getfield 13, 3) := by decide +kernel
theorem dX1_depth_66 : decode cX1_depth 66 = .ok (.iload_n 2, 1) := by decide +kernel
theorem dX1_depth_67 : decode cX1_depth 67 = .ok (.baload, 1) := by decide +kernel
theorem dX1_depth_68 : decode cX1_depth 68 = .ok (.iconst 2, 1) := by decide +kernel
theorem dX1_depth_69 : decode cX1_depth 69 = .ok (.if_icmp .ne 19, 3) := by decide +kernel
theorem dX1_depth_72 : decode cX1_depth 72 = .ok (.aload_n 0, 1) := by decide +kernel
theorem dX1_depth_73 : decode cX1_depth 73 = .ok (.getfield 28, 3) := by decide +kernel
theorem dX1_depth_76 : decode cX1_depth 76 = .ok (.aload_n 0, 1) := by decide +kernel
theorem dX1_depth_77 : decode cX1_depth 77 = .ok (.getfield 21, 3) := by decide +kernel
theorem dX1_depth_80 : decode cX1_depth 80 = .ok (.iload_n 2, 1) := by decide +kernel
theorem dX1_depth_81 : decode cX1_depth 81 = .ok (.iaload, 1) := by decide +kernel
theorem dX1_depth_82 : decode cX1_depth 82 = .ok (.iconst 1, 1) := by decide +kernel
theorem dX1_depth_83 : decode cX1_depth 83 = .ok (.ishr, 1) := by decide +kernel
theorem dX1_depth_84 : decode cX1_depth 84 = .ok (.iaload, 1) := by decide +kernel
theorem dX1_depth_85 : decode cX1_depth 85 = .ok (.goto 4, 3) := by decide +kernel
theorem dX1_depth_88 : decode cX1_depth 88 = .ok (.iconst (-1), 1) := by decide +kernel
theorem dX1_depth_89 : decode cX1_depth 89 = .ok (.istore 4, 2) := by decide +kernel
theorem dX1_depth_91 : decode cX1_depth 91 = .ok (.aload_n 0, 1) := by decide +kernel
theorem dX1_depth_92 : decode cX1_depth 92 = .ok (.getfield 28, 3) := by decide +kernel
theorem dX1_depth_95 : decode cX1_depth 95 = .ok (.iload_n 2, 1) := by decide +kernel
theorem dX1_depth_96 : decode cX1_depth 96 = .ok (.iload_n 3, 1) := by decide +kernel
theorem dX1_depth_97 : decode cX1_depth 97 = .ok (.iload 4, 2) := by decide +kernel
theorem dX1_depth_99 : decode cX1_depth 99 = .ok (.if_icmp .le 7, 3) := by decide +kernel
theorem dX1_depth_102 : decode cX1_depth 102 = .ok (.iload_n 3, 1) := by decide +kernel
theorem dX1_depth_103 : decode cX1_depth 103 = .ok (.goto 5, 3) := by decide +kernel
theorem dX1_depth_106 : decode cX1_depth 106 = .ok (.iload 4, 2) := by decide +kernel
theorem dX1_depth_108 : decode cX1_depth 108 = .ok (.iconst 1, 1) := by decide +kernel
theorem dX1_depth_109 : decode cX1_depth 109 = .ok (.iadd, 1) := by decide +kernel
theorem dX1_depth_110 : decode cX1_depth 110 = .ok (.iastore, 1) := by decide +kernel
theorem dX1_depth_111 : decode cX1_depth 111 = .ok (.iinc 2 1, 3) := by decide +kernel
theorem dX1_depth_114 : decode cX1_depth 114 = .ok (.goto (-95), 3) := by decide +kernel
theorem dX1_depth_117 : decode cX1_depth 117 = .ok (.aload_n 0, 1) := by decide +kernel
theorem dX1_depth_118 : decode cX1_depth 118 = .ok (.getfield 31, 3) := by decide +kernel
theorem dX1_depth_121 : decode cX1_depth 121 = .ok (.ifCond .le 7, 3) := by decide +kernel
theorem dX1_depth_124 : decode cX1_depth 124 = .ok (.iconst 0, 1) := by decide +kernel
theorem dX1_depth_125 : decode cX1_depth 125 = .ok (.goto 11, 3) := by decide +kernel
theorem dX1_depth_128 : decode cX1_depth 128 = .ok (.aload_n 0, 1) := by decide +kernel
theorem dX1_depth_129 : decode cX1_depth 129 = .ok (.getfield 28, 3) := by decide +kernel
theorem dX1_depth_132 : decode cX1_depth 132 = .ok (.iload_n 1, 1) := by decide +kernel
theorem dX1_depth_133 : decode cX1_depth 133 = .ok (.iconst 1, 1) := by decide +kernel
theorem dX1_depth_134 : decode cX1_depth 134 = .ok (.ishr, 1) := by decide +kernel
theorem dX1_depth_135 : decode cX1_depth 135 = .ok (.iaload, 1) := by decide +kernel
theorem dX1_depth_136 : decode cX1_depth 136 = .ok (.ireturn, 1) := by decide +kernel
theorem dX1_nodes_0 : decode cX1_nodes 0 = .ok (.aload_n 0, 1) := by decide +kernel
theorem dX1_nodes_1 : decode cX1_nodes 1 = .ok (.iconst 0, 1) := by decide +kernel
theorem dX1_nodes_2 : decode cX1_nodes 2 = .ok (.putfield 31, 3) := by decide +kernel
theorem dX1_nodes_5 : decode cX1_nodes 5 = .ok (.aload_n 0, 1) := by decide +kernel
theorem dX1_nodes_6 : decode cX1_nodes 6 = .ok (.getfield 7, 3) := by decide +kernel
theorem dX1_nodes_9 : decode cX1_nodes 9 = .ok (.ireturn, 1) := by decide +kernel
theorem dX1_inputs_0 : decode cX1_inputs 0 = .ok (.aload_n 0, 1) := by decide +kernel
theorem dX1_inputs_1 : decode cX1_inputs 1 = .ok (.iconst 0, 1) := by decide +kernel
theorem dX1_inputs_2 : decode cX1_inputs 2 = .ok (.putfield 31, 3) := by decide +kernel
theorem dX1_inputs_5 : decode cX1_inputs 5 = .ok (.aload_n 0, 1) := by decide +kernel
theorem dX1_inputs_6 : decode cX1_inputs 6 = .ok (.getfield 38, 3) := by decide +kernel
theorem dX1_inputs_9 : decode cX1_inputs 9 = .ok (.ireturn, 1) := by decide +kernel
