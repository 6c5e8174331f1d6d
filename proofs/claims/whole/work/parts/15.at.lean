/-! ROWS READ OFF THE TABLES, written by wip/gen/atlemmas.py -/
theorem a_X0_init_0 : ix_at mT_X0_init 0 = some (.aload_n 0, 1) := by decide +kernel
theorem a_X0_init_1 : ix_at mT_X0_init 1 = some (.invokespecial 3, 3) := by decide +kernel
theorem a_X0_init_4 : ix_at mT_X0_init 4 = some (.aload_n 0, 1) := by decide +kernel
theorem a_X0_init_5 : ix_at mT_X0_init 5 = some (.iload_n 1, 1) := by decide +kernel
theorem a_X0_init_6 : ix_at mT_X0_init 6 = some (.iconst 0, 1) := by decide +kernel
theorem a_X0_init_7 : ix_at mT_X0_init 7 = some (.invokestatic 9, 3) := by decide +kernel
theorem a_X0_init_10 : ix_at mT_X0_init 10 = some (.newarray .byte, 2) := by decide +kernel
theorem a_X0_init_12 : ix_at mT_X0_init 12 = some (.putfield 15, 3) := by decide +kernel
theorem a_X0_init_15 : ix_at mT_X0_init 15 = some (.return_, 1) := by decide +kernel
theorem a_X0_clear_0 : ix_at mT_X0_clear 0 = some (.aload_n 0, 1) := by decide +kernel
theorem a_X0_clear_1 : ix_at mT_X0_clear 1 = some (.iconst 0, 1) := by decide +kernel
theorem a_X0_clear_2 : ix_at mT_X0_clear 2 = some (.putfield 21, 3) := by decide +kernel
theorem a_X0_clear_5 : ix_at mT_X0_clear 5 = some (.return_, 1) := by decide +kernel
theorem a_X0_cutTo_0 : ix_at mT_X0_cutTo 0 = some (.iload_n 1, 1) := by decide +kernel
theorem a_X0_cutTo_1 : ix_at mT_X0_cutTo 1 = some (.ifCond .lt 16, 3) := by decide +kernel
theorem a_X0_cutTo_4 : ix_at mT_X0_cutTo 4 = some (.iload_n 1, 1) := by decide +kernel
theorem a_X0_cutTo_5 : ix_at mT_X0_cutTo 5 = some (.aload_n 0, 1) := by decide +kernel
theorem a_X0_cutTo_6 : ix_at mT_X0_cutTo 6 = some (.getfield 21, 3) := by decide +kernel
theorem a_X0_cutTo_9 : ix_at mT_X0_cutTo 9 = some (.if_icmp .ge 8, 3) := by decide +kernel
theorem a_X0_cutTo_12 : ix_at mT_X0_cutTo 12 = some (.aload_n 0, 1) := by decide +kernel
theorem a_X0_cutTo_13 : ix_at mT_X0_cutTo 13 = some (.iload_n 1, 1) := by decide +kernel
theorem a_X0_cutTo_14 : ix_at mT_X0_cutTo 14 = some (.putfield 21, 3) := by decide +kernel
theorem a_X0_cutTo_17 : ix_at mT_X0_cutTo 17 = some (.return_, 1) := by decide +kernel
theorem a_X0_at_0 : ix_at mT_X0_at 0 = some (.iload_n 1, 1) := by decide +kernel
theorem a_X0_at_1 : ix_at mT_X0_at 1 = some (.ifCond .lt 24, 3) := by decide +kernel
theorem a_X0_at_4 : ix_at mT_X0_at 4 = some (.iload_n 1, 1) := by decide +kernel
theorem a_X0_at_5 : ix_at mT_X0_at 5 = some (.aload_n 0, 1) := by decide +kernel
theorem a_X0_at_6 : ix_at mT_X0_at 6 = some (.getfield 21, 3) := by decide +kernel
theorem a_X0_at_9 : ix_at mT_X0_at 9 = some (.if_icmp .ge 16, 3) := by decide +kernel
theorem a_X0_at_12 : ix_at mT_X0_at 12 = some (.aload_n 0, 1) := by decide +kernel
theorem a_X0_at_13 : ix_at mT_X0_at 13 = some (.getfield 15, 3) := by decide +kernel
theorem a_X0_at_16 : ix_at mT_X0_at 16 = some (.iload_n 1, 1) := by decide +kernel
theorem a_X0_at_17 : ix_at mT_X0_at 17 = some (.baload, 1) := by decide +kernel
theorem a_X0_at_18 : ix_at mT_X0_at 18 = some (.sipush 255, 3) := by decide +kernel
theorem a_X0_at_21 : ix_at mT_X0_at 21 = some (.iand, 1) := by decide +kernel
theorem a_X0_at_22 : ix_at mT_X0_at 22 = some (.goto 4, 3) := by decide +kernel
theorem a_X0_at_25 : ix_at mT_X0_at 25 = some (.iconst (-1), 1) := by decide +kernel
theorem a_X0_at_26 : ix_at mT_X0_at 26 = some (.ireturn, 1) := by decide +kernel
theorem a_X0_add_0 : ix_at mT_X0_add 0 = some (.aload_n 0, 1) := by decide +kernel
theorem a_X0_add_1 : ix_at mT_X0_add 1 = some (.getfield 21, 3) := by decide +kernel
theorem a_X0_add_4 : ix_at mT_X0_add 4 = some (.aload_n 0, 1) := by decide +kernel
theorem a_X0_add_5 : ix_at mT_X0_add 5 = some (.getfield 15, 3) := by decide +kernel
theorem a_X0_add_8 : ix_at mT_X0_add 8 = some (.arraylength, 1) := by decide +kernel
theorem a_X0_add_9 : ix_at mT_X0_add 9 = some (.if_icmp .ge 24, 3) := by decide +kernel
theorem a_X0_add_12 : ix_at mT_X0_add 12 = some (.aload_n 0, 1) := by decide +kernel
theorem a_X0_add_13 : ix_at mT_X0_add 13 = some (.getfield 15, 3) := by decide +kernel
theorem a_X0_add_16 : ix_at mT_X0_add 16 = some (.aload_n 0, 1) := by decide +kernel
theorem a_X0_add_17 : ix_at mT_X0_add 17 = some (.getfield 21, 3) := by decide +kernel
theorem a_X0_add_20 : ix_at mT_X0_add 20 = some (.iload_n 1, 1) := by decide +kernel
theorem a_X0_add_21 : ix_at mT_X0_add 21 = some (.i2b, 1) := by decide +kernel
theorem a_X0_add_22 : ix_at mT_X0_add 22 = some (.bastore, 1) := by decide +kernel
theorem a_X0_add_23 : ix_at mT_X0_add 23 = some (.aload_n 0, 1) := by decide +kernel
theorem a_X0_add_24 : ix_at mT_X0_add 24 = some (.dup, 1) := by decide +kernel
theorem a_X0_add_25 : ix_at mT_X0_add 25 = some (.getfield 21, 3) := by decide +kernel
theorem a_X0_add_28 : ix_at mT_X0_add 28 = some (.iconst 1, 1) := by decide +kernel
theorem a_X0_add_29 : ix_at mT_X0_add 29 = some (.iadd, 1) := by decide +kernel
theorem a_X0_add_30 : ix_at mT_X0_add 30 = some (.putfield 21, 3) := by decide +kernel
theorem a_X0_add_33 : ix_at mT_X0_add 33 = some (.return_, 1) := by decide +kernel
theorem a_X0_addNumber_0 : ix_at mT_X0_addNumber 0 = some (.bipush 8, 2) := by decide +kernel
theorem a_X0_addNumber_2 : ix_at mT_X0_addNumber 2 = some (.iload_n 2, 1) := by decide +kernel
theorem a_X0_addNumber_3 : ix_at mT_X0_addNumber 3 = some (.iconst 1, 1) := by decide +kernel
theorem a_X0_addNumber_4 : ix_at mT_X0_addNumber 4 = some (.isub, 1) := by decide +kernel
theorem a_X0_addNumber_5 : ix_at mT_X0_addNumber 5 = some (.imul, 1) := by decide +kernel
theorem a_X0_addNumber_6 : ix_at mT_X0_addNumber 6 = some (.istore_n 3, 1) := by decide +kernel
theorem a_X0_addNumber_7 : ix_at mT_X0_addNumber 7 = some (.iload_n 3, 1) := by decide +kernel
theorem a_X0_addNumber_8 : ix_at mT_X0_addNumber 8 = some (.ifCond .lt 16, 3) := by decide +kernel
theorem a_X0_addNumber_11 : ix_at mT_X0_addNumber 11 = some (.aload_n 0, 1) := by decide +kernel
theorem a_X0_addNumber_12 : ix_at mT_X0_addNumber 12 = some (.iload_n 1, 1) := by decide +kernel
theorem a_X0_addNumber_13 : ix_at mT_X0_addNumber 13 = some (.iload_n 3, 1) := by decide +kernel
theorem a_X0_addNumber_14 : ix_at mT_X0_addNumber 14 = some (.iushr, 1) := by decide +kernel
theorem a_X0_addNumber_15 : ix_at mT_X0_addNumber 15 = some (.invokevirtual 25, 3) := by decide +kernel
theorem a_X0_addNumber_18 : ix_at mT_X0_addNumber 18 = some (.iinc 3 (-8), 3) := by decide +kernel
theorem a_X0_addNumber_21 : ix_at mT_X0_addNumber 21 = some (.goto (-14), 3) := by decide +kernel
theorem a_X0_addNumber_24 : ix_at mT_X0_addNumber 24 = some (.return_, 1) := by decide +kernel
theorem a_X0_number_0 : ix_at mT_X0_number 0 = some (.iconst 0, 1) := by decide +kernel
theorem a_X0_number_1 : ix_at mT_X0_number 1 = some (.istore_n 3, 1) := by decide +kernel
theorem a_X0_number_2 : ix_at mT_X0_number 2 = some (.iload_n 1, 1) := by decide +kernel
theorem a_X0_number_3 : ix_at mT_X0_number 3 = some (.ifCond .lt 47, 3) := by decide +kernel
theorem a_X0_number_6 : ix_at mT_X0_number 6 = some (.iload_n 1, 1) := by decide +kernel
theorem a_X0_number_7 : ix_at mT_X0_number 7 = some (.aload_n 0, 1) := by decide +kernel
theorem a_X0_number_8 : ix_at mT_X0_number 8 = some (.getfield 21, 3) := by decide +kernel
theorem a_X0_number_11 : ix_at mT_X0_number 11 = some (.iload_n 2, 1) := by decide +kernel
theorem a_X0_number_12 : ix_at mT_X0_number 12 = some (.isub, 1) := by decide +kernel
theorem a_X0_number_13 : ix_at mT_X0_number 13 = some (.if_icmp .gt 37, 3) := by decide +kernel
theorem a_X0_number_16 : ix_at mT_X0_number 16 = some (.iconst 0, 1) := by decide +kernel
theorem a_X0_number_17 : ix_at mT_X0_number 17 = some (.istore 4, 2) := by decide +kernel
theorem a_X0_number_19 : ix_at mT_X0_number 19 = some (.iload 4, 2) := by decide +kernel
theorem a_X0_number_21 : ix_at mT_X0_number 21 = some (.iload_n 2, 1) := by decide +kernel
theorem a_X0_number_22 : ix_at mT_X0_number 22 = some (.if_icmp .ge 28, 3) := by decide +kernel
theorem a_X0_number_25 : ix_at mT_X0_number 25 = some (.iload_n 3, 1) := by decide +kernel
theorem a_X0_number_26 : ix_at mT_X0_number 26 = some (.bipush 8, 2) := by decide +kernel
theorem a_X0_number_28 : ix_at mT_X0_number 28 = some (.ishl, 1) := by decide +kernel
theorem a_X0_number_29 : ix_at mT_X0_number 29 = some (.aload_n 0, 1) := by decide +kernel
theorem a_X0_number_30 : ix_at mT_X0_number 30 = some (.getfield 15, 3) := by decide +kernel
theorem a_X0_number_33 : ix_at mT_X0_number 33 = some (.iload_n 1, 1) := by decide +kernel
theorem a_X0_number_34 : ix_at mT_X0_number 34 = some (.iload 4, 2) := by decide +kernel
theorem a_X0_number_36 : ix_at mT_X0_number 36 = some (.iadd, 1) := by decide +kernel
theorem a_X0_number_37 : ix_at mT_X0_number 37 = some (.baload, 1) := by decide +kernel
theorem a_X0_number_38 : ix_at mT_X0_number 38 = some (.sipush 255, 3) := by decide +kernel
theorem a_X0_number_41 : ix_at mT_X0_number 41 = some (.iand, 1) := by decide +kernel
theorem a_X0_number_42 : ix_at mT_X0_number 42 = some (.ior, 1) := by decide +kernel
theorem a_X0_number_43 : ix_at mT_X0_number 43 = some (.istore_n 3, 1) := by decide +kernel
theorem a_X0_number_44 : ix_at mT_X0_number 44 = some (.iinc 4 1, 3) := by decide +kernel
theorem a_X0_number_47 : ix_at mT_X0_number 47 = some (.goto (-28), 3) := by decide +kernel
theorem a_X0_number_50 : ix_at mT_X0_number 50 = some (.iload_n 3, 1) := by decide +kernel
theorem a_X0_number_51 : ix_at mT_X0_number 51 = some (.ireturn, 1) := by decide +kernel
theorem a_X0_seal_0 : ix_at mT_X0_seal 0 = some (.iload_n 1, 1) := by decide +kernel
theorem a_X0_seal_1 : ix_at mT_X0_seal 1 = some (.ifCond .lt 13, 3) := by decide +kernel
theorem a_X0_seal_4 : ix_at mT_X0_seal 4 = some (.iload_n 1, 1) := by decide +kernel
theorem a_X0_seal_5 : ix_at mT_X0_seal 5 = some (.aload_n 0, 1) := by decide +kernel
theorem a_X0_seal_6 : ix_at mT_X0_seal 6 = some (.getfield 21, 3) := by decide +kernel
theorem a_X0_seal_9 : ix_at mT_X0_seal 9 = some (.iconst 4, 1) := by decide +kernel
theorem a_X0_seal_10 : ix_at mT_X0_seal 10 = some (.isub, 1) := by decide +kernel
theorem a_X0_seal_11 : ix_at mT_X0_seal 11 = some (.if_icmp .le 4, 3) := by decide +kernel
theorem a_X0_seal_14 : ix_at mT_X0_seal 14 = some (.return_, 1) := by decide +kernel
theorem a_X0_seal_15 : ix_at mT_X0_seal 15 = some (.bipush 17, 2) := by decide +kernel
theorem a_X0_seal_17 : ix_at mT_X0_seal 17 = some (.istore_n 2, 1) := by decide +kernel
theorem a_X0_seal_18 : ix_at mT_X0_seal 18 = some (.iload_n 1, 1) := by decide +kernel
theorem a_X0_seal_19 : ix_at mT_X0_seal 19 = some (.iconst 4, 1) := by decide +kernel
theorem a_X0_seal_20 : ix_at mT_X0_seal 20 = some (.iadd, 1) := by decide +kernel
theorem a_X0_seal_21 : ix_at mT_X0_seal 21 = some (.istore_n 3, 1) := by decide +kernel
theorem a_X0_seal_22 : ix_at mT_X0_seal 22 = some (.iload_n 3, 1) := by decide +kernel
theorem a_X0_seal_23 : ix_at mT_X0_seal 23 = some (.aload_n 0, 1) := by decide +kernel
theorem a_X0_seal_24 : ix_at mT_X0_seal 24 = some (.getfield 21, 3) := by decide +kernel
theorem a_X0_seal_27 : ix_at mT_X0_seal 27 = some (.if_icmp .ge 25, 3) := by decide +kernel
theorem a_X0_seal_30 : ix_at mT_X0_seal 30 = some (.iload_n 2, 1) := by decide +kernel
theorem a_X0_seal_31 : ix_at mT_X0_seal 31 = some (.bipush 31, 2) := by decide +kernel
theorem a_X0_seal_33 : ix_at mT_X0_seal 33 = some (.imul, 1) := by decide +kernel
theorem a_X0_seal_34 : ix_at mT_X0_seal 34 = some (.aload_n 0, 1) := by decide +kernel
theorem a_X0_seal_35 : ix_at mT_X0_seal 35 = some (.getfield 15, 3) := by decide +kernel
theorem a_X0_seal_38 : ix_at mT_X0_seal 38 = some (.iload_n 3, 1) := by decide +kernel
theorem a_X0_seal_39 : ix_at mT_X0_seal 39 = some (.baload, 1) := by decide +kernel
theorem a_X0_seal_40 : ix_at mT_X0_seal 40 = some (.sipush 255, 3) := by decide +kernel
theorem a_X0_seal_43 : ix_at mT_X0_seal 43 = some (.iand, 1) := by decide +kernel
theorem a_X0_seal_44 : ix_at mT_X0_seal 44 = some (.iadd, 1) := by decide +kernel
theorem a_X0_seal_45 : ix_at mT_X0_seal 45 = some (.istore_n 2, 1) := by decide +kernel
theorem a_X0_seal_46 : ix_at mT_X0_seal 46 = some (.iinc 3 1, 3) := by decide +kernel
theorem a_X0_seal_49 : ix_at mT_X0_seal 49 = some (.goto (-27), 3) := by decide +kernel
theorem a_X0_seal_52 : ix_at mT_X0_seal 52 = some (.iconst 0, 1) := by decide +kernel
theorem a_X0_seal_53 : ix_at mT_X0_seal 53 = some (.istore_n 3, 1) := by decide +kernel
theorem a_X0_seal_54 : ix_at mT_X0_seal 54 = some (.iload_n 3, 1) := by decide +kernel
theorem a_X0_seal_55 : ix_at mT_X0_seal 55 = some (.iconst 4, 1) := by decide +kernel
theorem a_X0_seal_56 : ix_at mT_X0_seal 56 = some (.if_icmp .ge 27, 3) := by decide +kernel
theorem a_X0_seal_59 : ix_at mT_X0_seal 59 = some (.aload_n 0, 1) := by decide +kernel
theorem a_X0_seal_60 : ix_at mT_X0_seal 60 = some (.getfield 15, 3) := by decide +kernel
theorem a_X0_seal_63 : ix_at mT_X0_seal 63 = some (.iload_n 1, 1) := by decide +kernel
theorem a_X0_seal_64 : ix_at mT_X0_seal 64 = some (.iload_n 3, 1) := by decide +kernel
theorem a_X0_seal_65 : ix_at mT_X0_seal 65 = some (.iadd, 1) := by decide +kernel
theorem a_X0_seal_66 : ix_at mT_X0_seal 66 = some (.iload_n 2, 1) := by decide +kernel
theorem a_X0_seal_67 : ix_at mT_X0_seal 67 = some (.bipush 24, 2) := by decide +kernel
theorem a_X0_seal_69 : ix_at mT_X0_seal 69 = some (.bipush 8, 2) := by decide +kernel
theorem a_X0_seal_71 : ix_at mT_X0_seal 71 = some (.iload_n 3, 1) := by decide +kernel
theorem a_X0_seal_72 : ix_at mT_X0_seal 72 = some (.imul, 1) := by decide +kernel
theorem a_X0_seal_73 : ix_at mT_X0_seal 73 = some (.isub, 1) := by decide +kernel
theorem a_X0_seal_74 : ix_at mT_X0_seal 74 = some (.iushr, 1) := by decide +kernel
theorem a_X0_seal_75 : ix_at mT_X0_seal 75 = some (.i2b, 1) := by decide +kernel
theorem a_X0_seal_76 : ix_at mT_X0_seal 76 = some (.bastore, 1) := by decide +kernel
theorem a_X0_seal_77 : ix_at mT_X0_seal 77 = some (.iinc 3 1, 3) := by decide +kernel
theorem a_X0_seal_80 : ix_at mT_X0_seal 80 = some (.goto (-26), 3) := by decide +kernel
theorem a_X0_seal_83 : ix_at mT_X0_seal 83 = some (.return_, 1) := by decide +kernel
theorem a_X1_init_0 : ix_at mT_X1_init 0 = some (.aload_n 0, 1) := by decide +kernel
theorem a_X1_init_1 : ix_at mT_X1_init 1 = some (.invokespecial 3, 3) := by decide +kernel
theorem a_X1_init_4 : ix_at mT_X1_init 4 = some (.aload_n 0, 1) := by decide +kernel
theorem a_X1_init_5 : ix_at mT_X1_init 5 = some (.new 9, 3) := by decide +kernel
theorem a_X1_init_8 : ix_at mT_X1_init 8 = some (.dup, 1) := by decide +kernel
theorem a_X1_init_9 : ix_at mT_X1_init 9 = some (.sipush 4000, 3) := by decide +kernel
theorem a_X1_init_12 : ix_at mT_X1_init 12 = some (.invokespecial 11, 3) := by decide +kernel
theorem a_X1_init_15 : ix_at mT_X1_init 15 = some (.putfield 14, 3) := by decide +kernel
theorem a_X1_init_18 : ix_at mT_X1_init 18 = some (.aload_n 0, 1) := by decide +kernel
theorem a_X1_init_19 : ix_at mT_X1_init 19 = some (.sipush 285, 3) := by decide +kernel
theorem a_X1_init_22 : ix_at mT_X1_init 22 = some (.newarray .int, 2) := by decide +kernel
theorem a_X1_init_24 : ix_at mT_X1_init 24 = some (.putfield 20, 3) := by decide +kernel
theorem a_X1_init_27 : ix_at mT_X1_init 27 = some (.aload_n 0, 1) := by decide +kernel
theorem a_X1_init_28 : ix_at mT_X1_init 28 = some (.sipush 285, 3) := by decide +kernel
theorem a_X1_init_31 : ix_at mT_X1_init 31 = some (.newarray .boolean, 2) := by decide +kernel
theorem a_X1_init_33 : ix_at mT_X1_init 33 = some (.putfield 24, 3) := by decide +kernel
theorem a_X1_init_36 : ix_at mT_X1_init 36 = some (.aload_n 0, 1) := by decide +kernel
theorem a_X1_init_37 : ix_at mT_X1_init 37 = some (.bipush 32, 2) := by decide +kernel
theorem a_X1_init_39 : ix_at mT_X1_init 39 = some (.newarray .int, 2) := by decide +kernel
theorem a_X1_init_41 : ix_at mT_X1_init 41 = some (.putfield 28, 3) := by decide +kernel
theorem a_X1_init_44 : ix_at mT_X1_init 44 = some (.return_, 1) := by decide +kernel
theorem a_X1_clear_0 : ix_at mT_X1_clear 0 = some (.aload_n 0, 1) := by decide +kernel
theorem a_X1_clear_1 : ix_at mT_X1_clear 1 = some (.getfield 14, 3) := by decide +kernel
theorem a_X1_clear_4 : ix_at mT_X1_clear 4 = some (.invokevirtual 31, 3) := by decide +kernel
theorem a_X1_clear_7 : ix_at mT_X1_clear 7 = some (.aload_n 0, 1) := by decide +kernel
theorem a_X1_clear_8 : ix_at mT_X1_clear 8 = some (.iconst 0, 1) := by decide +kernel
theorem a_X1_clear_9 : ix_at mT_X1_clear 9 = some (.putfield 34, 3) := by decide +kernel
theorem a_X1_clear_12 : ix_at mT_X1_clear 12 = some (.return_, 1) := by decide +kernel
theorem a_X1_append_0 : ix_at mT_X1_append 0 = some (.aload_n 0, 1) := by decide +kernel
theorem a_X1_append_1 : ix_at mT_X1_append 1 = some (.getfield 34, 3) := by decide +kernel
theorem a_X1_append_4 : ix_at mT_X1_append 4 = some (.sipush 285, 3) := by decide +kernel
theorem a_X1_append_7 : ix_at mT_X1_append 7 = some (.if_icmp .lt 4, 3) := by decide +kernel
theorem a_X1_append_10 : ix_at mT_X1_append 10 = some (.return_, 1) := by decide +kernel
theorem a_X1_append_11 : ix_at mT_X1_append 11 = some (.aload_n 0, 1) := by decide +kernel
theorem a_X1_append_12 : ix_at mT_X1_append 12 = some (.getfield 14, 3) := by decide +kernel
theorem a_X1_append_15 : ix_at mT_X1_append 15 = some (.getfield 38, 3) := by decide +kernel
theorem a_X1_append_18 : ix_at mT_X1_append 18 = some (.istore 6, 2) := by decide +kernel
theorem a_X1_append_20 : ix_at mT_X1_append 20 = some (.aload_n 0, 1) := by decide +kernel
theorem a_X1_append_21 : ix_at mT_X1_append 21 = some (.getfield 14, 3) := by decide +kernel
theorem a_X1_append_24 : ix_at mT_X1_append 24 = some (.iconst 0, 1) := by decide +kernel
theorem a_X1_append_25 : ix_at mT_X1_append 25 = some (.iconst 4, 1) := by decide +kernel
theorem a_X1_append_26 : ix_at mT_X1_append 26 = some (.invokevirtual 41, 3) := by decide +kernel
theorem a_X1_append_29 : ix_at mT_X1_append 29 = some (.aload_n 0, 1) := by decide +kernel
theorem a_X1_append_30 : ix_at mT_X1_append 30 = some (.getfield 14, 3) := by decide +kernel
theorem a_X1_append_33 : ix_at mT_X1_append 33 = some (.aload 5, 2) := by decide +kernel
theorem a_X1_append_35 : ix_at mT_X1_append 35 = some (.getfield 38, 3) := by decide +kernel
theorem a_X1_append_38 : ix_at mT_X1_append 38 = some (.iconst 2, 1) := by decide +kernel
theorem a_X1_append_39 : ix_at mT_X1_append 39 = some (.invokevirtual 41, 3) := by decide +kernel
theorem a_X1_append_42 : ix_at mT_X1_append 42 = some (.aload_n 0, 1) := by decide +kernel
theorem a_X1_append_43 : ix_at mT_X1_append 43 = some (.getfield 14, 3) := by decide +kernel
theorem a_X1_append_46 : ix_at mT_X1_append 46 = some (.iload_n 1, 1) := by decide +kernel
theorem a_X1_append_47 : ix_at mT_X1_append 47 = some (.iconst 1, 1) := by decide +kernel
theorem a_X1_append_48 : ix_at mT_X1_append 48 = some (.invokevirtual 41, 3) := by decide +kernel
theorem a_X1_append_51 : ix_at mT_X1_append 51 = some (.aload_n 0, 1) := by decide +kernel
theorem a_X1_append_52 : ix_at mT_X1_append 52 = some (.getfield 14, 3) := by decide +kernel
theorem a_X1_append_55 : ix_at mT_X1_append 55 = some (.iload_n 2, 1) := by decide +kernel
theorem a_X1_append_56 : ix_at mT_X1_append 56 = some (.iconst 1, 1) := by decide +kernel
theorem a_X1_append_57 : ix_at mT_X1_append 57 = some (.invokevirtual 41, 3) := by decide +kernel
theorem a_X1_append_60 : ix_at mT_X1_append 60 = some (.aload_n 0, 1) := by decide +kernel
theorem a_X1_append_61 : ix_at mT_X1_append 61 = some (.getfield 14, 3) := by decide +kernel
theorem a_X1_append_64 : ix_at mT_X1_append 64 = some (.iload_n 3, 1) := by decide +kernel
theorem a_X1_append_65 : ix_at mT_X1_append 65 = some (.iconst 2, 1) := by decide +kernel
theorem a_X1_append_66 : ix_at mT_X1_append 66 = some (.invokevirtual 41, 3) := by decide +kernel
theorem a_X1_append_69 : ix_at mT_X1_append 69 = some (.aload_n 0, 1) := by decide +kernel
theorem a_X1_append_70 : ix_at mT_X1_append 70 = some (.getfield 14, 3) := by decide +kernel
theorem a_X1_append_73 : ix_at mT_X1_append 73 = some (.iload 4, 2) := by decide +kernel
theorem a_X1_append_75 : ix_at mT_X1_append 75 = some (.iconst 4, 1) := by decide +kernel
theorem a_X1_append_76 : ix_at mT_X1_append 76 = some (.invokevirtual 41, 3) := by decide +kernel
theorem a_X1_append_79 : ix_at mT_X1_append 79 = some (.iconst 0, 1) := by decide +kernel
theorem a_X1_append_80 : ix_at mT_X1_append 80 = some (.istore 7, 2) := by decide +kernel
theorem a_X1_append_82 : ix_at mT_X1_append 82 = some (.iload 7, 2) := by decide +kernel
theorem a_X1_append_84 : ix_at mT_X1_append 84 = some (.aload 5, 2) := by decide +kernel
theorem a_X1_append_86 : ix_at mT_X1_append 86 = some (.getfield 38, 3) := by decide +kernel
theorem a_X1_append_89 : ix_at mT_X1_append 89 = some (.if_icmp .ge 23, 3) := by decide +kernel
theorem a_X1_append_92 : ix_at mT_X1_append 92 = some (.aload_n 0, 1) := by decide +kernel
theorem a_X1_append_93 : ix_at mT_X1_append 93 = some (.getfield 14, 3) := by decide +kernel
theorem a_X1_append_96 : ix_at mT_X1_append 96 = some (.aload 5, 2) := by decide +kernel
theorem a_X1_append_98 : ix_at mT_X1_append 98 = some (.iload 7, 2) := by decide +kernel
theorem a_X1_append_100 : ix_at mT_X1_append 100 = some (.invokevirtual 45, 3) := by decide +kernel
theorem a_X1_append_103 : ix_at mT_X1_append 103 = some (.invokevirtual 49, 3) := by decide +kernel
theorem a_X1_append_106 : ix_at mT_X1_append 106 = some (.iinc 7 1, 3) := by decide +kernel
theorem a_X1_append_109 : ix_at mT_X1_append 109 = some (.goto (-27), 3) := by decide +kernel
theorem a_X1_append_112 : ix_at mT_X1_append 112 = some (.aload_n 0, 1) := by decide +kernel
theorem a_X1_append_113 : ix_at mT_X1_append 113 = some (.getfield 14, 3) := by decide +kernel
theorem a_X1_append_116 : ix_at mT_X1_append 116 = some (.iload 6, 2) := by decide +kernel
theorem a_X1_append_118 : ix_at mT_X1_append 118 = some (.invokevirtual 52, 3) := by decide +kernel
theorem a_X1_append_121 : ix_at mT_X1_append 121 = some (.aload_n 0, 1) := by decide +kernel
theorem a_X1_append_122 : ix_at mT_X1_append 122 = some (.getfield 20, 3) := by decide +kernel
theorem a_X1_append_125 : ix_at mT_X1_append 125 = some (.aload_n 0, 1) := by decide +kernel
theorem a_X1_append_126 : ix_at mT_X1_append 126 = some (.getfield 34, 3) := by decide +kernel
theorem a_X1_append_129 : ix_at mT_X1_append 129 = some (.aload_n 0, 1) := by decide +kernel
theorem a_X1_append_130 : ix_at mT_X1_append 130 = some (.getfield 14, 3) := by decide +kernel
theorem a_X1_append_133 : ix_at mT_X1_append 133 = some (.getfield 38, 3) := by decide +kernel
theorem a_X1_append_136 : ix_at mT_X1_append 136 = some (.iastore, 1) := by decide +kernel
theorem a_X1_append_137 : ix_at mT_X1_append 137 = some (.aload_n 0, 1) := by decide +kernel
theorem a_X1_append_138 : ix_at mT_X1_append 138 = some (.dup, 1) := by decide +kernel
theorem a_X1_append_139 : ix_at mT_X1_append 139 = some (.getfield 34, 3) := by decide +kernel
theorem a_X1_append_142 : ix_at mT_X1_append 142 = some (.iconst 1, 1) := by decide +kernel
theorem a_X1_append_143 : ix_at mT_X1_append 143 = some (.iadd, 1) := by decide +kernel
theorem a_X1_append_144 : ix_at mT_X1_append 144 = some (.putfield 34, 3) := by decide +kernel
theorem a_X1_append_147 : ix_at mT_X1_append 147 = some (.return_, 1) := by decide +kernel
theorem a_X1_has_0 : ix_at mT_X1_has 0 = some (.iload_n 1, 1) := by decide +kernel
theorem a_X1_has_1 : ix_at mT_X1_has 1 = some (.ifCond .lt 15, 3) := by decide +kernel
theorem a_X1_has_4 : ix_at mT_X1_has 4 = some (.iload_n 1, 1) := by decide +kernel
theorem a_X1_has_5 : ix_at mT_X1_has 5 = some (.aload_n 0, 1) := by decide +kernel
theorem a_X1_has_6 : ix_at mT_X1_has 6 = some (.getfield 34, 3) := by decide +kernel
theorem a_X1_has_9 : ix_at mT_X1_has 9 = some (.if_icmp .ge 7, 3) := by decide +kernel
theorem a_X1_has_12 : ix_at mT_X1_has 12 = some (.iconst 1, 1) := by decide +kernel
theorem a_X1_has_13 : ix_at mT_X1_has 13 = some (.goto 4, 3) := by decide +kernel
theorem a_X1_has_16 : ix_at mT_X1_has 16 = some (.iconst 0, 1) := by decide +kernel
theorem a_X1_has_17 : ix_at mT_X1_has 17 = some (.ireturn, 1) := by decide +kernel
theorem a_X1_startOf_0 : ix_at mT_X1_startOf 0 = some (.iload_n 1, 1) := by decide +kernel
theorem a_X1_startOf_1 : ix_at mT_X1_startOf 1 = some (.iconst 1, 1) := by decide +kernel
theorem a_X1_startOf_2 : ix_at mT_X1_startOf 2 = some (.if_icmp .lt 22, 3) := by decide +kernel
theorem a_X1_startOf_5 : ix_at mT_X1_startOf 5 = some (.iload_n 1, 1) := by decide +kernel
theorem a_X1_startOf_6 : ix_at mT_X1_startOf 6 = some (.aload_n 0, 1) := by decide +kernel
theorem a_X1_startOf_7 : ix_at mT_X1_startOf 7 = some (.getfield 34, 3) := by decide +kernel
theorem a_X1_startOf_10 : ix_at mT_X1_startOf 10 = some (.if_icmp .gt 14, 3) := by decide +kernel
theorem a_X1_startOf_13 : ix_at mT_X1_startOf 13 = some (.aload_n 0, 1) := by decide +kernel
theorem a_X1_startOf_14 : ix_at mT_X1_startOf 14 = some (.getfield 20, 3) := by decide +kernel
theorem a_X1_startOf_17 : ix_at mT_X1_startOf 17 = some (.iload_n 1, 1) := by decide +kernel
theorem a_X1_startOf_18 : ix_at mT_X1_startOf 18 = some (.iconst 1, 1) := by decide +kernel
theorem a_X1_startOf_19 : ix_at mT_X1_startOf 19 = some (.isub, 1) := by decide +kernel
theorem a_X1_startOf_20 : ix_at mT_X1_startOf 20 = some (.iaload, 1) := by decide +kernel
theorem a_X1_startOf_21 : ix_at mT_X1_startOf 21 = some (.goto 4, 3) := by decide +kernel
theorem a_X1_startOf_24 : ix_at mT_X1_startOf 24 = some (.iconst 0, 1) := by decide +kernel
theorem a_X1_startOf_25 : ix_at mT_X1_startOf 25 = some (.ireturn, 1) := by decide +kernel
theorem a_X1_field_0 : ix_at mT_X1_field 0 = some (.aload_n 0, 1) := by decide +kernel
theorem a_X1_field_1 : ix_at mT_X1_field 1 = some (.getfield 14, 3) := by decide +kernel
theorem a_X1_field_4 : ix_at mT_X1_field 4 = some (.aload_n 0, 1) := by decide +kernel
theorem a_X1_field_5 : ix_at mT_X1_field 5 = some (.iload_n 1, 1) := by decide +kernel
theorem a_X1_field_6 : ix_at mT_X1_field 6 = some (.invokevirtual 55, 3) := by decide +kernel
theorem a_X1_field_9 : ix_at mT_X1_field 9 = some (.iload_n 2, 1) := by decide +kernel
theorem a_X1_field_10 : ix_at mT_X1_field 10 = some (.iadd, 1) := by decide +kernel
theorem a_X1_field_11 : ix_at mT_X1_field 11 = some (.iload_n 3, 1) := by decide +kernel
theorem a_X1_field_12 : ix_at mT_X1_field 12 = some (.invokevirtual 58, 3) := by decide +kernel
theorem a_X1_field_15 : ix_at mT_X1_field 15 = some (.ireturn, 1) := by decide +kernel
theorem a_X1_kindOf_0 : ix_at mT_X1_kindOf 0 = some (.aload_n 0, 1) := by decide +kernel
theorem a_X1_kindOf_1 : ix_at mT_X1_kindOf 1 = some (.getfield 14, 3) := by decide +kernel
theorem a_X1_kindOf_4 : ix_at mT_X1_kindOf 4 = some (.aload_n 0, 1) := by decide +kernel
theorem a_X1_kindOf_5 : ix_at mT_X1_kindOf 5 = some (.iload_n 1, 1) := by decide +kernel
theorem a_X1_kindOf_6 : ix_at mT_X1_kindOf 6 = some (.invokevirtual 55, 3) := by decide +kernel
theorem a_X1_kindOf_9 : ix_at mT_X1_kindOf 9 = some (.bipush 6, 2) := by decide +kernel
theorem a_X1_kindOf_11 : ix_at mT_X1_kindOf 11 = some (.iadd, 1) := by decide +kernel
theorem a_X1_kindOf_12 : ix_at mT_X1_kindOf 12 = some (.iconst 1, 1) := by decide +kernel
theorem a_X1_kindOf_13 : ix_at mT_X1_kindOf 13 = some (.invokevirtual 58, 3) := by decide +kernel
theorem a_X1_kindOf_16 : ix_at mT_X1_kindOf 16 = some (.ireturn, 1) := by decide +kernel
theorem a_X1_isSeen_0 : ix_at mT_X1_isSeen 0 = some (.aload_n 0, 1) := by decide +kernel
theorem a_X1_isSeen_1 : ix_at mT_X1_isSeen 1 = some (.iload_n 1, 1) := by decide +kernel
theorem a_X1_isSeen_2 : ix_at mT_X1_isSeen 2 = some (.invokevirtual 62, 3) := by decide +kernel
theorem a_X1_isSeen_5 : ix_at mT_X1_isSeen 5 = some (.istore_n 2, 1) := by decide +kernel
theorem a_X1_isSeen_6 : ix_at mT_X1_isSeen 6 = some (.iload_n 2, 1) := by decide +kernel
theorem a_X1_isSeen_7 : ix_at mT_X1_isSeen 7 = some (.ifCond .eq 8, 3) := by decide +kernel
theorem a_X1_isSeen_10 : ix_at mT_X1_isSeen 10 = some (.iload_n 2, 1) := by decide +kernel
theorem a_X1_isSeen_11 : ix_at mT_X1_isSeen 11 = some (.iconst 1, 1) := by decide +kernel
theorem a_X1_isSeen_12 : ix_at mT_X1_isSeen 12 = some (.if_icmp .ne 7, 3) := by decide +kernel
theorem a_X1_isSeen_15 : ix_at mT_X1_isSeen 15 = some (.iconst 1, 1) := by decide +kernel
theorem a_X1_isSeen_16 : ix_at mT_X1_isSeen 16 = some (.goto 4, 3) := by decide +kernel
theorem a_X1_isSeen_19 : ix_at mT_X1_isSeen 19 = some (.iconst 0, 1) := by decide +kernel
theorem a_X1_isSeen_20 : ix_at mT_X1_isSeen 20 = some (.ireturn, 1) := by decide +kernel
theorem a_X1_dropBroken_0 : ix_at mT_X1_dropBroken 0 = some (.aload_n 0, 1) := by decide +kernel
theorem a_X1_dropBroken_1 : ix_at mT_X1_dropBroken 1 = some (.getfield 34, 3) := by decide +kernel
theorem a_X1_dropBroken_4 : ix_at mT_X1_dropBroken 4 = some (.iconst 1, 1) := by decide +kernel
theorem a_X1_dropBroken_5 : ix_at mT_X1_dropBroken 5 = some (.isub, 1) := by decide +kernel
theorem a_X1_dropBroken_6 : ix_at mT_X1_dropBroken 6 = some (.istore_n 1, 1) := by decide +kernel
theorem a_X1_dropBroken_7 : ix_at mT_X1_dropBroken 7 = some (.iload_n 1, 1) := by decide +kernel
theorem a_X1_dropBroken_8 : ix_at mT_X1_dropBroken 8 = some (.ifCond .lt 30, 3) := by decide +kernel
theorem a_X1_dropBroken_11 : ix_at mT_X1_dropBroken 11 = some (.aload_n 0, 1) := by decide +kernel
theorem a_X1_dropBroken_12 : ix_at mT_X1_dropBroken 12 = some (.getfield 20, 3) := by decide +kernel
theorem a_X1_dropBroken_15 : ix_at mT_X1_dropBroken 15 = some (.iload_n 1, 1) := by decide +kernel
theorem a_X1_dropBroken_16 : ix_at mT_X1_dropBroken 16 = some (.iaload, 1) := by decide +kernel
theorem a_X1_dropBroken_17 : ix_at mT_X1_dropBroken 17 = some (.aload_n 0, 1) := by decide +kernel
theorem a_X1_dropBroken_18 : ix_at mT_X1_dropBroken 18 = some (.getfield 14, 3) := by decide +kernel
theorem a_X1_dropBroken_21 : ix_at mT_X1_dropBroken 21 = some (.getfield 38, 3) := by decide +kernel
theorem a_X1_dropBroken_24 : ix_at mT_X1_dropBroken 24 = some (.if_icmp .le 14, 3) := by decide +kernel
theorem a_X1_dropBroken_27 : ix_at mT_X1_dropBroken 27 = some (.aload_n 0, 1) := by decide +kernel
theorem a_X1_dropBroken_28 : ix_at mT_X1_dropBroken 28 = some (.iload_n 1, 1) := by decide +kernel
theorem a_X1_dropBroken_29 : ix_at mT_X1_dropBroken 29 = some (.putfield 34, 3) := by decide +kernel
theorem a_X1_dropBroken_32 : ix_at mT_X1_dropBroken 32 = some (.iinc 1 (-1), 3) := by decide +kernel
theorem a_X1_dropBroken_35 : ix_at mT_X1_dropBroken 35 = some (.goto (-28), 3) := by decide +kernel
theorem a_X1_dropBroken_38 : ix_at mT_X1_dropBroken 38 = some (.return_, 1) := by decide +kernel
theorem a_X1_cutBroken_0 : ix_at mT_X1_cutBroken 0 = some (.aload_n 0, 1) := by decide +kernel
theorem a_X1_cutBroken_1 : ix_at mT_X1_cutBroken 1 = some (.aload_n 0, 1) := by decide +kernel
theorem a_X1_cutBroken_2 : ix_at mT_X1_cutBroken 2 = some (.getfield 34, 3) := by decide +kernel
theorem a_X1_cutBroken_5 : ix_at mT_X1_cutBroken 5 = some (.invokevirtual 55, 3) := by decide +kernel
theorem a_X1_cutBroken_8 : ix_at mT_X1_cutBroken 8 = some (.istore_n 1, 1) := by decide +kernel
theorem a_X1_cutBroken_9 : ix_at mT_X1_cutBroken 9 = some (.aload_n 0, 1) := by decide +kernel
theorem a_X1_cutBroken_10 : ix_at mT_X1_cutBroken 10 = some (.getfield 14, 3) := by decide +kernel
theorem a_X1_cutBroken_13 : ix_at mT_X1_cutBroken 13 = some (.getfield 38, 3) := by decide +kernel
theorem a_X1_cutBroken_16 : ix_at mT_X1_cutBroken 16 = some (.iload_n 1, 1) := by decide +kernel
theorem a_X1_cutBroken_17 : ix_at mT_X1_cutBroken 17 = some (.isub, 1) := by decide +kernel
theorem a_X1_cutBroken_18 : ix_at mT_X1_cutBroken 18 = some (.istore_n 2, 1) := by decide +kernel
theorem a_X1_cutBroken_19 : ix_at mT_X1_cutBroken 19 = some (.aload_n 0, 1) := by decide +kernel
theorem a_X1_cutBroken_20 : ix_at mT_X1_cutBroken 20 = some (.getfield 14, 3) := by decide +kernel
theorem a_X1_cutBroken_23 : ix_at mT_X1_cutBroken 23 = some (.iload_n 1, 1) := by decide +kernel
theorem a_X1_cutBroken_24 : ix_at mT_X1_cutBroken 24 = some (.invokevirtual 65, 3) := by decide +kernel
theorem a_X1_cutBroken_27 : ix_at mT_X1_cutBroken 27 = some (.iload_n 2, 1) := by decide +kernel
theorem a_X1_cutBroken_28 : ix_at mT_X1_cutBroken 28 = some (.ireturn, 1) := by decide +kernel
theorem a_X1_isSentBy_0 : ix_at mT_X1_isSentBy 0 = some (.aload_n 0, 1) := by decide +kernel
theorem a_X1_isSentBy_1 : ix_at mT_X1_isSentBy 1 = some (.iload_n 1, 1) := by decide +kernel
theorem a_X1_isSentBy_2 : ix_at mT_X1_isSentBy 2 = some (.invokevirtual 68, 3) := by decide +kernel
theorem a_X1_isSentBy_5 : ix_at mT_X1_isSentBy 5 = some (.ifCond .eq 31, 3) := by decide +kernel
theorem a_X1_isSentBy_8 : ix_at mT_X1_isSentBy 8 = some (.aload_n 0, 1) := by decide +kernel
theorem a_X1_isSentBy_9 : ix_at mT_X1_isSentBy 9 = some (.iload_n 1, 1) := by decide +kernel
theorem a_X1_isSentBy_10 : ix_at mT_X1_isSentBy 10 = some (.bipush 7, 2) := by decide +kernel
theorem a_X1_isSentBy_12 : ix_at mT_X1_isSentBy 12 = some (.iconst 1, 1) := by decide +kernel
theorem a_X1_isSentBy_13 : ix_at mT_X1_isSentBy 13 = some (.invokevirtual 72, 3) := by decide +kernel
theorem a_X1_isSentBy_16 : ix_at mT_X1_isSentBy 16 = some (.iload_n 2, 1) := by decide +kernel
theorem a_X1_isSentBy_17 : ix_at mT_X1_isSentBy 17 = some (.if_icmp .ne 19, 3) := by decide +kernel
theorem a_X1_isSentBy_20 : ix_at mT_X1_isSentBy 20 = some (.aload_n 0, 1) := by decide +kernel
theorem a_X1_isSentBy_21 : ix_at mT_X1_isSentBy 21 = some (.iload_n 1, 1) := by decide +kernel
theorem a_X1_isSentBy_22 : ix_at mT_X1_isSentBy 22 = some (.bipush 8, 2) := by decide +kernel
theorem a_X1_isSentBy_24 : ix_at mT_X1_isSentBy 24 = some (.iconst 2, 1) := by decide +kernel
theorem a_X1_isSentBy_25 : ix_at mT_X1_isSentBy 25 = some (.invokevirtual 72, 3) := by decide +kernel
theorem a_X1_isSentBy_28 : ix_at mT_X1_isSentBy 28 = some (.iload_n 3, 1) := by decide +kernel
theorem a_X1_isSentBy_29 : ix_at mT_X1_isSentBy 29 = some (.if_icmp .ne 7, 3) := by decide +kernel
theorem a_X1_isSentBy_32 : ix_at mT_X1_isSentBy 32 = some (.iconst 1, 1) := by decide +kernel
theorem a_X1_isSentBy_33 : ix_at mT_X1_isSentBy 33 = some (.goto 4, 3) := by decide +kernel
theorem a_X1_isSentBy_36 : ix_at mT_X1_isSentBy 36 = some (.iconst 0, 1) := by decide +kernel
theorem a_X1_isSentBy_37 : ix_at mT_X1_isSentBy 37 = some (.ireturn, 1) := by decide +kernel
theorem a_X1_nextOf_0 : ix_at mT_X1_nextOf 0 = some (.aload_n 0, 1) := by decide +kernel
theorem a_X1_nextOf_1 : ix_at mT_X1_nextOf 1 = some (.getfield 34, 3) := by decide +kernel
theorem a_X1_nextOf_4 : ix_at mT_X1_nextOf 4 = some (.iconst 1, 1) := by decide +kernel
theorem a_X1_nextOf_5 : ix_at mT_X1_nextOf 5 = some (.isub, 1) := by decide +kernel
theorem a_X1_nextOf_6 : ix_at mT_X1_nextOf 6 = some (.istore_n 3, 1) := by decide +kernel
theorem a_X1_nextOf_7 : ix_at mT_X1_nextOf 7 = some (.iload_n 3, 1) := by decide +kernel
theorem a_X1_nextOf_8 : ix_at mT_X1_nextOf 8 = some (.ifCond .lt 30, 3) := by decide +kernel
theorem a_X1_nextOf_11 : ix_at mT_X1_nextOf 11 = some (.aload_n 0, 1) := by decide +kernel
theorem a_X1_nextOf_12 : ix_at mT_X1_nextOf 12 = some (.iload_n 3, 1) := by decide +kernel
theorem a_X1_nextOf_13 : ix_at mT_X1_nextOf 13 = some (.iload_n 1, 1) := by decide +kernel
theorem a_X1_nextOf_14 : ix_at mT_X1_nextOf 14 = some (.iload_n 2, 1) := by decide +kernel
theorem a_X1_nextOf_15 : ix_at mT_X1_nextOf 15 = some (.invokevirtual 76, 3) := by decide +kernel
theorem a_X1_nextOf_18 : ix_at mT_X1_nextOf 18 = some (.ifCond .eq 14, 3) := by decide +kernel
theorem a_X1_nextOf_21 : ix_at mT_X1_nextOf 21 = some (.aload_n 0, 1) := by decide +kernel
theorem a_X1_nextOf_22 : ix_at mT_X1_nextOf 22 = some (.iload_n 3, 1) := by decide +kernel
theorem a_X1_nextOf_23 : ix_at mT_X1_nextOf 23 = some (.bipush 10, 2) := by decide +kernel
theorem a_X1_nextOf_25 : ix_at mT_X1_nextOf 25 = some (.iconst 4, 1) := by decide +kernel
theorem a_X1_nextOf_26 : ix_at mT_X1_nextOf 26 = some (.invokevirtual 72, 3) := by decide +kernel
theorem a_X1_nextOf_29 : ix_at mT_X1_nextOf 29 = some (.iconst 1, 1) := by decide +kernel
theorem a_X1_nextOf_30 : ix_at mT_X1_nextOf 30 = some (.iadd, 1) := by decide +kernel
theorem a_X1_nextOf_31 : ix_at mT_X1_nextOf 31 = some (.ireturn, 1) := by decide +kernel
theorem a_X1_nextOf_32 : ix_at mT_X1_nextOf 32 = some (.iinc 3 (-1), 3) := by decide +kernel
theorem a_X1_nextOf_35 : ix_at mT_X1_nextOf 35 = some (.goto (-28), 3) := by decide +kernel
theorem a_X1_nextOf_38 : ix_at mT_X1_nextOf 38 = some (.iconst 0, 1) := by decide +kernel
theorem a_X1_nextOf_39 : ix_at mT_X1_nextOf 39 = some (.ireturn, 1) := by decide +kernel
theorem a_X1_offsetOfRecent_0 : ix_at mT_X1_offsetOfRecent 0 = some (.iconst 0, 1) := by decide +kernel
theorem a_X1_offsetOfRecent_1 : ix_at mT_X1_offsetOfRecent 1 = some (.istore 4, 2) := by decide +kernel
theorem a_X1_offsetOfRecent_3 : ix_at mT_X1_offsetOfRecent 3 = some (.aload_n 0, 1) := by decide +kernel
theorem a_X1_offsetOfRecent_4 : ix_at mT_X1_offsetOfRecent 4 = some (.getfield 34, 3) := by decide +kernel
theorem a_X1_offsetOfRecent_7 : ix_at mT_X1_offsetOfRecent 7 = some (.iconst 1, 1) := by decide +kernel
theorem a_X1_offsetOfRecent_8 : ix_at mT_X1_offsetOfRecent 8 = some (.isub, 1) := by decide +kernel
theorem a_X1_offsetOfRecent_9 : ix_at mT_X1_offsetOfRecent 9 = some (.istore 5, 2) := by decide +kernel
theorem a_X1_offsetOfRecent_11 : ix_at mT_X1_offsetOfRecent 11 = some (.iload 5, 2) := by decide +kernel
theorem a_X1_offsetOfRecent_13 : ix_at mT_X1_offsetOfRecent 13 = some (.ifCond .lt 45, 3) := by decide +kernel
theorem a_X1_offsetOfRecent_16 : ix_at mT_X1_offsetOfRecent 16 = some (.iload 4, 2) := by decide +kernel
theorem a_X1_offsetOfRecent_18 : ix_at mT_X1_offsetOfRecent 18 = some (.iconst 5, 1) := by decide +kernel
theorem a_X1_offsetOfRecent_19 : ix_at mT_X1_offsetOfRecent 19 = some (.if_icmp .ge 39, 3) := by decide +kernel
theorem a_X1_offsetOfRecent_22 : ix_at mT_X1_offsetOfRecent 22 = some (.aload_n 0, 1) := by decide +kernel
theorem a_X1_offsetOfRecent_23 : ix_at mT_X1_offsetOfRecent 23 = some (.iload 5, 2) := by decide +kernel
theorem a_X1_offsetOfRecent_25 : ix_at mT_X1_offsetOfRecent 25 = some (.iload_n 1, 1) := by decide +kernel
theorem a_X1_offsetOfRecent_26 : ix_at mT_X1_offsetOfRecent 26 = some (.iload_n 2, 1) := by decide +kernel
theorem a_X1_offsetOfRecent_27 : ix_at mT_X1_offsetOfRecent 27 = some (.invokevirtual 76, 3) := by decide +kernel
theorem a_X1_offsetOfRecent_30 : ix_at mT_X1_offsetOfRecent 30 = some (.ifCond .eq 22, 3) := by decide +kernel
theorem a_X1_offsetOfRecent_33 : ix_at mT_X1_offsetOfRecent 33 = some (.aload_n 0, 1) := by decide +kernel
theorem a_X1_offsetOfRecent_34 : ix_at mT_X1_offsetOfRecent 34 = some (.iload 5, 2) := by decide +kernel
theorem a_X1_offsetOfRecent_36 : ix_at mT_X1_offsetOfRecent 36 = some (.bipush 10, 2) := by decide +kernel
theorem a_X1_offsetOfRecent_38 : ix_at mT_X1_offsetOfRecent 38 = some (.iconst 4, 1) := by decide +kernel
theorem a_X1_offsetOfRecent_39 : ix_at mT_X1_offsetOfRecent 39 = some (.invokevirtual 72, 3) := by decide +kernel
theorem a_X1_offsetOfRecent_42 : ix_at mT_X1_offsetOfRecent 42 = some (.iload_n 3, 1) := by decide +kernel
theorem a_X1_offsetOfRecent_43 : ix_at mT_X1_offsetOfRecent 43 = some (.if_icmp .ne 6, 3) := by decide +kernel
theorem a_X1_offsetOfRecent_46 : ix_at mT_X1_offsetOfRecent 46 = some (.iload 5, 2) := by decide +kernel
theorem a_X1_offsetOfRecent_48 : ix_at mT_X1_offsetOfRecent 48 = some (.ireturn, 1) := by decide +kernel
theorem a_X1_offsetOfRecent_49 : ix_at mT_X1_offsetOfRecent 49 = some (.iinc 4 1, 3) := by decide +kernel
theorem a_X1_offsetOfRecent_52 : ix_at mT_X1_offsetOfRecent 52 = some (.iinc 5 (-1), 3) := by decide +kernel
theorem a_X1_offsetOfRecent_55 : ix_at mT_X1_offsetOfRecent 55 = some (.goto (-44), 3) := by decide +kernel
theorem a_X1_offsetOfRecent_58 : ix_at mT_X1_offsetOfRecent 58 = some (.iconst (-1), 1) := by decide +kernel
theorem a_X1_offsetOfRecent_59 : ix_at mT_X1_offsetOfRecent 59 = some (.ireturn, 1) := by decide +kernel
theorem a_X1_hasEndOf_0 : ix_at mT_X1_hasEndOf 0 = some (.aload_n 0, 1) := by decide +kernel
theorem a_X1_hasEndOf_1 : ix_at mT_X1_hasEndOf 1 = some (.getfield 34, 3) := by decide +kernel
theorem a_X1_hasEndOf_4 : ix_at mT_X1_hasEndOf 4 = some (.iconst 1, 1) := by decide +kernel
theorem a_X1_hasEndOf_5 : ix_at mT_X1_hasEndOf 5 = some (.isub, 1) := by decide +kernel
theorem a_X1_hasEndOf_6 : ix_at mT_X1_hasEndOf 6 = some (.istore_n 2, 1) := by decide +kernel
theorem a_X1_hasEndOf_7 : ix_at mT_X1_hasEndOf 7 = some (.iload_n 2, 1) := by decide +kernel
theorem a_X1_hasEndOf_8 : ix_at mT_X1_hasEndOf 8 = some (.ifCond .lt 31, 3) := by decide +kernel
theorem a_X1_hasEndOf_11 : ix_at mT_X1_hasEndOf 11 = some (.aload_n 0, 1) := by decide +kernel
theorem a_X1_hasEndOf_12 : ix_at mT_X1_hasEndOf 12 = some (.iload_n 2, 1) := by decide +kernel
theorem a_X1_hasEndOf_13 : ix_at mT_X1_hasEndOf 13 = some (.invokevirtual 68, 3) := by decide +kernel
theorem a_X1_hasEndOf_16 : ix_at mT_X1_hasEndOf 16 = some (.ifCond .ne 17, 3) := by decide +kernel
theorem a_X1_hasEndOf_19 : ix_at mT_X1_hasEndOf 19 = some (.aload_n 0, 1) := by decide +kernel
theorem a_X1_hasEndOf_20 : ix_at mT_X1_hasEndOf 20 = some (.iload_n 2, 1) := by decide +kernel
theorem a_X1_hasEndOf_21 : ix_at mT_X1_hasEndOf 21 = some (.bipush 10, 2) := by decide +kernel
theorem a_X1_hasEndOf_23 : ix_at mT_X1_hasEndOf 23 = some (.iconst 4, 1) := by decide +kernel
theorem a_X1_hasEndOf_24 : ix_at mT_X1_hasEndOf 24 = some (.invokevirtual 72, 3) := by decide +kernel
theorem a_X1_hasEndOf_27 : ix_at mT_X1_hasEndOf 27 = some (.iload_n 1, 1) := by decide +kernel
theorem a_X1_hasEndOf_28 : ix_at mT_X1_hasEndOf 28 = some (.if_icmp .ne 5, 3) := by decide +kernel
theorem a_X1_hasEndOf_31 : ix_at mT_X1_hasEndOf 31 = some (.iconst 1, 1) := by decide +kernel
theorem a_X1_hasEndOf_32 : ix_at mT_X1_hasEndOf 32 = some (.ireturn, 1) := by decide +kernel
theorem a_X1_hasEndOf_33 : ix_at mT_X1_hasEndOf 33 = some (.iinc 2 (-1), 3) := by decide +kernel
theorem a_X1_hasEndOf_36 : ix_at mT_X1_hasEndOf 36 = some (.goto (-29), 3) := by decide +kernel
theorem a_X1_hasEndOf_39 : ix_at mT_X1_hasEndOf 39 = some (.iconst 0, 1) := by decide +kernel
theorem a_X1_hasEndOf_40 : ix_at mT_X1_hasEndOf 40 = some (.ireturn, 1) := by decide +kernel
theorem a_X1_stable_0 : ix_at mT_X1_stable 0 = some (.aload_n 0, 1) := by decide +kernel
theorem a_X1_stable_1 : ix_at mT_X1_stable 1 = some (.getfield 28, 3) := by decide +kernel
theorem a_X1_stable_4 : ix_at mT_X1_stable 4 = some (.iconst (-1), 1) := by decide +kernel
theorem a_X1_stable_5 : ix_at mT_X1_stable 5 = some (.invokestatic 80, 3) := by decide +kernel
theorem a_X1_stable_8 : ix_at mT_X1_stable 8 = some (.aload_n 0, 1) := by decide +kernel
theorem a_X1_stable_9 : ix_at mT_X1_stable 9 = some (.getfield 34, 3) := by decide +kernel
theorem a_X1_stable_12 : ix_at mT_X1_stable 12 = some (.istore_n 1, 1) := by decide +kernel
theorem a_X1_stable_13 : ix_at mT_X1_stable 13 = some (.aload_n 0, 1) := by decide +kernel
theorem a_X1_stable_14 : ix_at mT_X1_stable 14 = some (.getfield 34, 3) := by decide +kernel
theorem a_X1_stable_17 : ix_at mT_X1_stable 17 = some (.iconst 1, 1) := by decide +kernel
theorem a_X1_stable_18 : ix_at mT_X1_stable 18 = some (.isub, 1) := by decide +kernel
theorem a_X1_stable_19 : ix_at mT_X1_stable 19 = some (.istore_n 2, 1) := by decide +kernel
theorem a_X1_stable_20 : ix_at mT_X1_stable 20 = some (.iload_n 2, 1) := by decide +kernel
theorem a_X1_stable_21 : ix_at mT_X1_stable 21 = some (.ifCond .lt 97, 3) := by decide +kernel
theorem a_X1_stable_24 : ix_at mT_X1_stable 24 = some (.aload_n 0, 1) := by decide +kernel
theorem a_X1_stable_25 : ix_at mT_X1_stable 25 = some (.iload_n 2, 1) := by decide +kernel
theorem a_X1_stable_26 : ix_at mT_X1_stable 26 = some (.invokevirtual 62, 3) := by decide +kernel
theorem a_X1_stable_29 : ix_at mT_X1_stable 29 = some (.istore_n 3, 1) := by decide +kernel
theorem a_X1_stable_30 : ix_at mT_X1_stable 30 = some (.aload_n 0, 1) := by decide +kernel
theorem a_X1_stable_31 : ix_at mT_X1_stable 31 = some (.iload_n 2, 1) := by decide +kernel
theorem a_X1_stable_32 : ix_at mT_X1_stable 32 = some (.bipush 7, 2) := by decide +kernel
theorem a_X1_stable_34 : ix_at mT_X1_stable 34 = some (.iconst 1, 1) := by decide +kernel
theorem a_X1_stable_35 : ix_at mT_X1_stable 35 = some (.invokevirtual 72, 3) := by decide +kernel
theorem a_X1_stable_38 : ix_at mT_X1_stable 38 = some (.bipush 31, 2) := by decide +kernel
theorem a_X1_stable_40 : ix_at mT_X1_stable 40 = some (.invokestatic 86, 3) := by decide +kernel
theorem a_X1_stable_43 : ix_at mT_X1_stable 43 = some (.istore 4, 2) := by decide +kernel
theorem a_X1_stable_45 : ix_at mT_X1_stable 45 = some (.aload_n 0, 1) := by decide +kernel
theorem a_X1_stable_46 : ix_at mT_X1_stable 46 = some (.getfield 24, 3) := by decide +kernel
theorem a_X1_stable_49 : ix_at mT_X1_stable 49 = some (.iload_n 2, 1) := by decide +kernel
theorem a_X1_stable_50 : ix_at mT_X1_stable 50 = some (.iload_n 3, 1) := by decide +kernel
theorem a_X1_stable_51 : ix_at mT_X1_stable 51 = some (.ifCond .eq 19, 3) := by decide +kernel
theorem a_X1_stable_54 : ix_at mT_X1_stable 54 = some (.iload_n 3, 1) := by decide +kernel
theorem a_X1_stable_55 : ix_at mT_X1_stable 55 = some (.iconst 1, 1) := by decide +kernel
theorem a_X1_stable_56 : ix_at mT_X1_stable 56 = some (.if_icmp .ne 18, 3) := by decide +kernel
theorem a_X1_stable_59 : ix_at mT_X1_stable 59 = some (.aload_n 0, 1) := by decide +kernel
theorem a_X1_stable_60 : ix_at mT_X1_stable 60 = some (.getfield 28, 3) := by decide +kernel
theorem a_X1_stable_63 : ix_at mT_X1_stable 63 = some (.iload 4, 2) := by decide +kernel
theorem a_X1_stable_65 : ix_at mT_X1_stable 65 = some (.iaload, 1) := by decide +kernel
theorem a_X1_stable_66 : ix_at mT_X1_stable 66 = some (.iconst 2, 1) := by decide +kernel
theorem a_X1_stable_67 : ix_at mT_X1_stable 67 = some (.if_icmp .ne 7, 3) := by decide +kernel
theorem a_X1_stable_70 : ix_at mT_X1_stable 70 = some (.iconst 1, 1) := by decide +kernel
theorem a_X1_stable_71 : ix_at mT_X1_stable 71 = some (.goto 4, 3) := by decide +kernel
theorem a_X1_stable_74 : ix_at mT_X1_stable 74 = some (.iconst 0, 1) := by decide +kernel
theorem a_X1_stable_75 : ix_at mT_X1_stable 75 = some (.bastore, 1) := by decide +kernel
theorem a_X1_stable_76 : ix_at mT_X1_stable 76 = some (.iload_n 3, 1) := by decide +kernel
theorem a_X1_stable_77 : ix_at mT_X1_stable 77 = some (.iconst 1, 1) := by decide +kernel
theorem a_X1_stable_78 : ix_at mT_X1_stable 78 = some (.if_icmp .ne 16, 3) := by decide +kernel
theorem a_X1_stable_81 : ix_at mT_X1_stable 81 = some (.aload_n 0, 1) := by decide +kernel
theorem a_X1_stable_82 : ix_at mT_X1_stable 82 = some (.getfield 28, 3) := by decide +kernel
theorem a_X1_stable_85 : ix_at mT_X1_stable 85 = some (.iload 4, 2) := by decide +kernel
theorem a_X1_stable_87 : ix_at mT_X1_stable 87 = some (.iaload, 1) := by decide +kernel
theorem a_X1_stable_88 : ix_at mT_X1_stable 88 = some (.iconst (-1), 1) := by decide +kernel
theorem a_X1_stable_89 : ix_at mT_X1_stable 89 = some (.if_icmp .ne 5, 3) := by decide +kernel
theorem a_X1_stable_92 : ix_at mT_X1_stable 92 = some (.iload_n 2, 1) := by decide +kernel
theorem a_X1_stable_93 : ix_at mT_X1_stable 93 = some (.istore_n 1, 1) := by decide +kernel
theorem a_X1_stable_94 : ix_at mT_X1_stable 94 = some (.iload_n 3, 1) := by decide +kernel
theorem a_X1_stable_95 : ix_at mT_X1_stable 95 = some (.iconst 2, 1) := by decide +kernel
theorem a_X1_stable_96 : ix_at mT_X1_stable 96 = some (.if_icmp .eq 8, 3) := by decide +kernel
theorem a_X1_stable_99 : ix_at mT_X1_stable 99 = some (.iload_n 3, 1) := by decide +kernel
theorem a_X1_stable_100 : ix_at mT_X1_stable 100 = some (.iconst 3, 1) := by decide +kernel
theorem a_X1_stable_101 : ix_at mT_X1_stable 101 = some (.if_icmp .ne 11, 3) := by decide +kernel
theorem a_X1_stable_104 : ix_at mT_X1_stable 104 = some (.aload_n 0, 1) := by decide +kernel
theorem a_X1_stable_105 : ix_at mT_X1_stable 105 = some (.getfield 28, 3) := by decide +kernel
theorem a_X1_stable_108 : ix_at mT_X1_stable 108 = some (.iload 4, 2) := by decide +kernel
theorem a_X1_stable_110 : ix_at mT_X1_stable 110 = some (.iload_n 3, 1) := by decide +kernel
theorem a_X1_stable_111 : ix_at mT_X1_stable 111 = some (.iastore, 1) := by decide +kernel
theorem a_X1_stable_112 : ix_at mT_X1_stable 112 = some (.iinc 2 (-1), 3) := by decide +kernel
theorem a_X1_stable_115 : ix_at mT_X1_stable 115 = some (.goto (-95), 3) := by decide +kernel
theorem a_X1_stable_118 : ix_at mT_X1_stable 118 = some (.iload_n 1, 1) := by decide +kernel
theorem a_X1_stable_119 : ix_at mT_X1_stable 119 = some (.ireturn, 1) := by decide +kernel
theorem a_X1_committedEntries_0 : ix_at mT_X1_committedEntries 0 = some (.aload_n 0, 1) := by decide +kernel
theorem a_X1_committedEntries_1 : ix_at mT_X1_committedEntries 1 = some (.invokevirtual 91, 3) := by decide +kernel
theorem a_X1_committedEntries_4 : ix_at mT_X1_committedEntries 4 = some (.istore_n 1, 1) := by decide +kernel
theorem a_X1_committedEntries_5 : ix_at mT_X1_committedEntries 5 = some (.iconst 0, 1) := by decide +kernel
theorem a_X1_committedEntries_6 : ix_at mT_X1_committedEntries 6 = some (.istore_n 2, 1) := by decide +kernel
theorem a_X1_committedEntries_7 : ix_at mT_X1_committedEntries 7 = some (.iconst 0, 1) := by decide +kernel
theorem a_X1_committedEntries_8 : ix_at mT_X1_committedEntries 8 = some (.istore_n 3, 1) := by decide +kernel
theorem a_X1_committedEntries_9 : ix_at mT_X1_committedEntries 9 = some (.iload_n 3, 1) := by decide +kernel
theorem a_X1_committedEntries_10 : ix_at mT_X1_committedEntries 10 = some (.iload_n 1, 1) := by decide +kernel
theorem a_X1_committedEntries_11 : ix_at mT_X1_committedEntries 11 = some (.if_icmp .ge 26, 3) := by decide +kernel
theorem a_X1_committedEntries_14 : ix_at mT_X1_committedEntries 14 = some (.iload_n 2, 1) := by decide +kernel
theorem a_X1_committedEntries_15 : ix_at mT_X1_committedEntries 15 = some (.aload_n 0, 1) := by decide +kernel
theorem a_X1_committedEntries_16 : ix_at mT_X1_committedEntries 16 = some (.getfield 24, 3) := by decide +kernel
theorem a_X1_committedEntries_19 : ix_at mT_X1_committedEntries 19 = some (.iload_n 3, 1) := by decide +kernel
theorem a_X1_committedEntries_20 : ix_at mT_X1_committedEntries 20 = some (.baload, 1) := by decide +kernel
theorem a_X1_committedEntries_21 : ix_at mT_X1_committedEntries 21 = some (.ifCond .eq 7, 3) := by decide +kernel
theorem a_X1_committedEntries_24 : ix_at mT_X1_committedEntries 24 = some (.iconst 1, 1) := by decide +kernel
theorem a_X1_committedEntries_25 : ix_at mT_X1_committedEntries 25 = some (.goto 4, 3) := by decide +kernel
theorem a_X1_committedEntries_28 : ix_at mT_X1_committedEntries 28 = some (.iconst 0, 1) := by decide +kernel
theorem a_X1_committedEntries_29 : ix_at mT_X1_committedEntries 29 = some (.iadd, 1) := by decide +kernel
theorem a_X1_committedEntries_30 : ix_at mT_X1_committedEntries 30 = some (.istore_n 2, 1) := by decide +kernel
theorem a_X1_committedEntries_31 : ix_at mT_X1_committedEntries 31 = some (.iinc 3 1, 3) := by decide +kernel
theorem a_X1_committedEntries_34 : ix_at mT_X1_committedEntries 34 = some (.goto (-25), 3) := by decide +kernel
theorem a_X1_committedEntries_37 : ix_at mT_X1_committedEntries 37 = some (.iload_n 2, 1) := by decide +kernel
theorem a_X1_committedEntries_38 : ix_at mT_X1_committedEntries 38 = some (.ireturn, 1) := by decide +kernel
theorem a_X1_firstCommitted_0 : ix_at mT_X1_firstCommitted 0 = some (.aload_n 0, 1) := by decide +kernel
theorem a_X1_firstCommitted_1 : ix_at mT_X1_firstCommitted 1 = some (.invokevirtual 91, 3) := by decide +kernel
theorem a_X1_firstCommitted_4 : ix_at mT_X1_firstCommitted 4 = some (.istore_n 2, 1) := by decide +kernel
theorem a_X1_firstCommitted_5 : ix_at mT_X1_firstCommitted 5 = some (.iload_n 1, 1) := by decide +kernel
theorem a_X1_firstCommitted_6 : ix_at mT_X1_firstCommitted 6 = some (.iconst 0, 1) := by decide +kernel
theorem a_X1_firstCommitted_7 : ix_at mT_X1_firstCommitted 7 = some (.invokestatic 95, 3) := by decide +kernel
theorem a_X1_firstCommitted_10 : ix_at mT_X1_firstCommitted 10 = some (.istore_n 3, 1) := by decide +kernel
theorem a_X1_firstCommitted_11 : ix_at mT_X1_firstCommitted 11 = some (.iload_n 3, 1) := by decide +kernel
theorem a_X1_firstCommitted_12 : ix_at mT_X1_firstCommitted 12 = some (.iload_n 2, 1) := by decide +kernel
theorem a_X1_firstCommitted_13 : ix_at mT_X1_firstCommitted 13 = some (.if_icmp .ge 20, 3) := by decide +kernel
theorem a_X1_firstCommitted_16 : ix_at mT_X1_firstCommitted 16 = some (.aload_n 0, 1) := by decide +kernel
theorem a_X1_firstCommitted_17 : ix_at mT_X1_firstCommitted 17 = some (.getfield 24, 3) := by decide +kernel
theorem a_X1_firstCommitted_20 : ix_at mT_X1_firstCommitted 20 = some (.iload_n 3, 1) := by decide +kernel
theorem a_X1_firstCommitted_21 : ix_at mT_X1_firstCommitted 21 = some (.baload, 1) := by decide +kernel
theorem a_X1_firstCommitted_22 : ix_at mT_X1_firstCommitted 22 = some (.ifCond .eq 5, 3) := by decide +kernel
theorem a_X1_firstCommitted_25 : ix_at mT_X1_firstCommitted 25 = some (.iload_n 3, 1) := by decide +kernel
theorem a_X1_firstCommitted_26 : ix_at mT_X1_firstCommitted 26 = some (.ireturn, 1) := by decide +kernel
theorem a_X1_firstCommitted_27 : ix_at mT_X1_firstCommitted 27 = some (.iinc 3 1, 3) := by decide +kernel
theorem a_X1_firstCommitted_30 : ix_at mT_X1_firstCommitted 30 = some (.goto (-19), 3) := by decide +kernel
theorem a_X1_firstCommitted_33 : ix_at mT_X1_firstCommitted 33 = some (.iconst (-1), 1) := by decide +kernel
theorem a_X1_firstCommitted_34 : ix_at mT_X1_firstCommitted 34 = some (.ireturn, 1) := by decide +kernel
theorem a_X1_firstSeen_0 : ix_at mT_X1_firstSeen 0 = some (.iload_n 1, 1) := by decide +kernel
theorem a_X1_firstSeen_1 : ix_at mT_X1_firstSeen 1 = some (.iconst 0, 1) := by decide +kernel
theorem a_X1_firstSeen_2 : ix_at mT_X1_firstSeen 2 = some (.invokestatic 95, 3) := by decide +kernel
theorem a_X1_firstSeen_5 : ix_at mT_X1_firstSeen 5 = some (.istore_n 2, 1) := by decide +kernel
theorem a_X1_firstSeen_6 : ix_at mT_X1_firstSeen 6 = some (.iload_n 2, 1) := by decide +kernel
theorem a_X1_firstSeen_7 : ix_at mT_X1_firstSeen 7 = some (.aload_n 0, 1) := by decide +kernel
theorem a_X1_firstSeen_8 : ix_at mT_X1_firstSeen 8 = some (.getfield 34, 3) := by decide +kernel
theorem a_X1_firstSeen_11 : ix_at mT_X1_firstSeen 11 = some (.if_icmp .ge 19, 3) := by decide +kernel
theorem a_X1_firstSeen_14 : ix_at mT_X1_firstSeen 14 = some (.aload_n 0, 1) := by decide +kernel
theorem a_X1_firstSeen_15 : ix_at mT_X1_firstSeen 15 = some (.iload_n 2, 1) := by decide +kernel
theorem a_X1_firstSeen_16 : ix_at mT_X1_firstSeen 16 = some (.invokevirtual 68, 3) := by decide +kernel
theorem a_X1_firstSeen_19 : ix_at mT_X1_firstSeen 19 = some (.ifCond .eq 5, 3) := by decide +kernel
theorem a_X1_firstSeen_22 : ix_at mT_X1_firstSeen 22 = some (.iload_n 2, 1) := by decide +kernel
theorem a_X1_firstSeen_23 : ix_at mT_X1_firstSeen 23 = some (.ireturn, 1) := by decide +kernel
theorem a_X1_firstSeen_24 : ix_at mT_X1_firstSeen 24 = some (.iinc 2 1, 3) := by decide +kernel
theorem a_X1_firstSeen_27 : ix_at mT_X1_firstSeen 27 = some (.goto (-21), 3) := by decide +kernel
theorem a_X1_firstSeen_30 : ix_at mT_X1_firstSeen 30 = some (.iconst (-1), 1) := by decide +kernel
theorem a_X1_firstSeen_31 : ix_at mT_X1_firstSeen 31 = some (.ireturn, 1) := by decide +kernel
theorem a_X1_copyPayload_0 : ix_at mT_X1_copyPayload 0 = some (.aload_n 0, 1) := by decide +kernel
theorem a_X1_copyPayload_1 : ix_at mT_X1_copyPayload 1 = some (.iload_n 1, 1) := by decide +kernel
theorem a_X1_copyPayload_2 : ix_at mT_X1_copyPayload 2 = some (.invokevirtual 55, 3) := by decide +kernel
theorem a_X1_copyPayload_5 : ix_at mT_X1_copyPayload 5 = some (.bipush 14, 2) := by decide +kernel
theorem a_X1_copyPayload_7 : ix_at mT_X1_copyPayload 7 = some (.iadd, 1) := by decide +kernel
theorem a_X1_copyPayload_8 : ix_at mT_X1_copyPayload 8 = some (.istore_n 3, 1) := by decide +kernel
theorem a_X1_copyPayload_9 : ix_at mT_X1_copyPayload 9 = some (.aload_n 0, 1) := by decide +kernel
theorem a_X1_copyPayload_10 : ix_at mT_X1_copyPayload 10 = some (.iload_n 1, 1) := by decide +kernel
theorem a_X1_copyPayload_11 : ix_at mT_X1_copyPayload 11 = some (.iconst 4, 1) := by decide +kernel
theorem a_X1_copyPayload_12 : ix_at mT_X1_copyPayload 12 = some (.iconst 2, 1) := by decide +kernel
theorem a_X1_copyPayload_13 : ix_at mT_X1_copyPayload 13 = some (.invokevirtual 72, 3) := by decide +kernel
theorem a_X1_copyPayload_16 : ix_at mT_X1_copyPayload 16 = some (.bipush 40, 2) := by decide +kernel
theorem a_X1_copyPayload_18 : ix_at mT_X1_copyPayload 18 = some (.invokestatic 86, 3) := by decide +kernel
theorem a_X1_copyPayload_21 : ix_at mT_X1_copyPayload 21 = some (.istore 4, 2) := by decide +kernel
theorem a_X1_copyPayload_23 : ix_at mT_X1_copyPayload 23 = some (.iconst 0, 1) := by decide +kernel
theorem a_X1_copyPayload_24 : ix_at mT_X1_copyPayload 24 = some (.istore 5, 2) := by decide +kernel
theorem a_X1_copyPayload_26 : ix_at mT_X1_copyPayload 26 = some (.iload 5, 2) := by decide +kernel
theorem a_X1_copyPayload_28 : ix_at mT_X1_copyPayload 28 = some (.iload 4, 2) := by decide +kernel
theorem a_X1_copyPayload_30 : ix_at mT_X1_copyPayload 30 = some (.if_icmp .ge 24, 3) := by decide +kernel
theorem a_X1_copyPayload_33 : ix_at mT_X1_copyPayload 33 = some (.aload_n 2, 1) := by decide +kernel
theorem a_X1_copyPayload_34 : ix_at mT_X1_copyPayload 34 = some (.aload_n 0, 1) := by decide +kernel
theorem a_X1_copyPayload_35 : ix_at mT_X1_copyPayload 35 = some (.getfield 14, 3) := by decide +kernel
theorem a_X1_copyPayload_38 : ix_at mT_X1_copyPayload 38 = some (.iload_n 3, 1) := by decide +kernel
theorem a_X1_copyPayload_39 : ix_at mT_X1_copyPayload 39 = some (.iload 5, 2) := by decide +kernel
theorem a_X1_copyPayload_41 : ix_at mT_X1_copyPayload 41 = some (.iadd, 1) := by decide +kernel
theorem a_X1_copyPayload_42 : ix_at mT_X1_copyPayload 42 = some (.invokevirtual 45, 3) := by decide +kernel
theorem a_X1_copyPayload_45 : ix_at mT_X1_copyPayload 45 = some (.invokevirtual 49, 3) := by decide +kernel
theorem a_X1_copyPayload_48 : ix_at mT_X1_copyPayload 48 = some (.iinc 5 1, 3) := by decide +kernel
theorem a_X1_copyPayload_51 : ix_at mT_X1_copyPayload 51 = some (.goto (-25), 3) := by decide +kernel
theorem a_X1_copyPayload_54 : ix_at mT_X1_copyPayload 54 = some (.return_, 1) := by decide +kernel
theorem a_X2_init_0 : ix_at mT_X2_init 0 = some (.aload_n 0, 1) := by decide +kernel
theorem a_X2_init_1 : ix_at mT_X2_init 1 = some (.invokespecial 3, 3) := by decide +kernel
theorem a_X2_init_4 : ix_at mT_X2_init 4 = some (.return_, 1) := by decide +kernel
theorem a_X2_forget_0 : ix_at mT_X2_forget 0 = some (.aload_n 0, 1) := by decide +kernel
theorem a_X2_forget_1 : ix_at mT_X2_forget 1 = some (.iconst (-1), 1) := by decide +kernel
theorem a_X2_forget_2 : ix_at mT_X2_forget 2 = some (.putfield 9, 3) := by decide +kernel
theorem a_X2_forget_5 : ix_at mT_X2_forget 5 = some (.aload_n 0, 1) := by decide +kernel
theorem a_X2_forget_6 : ix_at mT_X2_forget 6 = some (.invokevirtual 15, 3) := by decide +kernel
theorem a_X2_forget_9 : ix_at mT_X2_forget 9 = some (.return_, 1) := by decide +kernel
theorem a_X2_openTransaction_0 : ix_at mT_X2_openTransaction 0 = some (.aload_n 0, 1) := by decide +kernel
theorem a_X2_openTransaction_1 : ix_at mT_X2_openTransaction 1 = some (.iload_n 1, 1) := by decide +kernel
theorem a_X2_openTransaction_2 : ix_at mT_X2_openTransaction 2 = some (.putfield 18, 3) := by decide +kernel
theorem a_X2_openTransaction_5 : ix_at mT_X2_openTransaction 5 = some (.aload_n 0, 1) := by decide +kernel
theorem a_X2_openTransaction_6 : ix_at mT_X2_openTransaction 6 = some (.iload_n 2, 1) := by decide +kernel
theorem a_X2_openTransaction_7 : ix_at mT_X2_openTransaction 7 = some (.putfield 21, 3) := by decide +kernel
theorem a_X2_openTransaction_10 : ix_at mT_X2_openTransaction 10 = some (.aload_n 0, 1) := by decide +kernel
theorem a_X2_openTransaction_11 : ix_at mT_X2_openTransaction 11 = some (.iload_n 3, 1) := by decide +kernel
theorem a_X2_openTransaction_12 : ix_at mT_X2_openTransaction 12 = some (.putfield 24, 3) := by decide +kernel
theorem a_X2_openTransaction_15 : ix_at mT_X2_openTransaction 15 = some (.return_, 1) := by decide +kernel
theorem a_X2_closeTransaction_0 : ix_at mT_X2_closeTransaction 0 = some (.aload_n 0, 1) := by decide +kernel
theorem a_X2_closeTransaction_1 : ix_at mT_X2_closeTransaction 1 = some (.iconst (-1), 1) := by decide +kernel
theorem a_X2_closeTransaction_2 : ix_at mT_X2_closeTransaction 2 = some (.putfield 18, 3) := by decide +kernel
theorem a_X2_closeTransaction_5 : ix_at mT_X2_closeTransaction 5 = some (.aload_n 0, 1) := by decide +kernel
theorem a_X2_closeTransaction_6 : ix_at mT_X2_closeTransaction 6 = some (.iconst (-1), 1) := by decide +kernel
theorem a_X2_closeTransaction_7 : ix_at mT_X2_closeTransaction 7 = some (.putfield 21, 3) := by decide +kernel
theorem a_X2_closeTransaction_10 : ix_at mT_X2_closeTransaction 10 = some (.aload_n 0, 1) := by decide +kernel
theorem a_X2_closeTransaction_11 : ix_at mT_X2_closeTransaction 11 = some (.iconst 0, 1) := by decide +kernel
theorem a_X2_closeTransaction_12 : ix_at mT_X2_closeTransaction 12 = some (.putfield 27, 3) := by decide +kernel
theorem a_X2_closeTransaction_15 : ix_at mT_X2_closeTransaction 15 = some (.aload_n 0, 1) := by decide +kernel
theorem a_X2_closeTransaction_16 : ix_at mT_X2_closeTransaction 16 = some (.iconst 0, 1) := by decide +kernel
theorem a_X2_closeTransaction_17 : ix_at mT_X2_closeTransaction 17 = some (.putfield 30, 3) := by decide +kernel
theorem a_X2_closeTransaction_20 : ix_at mT_X2_closeTransaction 20 = some (.aload_n 0, 1) := by decide +kernel
theorem a_X2_closeTransaction_21 : ix_at mT_X2_closeTransaction 21 = some (.iconst (-1), 1) := by decide +kernel
theorem a_X2_closeTransaction_22 : ix_at mT_X2_closeTransaction 22 = some (.putfield 33, 3) := by decide +kernel
theorem a_X2_closeTransaction_25 : ix_at mT_X2_closeTransaction 25 = some (.return_, 1) := by decide +kernel
theorem a_X2_isOpen_0 : ix_at mT_X2_isOpen 0 = some (.aload_n 0, 1) := by decide +kernel
theorem a_X2_isOpen_1 : ix_at mT_X2_isOpen 1 = some (.getfield 18, 3) := by decide +kernel
theorem a_X2_isOpen_4 : ix_at mT_X2_isOpen 4 = some (.iconst (-1), 1) := by decide +kernel
theorem a_X2_isOpen_5 : ix_at mT_X2_isOpen 5 = some (.if_icmp .eq 7, 3) := by decide +kernel
theorem a_X2_isOpen_8 : ix_at mT_X2_isOpen 8 = some (.iconst 1, 1) := by decide +kernel
theorem a_X2_isOpen_9 : ix_at mT_X2_isOpen 9 = some (.goto 4, 3) := by decide +kernel
theorem a_X2_isOpen_12 : ix_at mT_X2_isOpen 12 = some (.iconst 0, 1) := by decide +kernel
theorem a_X2_isOpen_13 : ix_at mT_X2_isOpen 13 = some (.ireturn, 1) := by decide +kernel
theorem a_X2_hasAdded_0 : ix_at mT_X2_hasAdded 0 = some (.aload_n 0, 1) := by decide +kernel
theorem a_X2_hasAdded_1 : ix_at mT_X2_hasAdded 1 = some (.getfield 27, 3) := by decide +kernel
theorem a_X2_hasAdded_4 : ix_at mT_X2_hasAdded 4 = some (.iload_n 1, 1) := by decide +kernel
theorem a_X2_hasAdded_5 : ix_at mT_X2_hasAdded 5 = some (.ishr, 1) := by decide +kernel
theorem a_X2_hasAdded_6 : ix_at mT_X2_hasAdded 6 = some (.iconst 1, 1) := by decide +kernel
theorem a_X2_hasAdded_7 : ix_at mT_X2_hasAdded 7 = some (.iand, 1) := by decide +kernel
theorem a_X2_hasAdded_8 : ix_at mT_X2_hasAdded 8 = some (.iconst 1, 1) := by decide +kernel
theorem a_X2_hasAdded_9 : ix_at mT_X2_hasAdded 9 = some (.if_icmp .ne 7, 3) := by decide +kernel
theorem a_X2_hasAdded_12 : ix_at mT_X2_hasAdded 12 = some (.iconst 1, 1) := by decide +kernel
theorem a_X2_hasAdded_13 : ix_at mT_X2_hasAdded 13 = some (.goto 4, 3) := by decide +kernel
theorem a_X2_hasAdded_16 : ix_at mT_X2_hasAdded 16 = some (.iconst 0, 1) := by decide +kernel
theorem a_X2_hasAdded_17 : ix_at mT_X2_hasAdded 17 = some (.ireturn, 1) := by decide +kernel
theorem a_X3_init_0 : ix_at mT_X3_init 0 = some (.aload_n 0, 1) := by decide +kernel
theorem a_X3_init_1 : ix_at mT_X3_init 1 = some (.invokespecial 3, 3) := by decide +kernel
theorem a_X3_init_4 : ix_at mT_X3_init 4 = some (.aload_n 0, 1) := by decide +kernel
theorem a_X3_init_5 : ix_at mT_X3_init 5 = some (.sipush 3280, 3) := by decide +kernel
theorem a_X3_init_8 : ix_at mT_X3_init 8 = some (.newarray .int, 2) := by decide +kernel
theorem a_X3_init_10 : ix_at mT_X3_init 10 = some (.putfield 9, 3) := by decide +kernel
theorem a_X3_init_13 : ix_at mT_X3_init 13 = some (.aload_n 0, 1) := by decide +kernel
theorem a_X3_init_14 : ix_at mT_X3_init 14 = some (.sipush 3280, 3) := by decide +kernel
theorem a_X3_init_17 : ix_at mT_X3_init 17 = some (.newarray .int, 2) := by decide +kernel
theorem a_X3_init_19 : ix_at mT_X3_init 19 = some (.putfield 15, 3) := by decide +kernel
theorem a_X3_init_22 : ix_at mT_X3_init 22 = some (.aload_n 0, 1) := by decide +kernel
theorem a_X3_init_23 : ix_at mT_X3_init 23 = some (.bipush 9, 2) := by decide +kernel
theorem a_X3_init_25 : ix_at mT_X3_init 25 = some (.newarray .int, 2) := by decide +kernel
theorem a_X3_init_27 : ix_at mT_X3_init 27 = some (.putfield 18, 3) := by decide +kernel
theorem a_X3_init_30 : ix_at mT_X3_init 30 = some (.return_, 1) := by decide +kernel
theorem a_X3_clear_0 : ix_at mT_X3_clear 0 = some (.aload_n 0, 1) := by decide +kernel
theorem a_X3_clear_1 : ix_at mT_X3_clear 1 = some (.iconst 0, 1) := by decide +kernel
theorem a_X3_clear_2 : ix_at mT_X3_clear 2 = some (.putfield 21, 3) := by decide +kernel
theorem a_X3_clear_5 : ix_at mT_X3_clear 5 = some (.aload_n 0, 1) := by decide +kernel
theorem a_X3_clear_6 : ix_at mT_X3_clear 6 = some (.iconst 0, 1) := by decide +kernel
theorem a_X3_clear_7 : ix_at mT_X3_clear 7 = some (.putfield 25, 3) := by decide +kernel
theorem a_X3_clear_10 : ix_at mT_X3_clear 10 = some (.aload_n 0, 1) := by decide +kernel
theorem a_X3_clear_11 : ix_at mT_X3_clear 11 = some (.getfield 18, 3) := by decide +kernel
theorem a_X3_clear_14 : ix_at mT_X3_clear 14 = some (.iconst 0, 1) := by decide +kernel
theorem a_X3_clear_15 : ix_at mT_X3_clear 15 = some (.invokestatic 28, 3) := by decide +kernel
theorem a_X3_clear_18 : ix_at mT_X3_clear 18 = some (.return_, 1) := by decide +kernel
theorem a_X3_note_0 : ix_at mT_X3_note 0 = some (.aload_n 0, 1) := by decide +kernel
theorem a_X3_note_1 : ix_at mT_X3_note 1 = some (.getfield 21, 3) := by decide +kernel
theorem a_X3_note_4 : ix_at mT_X3_note 4 = some (.sipush 3280, 3) := by decide +kernel
theorem a_X3_note_7 : ix_at mT_X3_note 7 = some (.if_icmp .ge 66, 3) := by decide +kernel
theorem a_X3_note_10 : ix_at mT_X3_note 10 = some (.iload_n 1, 1) := by decide +kernel
theorem a_X3_note_11 : ix_at mT_X3_note 11 = some (.ifCond .lt 62, 3) := by decide +kernel
theorem a_X3_note_14 : ix_at mT_X3_note 14 = some (.iload_n 1, 1) := by decide +kernel
theorem a_X3_note_15 : ix_at mT_X3_note 15 = some (.aload_n 0, 1) := by decide +kernel
theorem a_X3_note_16 : ix_at mT_X3_note 16 = some (.getfield 18, 3) := by decide +kernel
theorem a_X3_note_19 : ix_at mT_X3_note 19 = some (.arraylength, 1) := by decide +kernel
theorem a_X3_note_20 : ix_at mT_X3_note 20 = some (.if_icmp .ge 53, 3) := by decide +kernel
theorem a_X3_note_23 : ix_at mT_X3_note 23 = some (.aload_n 0, 1) := by decide +kernel
theorem a_X3_note_24 : ix_at mT_X3_note 24 = some (.getfield 9, 3) := by decide +kernel
theorem a_X3_note_27 : ix_at mT_X3_note 27 = some (.aload_n 0, 1) := by decide +kernel
theorem a_X3_note_28 : ix_at mT_X3_note 28 = some (.getfield 21, 3) := by decide +kernel
theorem a_X3_note_31 : ix_at mT_X3_note 31 = some (.iload_n 1, 1) := by decide +kernel
theorem a_X3_note_32 : ix_at mT_X3_note 32 = some (.iastore, 1) := by decide +kernel
theorem a_X3_note_33 : ix_at mT_X3_note 33 = some (.aload_n 0, 1) := by decide +kernel
theorem a_X3_note_34 : ix_at mT_X3_note 34 = some (.getfield 15, 3) := by decide +kernel
theorem a_X3_note_37 : ix_at mT_X3_note 37 = some (.aload_n 0, 1) := by decide +kernel
theorem a_X3_note_38 : ix_at mT_X3_note 38 = some (.getfield 21, 3) := by decide +kernel
theorem a_X3_note_41 : ix_at mT_X3_note 41 = some (.iload_n 2, 1) := by decide +kernel
theorem a_X3_note_42 : ix_at mT_X3_note 42 = some (.iastore, 1) := by decide +kernel
theorem a_X3_note_43 : ix_at mT_X3_note 43 = some (.aload_n 0, 1) := by decide +kernel
theorem a_X3_note_44 : ix_at mT_X3_note 44 = some (.dup, 1) := by decide +kernel
theorem a_X3_note_45 : ix_at mT_X3_note 45 = some (.getfield 21, 3) := by decide +kernel
theorem a_X3_note_48 : ix_at mT_X3_note 48 = some (.iconst 1, 1) := by decide +kernel
theorem a_X3_note_49 : ix_at mT_X3_note 49 = some (.iadd, 1) := by decide +kernel
theorem a_X3_note_50 : ix_at mT_X3_note 50 = some (.putfield 21, 3) := by decide +kernel
theorem a_X3_note_53 : ix_at mT_X3_note 53 = some (.aload_n 0, 1) := by decide +kernel
theorem a_X3_note_54 : ix_at mT_X3_note 54 = some (.dup, 1) := by decide +kernel
theorem a_X3_note_55 : ix_at mT_X3_note 55 = some (.getfield 25, 3) := by decide +kernel
theorem a_X3_note_58 : ix_at mT_X3_note 58 = some (.iload_n 2, 1) := by decide +kernel
theorem a_X3_note_59 : ix_at mT_X3_note 59 = some (.iadd, 1) := by decide +kernel
theorem a_X3_note_60 : ix_at mT_X3_note 60 = some (.putfield 25, 3) := by decide +kernel
theorem a_X3_note_63 : ix_at mT_X3_note 63 = some (.aload_n 0, 1) := by decide +kernel
theorem a_X3_note_64 : ix_at mT_X3_note 64 = some (.getfield 18, 3) := by decide +kernel
theorem a_X3_note_67 : ix_at mT_X3_note 67 = some (.iload_n 1, 1) := by decide +kernel
theorem a_X3_note_68 : ix_at mT_X3_note 68 = some (.dup2, 1) := by decide +kernel
theorem a_X3_note_69 : ix_at mT_X3_note 69 = some (.iaload, 1) := by decide +kernel
theorem a_X3_note_70 : ix_at mT_X3_note 70 = some (.iload_n 2, 1) := by decide +kernel
theorem a_X3_note_71 : ix_at mT_X3_note 71 = some (.iadd, 1) := by decide +kernel
theorem a_X3_note_72 : ix_at mT_X3_note 72 = some (.iastore, 1) := by decide +kernel
theorem a_X3_note_73 : ix_at mT_X3_note 73 = some (.return_, 1) := by decide +kernel
theorem a_X3_bytesOf_0 : ix_at mT_X3_bytesOf 0 = some (.iload_n 1, 1) := by decide +kernel
theorem a_X3_bytesOf_1 : ix_at mT_X3_bytesOf 1 = some (.ifCond .lt 21, 3) := by decide +kernel
theorem a_X3_bytesOf_4 : ix_at mT_X3_bytesOf 4 = some (.iload_n 1, 1) := by decide +kernel
theorem a_X3_bytesOf_5 : ix_at mT_X3_bytesOf 5 = some (.aload_n 0, 1) := by decide +kernel
theorem a_X3_bytesOf_6 : ix_at mT_X3_bytesOf 6 = some (.getfield 18, 3) := by decide +kernel
theorem a_X3_bytesOf_9 : ix_at mT_X3_bytesOf 9 = some (.arraylength, 1) := by decide +kernel
theorem a_X3_bytesOf_10 : ix_at mT_X3_bytesOf 10 = some (.if_icmp .ge 12, 3) := by decide +kernel
theorem a_X3_bytesOf_13 : ix_at mT_X3_bytesOf 13 = some (.aload_n 0, 1) := by decide +kernel
theorem a_X3_bytesOf_14 : ix_at mT_X3_bytesOf 14 = some (.getfield 18, 3) := by decide +kernel
theorem a_X3_bytesOf_17 : ix_at mT_X3_bytesOf 17 = some (.iload_n 1, 1) := by decide +kernel
theorem a_X3_bytesOf_18 : ix_at mT_X3_bytesOf 18 = some (.iaload, 1) := by decide +kernel
theorem a_X3_bytesOf_19 : ix_at mT_X3_bytesOf 19 = some (.goto 4, 3) := by decide +kernel
theorem a_X3_bytesOf_22 : ix_at mT_X3_bytesOf 22 = some (.iconst 0, 1) := by decide +kernel
theorem a_X3_bytesOf_23 : ix_at mT_X3_bytesOf 23 = some (.ireturn, 1) := by decide +kernel
theorem a_X3_keptOf_0 : ix_at mT_X3_keptOf 0 = some (.iload_n 2, 1) := by decide +kernel
theorem a_X3_keptOf_1 : ix_at mT_X3_keptOf 1 = some (.istore_n 3, 1) := by decide +kernel
theorem a_X3_keptOf_2 : ix_at mT_X3_keptOf 2 = some (.iconst 0, 1) := by decide +kernel
theorem a_X3_keptOf_3 : ix_at mT_X3_keptOf 3 = some (.istore 4, 2) := by decide +kernel
theorem a_X3_keptOf_5 : ix_at mT_X3_keptOf 5 = some (.iconst 0, 1) := by decide +kernel
theorem a_X3_keptOf_6 : ix_at mT_X3_keptOf 6 = some (.istore 5, 2) := by decide +kernel
theorem a_X3_keptOf_8 : ix_at mT_X3_keptOf 8 = some (.iload 5, 2) := by decide +kernel
theorem a_X3_keptOf_10 : ix_at mT_X3_keptOf 10 = some (.aload_n 0, 1) := by decide +kernel
theorem a_X3_keptOf_11 : ix_at mT_X3_keptOf 11 = some (.getfield 21, 3) := by decide +kernel
theorem a_X3_keptOf_14 : ix_at mT_X3_keptOf 14 = some (.if_icmp .ge 53, 3) := by decide +kernel
theorem a_X3_keptOf_17 : ix_at mT_X3_keptOf 17 = some (.iload_n 3, 1) := by decide +kernel
theorem a_X3_keptOf_18 : ix_at mT_X3_keptOf 18 = some (.ifCond .le 49, 3) := by decide +kernel
theorem a_X3_keptOf_21 : ix_at mT_X3_keptOf 21 = some (.aload_n 0, 1) := by decide +kernel
theorem a_X3_keptOf_22 : ix_at mT_X3_keptOf 22 = some (.getfield 15, 3) := by decide +kernel
theorem a_X3_keptOf_25 : ix_at mT_X3_keptOf 25 = some (.iload 5, 2) := by decide +kernel
theorem a_X3_keptOf_27 : ix_at mT_X3_keptOf 27 = some (.iaload, 1) := by decide +kernel
theorem a_X3_keptOf_28 : ix_at mT_X3_keptOf 28 = some (.iload_n 3, 1) := by decide +kernel
theorem a_X3_keptOf_29 : ix_at mT_X3_keptOf 29 = some (.invokestatic 34, 3) := by decide +kernel
theorem a_X3_keptOf_32 : ix_at mT_X3_keptOf 32 = some (.istore 6, 2) := by decide +kernel
theorem a_X3_keptOf_34 : ix_at mT_X3_keptOf 34 = some (.iload 4, 2) := by decide +kernel
theorem a_X3_keptOf_36 : ix_at mT_X3_keptOf 36 = some (.aload_n 0, 1) := by decide +kernel
theorem a_X3_keptOf_37 : ix_at mT_X3_keptOf 37 = some (.getfield 9, 3) := by decide +kernel
theorem a_X3_keptOf_40 : ix_at mT_X3_keptOf 40 = some (.iload 5, 2) := by decide +kernel
theorem a_X3_keptOf_42 : ix_at mT_X3_keptOf 42 = some (.iaload, 1) := by decide +kernel
theorem a_X3_keptOf_43 : ix_at mT_X3_keptOf 43 = some (.iload_n 1, 1) := by decide +kernel
theorem a_X3_keptOf_44 : ix_at mT_X3_keptOf 44 = some (.if_icmp .ne 8, 3) := by decide +kernel
theorem a_X3_keptOf_47 : ix_at mT_X3_keptOf 47 = some (.iload 6, 2) := by decide +kernel
theorem a_X3_keptOf_49 : ix_at mT_X3_keptOf 49 = some (.goto 4, 3) := by decide +kernel
theorem a_X3_keptOf_52 : ix_at mT_X3_keptOf 52 = some (.iconst 0, 1) := by decide +kernel
theorem a_X3_keptOf_53 : ix_at mT_X3_keptOf 53 = some (.iadd, 1) := by decide +kernel
theorem a_X3_keptOf_54 : ix_at mT_X3_keptOf 54 = some (.istore 4, 2) := by decide +kernel
theorem a_X3_keptOf_56 : ix_at mT_X3_keptOf 56 = some (.iload_n 3, 1) := by decide +kernel
theorem a_X3_keptOf_57 : ix_at mT_X3_keptOf 57 = some (.iload 6, 2) := by decide +kernel
theorem a_X3_keptOf_59 : ix_at mT_X3_keptOf 59 = some (.isub, 1) := by decide +kernel
theorem a_X3_keptOf_60 : ix_at mT_X3_keptOf 60 = some (.istore_n 3, 1) := by decide +kernel
theorem a_X3_keptOf_61 : ix_at mT_X3_keptOf 61 = some (.iinc 5 1, 3) := by decide +kernel
theorem a_X3_keptOf_64 : ix_at mT_X3_keptOf 64 = some (.goto (-56), 3) := by decide +kernel
theorem a_X3_keptOf_67 : ix_at mT_X3_keptOf 67 = some (.iload 4, 2) := by decide +kernel
theorem a_X3_keptOf_69 : ix_at mT_X3_keptOf 69 = some (.ireturn, 1) := by decide +kernel
theorem a_X4_init_0 : ix_at mT_X4_init 0 = some (.aload_n 0, 1) := by decide +kernel
theorem a_X4_init_1 : ix_at mT_X4_init 1 = some (.invokespecial 3, 3) := by decide +kernel
theorem a_X4_init_4 : ix_at mT_X4_init 4 = some (.aload_n 0, 1) := by decide +kernel
theorem a_X4_init_5 : ix_at mT_X4_init 5 = some (.new 9, 3) := by decide +kernel
theorem a_X4_init_8 : ix_at mT_X4_init 8 = some (.dup, 1) := by decide +kernel
theorem a_X4_init_9 : ix_at mT_X4_init 9 = some (.bipush 40, 2) := by decide +kernel
theorem a_X4_init_11 : ix_at mT_X4_init 11 = some (.invokespecial 11, 3) := by decide +kernel
theorem a_X4_init_14 : ix_at mT_X4_init 14 = some (.putfield 14, 3) := by decide +kernel
theorem a_X4_init_17 : ix_at mT_X4_init 17 = some (.aload_n 0, 1) := by decide +kernel
theorem a_X4_init_18 : ix_at mT_X4_init 18 = some (.new 9, 3) := by decide +kernel
theorem a_X4_init_21 : ix_at mT_X4_init 21 = some (.dup, 1) := by decide +kernel
theorem a_X4_init_22 : ix_at mT_X4_init 22 = some (.bipush 40, 2) := by decide +kernel
theorem a_X4_init_24 : ix_at mT_X4_init 24 = some (.invokespecial 11, 3) := by decide +kernel
theorem a_X4_init_27 : ix_at mT_X4_init 27 = some (.putfield 18, 3) := by decide +kernel
theorem a_X4_init_30 : ix_at mT_X4_init 30 = some (.aload_n 0, 1) := by decide +kernel
theorem a_X4_init_31 : ix_at mT_X4_init 31 = some (.new 9, 3) := by decide +kernel
theorem a_X4_init_34 : ix_at mT_X4_init 34 = some (.dup, 1) := by decide +kernel
theorem a_X4_init_35 : ix_at mT_X4_init 35 = some (.iconst 0, 1) := by decide +kernel
theorem a_X4_init_36 : ix_at mT_X4_init 36 = some (.invokespecial 11, 3) := by decide +kernel
theorem a_X4_init_39 : ix_at mT_X4_init 39 = some (.putfield 21, 3) := by decide +kernel
theorem a_X4_init_42 : ix_at mT_X4_init 42 = some (.aload_n 0, 1) := by decide +kernel
theorem a_X4_init_43 : ix_at mT_X4_init 43 = some (.bipush 8, 2) := by decide +kernel
theorem a_X4_init_45 : ix_at mT_X4_init 45 = some (.anewarray 24, 3) := by decide +kernel
theorem a_X4_init_48 : ix_at mT_X4_init 48 = some (.putfield 26, 3) := by decide +kernel
theorem a_X4_init_51 : ix_at mT_X4_init 51 = some (.aload_n 0, 1) := by decide +kernel
theorem a_X4_init_52 : ix_at mT_X4_init 52 = some (.new 9, 3) := by decide +kernel
theorem a_X4_init_55 : ix_at mT_X4_init 55 = some (.dup, 1) := by decide +kernel
theorem a_X4_init_56 : ix_at mT_X4_init 56 = some (.sipush 16000, 3) := by decide +kernel
theorem a_X4_init_59 : ix_at mT_X4_init 59 = some (.invokespecial 11, 3) := by decide +kernel
theorem a_X4_init_62 : ix_at mT_X4_init 62 = some (.putfield 30, 3) := by decide +kernel
theorem a_X4_init_65 : ix_at mT_X4_init 65 = some (.aload_n 0, 1) := by decide +kernel
theorem a_X4_init_66 : ix_at mT_X4_init 66 = some (.new 33, 3) := by decide +kernel
theorem a_X4_init_69 : ix_at mT_X4_init 69 = some (.dup, 1) := by decide +kernel
theorem a_X4_init_70 : ix_at mT_X4_init 70 = some (.invokespecial 35, 3) := by decide +kernel
theorem a_X4_init_73 : ix_at mT_X4_init 73 = some (.putfield 36, 3) := by decide +kernel
theorem a_X4_init_76 : ix_at mT_X4_init 76 = some (.aload_n 0, 1) := by decide +kernel
theorem a_X4_init_77 : ix_at mT_X4_init 77 = some (.bipush 32, 2) := by decide +kernel
theorem a_X4_init_79 : ix_at mT_X4_init 79 = some (.anewarray 40, 3) := by decide +kernel
theorem a_X4_init_82 : ix_at mT_X4_init 82 = some (.putfield 42, 3) := by decide +kernel
theorem a_X4_init_85 : ix_at mT_X4_init 85 = some (.aload_n 0, 1) := by decide +kernel
theorem a_X4_init_86 : ix_at mT_X4_init 86 = some (.bipush 64, 2) := by decide +kernel
theorem a_X4_init_88 : ix_at mT_X4_init 88 = some (.newarray .int, 2) := by decide +kernel
theorem a_X4_init_90 : ix_at mT_X4_init 90 = some (.putfield 46, 3) := by decide +kernel
theorem a_X4_init_93 : ix_at mT_X4_init 93 = some (.iconst 0, 1) := by decide +kernel
theorem a_X4_init_94 : ix_at mT_X4_init 94 = some (.istore_n 1, 1) := by decide +kernel
theorem a_X4_init_95 : ix_at mT_X4_init 95 = some (.iload_n 1, 1) := by decide +kernel
theorem a_X4_init_96 : ix_at mT_X4_init 96 = some (.bipush 8, 2) := by decide +kernel
theorem a_X4_init_98 : ix_at mT_X4_init 98 = some (.if_icmp .ge 22, 3) := by decide +kernel
theorem a_X4_init_101 : ix_at mT_X4_init 101 = some (.aload_n 0, 1) := by decide +kernel
theorem a_X4_init_102 : ix_at mT_X4_init 102 = some (.getfield 26, 3) := by decide +kernel
theorem a_X4_init_105 : ix_at mT_X4_init 105 = some (.iload_n 1, 1) := by decide +kernel
theorem a_X4_init_106 : ix_at mT_X4_init 106 = some (.new 24, 3) := by decide +kernel
theorem a_X4_init_109 : ix_at mT_X4_init 109 = some (.dup, 1) := by decide +kernel
theorem a_X4_init_110 : ix_at mT_X4_init 110 = some (.invokespecial 50, 3) := by decide +kernel
theorem a_X4_init_113 : ix_at mT_X4_init 113 = some (.aastore, 1) := by decide +kernel
theorem a_X4_init_114 : ix_at mT_X4_init 114 = some (.iinc 1 1, 3) := by decide +kernel
theorem a_X4_init_117 : ix_at mT_X4_init 117 = some (.goto (-22), 3) := by decide +kernel
theorem a_X4_init_120 : ix_at mT_X4_init 120 = some (.iconst 0, 1) := by decide +kernel
theorem a_X4_init_121 : ix_at mT_X4_init 121 = some (.istore_n 1, 1) := by decide +kernel
theorem a_X4_init_122 : ix_at mT_X4_init 122 = some (.iload_n 1, 1) := by decide +kernel
theorem a_X4_init_123 : ix_at mT_X4_init 123 = some (.bipush 32, 2) := by decide +kernel
theorem a_X4_init_125 : ix_at mT_X4_init 125 = some (.if_icmp .ge 22, 3) := by decide +kernel
theorem a_X4_init_128 : ix_at mT_X4_init 128 = some (.aload_n 0, 1) := by decide +kernel
theorem a_X4_init_129 : ix_at mT_X4_init 129 = some (.getfield 42, 3) := by decide +kernel
theorem a_X4_init_132 : ix_at mT_X4_init 132 = some (.iload_n 1, 1) := by decide +kernel
theorem a_X4_init_133 : ix_at mT_X4_init 133 = some (.new 40, 3) := by decide +kernel
theorem a_X4_init_136 : ix_at mT_X4_init 136 = some (.dup, 1) := by decide +kernel
theorem a_X4_init_137 : ix_at mT_X4_init 137 = some (.invokespecial 51, 3) := by decide +kernel
theorem a_X4_init_140 : ix_at mT_X4_init 140 = some (.aastore, 1) := by decide +kernel
theorem a_X4_init_141 : ix_at mT_X4_init 141 = some (.iinc 1 1, 3) := by decide +kernel
theorem a_X4_init_144 : ix_at mT_X4_init 144 = some (.goto (-22), 3) := by decide +kernel
theorem a_X4_init_147 : ix_at mT_X4_init 147 = some (.aload_n 0, 1) := by decide +kernel
theorem a_X4_init_148 : ix_at mT_X4_init 148 = some (.iconst 4, 1) := by decide +kernel
theorem a_X4_init_149 : ix_at mT_X4_init 149 = some (.sipush 2000, 3) := by decide +kernel
theorem a_X4_init_152 : ix_at mT_X4_init 152 = some (.bipush 100, 2) := by decide +kernel
theorem a_X4_init_154 : ix_at mT_X4_init 154 = some (.invokevirtual 52, 3) := by decide +kernel
theorem a_X4_init_157 : ix_at mT_X4_init 157 = some (.return_, 1) := by decide +kernel
theorem a_X4_format_0 : ix_at mT_X4_format 0 = some (.iload_n 1, 1) := by decide +kernel
theorem a_X4_format_1 : ix_at mT_X4_format 1 = some (.iconst 1, 1) := by decide +kernel
theorem a_X4_format_2 : ix_at mT_X4_format 2 = some (.if_icmp .lt 34, 3) := by decide +kernel
theorem a_X4_format_5 : ix_at mT_X4_format 5 = some (.iload_n 1, 1) := by decide +kernel
theorem a_X4_format_6 : ix_at mT_X4_format 6 = some (.bipush 8, 2) := by decide +kernel
theorem a_X4_format_8 : ix_at mT_X4_format 8 = some (.if_icmp .gt 28, 3) := by decide +kernel
theorem a_X4_format_11 : ix_at mT_X4_format 11 = some (.iload_n 2, 1) := by decide +kernel
theorem a_X4_format_12 : ix_at mT_X4_format 12 = some (.bipush 100, 2) := by decide +kernel
theorem a_X4_format_14 : ix_at mT_X4_format 14 = some (.if_icmp .lt 22, 3) := by decide +kernel
theorem a_X4_format_17 : ix_at mT_X4_format 17 = some (.iload_n 2, 1) := by decide +kernel
theorem a_X4_format_18 : ix_at mT_X4_format 18 = some (.sipush 4000, 3) := by decide +kernel
theorem a_X4_format_21 : ix_at mT_X4_format 21 = some (.if_icmp .gt 15, 3) := by decide +kernel
theorem a_X4_format_24 : ix_at mT_X4_format 24 = some (.iload_n 3, 1) := by decide +kernel
theorem a_X4_format_25 : ix_at mT_X4_format 25 = some (.iconst 1, 1) := by decide +kernel
theorem a_X4_format_26 : ix_at mT_X4_format 26 = some (.if_icmp .lt 10, 3) := by decide +kernel
theorem a_X4_format_29 : ix_at mT_X4_format 29 = some (.iload_n 3, 1) := by decide +kernel
theorem a_X4_format_30 : ix_at mT_X4_format 30 = some (.sipush 1000, 3) := by decide +kernel
theorem a_X4_format_33 : ix_at mT_X4_format 33 = some (.if_icmp .le 5, 3) := by decide +kernel
theorem a_X4_format_36 : ix_at mT_X4_format 36 = some (.iconst 0, 1) := by decide +kernel
theorem a_X4_format_37 : ix_at mT_X4_format 37 = some (.ireturn, 1) := by decide +kernel
theorem a_X4_format_38 : ix_at mT_X4_format 38 = some (.aload_n 0, 1) := by decide +kernel
theorem a_X4_format_39 : ix_at mT_X4_format 39 = some (.iload_n 1, 1) := by decide +kernel
theorem a_X4_format_40 : ix_at mT_X4_format 40 = some (.iload_n 2, 1) := by decide +kernel
theorem a_X4_format_41 : ix_at mT_X4_format 41 = some (.iload_n 3, 1) := by decide +kernel
theorem a_X4_format_42 : ix_at mT_X4_format 42 = some (.invokevirtual 52, 3) := by decide +kernel
theorem a_X4_format_45 : ix_at mT_X4_format 45 = some (.iconst 1, 1) := by decide +kernel
theorem a_X4_format_46 : ix_at mT_X4_format 46 = some (.ireturn, 1) := by decide +kernel
theorem a_X4_feed_0 : ix_at mT_X4_feed 0 = some (.iload_n 1, 1) := by decide +kernel
theorem a_X4_feed_1 : ix_at mT_X4_feed 1 = some (.iconst 1, 1) := by decide +kernel
theorem a_X4_feed_2 : ix_at mT_X4_feed 2 = some (.if_icmp .lt 23, 3) := by decide +kernel
theorem a_X4_feed_5 : ix_at mT_X4_feed 5 = some (.iload_n 1, 1) := by decide +kernel
theorem a_X4_feed_6 : ix_at mT_X4_feed 6 = some (.bipush 16, 2) := by decide +kernel
theorem a_X4_feed_8 : ix_at mT_X4_feed 8 = some (.if_icmp .gt 17, 3) := by decide +kernel
theorem a_X4_feed_11 : ix_at mT_X4_feed 11 = some (.aload_n 0, 1) := by decide +kernel
theorem a_X4_feed_12 : ix_at mT_X4_feed 12 = some (.getfield 14, 3) := by decide +kernel
theorem a_X4_feed_15 : ix_at mT_X4_feed 15 = some (.getfield 56, 3) := by decide +kernel
theorem a_X4_feed_18 : ix_at mT_X4_feed 18 = some (.iload_n 1, 1) := by decide +kernel
theorem a_X4_feed_19 : ix_at mT_X4_feed 19 = some (.iadd, 1) := by decide +kernel
theorem a_X4_feed_20 : ix_at mT_X4_feed 20 = some (.bipush 40, 2) := by decide +kernel
theorem a_X4_feed_22 : ix_at mT_X4_feed 22 = some (.if_icmp .le 5, 3) := by decide +kernel
theorem a_X4_feed_25 : ix_at mT_X4_feed 25 = some (.iconst (-1), 1) := by decide +kernel
theorem a_X4_feed_26 : ix_at mT_X4_feed 26 = some (.ireturn, 1) := by decide +kernel
theorem a_X4_feed_27 : ix_at mT_X4_feed 27 = some (.iconst 0, 1) := by decide +kernel
theorem a_X4_feed_28 : ix_at mT_X4_feed 28 = some (.istore 6, 2) := by decide +kernel
theorem a_X4_feed_30 : ix_at mT_X4_feed 30 = some (.iload 6, 2) := by decide +kernel
theorem a_X4_feed_32 : ix_at mT_X4_feed 32 = some (.iload_n 1, 1) := by decide +kernel
theorem a_X4_feed_33 : ix_at mT_X4_feed 33 = some (.if_icmp .ge 43, 3) := by decide +kernel
theorem a_X4_feed_36 : ix_at mT_X4_feed 36 = some (.iload 6, 2) := by decide +kernel
theorem a_X4_feed_38 : ix_at mT_X4_feed 38 = some (.bipush 8, 2) := by decide +kernel
theorem a_X4_feed_40 : ix_at mT_X4_feed 40 = some (.if_icmp .ge 7, 3) := by decide +kernel
theorem a_X4_feed_43 : ix_at mT_X4_feed 43 = some (.lload_n 2, 1) := by decide +kernel
theorem a_X4_feed_44 : ix_at mT_X4_feed 44 = some (.goto 5, 3) := by decide +kernel
theorem a_X4_feed_47 : ix_at mT_X4_feed 47 = some (.lload 4, 2) := by decide +kernel
theorem a_X4_feed_49 : ix_at mT_X4_feed 49 = some (.lstore 7, 2) := by decide +kernel
theorem a_X4_feed_51 : ix_at mT_X4_feed 51 = some (.aload_n 0, 1) := by decide +kernel
theorem a_X4_feed_52 : ix_at mT_X4_feed 52 = some (.getfield 14, 3) := by decide +kernel
theorem a_X4_feed_55 : ix_at mT_X4_feed 55 = some (.lload 7, 2) := by decide +kernel
theorem a_X4_feed_57 : ix_at mT_X4_feed 57 = some (.bipush 8, 2) := by decide +kernel
theorem a_X4_feed_59 : ix_at mT_X4_feed 59 = some (.iload 6, 2) := by decide +kernel
theorem a_X4_feed_61 : ix_at mT_X4_feed 61 = some (.bipush 7, 2) := by decide +kernel
theorem a_X4_feed_63 : ix_at mT_X4_feed 63 = some (.iand, 1) := by decide +kernel
theorem a_X4_feed_64 : ix_at mT_X4_feed 64 = some (.imul, 1) := by decide +kernel
theorem a_X4_feed_65 : ix_at mT_X4_feed 65 = some (.lushr, 1) := by decide +kernel
theorem a_X4_feed_66 : ix_at mT_X4_feed 66 = some (.l2i, 1) := by decide +kernel
theorem a_X4_feed_67 : ix_at mT_X4_feed 67 = some (.invokevirtual 60, 3) := by decide +kernel
theorem a_X4_feed_70 : ix_at mT_X4_feed 70 = some (.iinc 6 1, 3) := by decide +kernel
theorem a_X4_feed_73 : ix_at mT_X4_feed 73 = some (.goto (-43), 3) := by decide +kernel
theorem a_X4_feed_76 : ix_at mT_X4_feed 76 = some (.aload_n 0, 1) := by decide +kernel
theorem a_X4_feed_77 : ix_at mT_X4_feed 77 = some (.getfield 14, 3) := by decide +kernel
theorem a_X4_feed_80 : ix_at mT_X4_feed 80 = some (.getfield 56, 3) := by decide +kernel
theorem a_X4_feed_83 : ix_at mT_X4_feed 83 = some (.ireturn, 1) := by decide +kernel
theorem a_X4_register_0 : ix_at mT_X4_register 0 = some (.aload_n 0, 1) := by decide +kernel
theorem a_X4_register_1 : ix_at mT_X4_register 1 = some (.getfield 63, 3) := by decide +kernel
theorem a_X4_register_4 : ix_at mT_X4_register 4 = some (.ifCond .eq 5, 3) := by decide +kernel
theorem a_X4_register_7 : ix_at mT_X4_register 7 = some (.iconst (-1), 1) := by decide +kernel
theorem a_X4_register_8 : ix_at mT_X4_register 8 = some (.ireturn, 1) := by decide +kernel
theorem a_X4_register_9 : ix_at mT_X4_register 9 = some (.aload_n 0, 1) := by decide +kernel
theorem a_X4_register_10 : ix_at mT_X4_register 10 = some (.iload_n 1, 1) := by decide +kernel
theorem a_X4_register_11 : ix_at mT_X4_register 11 = some (.invokevirtual 67, 3) := by decide +kernel
theorem a_X4_register_14 : ix_at mT_X4_register 14 = some (.ifCond .ne 6, 3) := by decide +kernel
theorem a_X4_register_17 : ix_at mT_X4_register 17 = some (.bipush (-2), 2) := by decide +kernel
theorem a_X4_register_19 : ix_at mT_X4_register 19 = some (.ireturn, 1) := by decide +kernel
theorem a_X4_register_20 : ix_at mT_X4_register 20 = some (.aload_n 0, 1) := by decide +kernel
theorem a_X4_register_21 : ix_at mT_X4_register 21 = some (.getfield 42, 3) := by decide +kernel
theorem a_X4_register_24 : ix_at mT_X4_register 24 = some (.iload_n 1, 1) := by decide +kernel
theorem a_X4_register_25 : ix_at mT_X4_register 25 = some (.aaload, 1) := by decide +kernel
theorem a_X4_register_26 : ix_at mT_X4_register 26 = some (.invokevirtual 71, 3) := by decide +kernel
theorem a_X4_register_29 : ix_at mT_X4_register 29 = some (.ifCond .eq 17, 3) := by decide +kernel
theorem a_X4_register_32 : ix_at mT_X4_register 32 = some (.aload_n 0, 1) := by decide +kernel
theorem a_X4_register_33 : ix_at mT_X4_register 33 = some (.iload_n 1, 1) := by decide +kernel
theorem a_X4_register_34 : ix_at mT_X4_register 34 = some (.iconst 0, 1) := by decide +kernel
theorem a_X4_register_35 : ix_at mT_X4_register 35 = some (.invokevirtual 75, 3) := by decide +kernel
theorem a_X4_register_38 : ix_at mT_X4_register 38 = some (.aload_n 0, 1) := by decide +kernel
theorem a_X4_register_39 : ix_at mT_X4_register 39 = some (.iload_n 1, 1) := by decide +kernel
theorem a_X4_register_40 : ix_at mT_X4_register 40 = some (.invokevirtual 79, 3) := by decide +kernel
theorem a_X4_register_43 : ix_at mT_X4_register 43 = some (.goto 14, 3) := by decide +kernel
theorem a_X4_register_46 : ix_at mT_X4_register 46 = some (.aload_n 0, 1) := by decide +kernel
theorem a_X4_register_47 : ix_at mT_X4_register 47 = some (.iconst 0, 1) := by decide +kernel
theorem a_X4_register_48 : ix_at mT_X4_register 48 = some (.invokevirtual 82, 3) := by decide +kernel
theorem a_X4_register_51 : ix_at mT_X4_register 51 = some (.ifCond .ne 6, 3) := by decide +kernel
theorem a_X4_register_54 : ix_at mT_X4_register 54 = some (.bipush (-8), 2) := by decide +kernel
theorem a_X4_register_56 : ix_at mT_X4_register 56 = some (.ireturn, 1) := by decide +kernel
theorem a_X4_register_57 : ix_at mT_X4_register 57 = some (.aload_n 0, 1) := by decide +kernel
theorem a_X4_register_58 : ix_at mT_X4_register 58 = some (.iload_n 1, 1) := by decide +kernel
theorem a_X4_register_59 : ix_at mT_X4_register 59 = some (.invokevirtual 85, 3) := by decide +kernel
theorem a_X4_register_62 : ix_at mT_X4_register 62 = some (.aload_n 0, 1) := by decide +kernel
theorem a_X4_register_63 : ix_at mT_X4_register 63 = some (.getfield 42, 3) := by decide +kernel
theorem a_X4_register_66 : ix_at mT_X4_register 66 = some (.iload_n 1, 1) := by decide +kernel
theorem a_X4_register_67 : ix_at mT_X4_register 67 = some (.aaload, 1) := by decide +kernel
theorem a_X4_register_68 : ix_at mT_X4_register 68 = some (.getfield 88, 3) := by decide +kernel
theorem a_X4_register_71 : ix_at mT_X4_register 71 = some (.ireturn, 1) := by decide +kernel
theorem a_X4_begin_0 : ix_at mT_X4_begin 0 = some (.aload_n 0, 1) := by decide +kernel
theorem a_X4_begin_1 : ix_at mT_X4_begin 1 = some (.iload_n 1, 1) := by decide +kernel
theorem a_X4_begin_2 : ix_at mT_X4_begin 2 = some (.iload_n 2, 1) := by decide +kernel
theorem a_X4_begin_3 : ix_at mT_X4_begin 3 = some (.iconst 1, 1) := by decide +kernel
theorem a_X4_begin_4 : ix_at mT_X4_begin 4 = some (.invokevirtual 91, 3) := by decide +kernel
theorem a_X4_begin_7 : ix_at mT_X4_begin 7 = some (.istore_n 3, 1) := by decide +kernel
theorem a_X4_begin_8 : ix_at mT_X4_begin 8 = some (.iload_n 3, 1) := by decide +kernel
theorem a_X4_begin_9 : ix_at mT_X4_begin 9 = some (.ifCond .eq 5, 3) := by decide +kernel
theorem a_X4_begin_12 : ix_at mT_X4_begin 12 = some (.iload_n 3, 1) := by decide +kernel
theorem a_X4_begin_13 : ix_at mT_X4_begin 13 = some (.ireturn, 1) := by decide +kernel
theorem a_X4_begin_14 : ix_at mT_X4_begin 14 = some (.aload_n 0, 1) := by decide +kernel
theorem a_X4_begin_15 : ix_at mT_X4_begin 15 = some (.getfield 42, 3) := by decide +kernel
theorem a_X4_begin_18 : ix_at mT_X4_begin 18 = some (.iload_n 1, 1) := by decide +kernel
theorem a_X4_begin_19 : ix_at mT_X4_begin 19 = some (.aaload, 1) := by decide +kernel
theorem a_X4_begin_20 : ix_at mT_X4_begin 20 = some (.invokevirtual 71, 3) := by decide +kernel
theorem a_X4_begin_23 : ix_at mT_X4_begin 23 = some (.ifCond .eq 6, 3) := by decide +kernel
theorem a_X4_begin_26 : ix_at mT_X4_begin 26 = some (.bipush (-4), 2) := by decide +kernel
theorem a_X4_begin_28 : ix_at mT_X4_begin 28 = some (.ireturn, 1) := by decide +kernel
theorem a_X4_begin_29 : ix_at mT_X4_begin 29 = some (.aload_n 0, 1) := by decide +kernel
theorem a_X4_begin_30 : ix_at mT_X4_begin 30 = some (.iconst 1, 1) := by decide +kernel
theorem a_X4_begin_31 : ix_at mT_X4_begin 31 = some (.invokevirtual 82, 3) := by decide +kernel
theorem a_X4_begin_34 : ix_at mT_X4_begin 34 = some (.ifCond .ne 6, 3) := by decide +kernel
theorem a_X4_begin_37 : ix_at mT_X4_begin 37 = some (.bipush (-8), 2) := by decide +kernel
theorem a_X4_begin_39 : ix_at mT_X4_begin 39 = some (.ireturn, 1) := by decide +kernel
theorem a_X4_begin_40 : ix_at mT_X4_begin 40 = some (.aload_n 0, 1) := by decide +kernel
theorem a_X4_begin_41 : ix_at mT_X4_begin 41 = some (.getfield 95, 3) := by decide +kernel
theorem a_X4_begin_44 : ix_at mT_X4_begin 44 = some (.istore 4, 2) := by decide +kernel
theorem a_X4_begin_46 : ix_at mT_X4_begin 46 = some (.aload_n 0, 1) := by decide +kernel
theorem a_X4_begin_47 : ix_at mT_X4_begin 47 = some (.iconst 1, 1) := by decide +kernel
theorem a_X4_begin_48 : ix_at mT_X4_begin 48 = some (.iload_n 1, 1) := by decide +kernel
theorem a_X4_begin_49 : ix_at mT_X4_begin 49 = some (.iload_n 2, 1) := by decide +kernel
theorem a_X4_begin_50 : ix_at mT_X4_begin 50 = some (.aload_n 0, 1) := by decide +kernel
theorem a_X4_begin_51 : ix_at mT_X4_begin 51 = some (.getfield 98, 3) := by decide +kernel
theorem a_X4_begin_54 : ix_at mT_X4_begin 54 = some (.iload 4, 2) := by decide +kernel
theorem a_X4_begin_56 : ix_at mT_X4_begin 56 = some (.invokevirtual 101, 3) := by decide +kernel
theorem a_X4_begin_59 : ix_at mT_X4_begin 59 = some (.iload 4, 2) := by decide +kernel
theorem a_X4_begin_61 : ix_at mT_X4_begin 61 = some (.ireturn, 1) := by decide +kernel
theorem a_X4_send_0 : ix_at mT_X4_send 0 = some (.aload_n 0, 1) := by decide +kernel
theorem a_X4_send_1 : ix_at mT_X4_send 1 = some (.iload_n 1, 1) := by decide +kernel
theorem a_X4_send_2 : ix_at mT_X4_send 2 = some (.iload_n 2, 1) := by decide +kernel
theorem a_X4_send_3 : ix_at mT_X4_send 3 = some (.iload_n 3, 1) := by decide +kernel
theorem a_X4_send_4 : ix_at mT_X4_send 4 = some (.iload 4, 2) := by decide +kernel
theorem a_X4_send_6 : ix_at mT_X4_send 6 = some (.iload 5, 2) := by decide +kernel
theorem a_X4_send_8 : ix_at mT_X4_send 8 = some (.invokevirtual 105, 3) := by decide +kernel
theorem a_X4_send_11 : ix_at mT_X4_send 11 = some (.istore 6, 2) := by decide +kernel
theorem a_X4_send_13 : ix_at mT_X4_send 13 = some (.aload_n 0, 1) := by decide +kernel
theorem a_X4_send_14 : ix_at mT_X4_send 14 = some (.getfield 14, 3) := by decide +kernel
theorem a_X4_send_17 : ix_at mT_X4_send 17 = some (.invokevirtual 109, 3) := by decide +kernel
theorem a_X4_send_20 : ix_at mT_X4_send 20 = some (.iload 6, 2) := by decide +kernel
theorem a_X4_send_22 : ix_at mT_X4_send 22 = some (.ireturn, 1) := by decide +kernel
theorem a_X4_later_0 : ix_at mT_X4_later 0 = some (.aload_n 0, 1) := by decide +kernel
theorem a_X4_later_1 : ix_at mT_X4_later 1 = some (.iload_n 1, 1) := by decide +kernel
theorem a_X4_later_2 : ix_at mT_X4_later 2 = some (.iload_n 2, 1) := by decide +kernel
theorem a_X4_later_3 : ix_at mT_X4_later 3 = some (.aload_n 0, 1) := by decide +kernel
theorem a_X4_later_4 : ix_at mT_X4_later 4 = some (.iload_n 3, 1) := by decide +kernel
theorem a_X4_later_5 : ix_at mT_X4_later 5 = some (.iload 4, 2) := by decide +kernel
theorem a_X4_later_7 : ix_at mT_X4_later 7 = some (.invokevirtual 112, 3) := by decide +kernel
theorem a_X4_later_10 : ix_at mT_X4_later 10 = some (.ifCond .eq 12, 3) := by decide +kernel
theorem a_X4_later_13 : ix_at mT_X4_later 13 = some (.iload 5, 2) := by decide +kernel
theorem a_X4_later_15 : ix_at mT_X4_later 15 = some (.ifCond .lt 7, 3) := by decide +kernel
theorem a_X4_later_18 : ix_at mT_X4_later 18 = some (.iconst 1, 1) := by decide +kernel
theorem a_X4_later_19 : ix_at mT_X4_later 19 = some (.goto 4, 3) := by decide +kernel
theorem a_X4_later_22 : ix_at mT_X4_later 22 = some (.iconst 0, 1) := by decide +kernel
theorem a_X4_later_23 : ix_at mT_X4_later 23 = some (.invokevirtual 91, 3) := by decide +kernel
theorem a_X4_later_26 : ix_at mT_X4_later 26 = some (.istore 6, 2) := by decide +kernel
theorem a_X4_later_28 : ix_at mT_X4_later 28 = some (.iload 6, 2) := by decide +kernel
theorem a_X4_later_30 : ix_at mT_X4_later 30 = some (.ifCond .eq 6, 3) := by decide +kernel
theorem a_X4_later_33 : ix_at mT_X4_later 33 = some (.iload 6, 2) := by decide +kernel
theorem a_X4_later_35 : ix_at mT_X4_later 35 = some (.ireturn, 1) := by decide +kernel
theorem a_X4_later_36 : ix_at mT_X4_later 36 = some (.aload_n 0, 1) := by decide +kernel
theorem a_X4_later_37 : ix_at mT_X4_later 37 = some (.getfield 42, 3) := by decide +kernel
theorem a_X4_later_40 : ix_at mT_X4_later 40 = some (.iload_n 1, 1) := by decide +kernel
theorem a_X4_later_41 : ix_at mT_X4_later 41 = some (.aaload, 1) := by decide +kernel
theorem a_X4_later_42 : ix_at mT_X4_later 42 = some (.invokevirtual 71, 3) := by decide +kernel
theorem a_X4_later_45 : ix_at mT_X4_later 45 = some (.ifCond .ne 6, 3) := by decide +kernel
theorem a_X4_later_48 : ix_at mT_X4_later 48 = some (.bipush (-5), 2) := by decide +kernel
theorem a_X4_later_50 : ix_at mT_X4_later 50 = some (.ireturn, 1) := by decide +kernel
theorem a_X4_later_51 : ix_at mT_X4_later 51 = some (.aload_n 0, 1) := by decide +kernel
theorem a_X4_later_52 : ix_at mT_X4_later 52 = some (.iconst 0, 1) := by decide +kernel
theorem a_X4_later_53 : ix_at mT_X4_later 53 = some (.invokevirtual 82, 3) := by decide +kernel
theorem a_X4_later_56 : ix_at mT_X4_later 56 = some (.ifCond .ne 6, 3) := by decide +kernel
theorem a_X4_later_59 : ix_at mT_X4_later 59 = some (.bipush (-8), 2) := by decide +kernel
theorem a_X4_later_61 : ix_at mT_X4_later 61 = some (.ireturn, 1) := by decide +kernel
theorem a_X4_later_62 : ix_at mT_X4_later 62 = some (.aload_n 0, 1) := by decide +kernel
theorem a_X4_later_63 : ix_at mT_X4_later 63 = some (.iconst 3, 1) := by decide +kernel
theorem a_X4_later_64 : ix_at mT_X4_later 64 = some (.iload_n 1, 1) := by decide +kernel
theorem a_X4_later_65 : ix_at mT_X4_later 65 = some (.iload_n 2, 1) := by decide +kernel
theorem a_X4_later_66 : ix_at mT_X4_later 66 = some (.aload_n 0, 1) := by decide +kernel
theorem a_X4_later_67 : ix_at mT_X4_later 67 = some (.iload_n 3, 1) := by decide +kernel
theorem a_X4_later_68 : ix_at mT_X4_later 68 = some (.iload 4, 2) := by decide +kernel
theorem a_X4_later_70 : ix_at mT_X4_later 70 = some (.invokevirtual 116, 3) := by decide +kernel
theorem a_X4_later_73 : ix_at mT_X4_later 73 = some (.iload 5, 2) := by decide +kernel
theorem a_X4_later_75 : ix_at mT_X4_later 75 = some (.invokevirtual 101, 3) := by decide +kernel
theorem a_X4_later_78 : ix_at mT_X4_later 78 = some (.iconst 0, 1) := by decide +kernel
theorem a_X4_later_79 : ix_at mT_X4_later 79 = some (.ireturn, 1) := by decide +kernel
theorem a_X4_end_0 : ix_at mT_X4_end 0 = some (.aload_n 0, 1) := by decide +kernel
theorem a_X4_end_1 : ix_at mT_X4_end 1 = some (.iload_n 1, 1) := by decide +kernel
theorem a_X4_end_2 : ix_at mT_X4_end 2 = some (.iload_n 2, 1) := by decide +kernel
theorem a_X4_end_3 : ix_at mT_X4_end 3 = some (.iconst 1, 1) := by decide +kernel
theorem a_X4_end_4 : ix_at mT_X4_end 4 = some (.invokevirtual 91, 3) := by decide +kernel
theorem a_X4_end_7 : ix_at mT_X4_end 7 = some (.istore 4, 2) := by decide +kernel
theorem a_X4_end_9 : ix_at mT_X4_end 9 = some (.iload 4, 2) := by decide +kernel
theorem a_X4_end_11 : ix_at mT_X4_end 11 = some (.ifCond .eq 6, 3) := by decide +kernel
theorem a_X4_end_14 : ix_at mT_X4_end 14 = some (.iload 4, 2) := by decide +kernel
theorem a_X4_end_16 : ix_at mT_X4_end 16 = some (.ireturn, 1) := by decide +kernel
theorem a_X4_end_17 : ix_at mT_X4_end 17 = some (.aload_n 0, 1) := by decide +kernel
theorem a_X4_end_18 : ix_at mT_X4_end 18 = some (.getfield 42, 3) := by decide +kernel
theorem a_X4_end_21 : ix_at mT_X4_end 21 = some (.iload_n 1, 1) := by decide +kernel
theorem a_X4_end_22 : ix_at mT_X4_end 22 = some (.aaload, 1) := by decide +kernel
theorem a_X4_end_23 : ix_at mT_X4_end 23 = some (.invokevirtual 71, 3) := by decide +kernel
theorem a_X4_end_26 : ix_at mT_X4_end 26 = some (.ifCond .ne 6, 3) := by decide +kernel
theorem a_X4_end_29 : ix_at mT_X4_end 29 = some (.bipush (-5), 2) := by decide +kernel
theorem a_X4_end_31 : ix_at mT_X4_end 31 = some (.ireturn, 1) := by decide +kernel
theorem a_X4_end_32 : ix_at mT_X4_end 32 = some (.aload_n 0, 1) := by decide +kernel
theorem a_X4_end_33 : ix_at mT_X4_end 33 = some (.iload_n 1, 1) := by decide +kernel
theorem a_X4_end_34 : ix_at mT_X4_end 34 = some (.iload_n 3, 1) := by decide +kernel
theorem a_X4_end_35 : ix_at mT_X4_end 35 = some (.invokevirtual 75, 3) := by decide +kernel
theorem a_X4_end_38 : ix_at mT_X4_end 38 = some (.aload_n 0, 1) := by decide +kernel
theorem a_X4_end_39 : ix_at mT_X4_end 39 = some (.iload_n 1, 1) := by decide +kernel
theorem a_X4_end_40 : ix_at mT_X4_end 40 = some (.invokevirtual 79, 3) := by decide +kernel
theorem a_X4_end_43 : ix_at mT_X4_end 43 = some (.iconst 0, 1) := by decide +kernel
theorem a_X4_end_44 : ix_at mT_X4_end 44 = some (.ireturn, 1) := by decide +kernel
theorem a_X4_mark_0 : ix_at mT_X4_mark 0 = some (.aload_n 0, 1) := by decide +kernel
theorem a_X4_mark_1 : ix_at mT_X4_mark 1 = some (.getfield 63, 3) := by decide +kernel
theorem a_X4_mark_4 : ix_at mT_X4_mark 4 = some (.ifCond .eq 5, 3) := by decide +kernel
theorem a_X4_mark_7 : ix_at mT_X4_mark 7 = some (.iconst (-1), 1) := by decide +kernel
theorem a_X4_mark_8 : ix_at mT_X4_mark 8 = some (.ireturn, 1) := by decide +kernel
theorem a_X4_mark_9 : ix_at mT_X4_mark 9 = some (.aload_n 0, 1) := by decide +kernel
theorem a_X4_mark_10 : ix_at mT_X4_mark 10 = some (.iload_n 1, 1) := by decide +kernel
theorem a_X4_mark_11 : ix_at mT_X4_mark 11 = some (.iload_n 2, 1) := by decide +kernel
theorem a_X4_mark_12 : ix_at mT_X4_mark 12 = some (.invokevirtual 112, 3) := by decide +kernel
theorem a_X4_mark_15 : ix_at mT_X4_mark 15 = some (.ifCond .eq 7, 3) := by decide +kernel
theorem a_X4_mark_18 : ix_at mT_X4_mark 18 = some (.iload_n 3, 1) := by decide +kernel
theorem a_X4_mark_19 : ix_at mT_X4_mark 19 = some (.ifCond .ge 6, 3) := by decide +kernel
theorem a_X4_mark_22 : ix_at mT_X4_mark 22 = some (.bipush (-2), 2) := by decide +kernel
theorem a_X4_mark_24 : ix_at mT_X4_mark 24 = some (.ireturn, 1) := by decide +kernel
theorem a_X4_mark_25 : ix_at mT_X4_mark 25 = some (.aload_n 0, 1) := by decide +kernel
theorem a_X4_mark_26 : ix_at mT_X4_mark 26 = some (.iconst 0, 1) := by decide +kernel
theorem a_X4_mark_27 : ix_at mT_X4_mark 27 = some (.invokevirtual 82, 3) := by decide +kernel
theorem a_X4_mark_30 : ix_at mT_X4_mark 30 = some (.ifCond .ne 6, 3) := by decide +kernel
theorem a_X4_mark_33 : ix_at mT_X4_mark 33 = some (.bipush (-8), 2) := by decide +kernel
theorem a_X4_mark_35 : ix_at mT_X4_mark 35 = some (.ireturn, 1) := by decide +kernel
theorem a_X4_mark_36 : ix_at mT_X4_mark 36 = some (.aload_n 0, 1) := by decide +kernel
theorem a_X4_mark_37 : ix_at mT_X4_mark 37 = some (.bipush 6, 2) := by decide +kernel
theorem a_X4_mark_39 : ix_at mT_X4_mark 39 = some (.iconst 0, 1) := by decide +kernel
theorem a_X4_mark_40 : ix_at mT_X4_mark 40 = some (.iconst 0, 1) := by decide +kernel
theorem a_X4_mark_41 : ix_at mT_X4_mark 41 = some (.aload_n 0, 1) := by decide +kernel
theorem a_X4_mark_42 : ix_at mT_X4_mark 42 = some (.iload_n 1, 1) := by decide +kernel
theorem a_X4_mark_43 : ix_at mT_X4_mark 43 = some (.iload_n 2, 1) := by decide +kernel
theorem a_X4_mark_44 : ix_at mT_X4_mark 44 = some (.invokevirtual 116, 3) := by decide +kernel
theorem a_X4_mark_47 : ix_at mT_X4_mark 47 = some (.iload_n 3, 1) := by decide +kernel
theorem a_X4_mark_48 : ix_at mT_X4_mark 48 = some (.invokevirtual 101, 3) := by decide +kernel
theorem a_X4_mark_51 : ix_at mT_X4_mark 51 = some (.iconst 0, 1) := by decide +kernel
theorem a_X4_mark_52 : ix_at mT_X4_mark 52 = some (.ireturn, 1) := by decide +kernel
theorem a_X4_marked_0 : ix_at mT_X4_marked 0 = some (.aload_n 0, 1) := by decide +kernel
theorem a_X4_marked_1 : ix_at mT_X4_marked 1 = some (.getfield 63, 3) := by decide +kernel
theorem a_X4_marked_4 : ix_at mT_X4_marked 4 = some (.ifCond .ne 12, 3) := by decide +kernel
theorem a_X4_marked_7 : ix_at mT_X4_marked 7 = some (.aload_n 0, 1) := by decide +kernel
theorem a_X4_marked_8 : ix_at mT_X4_marked 8 = some (.iload_n 1, 1) := by decide +kernel
theorem a_X4_marked_9 : ix_at mT_X4_marked 9 = some (.iload_n 2, 1) := by decide +kernel
theorem a_X4_marked_10 : ix_at mT_X4_marked 10 = some (.invokevirtual 112, 3) := by decide +kernel
theorem a_X4_marked_13 : ix_at mT_X4_marked 13 = some (.ifCond .ne 5, 3) := by decide +kernel
theorem a_X4_marked_16 : ix_at mT_X4_marked 16 = some (.iconst (-1), 1) := by decide +kernel
theorem a_X4_marked_17 : ix_at mT_X4_marked 17 = some (.ireturn, 1) := by decide +kernel
theorem a_X4_marked_18 : ix_at mT_X4_marked 18 = some (.aload_n 0, 1) := by decide +kernel
theorem a_X4_marked_19 : ix_at mT_X4_marked 19 = some (.getfield 46, 3) := by decide +kernel
theorem a_X4_marked_22 : ix_at mT_X4_marked 22 = some (.aload_n 0, 1) := by decide +kernel
theorem a_X4_marked_23 : ix_at mT_X4_marked 23 = some (.iload_n 1, 1) := by decide +kernel
theorem a_X4_marked_24 : ix_at mT_X4_marked 24 = some (.iload_n 2, 1) := by decide +kernel
theorem a_X4_marked_25 : ix_at mT_X4_marked 25 = some (.invokevirtual 116, 3) := by decide +kernel
theorem a_X4_marked_28 : ix_at mT_X4_marked 28 = some (.iaload, 1) := by decide +kernel
theorem a_X4_marked_29 : ix_at mT_X4_marked 29 = some (.ireturn, 1) := by decide +kernel
theorem a_X4_tick_0 : ix_at mT_X4_tick 0 = some (.iload_n 1, 1) := by decide +kernel
theorem a_X4_tick_1 : ix_at mT_X4_tick 1 = some (.ifCond .lt 21, 3) := by decide +kernel
theorem a_X4_tick_4 : ix_at mT_X4_tick 4 = some (.iload_n 1, 1) := by decide +kernel
theorem a_X4_tick_5 : ix_at mT_X4_tick 5 = some (.sipush 1000, 3) := by decide +kernel
theorem a_X4_tick_8 : ix_at mT_X4_tick 8 = some (.if_icmp .gt 14, 3) := by decide +kernel
theorem a_X4_tick_11 : ix_at mT_X4_tick 11 = some (.aload_n 0, 1) := by decide +kernel
theorem a_X4_tick_12 : ix_at mT_X4_tick 12 = some (.getfield 98, 3) := by decide +kernel
theorem a_X4_tick_15 : ix_at mT_X4_tick 15 = some (.iload_n 1, 1) := by decide +kernel
theorem a_X4_tick_16 : ix_at mT_X4_tick 16 = some (.iadd, 1) := by decide +kernel
theorem a_X4_tick_17 : ix_at mT_X4_tick 17 = some (.ldc 120, 2) := by decide +kernel
theorem a_X4_tick_19 : ix_at mT_X4_tick 19 = some (.if_icmp .le 6, 3) := by decide +kernel
theorem a_X4_tick_22 : ix_at mT_X4_tick 22 = some (.bipush (-2), 2) := by decide +kernel
theorem a_X4_tick_24 : ix_at mT_X4_tick 24 = some (.ireturn, 1) := by decide +kernel
theorem a_X4_tick_25 : ix_at mT_X4_tick 25 = some (.aload_n 0, 1) := by decide +kernel
theorem a_X4_tick_26 : ix_at mT_X4_tick 26 = some (.dup, 1) := by decide +kernel
theorem a_X4_tick_27 : ix_at mT_X4_tick 27 = some (.getfield 98, 3) := by decide +kernel
theorem a_X4_tick_30 : ix_at mT_X4_tick 30 = some (.iload_n 1, 1) := by decide +kernel
theorem a_X4_tick_31 : ix_at mT_X4_tick 31 = some (.iadd, 1) := by decide +kernel
theorem a_X4_tick_32 : ix_at mT_X4_tick 32 = some (.putfield 98, 3) := by decide +kernel
theorem a_X4_tick_35 : ix_at mT_X4_tick 35 = some (.aload_n 0, 1) := by decide +kernel
theorem a_X4_tick_36 : ix_at mT_X4_tick 36 = some (.getfield 63, 3) := by decide +kernel
theorem a_X4_tick_39 : ix_at mT_X4_tick 39 = some (.ifCond .eq 7, 3) := by decide +kernel
theorem a_X4_tick_42 : ix_at mT_X4_tick 42 = some (.iconst 0, 1) := by decide +kernel
theorem a_X4_tick_43 : ix_at mT_X4_tick 43 = some (.goto 7, 3) := by decide +kernel
theorem a_X4_tick_46 : ix_at mT_X4_tick 46 = some (.aload_n 0, 1) := by decide +kernel
theorem a_X4_tick_47 : ix_at mT_X4_tick 47 = some (.invokevirtual 121, 3) := by decide +kernel
theorem a_X4_tick_50 : ix_at mT_X4_tick 50 = some (.ireturn, 1) := by decide +kernel
theorem a_X4_fetch_0 : ix_at mT_X4_fetch 0 = some (.aload_n 0, 1) := by decide +kernel
theorem a_X4_fetch_1 : ix_at mT_X4_fetch 1 = some (.getfield 18, 3) := by decide +kernel
theorem a_X4_fetch_4 : ix_at mT_X4_fetch 4 = some (.invokevirtual 109, 3) := by decide +kernel
theorem a_X4_fetch_7 : ix_at mT_X4_fetch 7 = some (.aload_n 0, 1) := by decide +kernel
theorem a_X4_fetch_8 : ix_at mT_X4_fetch 8 = some (.getfield 63, 3) := by decide +kernel
theorem a_X4_fetch_11 : ix_at mT_X4_fetch 11 = some (.ifCond .ne 15, 3) := by decide +kernel
theorem a_X4_fetch_14 : ix_at mT_X4_fetch 14 = some (.aload_n 0, 1) := by decide +kernel
theorem a_X4_fetch_15 : ix_at mT_X4_fetch 15 = some (.iload_n 1, 1) := by decide +kernel
theorem a_X4_fetch_16 : ix_at mT_X4_fetch 16 = some (.invokevirtual 125, 3) := by decide +kernel
theorem a_X4_fetch_19 : ix_at mT_X4_fetch 19 = some (.ifCond .eq 7, 3) := by decide +kernel
theorem a_X4_fetch_22 : ix_at mT_X4_fetch 22 = some (.iload_n 2, 1) := by decide +kernel
theorem a_X4_fetch_23 : ix_at mT_X4_fetch 23 = some (.ifCond .ge 5, 3) := by decide +kernel
theorem a_X4_fetch_26 : ix_at mT_X4_fetch 26 = some (.iconst (-1), 1) := by decide +kernel
theorem a_X4_fetch_27 : ix_at mT_X4_fetch 27 = some (.ireturn, 1) := by decide +kernel
theorem a_X4_fetch_28 : ix_at mT_X4_fetch 28 = some (.aload_n 0, 1) := by decide +kernel
theorem a_X4_fetch_29 : ix_at mT_X4_fetch 29 = some (.getfield 26, 3) := by decide +kernel
theorem a_X4_fetch_32 : ix_at mT_X4_fetch 32 = some (.iload_n 1, 1) := by decide +kernel
theorem a_X4_fetch_33 : ix_at mT_X4_fetch 33 = some (.aaload, 1) := by decide +kernel
theorem a_X4_fetch_34 : ix_at mT_X4_fetch 34 = some (.astore 4, 2) := by decide +kernel
theorem a_X4_fetch_36 : ix_at mT_X4_fetch 36 = some (.iload_n 3, 1) := by decide +kernel
theorem a_X4_fetch_37 : ix_at mT_X4_fetch 37 = some (.ifCond .eq 12, 3) := by decide +kernel
theorem a_X4_fetch_40 : ix_at mT_X4_fetch 40 = some (.aload 4, 2) := by decide +kernel
theorem a_X4_fetch_42 : ix_at mT_X4_fetch 42 = some (.iload_n 2, 1) := by decide +kernel
theorem a_X4_fetch_43 : ix_at mT_X4_fetch 43 = some (.invokevirtual 128, 3) := by decide +kernel
theorem a_X4_fetch_46 : ix_at mT_X4_fetch 46 = some (.goto 9, 3) := by decide +kernel
theorem a_X4_fetch_49 : ix_at mT_X4_fetch 49 = some (.aload 4, 2) := by decide +kernel
theorem a_X4_fetch_51 : ix_at mT_X4_fetch 51 = some (.iload_n 2, 1) := by decide +kernel
theorem a_X4_fetch_52 : ix_at mT_X4_fetch 52 = some (.invokevirtual 132, 3) := by decide +kernel
theorem a_X4_fetch_55 : ix_at mT_X4_fetch 55 = some (.istore 5, 2) := by decide +kernel
theorem a_X4_fetch_57 : ix_at mT_X4_fetch 57 = some (.iload 5, 2) := by decide +kernel
theorem a_X4_fetch_59 : ix_at mT_X4_fetch 59 = some (.iconst (-1), 1) := by decide +kernel
theorem a_X4_fetch_60 : ix_at mT_X4_fetch 60 = some (.if_icmp .eq 14, 3) := by decide +kernel
theorem a_X4_fetch_63 : ix_at mT_X4_fetch 63 = some (.aload 4, 2) := by decide +kernel
theorem a_X4_fetch_65 : ix_at mT_X4_fetch 65 = some (.iload 5, 2) := by decide +kernel
theorem a_X4_fetch_67 : ix_at mT_X4_fetch 67 = some (.aload_n 0, 1) := by decide +kernel
theorem a_X4_fetch_68 : ix_at mT_X4_fetch 68 = some (.getfield 18, 3) := by decide +kernel
theorem a_X4_fetch_71 : ix_at mT_X4_fetch 71 = some (.invokevirtual 135, 3) := by decide +kernel
theorem a_X4_fetch_74 : ix_at mT_X4_fetch 74 = some (.iload 5, 2) := by decide +kernel
theorem a_X4_fetch_76 : ix_at mT_X4_fetch 76 = some (.ireturn, 1) := by decide +kernel
theorem a_X4_answer_0 : ix_at mT_X4_answer 0 = some (.aload_n 0, 1) := by decide +kernel
theorem a_X4_answer_1 : ix_at mT_X4_answer 1 = some (.getfield 18, 3) := by decide +kernel
theorem a_X4_answer_4 : ix_at mT_X4_answer 4 = some (.iload_n 1, 1) := by decide +kernel
theorem a_X4_answer_5 : ix_at mT_X4_answer 5 = some (.invokevirtual 139, 3) := by decide +kernel
theorem a_X4_answer_8 : ix_at mT_X4_answer 8 = some (.ireturn, 1) := by decide +kernel
theorem a_X4_sync_0 : ix_at mT_X4_sync 0 = some (.aload_n 0, 1) := by decide +kernel
theorem a_X4_sync_1 : ix_at mT_X4_sync 1 = some (.getfield 63, 3) := by decide +kernel
theorem a_X4_sync_4 : ix_at mT_X4_sync 4 = some (.ifCond .eq 5, 3) := by decide +kernel
theorem a_X4_sync_7 : ix_at mT_X4_sync 7 = some (.iconst (-1), 1) := by decide +kernel
theorem a_X4_sync_8 : ix_at mT_X4_sync 8 = some (.ireturn, 1) := by decide +kernel
theorem a_X4_sync_9 : ix_at mT_X4_sync 9 = some (.aload_n 0, 1) := by decide +kernel
theorem a_X4_sync_10 : ix_at mT_X4_sync 10 = some (.getfield 36, 3) := by decide +kernel
theorem a_X4_sync_13 : ix_at mT_X4_sync 13 = some (.getfield 142, 3) := by decide +kernel
theorem a_X4_sync_16 : ix_at mT_X4_sync 16 = some (.istore_n 1, 1) := by decide +kernel
theorem a_X4_sync_17 : ix_at mT_X4_sync 17 = some (.aload_n 0, 1) := by decide +kernel
theorem a_X4_sync_18 : ix_at mT_X4_sync 18 = some (.getfield 36, 3) := by decide +kernel
theorem a_X4_sync_21 : ix_at mT_X4_sync 21 = some (.invokevirtual 145, 3) := by decide +kernel
theorem a_X4_sync_24 : ix_at mT_X4_sync 24 = some (.iload_n 1, 1) := by decide +kernel
theorem a_X4_sync_25 : ix_at mT_X4_sync 25 = some (.ireturn, 1) := by decide +kernel
theorem a_X4_crash_0 : ix_at mT_X4_crash 0 = some (.aload_n 0, 1) := by decide +kernel
theorem a_X4_crash_1 : ix_at mT_X4_crash 1 = some (.getfield 63, 3) := by decide +kernel
theorem a_X4_crash_4 : ix_at mT_X4_crash 4 = some (.ifCond .eq 5, 3) := by decide +kernel
theorem a_X4_crash_7 : ix_at mT_X4_crash 7 = some (.iconst (-1), 1) := by decide +kernel
theorem a_X4_crash_8 : ix_at mT_X4_crash 8 = some (.ireturn, 1) := by decide +kernel
theorem a_X4_crash_9 : ix_at mT_X4_crash 9 = some (.aload_n 0, 1) := by decide +kernel
theorem a_X4_crash_10 : ix_at mT_X4_crash 10 = some (.getfield 36, 3) := by decide +kernel
theorem a_X4_crash_13 : ix_at mT_X4_crash 13 = some (.getfield 142, 3) := by decide +kernel
theorem a_X4_crash_16 : ix_at mT_X4_crash 16 = some (.istore_n 2, 1) := by decide +kernel
theorem a_X4_crash_17 : ix_at mT_X4_crash 17 = some (.iload_n 1, 1) := by decide +kernel
theorem a_X4_crash_18 : ix_at mT_X4_crash 18 = some (.ifCond .lt 8, 3) := by decide +kernel
theorem a_X4_crash_21 : ix_at mT_X4_crash 21 = some (.iload_n 1, 1) := by decide +kernel
theorem a_X4_crash_22 : ix_at mT_X4_crash 22 = some (.iload_n 2, 1) := by decide +kernel
theorem a_X4_crash_23 : ix_at mT_X4_crash 23 = some (.if_icmp .le 6, 3) := by decide +kernel
theorem a_X4_crash_26 : ix_at mT_X4_crash 26 = some (.bipush (-2), 2) := by decide +kernel
theorem a_X4_crash_28 : ix_at mT_X4_crash 28 = some (.ireturn, 1) := by decide +kernel
theorem a_X4_crash_29 : ix_at mT_X4_crash 29 = some (.iconst 0, 1) := by decide +kernel
theorem a_X4_crash_30 : ix_at mT_X4_crash 30 = some (.istore_n 3, 1) := by decide +kernel
theorem a_X4_crash_31 : ix_at mT_X4_crash 31 = some (.iload_n 3, 1) := by decide +kernel
theorem a_X4_crash_32 : ix_at mT_X4_crash 32 = some (.aload_n 0, 1) := by decide +kernel
theorem a_X4_crash_33 : ix_at mT_X4_crash 33 = some (.getfield 146, 3) := by decide +kernel
theorem a_X4_crash_36 : ix_at mT_X4_crash 36 = some (.if_icmp .gt 45, 3) := by decide +kernel
theorem a_X4_crash_39 : ix_at mT_X4_crash 39 = some (.aload_n 0, 1) := by decide +kernel
theorem a_X4_crash_40 : ix_at mT_X4_crash 40 = some (.iload_n 3, 1) := by decide +kernel
theorem a_X4_crash_41 : ix_at mT_X4_crash 41 = some (.invokevirtual 149, 3) := by decide +kernel
theorem a_X4_crash_44 : ix_at mT_X4_crash 44 = some (.astore 4, 2) := by decide +kernel
theorem a_X4_crash_46 : ix_at mT_X4_crash 46 = some (.aload 4, 2) := by decide +kernel
theorem a_X4_crash_48 : ix_at mT_X4_crash 48 = some (.aload 4, 2) := by decide +kernel
theorem a_X4_crash_50 : ix_at mT_X4_crash 50 = some (.getfield 56, 3) := by decide +kernel
theorem a_X4_crash_53 : ix_at mT_X4_crash 53 = some (.aload_n 0, 1) := by decide +kernel
theorem a_X4_crash_54 : ix_at mT_X4_crash 54 = some (.getfield 36, 3) := by decide +kernel
theorem a_X4_crash_57 : ix_at mT_X4_crash 57 = some (.iload_n 3, 1) := by decide +kernel
theorem a_X4_crash_58 : ix_at mT_X4_crash 58 = some (.invokevirtual 153, 3) := by decide +kernel
theorem a_X4_crash_61 : ix_at mT_X4_crash 61 = some (.isub, 1) := by decide +kernel
theorem a_X4_crash_62 : ix_at mT_X4_crash 62 = some (.aload_n 0, 1) := by decide +kernel
theorem a_X4_crash_63 : ix_at mT_X4_crash 63 = some (.getfield 36, 3) := by decide +kernel
theorem a_X4_crash_66 : ix_at mT_X4_crash 66 = some (.iload_n 3, 1) := by decide +kernel
theorem a_X4_crash_67 : ix_at mT_X4_crash 67 = some (.iload_n 1, 1) := by decide +kernel
theorem a_X4_crash_68 : ix_at mT_X4_crash 68 = some (.invokevirtual 156, 3) := by decide +kernel
theorem a_X4_crash_71 : ix_at mT_X4_crash 71 = some (.iadd, 1) := by decide +kernel
theorem a_X4_crash_72 : ix_at mT_X4_crash 72 = some (.invokevirtual 159, 3) := by decide +kernel
theorem a_X4_crash_75 : ix_at mT_X4_crash 75 = some (.iinc 3 1, 3) := by decide +kernel
theorem a_X4_crash_78 : ix_at mT_X4_crash 78 = some (.goto (-47), 3) := by decide +kernel
theorem a_X4_crash_81 : ix_at mT_X4_crash 81 = some (.iconst 0, 1) := by decide +kernel
theorem a_X4_crash_82 : ix_at mT_X4_crash 82 = some (.istore_n 3, 1) := by decide +kernel
theorem a_X4_crash_83 : ix_at mT_X4_crash 83 = some (.iload_n 3, 1) := by decide +kernel
theorem a_X4_crash_84 : ix_at mT_X4_crash 84 = some (.aload_n 0, 1) := by decide +kernel
theorem a_X4_crash_85 : ix_at mT_X4_crash 85 = some (.getfield 146, 3) := by decide +kernel
theorem a_X4_crash_88 : ix_at mT_X4_crash 88 = some (.if_icmp .ge 18, 3) := by decide +kernel
theorem a_X4_crash_91 : ix_at mT_X4_crash 91 = some (.aload_n 0, 1) := by decide +kernel
theorem a_X4_crash_92 : ix_at mT_X4_crash 92 = some (.getfield 26, 3) := by decide +kernel
theorem a_X4_crash_95 : ix_at mT_X4_crash 95 = some (.iload_n 3, 1) := by decide +kernel
theorem a_X4_crash_96 : ix_at mT_X4_crash 96 = some (.aaload, 1) := by decide +kernel
theorem a_X4_crash_97 : ix_at mT_X4_crash 97 = some (.invokevirtual 162, 3) := by decide +kernel
theorem a_X4_crash_100 : ix_at mT_X4_crash 100 = some (.iinc 3 1, 3) := by decide +kernel
theorem a_X4_crash_103 : ix_at mT_X4_crash 103 = some (.goto (-20), 3) := by decide +kernel
theorem a_X4_crash_106 : ix_at mT_X4_crash 106 = some (.aload_n 0, 1) := by decide +kernel
theorem a_X4_crash_107 : ix_at mT_X4_crash 107 = some (.getfield 36, 3) := by decide +kernel
theorem a_X4_crash_110 : ix_at mT_X4_crash 110 = some (.invokevirtual 145, 3) := by decide +kernel
theorem a_X4_crash_113 : ix_at mT_X4_crash 113 = some (.aload_n 0, 1) := by decide +kernel
theorem a_X4_crash_114 : ix_at mT_X4_crash 114 = some (.invokevirtual 165, 3) := by decide +kernel
theorem a_X4_crash_117 : ix_at mT_X4_crash 117 = some (.aload_n 0, 1) := by decide +kernel
theorem a_X4_crash_118 : ix_at mT_X4_crash 118 = some (.iconst 1, 1) := by decide +kernel
theorem a_X4_crash_119 : ix_at mT_X4_crash 119 = some (.putfield 63, 3) := by decide +kernel
theorem a_X4_crash_122 : ix_at mT_X4_crash 122 = some (.iload_n 2, 1) := by decide +kernel
theorem a_X4_crash_123 : ix_at mT_X4_crash 123 = some (.iload_n 1, 1) := by decide +kernel
theorem a_X4_crash_124 : ix_at mT_X4_crash 124 = some (.isub, 1) := by decide +kernel
theorem a_X4_crash_125 : ix_at mT_X4_crash 125 = some (.ireturn, 1) := by decide +kernel
theorem a_X4_open_0 : ix_at mT_X4_open 0 = some (.aload_n 0, 1) := by decide +kernel
theorem a_X4_open_1 : ix_at mT_X4_open 1 = some (.getfield 63, 3) := by decide +kernel
theorem a_X4_open_4 : ix_at mT_X4_open 4 = some (.ifCond .ne 5, 3) := by decide +kernel
theorem a_X4_open_7 : ix_at mT_X4_open 7 = some (.iconst (-1), 1) := by decide +kernel
theorem a_X4_open_8 : ix_at mT_X4_open 8 = some (.ireturn, 1) := by decide +kernel
theorem a_X4_open_9 : ix_at mT_X4_open 9 = some (.aload_n 0, 1) := by decide +kernel
theorem a_X4_open_10 : ix_at mT_X4_open 10 = some (.iconst 0, 1) := by decide +kernel
theorem a_X4_open_11 : ix_at mT_X4_open 11 = some (.putfield 63, 3) := by decide +kernel
theorem a_X4_open_14 : ix_at mT_X4_open 14 = some (.aload_n 0, 1) := by decide +kernel
theorem a_X4_open_15 : ix_at mT_X4_open 15 = some (.aload_n 0, 1) := by decide +kernel
theorem a_X4_open_16 : ix_at mT_X4_open 16 = some (.getfield 30, 3) := by decide +kernel
theorem a_X4_open_19 : ix_at mT_X4_open 19 = some (.getfield 56, 3) := by decide +kernel
theorem a_X4_open_22 : ix_at mT_X4_open 22 = some (.bipush 16, 2) := by decide +kernel
theorem a_X4_open_24 : ix_at mT_X4_open 24 = some (.irem, 1) := by decide +kernel
theorem a_X4_open_25 : ix_at mT_X4_open 25 = some (.putfield 168, 3) := by decide +kernel
theorem a_X4_open_28 : ix_at mT_X4_open 28 = some (.aload_n 0, 1) := by decide +kernel
theorem a_X4_open_29 : ix_at mT_X4_open 29 = some (.getfield 30, 3) := by decide +kernel
theorem a_X4_open_32 : ix_at mT_X4_open 32 = some (.aload_n 0, 1) := by decide +kernel
theorem a_X4_open_33 : ix_at mT_X4_open 33 = some (.getfield 30, 3) := by decide +kernel
theorem a_X4_open_36 : ix_at mT_X4_open 36 = some (.getfield 56, 3) := by decide +kernel
theorem a_X4_open_39 : ix_at mT_X4_open 39 = some (.aload_n 0, 1) := by decide +kernel
theorem a_X4_open_40 : ix_at mT_X4_open 40 = some (.getfield 168, 3) := by decide +kernel
theorem a_X4_open_43 : ix_at mT_X4_open 43 = some (.isub, 1) := by decide +kernel
theorem a_X4_open_44 : ix_at mT_X4_open 44 = some (.invokevirtual 159, 3) := by decide +kernel
theorem a_X4_open_47 : ix_at mT_X4_open 47 = some (.iconst 0, 1) := by decide +kernel
theorem a_X4_open_48 : ix_at mT_X4_open 48 = some (.istore_n 1, 1) := by decide +kernel
theorem a_X4_open_49 : ix_at mT_X4_open 49 = some (.iload_n 1, 1) := by decide +kernel
theorem a_X4_open_50 : ix_at mT_X4_open 50 = some (.aload_n 0, 1) := by decide +kernel
theorem a_X4_open_51 : ix_at mT_X4_open 51 = some (.getfield 146, 3) := by decide +kernel
theorem a_X4_open_54 : ix_at mT_X4_open 54 = some (.if_icmp .ge 27, 3) := by decide +kernel
theorem a_X4_open_57 : ix_at mT_X4_open 57 = some (.aload_n 0, 1) := by decide +kernel
theorem a_X4_open_58 : ix_at mT_X4_open 58 = some (.dup, 1) := by decide +kernel
theorem a_X4_open_59 : ix_at mT_X4_open 59 = some (.getfield 168, 3) := by decide +kernel
theorem a_X4_open_62 : ix_at mT_X4_open 62 = some (.aload_n 0, 1) := by decide +kernel
theorem a_X4_open_63 : ix_at mT_X4_open 63 = some (.getfield 26, 3) := by decide +kernel
theorem a_X4_open_66 : ix_at mT_X4_open 66 = some (.iload_n 1, 1) := by decide +kernel
theorem a_X4_open_67 : ix_at mT_X4_open 67 = some (.aaload, 1) := by decide +kernel
theorem a_X4_open_68 : ix_at mT_X4_open 68 = some (.invokevirtual 171, 3) := by decide +kernel
theorem a_X4_open_71 : ix_at mT_X4_open 71 = some (.iadd, 1) := by decide +kernel
theorem a_X4_open_72 : ix_at mT_X4_open 72 = some (.putfield 168, 3) := by decide +kernel
theorem a_X4_open_75 : ix_at mT_X4_open 75 = some (.iinc 1 1, 3) := by decide +kernel
theorem a_X4_open_78 : ix_at mT_X4_open 78 = some (.goto (-29), 3) := by decide +kernel
theorem a_X4_open_81 : ix_at mT_X4_open 81 = some (.iconst 0, 1) := by decide +kernel
theorem a_X4_open_82 : ix_at mT_X4_open 82 = some (.istore_n 1, 1) := by decide +kernel
theorem a_X4_open_83 : ix_at mT_X4_open 83 = some (.iload_n 1, 1) := by decide +kernel
theorem a_X4_open_84 : ix_at mT_X4_open 84 = some (.aload_n 0, 1) := by decide +kernel
theorem a_X4_open_85 : ix_at mT_X4_open 85 = some (.getfield 30, 3) := by decide +kernel
theorem a_X4_open_88 : ix_at mT_X4_open 88 = some (.getfield 56, 3) := by decide +kernel
theorem a_X4_open_91 : ix_at mT_X4_open 91 = some (.if_icmp .ge 14, 3) := by decide +kernel
theorem a_X4_open_94 : ix_at mT_X4_open 94 = some (.aload_n 0, 1) := by decide +kernel
theorem a_X4_open_95 : ix_at mT_X4_open 95 = some (.iload_n 1, 1) := by decide +kernel
theorem a_X4_open_96 : ix_at mT_X4_open 96 = some (.invokevirtual 174, 3) := by decide +kernel
theorem a_X4_open_99 : ix_at mT_X4_open 99 = some (.iinc 1 16, 3) := by decide +kernel
theorem a_X4_open_102 : ix_at mT_X4_open 102 = some (.goto (-19), 3) := by decide +kernel
theorem a_X4_open_105 : ix_at mT_X4_open 105 = some (.aload_n 0, 1) := by decide +kernel
theorem a_X4_open_106 : ix_at mT_X4_open 106 = some (.invokevirtual 177, 3) := by decide +kernel
theorem a_X4_open_109 : ix_at mT_X4_open 109 = some (.ireturn, 1) := by decide +kernel
theorem a_X4_partition_0 : ix_at mT_X4_partition 0 = some (.aload_n 0, 1) := by decide +kernel
theorem a_X4_partition_1 : ix_at mT_X4_partition 1 = some (.iload_n 1, 1) := by decide +kernel
theorem a_X4_partition_2 : ix_at mT_X4_partition 2 = some (.invokevirtual 125, 3) := by decide +kernel
theorem a_X4_partition_5 : ix_at mT_X4_partition 5 = some (.ifCond .ne 5, 3) := by decide +kernel
theorem a_X4_partition_8 : ix_at mT_X4_partition 8 = some (.iconst (-1), 1) := by decide +kernel
theorem a_X4_partition_9 : ix_at mT_X4_partition 9 = some (.ireturn, 1) := by decide +kernel
theorem a_X4_partition_10 : ix_at mT_X4_partition 10 = some (.aload_n 0, 1) := by decide +kernel
theorem a_X4_partition_11 : ix_at mT_X4_partition 11 = some (.getfield 26, 3) := by decide +kernel
theorem a_X4_partition_14 : ix_at mT_X4_partition 14 = some (.iload_n 1, 1) := by decide +kernel
theorem a_X4_partition_15 : ix_at mT_X4_partition 15 = some (.aaload, 1) := by decide +kernel
theorem a_X4_partition_16 : ix_at mT_X4_partition 16 = some (.astore_n 3, 1) := by decide +kernel
theorem a_X4_partition_17 : ix_at mT_X4_partition 17 = some (.iload_n 2, 1) := by decide +kernel
theorem a_X4_partition_18 : ix_at mT_X4_partition 18 = some (.tableswitch 109 0 5 #[38, 43, 59, 67, 76, 92], 38) := by decide +kernel
theorem a_X4_partition_56 : ix_at mT_X4_partition 56 = some (.aload_n 3, 1) := by decide +kernel
theorem a_X4_partition_57 : ix_at mT_X4_partition 57 = some (.getfield 180, 3) := by decide +kernel
theorem a_X4_partition_60 : ix_at mT_X4_partition 60 = some (.ireturn, 1) := by decide +kernel
theorem a_X4_partition_61 : ix_at mT_X4_partition 61 = some (.aload_n 0, 1) := by decide +kernel
theorem a_X4_partition_62 : ix_at mT_X4_partition 62 = some (.getfield 63, 3) := by decide +kernel
theorem a_X4_partition_65 : ix_at mT_X4_partition 65 = some (.ifCond .eq 7, 3) := by decide +kernel
theorem a_X4_partition_68 : ix_at mT_X4_partition 68 = some (.iconst (-1), 1) := by decide +kernel
theorem a_X4_partition_69 : ix_at mT_X4_partition 69 = some (.goto 7, 3) := by decide +kernel
theorem a_X4_partition_72 : ix_at mT_X4_partition 72 = some (.aload_n 3, 1) := by decide +kernel
theorem a_X4_partition_73 : ix_at mT_X4_partition 73 = some (.invokevirtual 183, 3) := by decide +kernel
theorem a_X4_partition_76 : ix_at mT_X4_partition 76 = some (.ireturn, 1) := by decide +kernel
theorem a_X4_partition_77 : ix_at mT_X4_partition 77 = some (.aload_n 3, 1) := by decide +kernel
theorem a_X4_partition_78 : ix_at mT_X4_partition 78 = some (.getfield 186, 3) := by decide +kernel
theorem a_X4_partition_81 : ix_at mT_X4_partition 81 = some (.getfield 56, 3) := by decide +kernel
theorem a_X4_partition_84 : ix_at mT_X4_partition 84 = some (.ireturn, 1) := by decide +kernel
theorem a_X4_partition_85 : ix_at mT_X4_partition 85 = some (.aload_n 0, 1) := by decide +kernel
theorem a_X4_partition_86 : ix_at mT_X4_partition 86 = some (.getfield 36, 3) := by decide +kernel
theorem a_X4_partition_89 : ix_at mT_X4_partition 89 = some (.iload_n 1, 1) := by decide +kernel
theorem a_X4_partition_90 : ix_at mT_X4_partition 90 = some (.invokevirtual 153, 3) := by decide +kernel
theorem a_X4_partition_93 : ix_at mT_X4_partition 93 = some (.ireturn, 1) := by decide +kernel
theorem a_X4_partition_94 : ix_at mT_X4_partition 94 = some (.aload_n 0, 1) := by decide +kernel
theorem a_X4_partition_95 : ix_at mT_X4_partition 95 = some (.getfield 63, 3) := by decide +kernel
theorem a_X4_partition_98 : ix_at mT_X4_partition 98 = some (.ifCond .eq 7, 3) := by decide +kernel
theorem a_X4_partition_101 : ix_at mT_X4_partition 101 = some (.iconst (-1), 1) := by decide +kernel
theorem a_X4_partition_102 : ix_at mT_X4_partition 102 = some (.goto 7, 3) := by decide +kernel
theorem a_X4_partition_105 : ix_at mT_X4_partition 105 = some (.aload_n 3, 1) := by decide +kernel
theorem a_X4_partition_106 : ix_at mT_X4_partition 106 = some (.invokevirtual 189, 3) := by decide +kernel
theorem a_X4_partition_109 : ix_at mT_X4_partition 109 = some (.ireturn, 1) := by decide +kernel
theorem a_X4_partition_110 : ix_at mT_X4_partition 110 = some (.aload_n 0, 1) := by decide +kernel
theorem a_X4_partition_111 : ix_at mT_X4_partition 111 = some (.getfield 63, 3) := by decide +kernel
theorem a_X4_partition_114 : ix_at mT_X4_partition 114 = some (.ifCond .eq 7, 3) := by decide +kernel
theorem a_X4_partition_117 : ix_at mT_X4_partition 117 = some (.iconst (-1), 1) := by decide +kernel
theorem a_X4_partition_118 : ix_at mT_X4_partition 118 = some (.goto 8, 3) := by decide +kernel
theorem a_X4_partition_121 : ix_at mT_X4_partition 121 = some (.aload_n 0, 1) := by decide +kernel
theorem a_X4_partition_122 : ix_at mT_X4_partition 122 = some (.iload_n 1, 1) := by decide +kernel
theorem a_X4_partition_123 : ix_at mT_X4_partition 123 = some (.invokevirtual 192, 3) := by decide +kernel
theorem a_X4_partition_126 : ix_at mT_X4_partition 126 = some (.ireturn, 1) := by decide +kernel
theorem a_X4_partition_127 : ix_at mT_X4_partition 127 = some (.iconst (-1), 1) := by decide +kernel
theorem a_X4_partition_128 : ix_at mT_X4_partition 128 = some (.ireturn, 1) := by decide +kernel
theorem a_X4_entry_0 : ix_at mT_X4_entry 0 = some (.aload_n 0, 1) := by decide +kernel
theorem a_X4_entry_1 : ix_at mT_X4_entry 1 = some (.iload_n 1, 1) := by decide +kernel
theorem a_X4_entry_2 : ix_at mT_X4_entry 2 = some (.invokevirtual 125, 3) := by decide +kernel
theorem a_X4_entry_5 : ix_at mT_X4_entry 5 = some (.ifCond .eq 16, 3) := by decide +kernel
theorem a_X4_entry_8 : ix_at mT_X4_entry 8 = some (.aload_n 0, 1) := by decide +kernel
theorem a_X4_entry_9 : ix_at mT_X4_entry 9 = some (.getfield 26, 3) := by decide +kernel
theorem a_X4_entry_12 : ix_at mT_X4_entry 12 = some (.iload_n 1, 1) := by decide +kernel
theorem a_X4_entry_13 : ix_at mT_X4_entry 13 = some (.aaload, 1) := by decide +kernel
theorem a_X4_entry_14 : ix_at mT_X4_entry 14 = some (.iload_n 2, 1) := by decide +kernel
theorem a_X4_entry_15 : ix_at mT_X4_entry 15 = some (.invokevirtual 195, 3) := by decide +kernel
theorem a_X4_entry_18 : ix_at mT_X4_entry 18 = some (.ifCond .ne 5, 3) := by decide +kernel
theorem a_X4_entry_21 : ix_at mT_X4_entry 21 = some (.iconst (-1), 1) := by decide +kernel
theorem a_X4_entry_22 : ix_at mT_X4_entry 22 = some (.ireturn, 1) := by decide +kernel
theorem a_X4_entry_23 : ix_at mT_X4_entry 23 = some (.aload_n 0, 1) := by decide +kernel
theorem a_X4_entry_24 : ix_at mT_X4_entry 24 = some (.getfield 26, 3) := by decide +kernel
theorem a_X4_entry_27 : ix_at mT_X4_entry 27 = some (.iload_n 1, 1) := by decide +kernel
theorem a_X4_entry_28 : ix_at mT_X4_entry 28 = some (.aaload, 1) := by decide +kernel
theorem a_X4_entry_29 : ix_at mT_X4_entry 29 = some (.astore 4, 2) := by decide +kernel
theorem a_X4_entry_31 : ix_at mT_X4_entry 31 = some (.iload_n 3, 1) := by decide +kernel
theorem a_X4_entry_32 : ix_at mT_X4_entry 32 = some (.tableswitch 85 0 4 #[36, 46, 56, 66, 76], 36) := by decide +kernel
theorem a_X4_entry_68 : ix_at mT_X4_entry 68 = some (.aload 4, 2) := by decide +kernel
theorem a_X4_entry_70 : ix_at mT_X4_entry 70 = some (.iload_n 2, 1) := by decide +kernel
theorem a_X4_entry_71 : ix_at mT_X4_entry 71 = some (.bipush 6, 2) := by decide +kernel
theorem a_X4_entry_73 : ix_at mT_X4_entry 73 = some (.iconst 1, 1) := by decide +kernel
theorem a_X4_entry_74 : ix_at mT_X4_entry 74 = some (.invokevirtual 198, 3) := by decide +kernel
theorem a_X4_entry_77 : ix_at mT_X4_entry 77 = some (.ireturn, 1) := by decide +kernel
theorem a_X4_entry_78 : ix_at mT_X4_entry 78 = some (.aload 4, 2) := by decide +kernel
theorem a_X4_entry_80 : ix_at mT_X4_entry 80 = some (.iload_n 2, 1) := by decide +kernel
theorem a_X4_entry_81 : ix_at mT_X4_entry 81 = some (.bipush 7, 2) := by decide +kernel
theorem a_X4_entry_83 : ix_at mT_X4_entry 83 = some (.iconst 1, 1) := by decide +kernel
theorem a_X4_entry_84 : ix_at mT_X4_entry 84 = some (.invokevirtual 198, 3) := by decide +kernel
theorem a_X4_entry_87 : ix_at mT_X4_entry 87 = some (.ireturn, 1) := by decide +kernel
theorem a_X4_entry_88 : ix_at mT_X4_entry 88 = some (.aload 4, 2) := by decide +kernel
theorem a_X4_entry_90 : ix_at mT_X4_entry 90 = some (.iload_n 2, 1) := by decide +kernel
theorem a_X4_entry_91 : ix_at mT_X4_entry 91 = some (.bipush 8, 2) := by decide +kernel
theorem a_X4_entry_93 : ix_at mT_X4_entry 93 = some (.iconst 2, 1) := by decide +kernel
theorem a_X4_entry_94 : ix_at mT_X4_entry 94 = some (.invokevirtual 198, 3) := by decide +kernel
theorem a_X4_entry_97 : ix_at mT_X4_entry 97 = some (.ireturn, 1) := by decide +kernel
theorem a_X4_entry_98 : ix_at mT_X4_entry 98 = some (.aload 4, 2) := by decide +kernel
theorem a_X4_entry_100 : ix_at mT_X4_entry 100 = some (.iload_n 2, 1) := by decide +kernel
theorem a_X4_entry_101 : ix_at mT_X4_entry 101 = some (.bipush 10, 2) := by decide +kernel
theorem a_X4_entry_103 : ix_at mT_X4_entry 103 = some (.iconst 4, 1) := by decide +kernel
theorem a_X4_entry_104 : ix_at mT_X4_entry 104 = some (.invokevirtual 198, 3) := by decide +kernel
theorem a_X4_entry_107 : ix_at mT_X4_entry 107 = some (.ireturn, 1) := by decide +kernel
theorem a_X4_entry_108 : ix_at mT_X4_entry 108 = some (.aload 4, 2) := by decide +kernel
theorem a_X4_entry_110 : ix_at mT_X4_entry 110 = some (.iload_n 2, 1) := by decide +kernel
theorem a_X4_entry_111 : ix_at mT_X4_entry 111 = some (.iconst 4, 1) := by decide +kernel
theorem a_X4_entry_112 : ix_at mT_X4_entry 112 = some (.iconst 2, 1) := by decide +kernel
theorem a_X4_entry_113 : ix_at mT_X4_entry 113 = some (.invokevirtual 198, 3) := by decide +kernel
theorem a_X4_entry_116 : ix_at mT_X4_entry 116 = some (.ireturn, 1) := by decide +kernel
theorem a_X4_entry_117 : ix_at mT_X4_entry 117 = some (.iconst (-1), 1) := by decide +kernel
theorem a_X4_entry_118 : ix_at mT_X4_entry 118 = some (.ireturn, 1) := by decide +kernel
theorem a_X4_producer_0 : ix_at mT_X4_producer 0 = some (.aload_n 0, 1) := by decide +kernel
theorem a_X4_producer_1 : ix_at mT_X4_producer 1 = some (.getfield 63, 3) := by decide +kernel
theorem a_X4_producer_4 : ix_at mT_X4_producer 4 = some (.ifCond .ne 11, 3) := by decide +kernel
theorem a_X4_producer_7 : ix_at mT_X4_producer 7 = some (.aload_n 0, 1) := by decide +kernel
theorem a_X4_producer_8 : ix_at mT_X4_producer 8 = some (.iload_n 1, 1) := by decide +kernel
theorem a_X4_producer_9 : ix_at mT_X4_producer 9 = some (.invokevirtual 202, 3) := by decide +kernel
theorem a_X4_producer_12 : ix_at mT_X4_producer 12 = some (.ifCond .ne 5, 3) := by decide +kernel
theorem a_X4_producer_15 : ix_at mT_X4_producer 15 = some (.iconst (-1), 1) := by decide +kernel
theorem a_X4_producer_16 : ix_at mT_X4_producer 16 = some (.ireturn, 1) := by decide +kernel
theorem a_X4_producer_17 : ix_at mT_X4_producer 17 = some (.aload_n 0, 1) := by decide +kernel
theorem a_X4_producer_18 : ix_at mT_X4_producer 18 = some (.getfield 42, 3) := by decide +kernel
theorem a_X4_producer_21 : ix_at mT_X4_producer 21 = some (.iload_n 1, 1) := by decide +kernel
theorem a_X4_producer_22 : ix_at mT_X4_producer 22 = some (.aaload, 1) := by decide +kernel
theorem a_X4_producer_23 : ix_at mT_X4_producer 23 = some (.astore_n 3, 1) := by decide +kernel
theorem a_X4_producer_24 : ix_at mT_X4_producer 24 = some (.iload_n 2, 1) := by decide +kernel
theorem a_X4_producer_25 : ix_at mT_X4_producer 25 = some (.tableswitch 60 0 4 #[35, 40, 45, 50, 55], 35) := by decide +kernel
theorem a_X4_producer_60 : ix_at mT_X4_producer 60 = some (.aload_n 3, 1) := by decide +kernel
theorem a_X4_producer_61 : ix_at mT_X4_producer 61 = some (.getfield 88, 3) := by decide +kernel
theorem a_X4_producer_64 : ix_at mT_X4_producer 64 = some (.ireturn, 1) := by decide +kernel
theorem a_X4_producer_65 : ix_at mT_X4_producer 65 = some (.aload_n 3, 1) := by decide +kernel
theorem a_X4_producer_66 : ix_at mT_X4_producer 66 = some (.getfield 205, 3) := by decide +kernel
theorem a_X4_producer_69 : ix_at mT_X4_producer 69 = some (.ireturn, 1) := by decide +kernel
theorem a_X4_producer_70 : ix_at mT_X4_producer 70 = some (.aload_n 3, 1) := by decide +kernel
theorem a_X4_producer_71 : ix_at mT_X4_producer 71 = some (.getfield 208, 3) := by decide +kernel
theorem a_X4_producer_74 : ix_at mT_X4_producer 74 = some (.ireturn, 1) := by decide +kernel
theorem a_X4_producer_75 : ix_at mT_X4_producer 75 = some (.aload_n 3, 1) := by decide +kernel
theorem a_X4_producer_76 : ix_at mT_X4_producer 76 = some (.getfield 211, 3) := by decide +kernel
theorem a_X4_producer_79 : ix_at mT_X4_producer 79 = some (.ireturn, 1) := by decide +kernel
theorem a_X4_producer_80 : ix_at mT_X4_producer 80 = some (.aload_n 3, 1) := by decide +kernel
theorem a_X4_producer_81 : ix_at mT_X4_producer 81 = some (.getfield 214, 3) := by decide +kernel
theorem a_X4_producer_84 : ix_at mT_X4_producer 84 = some (.ireturn, 1) := by decide +kernel
theorem a_X4_producer_85 : ix_at mT_X4_producer 85 = some (.iconst (-1), 1) := by decide +kernel
theorem a_X4_producer_86 : ix_at mT_X4_producer 86 = some (.ireturn, 1) := by decide +kernel
theorem a_X4_next_0 : ix_at mT_X4_next 0 = some (.aload_n 0, 1) := by decide +kernel
theorem a_X4_next_1 : ix_at mT_X4_next 1 = some (.getfield 63, 3) := by decide +kernel
theorem a_X4_next_4 : ix_at mT_X4_next 4 = some (.ifCond .ne 19, 3) := by decide +kernel
theorem a_X4_next_7 : ix_at mT_X4_next 7 = some (.aload_n 0, 1) := by decide +kernel
theorem a_X4_next_8 : ix_at mT_X4_next 8 = some (.iload_n 1, 1) := by decide +kernel
theorem a_X4_next_9 : ix_at mT_X4_next 9 = some (.invokevirtual 202, 3) := by decide +kernel
theorem a_X4_next_12 : ix_at mT_X4_next 12 = some (.ifCond .eq 11, 3) := by decide +kernel
theorem a_X4_next_15 : ix_at mT_X4_next 15 = some (.aload_n 0, 1) := by decide +kernel
theorem a_X4_next_16 : ix_at mT_X4_next 16 = some (.iload_n 2, 1) := by decide +kernel
theorem a_X4_next_17 : ix_at mT_X4_next 17 = some (.invokevirtual 125, 3) := by decide +kernel
theorem a_X4_next_20 : ix_at mT_X4_next 20 = some (.ifCond .ne 5, 3) := by decide +kernel
theorem a_X4_next_23 : ix_at mT_X4_next 23 = some (.iconst (-1), 1) := by decide +kernel
theorem a_X4_next_24 : ix_at mT_X4_next 24 = some (.ireturn, 1) := by decide +kernel
theorem a_X4_next_25 : ix_at mT_X4_next 25 = some (.aload_n 0, 1) := by decide +kernel
theorem a_X4_next_26 : ix_at mT_X4_next 26 = some (.getfield 26, 3) := by decide +kernel
theorem a_X4_next_29 : ix_at mT_X4_next 29 = some (.iload_n 2, 1) := by decide +kernel
theorem a_X4_next_30 : ix_at mT_X4_next 30 = some (.aaload, 1) := by decide +kernel
theorem a_X4_next_31 : ix_at mT_X4_next 31 = some (.iload_n 1, 1) := by decide +kernel
theorem a_X4_next_32 : ix_at mT_X4_next 32 = some (.aload_n 0, 1) := by decide +kernel
theorem a_X4_next_33 : ix_at mT_X4_next 33 = some (.getfield 42, 3) := by decide +kernel
theorem a_X4_next_36 : ix_at mT_X4_next 36 = some (.iload_n 1, 1) := by decide +kernel
theorem a_X4_next_37 : ix_at mT_X4_next 37 = some (.aaload, 1) := by decide +kernel
theorem a_X4_next_38 : ix_at mT_X4_next 38 = some (.getfield 88, 3) := by decide +kernel
theorem a_X4_next_41 : ix_at mT_X4_next 41 = some (.invokevirtual 217, 3) := by decide +kernel
theorem a_X4_next_44 : ix_at mT_X4_next 44 = some (.ireturn, 1) := by decide +kernel
theorem a_X4_byteOf_0 : ix_at mT_X4_byteOf 0 = some (.iload_n 1, 1) := by decide +kernel
theorem a_X4_byteOf_1 : ix_at mT_X4_byteOf 1 = some (.ifCond .lt 11, 3) := by decide +kernel
theorem a_X4_byteOf_4 : ix_at mT_X4_byteOf 4 = some (.iload_n 1, 1) := by decide +kernel
theorem a_X4_byteOf_5 : ix_at mT_X4_byteOf 5 = some (.aload_n 0, 1) := by decide +kernel
theorem a_X4_byteOf_6 : ix_at mT_X4_byteOf 6 = some (.getfield 146, 3) := by decide +kernel
theorem a_X4_byteOf_9 : ix_at mT_X4_byteOf 9 = some (.if_icmp .le 5, 3) := by decide +kernel
theorem a_X4_byteOf_12 : ix_at mT_X4_byteOf 12 = some (.iconst (-1), 1) := by decide +kernel
theorem a_X4_byteOf_13 : ix_at mT_X4_byteOf 13 = some (.ireturn, 1) := by decide +kernel
theorem a_X4_byteOf_14 : ix_at mT_X4_byteOf 14 = some (.aload_n 0, 1) := by decide +kernel
theorem a_X4_byteOf_15 : ix_at mT_X4_byteOf 15 = some (.iload_n 1, 1) := by decide +kernel
theorem a_X4_byteOf_16 : ix_at mT_X4_byteOf 16 = some (.invokevirtual 149, 3) := by decide +kernel
theorem a_X4_byteOf_19 : ix_at mT_X4_byteOf 19 = some (.iload_n 2, 1) := by decide +kernel
theorem a_X4_byteOf_20 : ix_at mT_X4_byteOf 20 = some (.invokevirtual 139, 3) := by decide +kernel
theorem a_X4_byteOf_23 : ix_at mT_X4_byteOf 23 = some (.ireturn, 1) := by decide +kernel
theorem a_X4_count_0 : ix_at mT_X4_count 0 = some (.iload_n 1, 1) := by decide +kernel
theorem a_X4_count_1 : ix_at mT_X4_count 1 = some (.tableswitch 173 0 11 #[63, 68, 73, 78, 83, 91, 99, 107, 120, 125, 141, 157], 63) := by decide +kernel
theorem a_X4_count_64 : ix_at mT_X4_count 64 = some (.aload_n 0, 1) := by decide +kernel
theorem a_X4_count_65 : ix_at mT_X4_count 65 = some (.getfield 146, 3) := by decide +kernel
theorem a_X4_count_68 : ix_at mT_X4_count 68 = some (.ireturn, 1) := by decide +kernel
theorem a_X4_count_69 : ix_at mT_X4_count 69 = some (.aload_n 0, 1) := by decide +kernel
theorem a_X4_count_70 : ix_at mT_X4_count 70 = some (.getfield 220, 3) := by decide +kernel
theorem a_X4_count_73 : ix_at mT_X4_count 73 = some (.ireturn, 1) := by decide +kernel
theorem a_X4_count_74 : ix_at mT_X4_count 74 = some (.aload_n 0, 1) := by decide +kernel
theorem a_X4_count_75 : ix_at mT_X4_count 75 = some (.getfield 223, 3) := by decide +kernel
theorem a_X4_count_78 : ix_at mT_X4_count 78 = some (.ireturn, 1) := by decide +kernel
theorem a_X4_count_79 : ix_at mT_X4_count 79 = some (.aload_n 0, 1) := by decide +kernel
theorem a_X4_count_80 : ix_at mT_X4_count 80 = some (.getfield 98, 3) := by decide +kernel
theorem a_X4_count_83 : ix_at mT_X4_count 83 = some (.ireturn, 1) := by decide +kernel
theorem a_X4_count_84 : ix_at mT_X4_count 84 = some (.aload_n 0, 1) := by decide +kernel
theorem a_X4_count_85 : ix_at mT_X4_count 85 = some (.getfield 36, 3) := by decide +kernel
theorem a_X4_count_88 : ix_at mT_X4_count 88 = some (.getfield 142, 3) := by decide +kernel
theorem a_X4_count_91 : ix_at mT_X4_count 91 = some (.ireturn, 1) := by decide +kernel
theorem a_X4_count_92 : ix_at mT_X4_count 92 = some (.aload_n 0, 1) := by decide +kernel
theorem a_X4_count_93 : ix_at mT_X4_count 93 = some (.getfield 30, 3) := by decide +kernel
theorem a_X4_count_96 : ix_at mT_X4_count 96 = some (.getfield 56, 3) := by decide +kernel
theorem a_X4_count_99 : ix_at mT_X4_count 99 = some (.ireturn, 1) := by decide +kernel
theorem a_X4_count_100 : ix_at mT_X4_count 100 = some (.aload_n 0, 1) := by decide +kernel
theorem a_X4_count_101 : ix_at mT_X4_count 101 = some (.getfield 14, 3) := by decide +kernel
theorem a_X4_count_104 : ix_at mT_X4_count 104 = some (.getfield 56, 3) := by decide +kernel
theorem a_X4_count_107 : ix_at mT_X4_count 107 = some (.ireturn, 1) := by decide +kernel
theorem a_X4_count_108 : ix_at mT_X4_count 108 = some (.aload_n 0, 1) := by decide +kernel
theorem a_X4_count_109 : ix_at mT_X4_count 109 = some (.getfield 63, 3) := by decide +kernel
theorem a_X4_count_112 : ix_at mT_X4_count 112 = some (.ifCond .eq 7, 3) := by decide +kernel
theorem a_X4_count_115 : ix_at mT_X4_count 115 = some (.iconst 1, 1) := by decide +kernel
theorem a_X4_count_116 : ix_at mT_X4_count 116 = some (.goto 4, 3) := by decide +kernel
theorem a_X4_count_119 : ix_at mT_X4_count 119 = some (.iconst 0, 1) := by decide +kernel
theorem a_X4_count_120 : ix_at mT_X4_count 120 = some (.ireturn, 1) := by decide +kernel
theorem a_X4_count_121 : ix_at mT_X4_count 121 = some (.aload_n 0, 1) := by decide +kernel
theorem a_X4_count_122 : ix_at mT_X4_count 122 = some (.getfield 168, 3) := by decide +kernel
theorem a_X4_count_125 : ix_at mT_X4_count 125 = some (.ireturn, 1) := by decide +kernel
theorem a_X4_count_126 : ix_at mT_X4_count 126 = some (.aload_n 0, 1) := by decide +kernel
theorem a_X4_count_127 : ix_at mT_X4_count 127 = some (.getfield 63, 3) := by decide +kernel
theorem a_X4_count_130 : ix_at mT_X4_count 130 = some (.ifCond .eq 7, 3) := by decide +kernel
theorem a_X4_count_133 : ix_at mT_X4_count 133 = some (.iconst (-1), 1) := by decide +kernel
theorem a_X4_count_134 : ix_at mT_X4_count 134 = some (.goto 7, 3) := by decide +kernel
theorem a_X4_count_137 : ix_at mT_X4_count 137 = some (.aload_n 0, 1) := by decide +kernel
theorem a_X4_count_138 : ix_at mT_X4_count 138 = some (.invokevirtual 226, 3) := by decide +kernel
theorem a_X4_count_141 : ix_at mT_X4_count 141 = some (.ireturn, 1) := by decide +kernel
theorem a_X4_count_142 : ix_at mT_X4_count 142 = some (.aload_n 0, 1) := by decide +kernel
theorem a_X4_count_143 : ix_at mT_X4_count 143 = some (.getfield 63, 3) := by decide +kernel
theorem a_X4_count_146 : ix_at mT_X4_count 146 = some (.ifCond .eq 7, 3) := by decide +kernel
theorem a_X4_count_149 : ix_at mT_X4_count 149 = some (.iconst (-1), 1) := by decide +kernel
theorem a_X4_count_150 : ix_at mT_X4_count 150 = some (.goto 7, 3) := by decide +kernel
theorem a_X4_count_153 : ix_at mT_X4_count 153 = some (.aload_n 0, 1) := by decide +kernel
theorem a_X4_count_154 : ix_at mT_X4_count 154 = some (.invokevirtual 229, 3) := by decide +kernel
theorem a_X4_count_157 : ix_at mT_X4_count 157 = some (.ireturn, 1) := by decide +kernel
theorem a_X4_count_158 : ix_at mT_X4_count 158 = some (.aload_n 0, 1) := by decide +kernel
theorem a_X4_count_159 : ix_at mT_X4_count 159 = some (.getfield 63, 3) := by decide +kernel
theorem a_X4_count_162 : ix_at mT_X4_count 162 = some (.ifCond .eq 7, 3) := by decide +kernel
theorem a_X4_count_165 : ix_at mT_X4_count 165 = some (.iconst (-1), 1) := by decide +kernel
theorem a_X4_count_166 : ix_at mT_X4_count 166 = some (.goto 7, 3) := by decide +kernel
theorem a_X4_count_169 : ix_at mT_X4_count 169 = some (.aload_n 0, 1) := by decide +kernel
theorem a_X4_count_170 : ix_at mT_X4_count 170 = some (.getfield 95, 3) := by decide +kernel
theorem a_X4_count_173 : ix_at mT_X4_count 173 = some (.ireturn, 1) := by decide +kernel
theorem a_X4_count_174 : ix_at mT_X4_count 174 = some (.iconst (-1), 1) := by decide +kernel
theorem a_X4_count_175 : ix_at mT_X4_count 175 = some (.ireturn, 1) := by decide +kernel
theorem a_X4_build_0 : ix_at mT_X4_build 0 = some (.aload_n 0, 1) := by decide +kernel
theorem a_X4_build_1 : ix_at mT_X4_build 1 = some (.iload_n 1, 1) := by decide +kernel
theorem a_X4_build_2 : ix_at mT_X4_build 2 = some (.putfield 146, 3) := by decide +kernel
theorem a_X4_build_5 : ix_at mT_X4_build 5 = some (.aload_n 0, 1) := by decide +kernel
theorem a_X4_build_6 : ix_at mT_X4_build 6 = some (.iload_n 2, 1) := by decide +kernel
theorem a_X4_build_7 : ix_at mT_X4_build 7 = some (.putfield 220, 3) := by decide +kernel
theorem a_X4_build_10 : ix_at mT_X4_build 10 = some (.aload_n 0, 1) := by decide +kernel
theorem a_X4_build_11 : ix_at mT_X4_build 11 = some (.iload_n 3, 1) := by decide +kernel
theorem a_X4_build_12 : ix_at mT_X4_build 12 = some (.putfield 223, 3) := by decide +kernel
theorem a_X4_build_15 : ix_at mT_X4_build 15 = some (.aload_n 0, 1) := by decide +kernel
theorem a_X4_build_16 : ix_at mT_X4_build 16 = some (.iconst 0, 1) := by decide +kernel
theorem a_X4_build_17 : ix_at mT_X4_build 17 = some (.putfield 98, 3) := by decide +kernel
theorem a_X4_build_20 : ix_at mT_X4_build 20 = some (.aload_n 0, 1) := by decide +kernel
theorem a_X4_build_21 : ix_at mT_X4_build 21 = some (.iconst 0, 1) := by decide +kernel
theorem a_X4_build_22 : ix_at mT_X4_build 22 = some (.putfield 63, 3) := by decide +kernel
theorem a_X4_build_25 : ix_at mT_X4_build 25 = some (.aload_n 0, 1) := by decide +kernel
theorem a_X4_build_26 : ix_at mT_X4_build 26 = some (.iconst 0, 1) := by decide +kernel
theorem a_X4_build_27 : ix_at mT_X4_build 27 = some (.putfield 168, 3) := by decide +kernel
theorem a_X4_build_30 : ix_at mT_X4_build 30 = some (.iconst 0, 1) := by decide +kernel
theorem a_X4_build_31 : ix_at mT_X4_build 31 = some (.istore 4, 2) := by decide +kernel
theorem a_X4_build_33 : ix_at mT_X4_build 33 = some (.iload 4, 2) := by decide +kernel
theorem a_X4_build_35 : ix_at mT_X4_build 35 = some (.bipush 8, 2) := by decide +kernel
theorem a_X4_build_37 : ix_at mT_X4_build 37 = some (.if_icmp .ge 19, 3) := by decide +kernel
theorem a_X4_build_40 : ix_at mT_X4_build 40 = some (.aload_n 0, 1) := by decide +kernel
theorem a_X4_build_41 : ix_at mT_X4_build 41 = some (.getfield 26, 3) := by decide +kernel
theorem a_X4_build_44 : ix_at mT_X4_build 44 = some (.iload 4, 2) := by decide +kernel
theorem a_X4_build_46 : ix_at mT_X4_build 46 = some (.aaload, 1) := by decide +kernel
theorem a_X4_build_47 : ix_at mT_X4_build 47 = some (.invokevirtual 232, 3) := by decide +kernel
theorem a_X4_build_50 : ix_at mT_X4_build 50 = some (.iinc 4 1, 3) := by decide +kernel
theorem a_X4_build_53 : ix_at mT_X4_build 53 = some (.goto (-20), 3) := by decide +kernel
theorem a_X4_build_56 : ix_at mT_X4_build 56 = some (.aload_n 0, 1) := by decide +kernel
theorem a_X4_build_57 : ix_at mT_X4_build 57 = some (.getfield 30, 3) := by decide +kernel
theorem a_X4_build_60 : ix_at mT_X4_build 60 = some (.invokevirtual 109, 3) := by decide +kernel
theorem a_X4_build_63 : ix_at mT_X4_build 63 = some (.aload_n 0, 1) := by decide +kernel
theorem a_X4_build_64 : ix_at mT_X4_build 64 = some (.getfield 36, 3) := by decide +kernel
theorem a_X4_build_67 : ix_at mT_X4_build 67 = some (.invokevirtual 145, 3) := by decide +kernel
theorem a_X4_build_70 : ix_at mT_X4_build 70 = some (.aload_n 0, 1) := by decide +kernel
theorem a_X4_build_71 : ix_at mT_X4_build 71 = some (.getfield 18, 3) := by decide +kernel
theorem a_X4_build_74 : ix_at mT_X4_build 74 = some (.invokevirtual 109, 3) := by decide +kernel
theorem a_X4_build_77 : ix_at mT_X4_build 77 = some (.aload_n 0, 1) := by decide +kernel
theorem a_X4_build_78 : ix_at mT_X4_build 78 = some (.invokevirtual 165, 3) := by decide +kernel
theorem a_X4_build_81 : ix_at mT_X4_build 81 = some (.return_, 1) := by decide +kernel
theorem a_X4_forget_0 : ix_at mT_X4_forget 0 = some (.iconst 0, 1) := by decide +kernel
theorem a_X4_forget_1 : ix_at mT_X4_forget 1 = some (.istore_n 1, 1) := by decide +kernel
theorem a_X4_forget_2 : ix_at mT_X4_forget 2 = some (.iload_n 1, 1) := by decide +kernel
theorem a_X4_forget_3 : ix_at mT_X4_forget 3 = some (.bipush 32, 2) := by decide +kernel
theorem a_X4_forget_5 : ix_at mT_X4_forget 5 = some (.if_icmp .ge 18, 3) := by decide +kernel
theorem a_X4_forget_8 : ix_at mT_X4_forget 8 = some (.aload_n 0, 1) := by decide +kernel
theorem a_X4_forget_9 : ix_at mT_X4_forget 9 = some (.getfield 42, 3) := by decide +kernel
theorem a_X4_forget_12 : ix_at mT_X4_forget 12 = some (.iload_n 1, 1) := by decide +kernel
theorem a_X4_forget_13 : ix_at mT_X4_forget 13 = some (.aaload, 1) := by decide +kernel
theorem a_X4_forget_14 : ix_at mT_X4_forget 14 = some (.invokevirtual 233, 3) := by decide +kernel
theorem a_X4_forget_17 : ix_at mT_X4_forget 17 = some (.iinc 1 1, 3) := by decide +kernel
theorem a_X4_forget_20 : ix_at mT_X4_forget 20 = some (.goto (-18), 3) := by decide +kernel
theorem a_X4_forget_23 : ix_at mT_X4_forget 23 = some (.aload_n 0, 1) := by decide +kernel
theorem a_X4_forget_24 : ix_at mT_X4_forget 24 = some (.getfield 46, 3) := by decide +kernel
theorem a_X4_forget_27 : ix_at mT_X4_forget 27 = some (.iconst (-1), 1) := by decide +kernel
theorem a_X4_forget_28 : ix_at mT_X4_forget 28 = some (.invokestatic 234, 3) := by decide +kernel
theorem a_X4_forget_31 : ix_at mT_X4_forget 31 = some (.aload_n 0, 1) := by decide +kernel
theorem a_X4_forget_32 : ix_at mT_X4_forget 32 = some (.iconst 0, 1) := by decide +kernel
theorem a_X4_forget_33 : ix_at mT_X4_forget 33 = some (.putfield 95, 3) := by decide +kernel
theorem a_X4_forget_36 : ix_at mT_X4_forget 36 = some (.return_, 1) := by decide +kernel
theorem a_X4_isKey_0 : ix_at mT_X4_isKey 0 = some (.iload_n 1, 1) := by decide +kernel
theorem a_X4_isKey_1 : ix_at mT_X4_isKey 1 = some (.ifCond .lt 13, 3) := by decide +kernel
theorem a_X4_isKey_4 : ix_at mT_X4_isKey 4 = some (.iload_n 1, 1) := by decide +kernel
theorem a_X4_isKey_5 : ix_at mT_X4_isKey 5 = some (.bipush 32, 2) := by decide +kernel
theorem a_X4_isKey_7 : ix_at mT_X4_isKey 7 = some (.if_icmp .ge 7, 3) := by decide +kernel
theorem a_X4_isKey_10 : ix_at mT_X4_isKey 10 = some (.iconst 1, 1) := by decide +kernel
theorem a_X4_isKey_11 : ix_at mT_X4_isKey 11 = some (.goto 4, 3) := by decide +kernel
theorem a_X4_isKey_14 : ix_at mT_X4_isKey 14 = some (.iconst 0, 1) := by decide +kernel
theorem a_X4_isKey_15 : ix_at mT_X4_isKey 15 = some (.ireturn, 1) := by decide +kernel
theorem a_X4_isRegistered_0 : ix_at mT_X4_isRegistered 0 = some (.aload_n 0, 1) := by decide +kernel
theorem a_X4_isRegistered_1 : ix_at mT_X4_isRegistered 1 = some (.iload_n 1, 1) := by decide +kernel
theorem a_X4_isRegistered_2 : ix_at mT_X4_isRegistered 2 = some (.invokevirtual 67, 3) := by decide +kernel
theorem a_X4_isRegistered_5 : ix_at mT_X4_isRegistered 5 = some (.ifCond .eq 20, 3) := by decide +kernel
theorem a_X4_isRegistered_8 : ix_at mT_X4_isRegistered 8 = some (.aload_n 0, 1) := by decide +kernel
theorem a_X4_isRegistered_9 : ix_at mT_X4_isRegistered 9 = some (.getfield 42, 3) := by decide +kernel
theorem a_X4_isRegistered_12 : ix_at mT_X4_isRegistered 12 = some (.iload_n 1, 1) := by decide +kernel
theorem a_X4_isRegistered_13 : ix_at mT_X4_isRegistered 13 = some (.aaload, 1) := by decide +kernel
theorem a_X4_isRegistered_14 : ix_at mT_X4_isRegistered 14 = some (.getfield 88, 3) := by decide +kernel
theorem a_X4_isRegistered_17 : ix_at mT_X4_isRegistered 17 = some (.iconst (-1), 1) := by decide +kernel
theorem a_X4_isRegistered_18 : ix_at mT_X4_isRegistered 18 = some (.if_icmp .eq 7, 3) := by decide +kernel
theorem a_X4_isRegistered_21 : ix_at mT_X4_isRegistered 21 = some (.iconst 1, 1) := by decide +kernel
theorem a_X4_isRegistered_22 : ix_at mT_X4_isRegistered 22 = some (.goto 4, 3) := by decide +kernel
theorem a_X4_isRegistered_25 : ix_at mT_X4_isRegistered 25 = some (.iconst 0, 1) := by decide +kernel
theorem a_X4_isRegistered_26 : ix_at mT_X4_isRegistered 26 = some (.ireturn, 1) := by decide +kernel
theorem a_X4_isPartition_0 : ix_at mT_X4_isPartition 0 = some (.iload_n 1, 1) := by decide +kernel
theorem a_X4_isPartition_1 : ix_at mT_X4_isPartition 1 = some (.ifCond .lt 15, 3) := by decide +kernel
theorem a_X4_isPartition_4 : ix_at mT_X4_isPartition 4 = some (.iload_n 1, 1) := by decide +kernel
theorem a_X4_isPartition_5 : ix_at mT_X4_isPartition 5 = some (.aload_n 0, 1) := by decide +kernel
theorem a_X4_isPartition_6 : ix_at mT_X4_isPartition 6 = some (.getfield 146, 3) := by decide +kernel
theorem a_X4_isPartition_9 : ix_at mT_X4_isPartition 9 = some (.if_icmp .ge 7, 3) := by decide +kernel
theorem a_X4_isPartition_12 : ix_at mT_X4_isPartition 12 = some (.iconst 1, 1) := by decide +kernel
theorem a_X4_isPartition_13 : ix_at mT_X4_isPartition 13 = some (.goto 4, 3) := by decide +kernel
theorem a_X4_isPartition_16 : ix_at mT_X4_isPartition 16 = some (.iconst 0, 1) := by decide +kernel
theorem a_X4_isPartition_17 : ix_at mT_X4_isPartition 17 = some (.ireturn, 1) := by decide +kernel
theorem a_X4_isPlace_0 : ix_at mT_X4_isPlace 0 = some (.iload_n 1, 1) := by decide +kernel
theorem a_X4_isPlace_1 : ix_at mT_X4_isPlace 1 = some (.ifCond .lt 21, 3) := by decide +kernel
theorem a_X4_isPlace_4 : ix_at mT_X4_isPlace 4 = some (.iload_n 1, 1) := by decide +kernel
theorem a_X4_isPlace_5 : ix_at mT_X4_isPlace 5 = some (.bipush 8, 2) := by decide +kernel
theorem a_X4_isPlace_7 : ix_at mT_X4_isPlace 7 = some (.if_icmp .ge 15, 3) := by decide +kernel
theorem a_X4_isPlace_10 : ix_at mT_X4_isPlace 10 = some (.aload_n 0, 1) := by decide +kernel
theorem a_X4_isPlace_11 : ix_at mT_X4_isPlace 11 = some (.iload_n 2, 1) := by decide +kernel
theorem a_X4_isPlace_12 : ix_at mT_X4_isPlace 12 = some (.invokevirtual 125, 3) := by decide +kernel
theorem a_X4_isPlace_15 : ix_at mT_X4_isPlace 15 = some (.ifCond .eq 7, 3) := by decide +kernel
theorem a_X4_isPlace_18 : ix_at mT_X4_isPlace 18 = some (.iconst 1, 1) := by decide +kernel
theorem a_X4_isPlace_19 : ix_at mT_X4_isPlace 19 = some (.goto 4, 3) := by decide +kernel
theorem a_X4_isPlace_22 : ix_at mT_X4_isPlace 22 = some (.iconst 0, 1) := by decide +kernel
theorem a_X4_isPlace_23 : ix_at mT_X4_isPlace 23 = some (.ireturn, 1) := by decide +kernel
theorem a_X4_placeOf_0 : ix_at mT_X4_placeOf 0 = some (.bipush 8, 2) := by decide +kernel
theorem a_X4_placeOf_2 : ix_at mT_X4_placeOf 2 = some (.iload_n 1, 1) := by decide +kernel
theorem a_X4_placeOf_3 : ix_at mT_X4_placeOf 3 = some (.imul, 1) := by decide +kernel
theorem a_X4_placeOf_4 : ix_at mT_X4_placeOf 4 = some (.iload_n 2, 1) := by decide +kernel
theorem a_X4_placeOf_5 : ix_at mT_X4_placeOf 5 = some (.iadd, 1) := by decide +kernel
theorem a_X4_placeOf_6 : ix_at mT_X4_placeOf 6 = some (.ireturn, 1) := by decide +kernel
theorem a_X4_rowOf_0 : ix_at mT_X4_rowOf 0 = some (.aload_n 0, 1) := by decide +kernel
theorem a_X4_rowOf_1 : ix_at mT_X4_rowOf 1 = some (.iload_n 1, 1) := by decide +kernel
theorem a_X4_rowOf_2 : ix_at mT_X4_rowOf 2 = some (.invokevirtual 125, 3) := by decide +kernel
theorem a_X4_rowOf_5 : ix_at mT_X4_rowOf 5 = some (.ifCond .eq 15, 3) := by decide +kernel
theorem a_X4_rowOf_8 : ix_at mT_X4_rowOf 8 = some (.aload_n 0, 1) := by decide +kernel
theorem a_X4_rowOf_9 : ix_at mT_X4_rowOf 9 = some (.getfield 26, 3) := by decide +kernel
theorem a_X4_rowOf_12 : ix_at mT_X4_rowOf 12 = some (.iload_n 1, 1) := by decide +kernel
theorem a_X4_rowOf_13 : ix_at mT_X4_rowOf 13 = some (.aaload, 1) := by decide +kernel
theorem a_X4_rowOf_14 : ix_at mT_X4_rowOf 14 = some (.getfield 186, 3) := by decide +kernel
theorem a_X4_rowOf_17 : ix_at mT_X4_rowOf 17 = some (.goto 7, 3) := by decide +kernel
theorem a_X4_rowOf_20 : ix_at mT_X4_rowOf 20 = some (.aload_n 0, 1) := by decide +kernel
theorem a_X4_rowOf_21 : ix_at mT_X4_rowOf 21 = some (.getfield 30, 3) := by decide +kernel
theorem a_X4_rowOf_24 : ix_at mT_X4_rowOf 24 = some (.areturn, 1) := by decide +kernel
theorem a_X4_refusalOf_0 : ix_at mT_X4_refusalOf 0 = some (.aload_n 0, 1) := by decide +kernel
theorem a_X4_refusalOf_1 : ix_at mT_X4_refusalOf 1 = some (.getfield 63, 3) := by decide +kernel
theorem a_X4_refusalOf_4 : ix_at mT_X4_refusalOf 4 = some (.ifCond .eq 5, 3) := by decide +kernel
theorem a_X4_refusalOf_7 : ix_at mT_X4_refusalOf 7 = some (.iconst (-1), 1) := by decide +kernel
theorem a_X4_refusalOf_8 : ix_at mT_X4_refusalOf 8 = some (.ireturn, 1) := by decide +kernel
theorem a_X4_refusalOf_9 : ix_at mT_X4_refusalOf 9 = some (.iload_n 3, 1) := by decide +kernel
theorem a_X4_refusalOf_10 : ix_at mT_X4_refusalOf 10 = some (.ifCond .eq 11, 3) := by decide +kernel
theorem a_X4_refusalOf_13 : ix_at mT_X4_refusalOf 13 = some (.aload_n 0, 1) := by decide +kernel
theorem a_X4_refusalOf_14 : ix_at mT_X4_refusalOf 14 = some (.iload_n 1, 1) := by decide +kernel
theorem a_X4_refusalOf_15 : ix_at mT_X4_refusalOf 15 = some (.invokevirtual 202, 3) := by decide +kernel
theorem a_X4_refusalOf_18 : ix_at mT_X4_refusalOf 18 = some (.ifCond .ne 6, 3) := by decide +kernel
theorem a_X4_refusalOf_21 : ix_at mT_X4_refusalOf 21 = some (.bipush (-2), 2) := by decide +kernel
theorem a_X4_refusalOf_23 : ix_at mT_X4_refusalOf 23 = some (.ireturn, 1) := by decide +kernel
theorem a_X4_refusalOf_24 : ix_at mT_X4_refusalOf 24 = some (.aload_n 0, 1) := by decide +kernel
theorem a_X4_refusalOf_25 : ix_at mT_X4_refusalOf 25 = some (.getfield 42, 3) := by decide +kernel
theorem a_X4_refusalOf_28 : ix_at mT_X4_refusalOf 28 = some (.iload_n 1, 1) := by decide +kernel
theorem a_X4_refusalOf_29 : ix_at mT_X4_refusalOf 29 = some (.aaload, 1) := by decide +kernel
theorem a_X4_refusalOf_30 : ix_at mT_X4_refusalOf 30 = some (.getfield 88, 3) := by decide +kernel
theorem a_X4_refusalOf_33 : ix_at mT_X4_refusalOf 33 = some (.iload_n 2, 1) := by decide +kernel
theorem a_X4_refusalOf_34 : ix_at mT_X4_refusalOf 34 = some (.if_icmp .ne 7, 3) := by decide +kernel
theorem a_X4_refusalOf_37 : ix_at mT_X4_refusalOf 37 = some (.iconst 0, 1) := by decide +kernel
theorem a_X4_refusalOf_38 : ix_at mT_X4_refusalOf 38 = some (.goto 5, 3) := by decide +kernel
theorem a_X4_refusalOf_41 : ix_at mT_X4_refusalOf 41 = some (.bipush (-3), 2) := by decide +kernel
theorem a_X4_refusalOf_43 : ix_at mT_X4_refusalOf 43 = some (.ireturn, 1) := by decide +kernel
theorem a_X4_takeSent_0 : ix_at mT_X4_takeSent 0 = some (.aload_n 0, 1) := by decide +kernel
theorem a_X4_takeSent_1 : ix_at mT_X4_takeSent 1 = some (.iload_n 1, 1) := by decide +kernel
theorem a_X4_takeSent_2 : ix_at mT_X4_takeSent 2 = some (.iload_n 2, 1) := by decide +kernel
theorem a_X4_takeSent_3 : ix_at mT_X4_takeSent 3 = some (.aload_n 0, 1) := by decide +kernel
theorem a_X4_takeSent_4 : ix_at mT_X4_takeSent 4 = some (.iload_n 3, 1) := by decide +kernel
theorem a_X4_takeSent_5 : ix_at mT_X4_takeSent 5 = some (.invokevirtual 125, 3) := by decide +kernel
theorem a_X4_takeSent_8 : ix_at mT_X4_takeSent 8 = some (.invokevirtual 91, 3) := by decide +kernel
theorem a_X4_takeSent_11 : ix_at mT_X4_takeSent 11 = some (.istore 6, 2) := by decide +kernel
theorem a_X4_takeSent_13 : ix_at mT_X4_takeSent 13 = some (.iload 6, 2) := by decide +kernel
theorem a_X4_takeSent_15 : ix_at mT_X4_takeSent 15 = some (.ifCond .eq 6, 3) := by decide +kernel
theorem a_X4_takeSent_18 : ix_at mT_X4_takeSent 18 = some (.iload 6, 2) := by decide +kernel
theorem a_X4_takeSent_20 : ix_at mT_X4_takeSent 20 = some (.ireturn, 1) := by decide +kernel
theorem a_X4_takeSent_21 : ix_at mT_X4_takeSent 21 = some (.aload_n 0, 1) := by decide +kernel
theorem a_X4_takeSent_22 : ix_at mT_X4_takeSent 22 = some (.getfield 42, 3) := by decide +kernel
theorem a_X4_takeSent_25 : ix_at mT_X4_takeSent 25 = some (.iload_n 1, 1) := by decide +kernel
theorem a_X4_takeSent_26 : ix_at mT_X4_takeSent 26 = some (.aaload, 1) := by decide +kernel
theorem a_X4_takeSent_27 : ix_at mT_X4_takeSent 27 = some (.astore 7, 2) := by decide +kernel
theorem a_X4_takeSent_29 : ix_at mT_X4_takeSent 29 = some (.aload 7, 2) := by decide +kernel
theorem a_X4_takeSent_31 : ix_at mT_X4_takeSent 31 = some (.invokevirtual 71, 3) := by decide +kernel
theorem a_X4_takeSent_34 : ix_at mT_X4_takeSent 34 = some (.iload 5, 2) := by decide +kernel
theorem a_X4_takeSent_36 : ix_at mT_X4_takeSent 36 = some (.if_icmp .eq 6, 3) := by decide +kernel
theorem a_X4_takeSent_39 : ix_at mT_X4_takeSent 39 = some (.bipush (-5), 2) := by decide +kernel
theorem a_X4_takeSent_41 : ix_at mT_X4_takeSent 41 = some (.ireturn, 1) := by decide +kernel
theorem a_X4_takeSent_42 : ix_at mT_X4_takeSent 42 = some (.aload_n 0, 1) := by decide +kernel
theorem a_X4_takeSent_43 : ix_at mT_X4_takeSent 43 = some (.getfield 26, 3) := by decide +kernel
theorem a_X4_takeSent_46 : ix_at mT_X4_takeSent 46 = some (.iload_n 3, 1) := by decide +kernel
theorem a_X4_takeSent_47 : ix_at mT_X4_takeSent 47 = some (.aaload, 1) := by decide +kernel
theorem a_X4_takeSent_48 : ix_at mT_X4_takeSent 48 = some (.iload_n 1, 1) := by decide +kernel
theorem a_X4_takeSent_49 : ix_at mT_X4_takeSent 49 = some (.iload_n 2, 1) := by decide +kernel
theorem a_X4_takeSent_50 : ix_at mT_X4_takeSent 50 = some (.iload 4, 2) := by decide +kernel
theorem a_X4_takeSent_52 : ix_at mT_X4_takeSent 52 = some (.invokevirtual 240, 3) := by decide +kernel
theorem a_X4_takeSent_55 : ix_at mT_X4_takeSent 55 = some (.istore 8, 2) := by decide +kernel
theorem a_X4_takeSent_57 : ix_at mT_X4_takeSent 57 = some (.iload 8, 2) := by decide +kernel
theorem a_X4_takeSent_59 : ix_at mT_X4_takeSent 59 = some (.iconst (-1), 1) := by decide +kernel
theorem a_X4_takeSent_60 : ix_at mT_X4_takeSent 60 = some (.if_icmp .eq 6, 3) := by decide +kernel
theorem a_X4_takeSent_63 : ix_at mT_X4_takeSent 63 = some (.iload 8, 2) := by decide +kernel
theorem a_X4_takeSent_65 : ix_at mT_X4_takeSent 65 = some (.ireturn, 1) := by decide +kernel
theorem a_X4_takeSent_66 : ix_at mT_X4_takeSent 66 = some (.iload 4, 2) := by decide +kernel
theorem a_X4_takeSent_68 : ix_at mT_X4_takeSent 68 = some (.aload_n 0, 1) := by decide +kernel
theorem a_X4_takeSent_69 : ix_at mT_X4_takeSent 69 = some (.getfield 26, 3) := by decide +kernel
theorem a_X4_takeSent_72 : ix_at mT_X4_takeSent 72 = some (.iload_n 3, 1) := by decide +kernel
theorem a_X4_takeSent_73 : ix_at mT_X4_takeSent 73 = some (.aaload, 1) := by decide +kernel
theorem a_X4_takeSent_74 : ix_at mT_X4_takeSent 74 = some (.iload_n 1, 1) := by decide +kernel
theorem a_X4_takeSent_75 : ix_at mT_X4_takeSent 75 = some (.iload_n 2, 1) := by decide +kernel
theorem a_X4_takeSent_76 : ix_at mT_X4_takeSent 76 = some (.invokevirtual 217, 3) := by decide +kernel
theorem a_X4_takeSent_79 : ix_at mT_X4_takeSent 79 = some (.if_icmp .eq 6, 3) := by decide +kernel
theorem a_X4_takeSent_82 : ix_at mT_X4_takeSent 82 = some (.bipush (-6), 2) := by decide +kernel
theorem a_X4_takeSent_84 : ix_at mT_X4_takeSent 84 = some (.ireturn, 1) := by decide +kernel
theorem a_X4_takeSent_85 : ix_at mT_X4_takeSent 85 = some (.iload 5, 2) := by decide +kernel
theorem a_X4_takeSent_87 : ix_at mT_X4_takeSent 87 = some (.ifCond .eq 16, 3) := by decide +kernel
theorem a_X4_takeSent_90 : ix_at mT_X4_takeSent 90 = some (.aload 7, 2) := by decide +kernel
theorem a_X4_takeSent_92 : ix_at mT_X4_takeSent 92 = some (.iload_n 3, 1) := by decide +kernel
theorem a_X4_takeSent_93 : ix_at mT_X4_takeSent 93 = some (.invokevirtual 243, 3) := by decide +kernel
theorem a_X4_takeSent_96 : ix_at mT_X4_takeSent 96 = some (.ifCond .ne 7, 3) := by decide +kernel
theorem a_X4_takeSent_99 : ix_at mT_X4_takeSent 99 = some (.iconst 1, 1) := by decide +kernel
theorem a_X4_takeSent_100 : ix_at mT_X4_takeSent 100 = some (.goto 4, 3) := by decide +kernel
theorem a_X4_takeSent_103 : ix_at mT_X4_takeSent 103 = some (.iconst 0, 1) := by decide +kernel
theorem a_X4_takeSent_104 : ix_at mT_X4_takeSent 104 = some (.istore 9, 2) := by decide +kernel
theorem a_X4_takeSent_106 : ix_at mT_X4_takeSent 106 = some (.aload_n 0, 1) := by decide +kernel
theorem a_X4_takeSent_107 : ix_at mT_X4_takeSent 107 = some (.iload_n 3, 1) := by decide +kernel
theorem a_X4_takeSent_108 : ix_at mT_X4_takeSent 108 = some (.iload 9, 2) := by decide +kernel
theorem a_X4_takeSent_110 : ix_at mT_X4_takeSent 110 = some (.invokevirtual 246, 3) := by decide +kernel
theorem a_X4_takeSent_113 : ix_at mT_X4_takeSent 113 = some (.ifCond .eq 16, 3) := by decide +kernel
theorem a_X4_takeSent_116 : ix_at mT_X4_takeSent 116 = some (.iload 9, 2) := by decide +kernel
theorem a_X4_takeSent_118 : ix_at mT_X4_takeSent 118 = some (.ifCond .eq 14, 3) := by decide +kernel
theorem a_X4_takeSent_121 : ix_at mT_X4_takeSent 121 = some (.aload_n 0, 1) := by decide +kernel
theorem a_X4_takeSent_122 : ix_at mT_X4_takeSent 122 = some (.iconst 0, 1) := by decide +kernel
theorem a_X4_takeSent_123 : ix_at mT_X4_takeSent 123 = some (.invokevirtual 82, 3) := by decide +kernel
theorem a_X4_takeSent_126 : ix_at mT_X4_takeSent 126 = some (.ifCond .ne 6, 3) := by decide +kernel
theorem a_X4_takeSent_129 : ix_at mT_X4_takeSent 129 = some (.bipush (-8), 2) := by decide +kernel
theorem a_X4_takeSent_131 : ix_at mT_X4_takeSent 131 = some (.ireturn, 1) := by decide +kernel
theorem a_X4_takeSent_132 : ix_at mT_X4_takeSent 132 = some (.iload 9, 2) := by decide +kernel
theorem a_X4_takeSent_134 : ix_at mT_X4_takeSent 134 = some (.ifCond .eq 12, 3) := by decide +kernel
theorem a_X4_takeSent_137 : ix_at mT_X4_takeSent 137 = some (.aload_n 0, 1) := by decide +kernel
theorem a_X4_takeSent_138 : ix_at mT_X4_takeSent 138 = some (.iconst 2, 1) := by decide +kernel
theorem a_X4_takeSent_139 : ix_at mT_X4_takeSent 139 = some (.iload_n 1, 1) := by decide +kernel
theorem a_X4_takeSent_140 : ix_at mT_X4_takeSent 140 = some (.iload_n 2, 1) := by decide +kernel
theorem a_X4_takeSent_141 : ix_at mT_X4_takeSent 141 = some (.iload_n 3, 1) := by decide +kernel
theorem a_X4_takeSent_142 : ix_at mT_X4_takeSent 142 = some (.iconst 0, 1) := by decide +kernel
theorem a_X4_takeSent_143 : ix_at mT_X4_takeSent 143 = some (.invokevirtual 101, 3) := by decide +kernel
theorem a_X4_takeSent_146 : ix_at mT_X4_takeSent 146 = some (.aload_n 0, 1) := by decide +kernel
theorem a_X4_takeSent_147 : ix_at mT_X4_takeSent 147 = some (.iload_n 3, 1) := by decide +kernel
theorem a_X4_takeSent_148 : ix_at mT_X4_takeSent 148 = some (.iload 5, 2) := by decide +kernel
theorem a_X4_takeSent_150 : ix_at mT_X4_takeSent 150 = some (.ifCond .eq 7, 3) := by decide +kernel
theorem a_X4_takeSent_153 : ix_at mT_X4_takeSent 153 = some (.iconst 1, 1) := by decide +kernel
theorem a_X4_takeSent_154 : ix_at mT_X4_takeSent 154 = some (.goto 4, 3) := by decide +kernel
theorem a_X4_takeSent_157 : ix_at mT_X4_takeSent 157 = some (.iconst 0, 1) := by decide +kernel
theorem a_X4_takeSent_158 : ix_at mT_X4_takeSent 158 = some (.iload_n 1, 1) := by decide +kernel
theorem a_X4_takeSent_159 : ix_at mT_X4_takeSent 159 = some (.iload_n 2, 1) := by decide +kernel
theorem a_X4_takeSent_160 : ix_at mT_X4_takeSent 160 = some (.iload 4, 2) := by decide +kernel
theorem a_X4_takeSent_162 : ix_at mT_X4_takeSent 162 = some (.aload_n 0, 1) := by decide +kernel
theorem a_X4_takeSent_163 : ix_at mT_X4_takeSent 163 = some (.getfield 14, 3) := by decide +kernel
theorem a_X4_takeSent_166 : ix_at mT_X4_takeSent 166 = some (.invokevirtual 250, 3) := by decide +kernel
theorem a_X4_takeSent_169 : ix_at mT_X4_takeSent 169 = some (.ireturn, 1) := by decide +kernel
theorem a_X4_logHasRoom_0 : ix_at mT_X4_logHasRoom 0 = some (.aload_n 0, 1) := by decide +kernel
theorem a_X4_logHasRoom_1 : ix_at mT_X4_logHasRoom 1 = some (.iload_n 1, 1) := by decide +kernel
theorem a_X4_logHasRoom_2 : ix_at mT_X4_logHasRoom 2 = some (.invokevirtual 192, 3) := by decide +kernel
theorem a_X4_logHasRoom_5 : ix_at mT_X4_logHasRoom 5 = some (.iload_n 2, 1) := by decide +kernel
theorem a_X4_logHasRoom_6 : ix_at mT_X4_logHasRoom 6 = some (.ifCond .eq 7, 3) := by decide +kernel
theorem a_X4_logHasRoom_9 : ix_at mT_X4_logHasRoom 9 = some (.iconst 1, 1) := by decide +kernel
theorem a_X4_logHasRoom_10 : ix_at mT_X4_logHasRoom 10 = some (.goto 4, 3) := by decide +kernel
theorem a_X4_logHasRoom_13 : ix_at mT_X4_logHasRoom 13 = some (.iconst 0, 1) := by decide +kernel
theorem a_X4_logHasRoom_14 : ix_at mT_X4_logHasRoom 14 = some (.iadd, 1) := by decide +kernel
theorem a_X4_logHasRoom_15 : ix_at mT_X4_logHasRoom 15 = some (.istore_n 3, 1) := by decide +kernel
theorem a_X4_logHasRoom_16 : ix_at mT_X4_logHasRoom 16 = some (.aload_n 0, 1) := by decide +kernel
theorem a_X4_logHasRoom_17 : ix_at mT_X4_logHasRoom 17 = some (.getfield 26, 3) := by decide +kernel
theorem a_X4_logHasRoom_20 : ix_at mT_X4_logHasRoom 20 = some (.iload_n 1, 1) := by decide +kernel
theorem a_X4_logHasRoom_21 : ix_at mT_X4_logHasRoom 21 = some (.aaload, 1) := by decide +kernel
theorem a_X4_logHasRoom_22 : ix_at mT_X4_logHasRoom 22 = some (.getfield 186, 3) := by decide +kernel
theorem a_X4_logHasRoom_25 : ix_at mT_X4_logHasRoom 25 = some (.getfield 56, 3) := by decide +kernel
theorem a_X4_logHasRoom_28 : ix_at mT_X4_logHasRoom 28 = some (.bipush 14, 2) := by decide +kernel
theorem a_X4_logHasRoom_30 : ix_at mT_X4_logHasRoom 30 = some (.iadd, 1) := by decide +kernel
theorem a_X4_logHasRoom_31 : ix_at mT_X4_logHasRoom 31 = some (.aload_n 0, 1) := by decide +kernel
theorem a_X4_logHasRoom_32 : ix_at mT_X4_logHasRoom 32 = some (.getfield 14, 3) := by decide +kernel
theorem a_X4_logHasRoom_35 : ix_at mT_X4_logHasRoom 35 = some (.getfield 56, 3) := by decide +kernel
theorem a_X4_logHasRoom_38 : ix_at mT_X4_logHasRoom 38 = some (.iadd, 1) := by decide +kernel
theorem a_X4_logHasRoom_39 : ix_at mT_X4_logHasRoom 39 = some (.bipush 14, 2) := by decide +kernel
theorem a_X4_logHasRoom_41 : ix_at mT_X4_logHasRoom 41 = some (.iload_n 3, 1) := by decide +kernel
theorem a_X4_logHasRoom_42 : ix_at mT_X4_logHasRoom 42 = some (.imul, 1) := by decide +kernel
theorem a_X4_logHasRoom_43 : ix_at mT_X4_logHasRoom 43 = some (.iadd, 1) := by decide +kernel
theorem a_X4_logHasRoom_44 : ix_at mT_X4_logHasRoom 44 = some (.aload_n 0, 1) := by decide +kernel
theorem a_X4_logHasRoom_45 : ix_at mT_X4_logHasRoom 45 = some (.getfield 220, 3) := by decide +kernel
theorem a_X4_logHasRoom_48 : ix_at mT_X4_logHasRoom 48 = some (.if_icmp .gt 7, 3) := by decide +kernel
theorem a_X4_logHasRoom_51 : ix_at mT_X4_logHasRoom 51 = some (.iconst 1, 1) := by decide +kernel
theorem a_X4_logHasRoom_52 : ix_at mT_X4_logHasRoom 52 = some (.goto 4, 3) := by decide +kernel
theorem a_X4_logHasRoom_55 : ix_at mT_X4_logHasRoom 55 = some (.iconst 0, 1) := by decide +kernel
theorem a_X4_logHasRoom_56 : ix_at mT_X4_logHasRoom 56 = some (.ireturn, 1) := by decide +kernel
theorem a_X4_bookHasRoom_0 : ix_at mT_X4_bookHasRoom 0 = some (.aload_n 0, 1) := by decide +kernel
theorem a_X4_bookHasRoom_1 : ix_at mT_X4_bookHasRoom 1 = some (.invokevirtual 229, 3) := by decide +kernel
theorem a_X4_bookHasRoom_4 : ix_at mT_X4_bookHasRoom 4 = some (.iload_n 1, 1) := by decide +kernel
theorem a_X4_bookHasRoom_5 : ix_at mT_X4_bookHasRoom 5 = some (.iadd, 1) := by decide +kernel
theorem a_X4_bookHasRoom_6 : ix_at mT_X4_bookHasRoom 6 = some (.istore_n 2, 1) := by decide +kernel
theorem a_X4_bookHasRoom_7 : ix_at mT_X4_bookHasRoom 7 = some (.aload_n 0, 1) := by decide +kernel
theorem a_X4_bookHasRoom_8 : ix_at mT_X4_bookHasRoom 8 = some (.getfield 30, 3) := by decide +kernel
theorem a_X4_bookHasRoom_11 : ix_at mT_X4_bookHasRoom 11 = some (.getfield 56, 3) := by decide +kernel
theorem a_X4_bookHasRoom_14 : ix_at mT_X4_bookHasRoom 14 = some (.bipush 16, 2) := by decide +kernel
theorem a_X4_bookHasRoom_16 : ix_at mT_X4_bookHasRoom 16 = some (.iadd, 1) := by decide +kernel
theorem a_X4_bookHasRoom_17 : ix_at mT_X4_bookHasRoom 17 = some (.bipush 48, 2) := by decide +kernel
theorem a_X4_bookHasRoom_19 : ix_at mT_X4_bookHasRoom 19 = some (.iload_n 2, 1) := by decide +kernel
theorem a_X4_bookHasRoom_20 : ix_at mT_X4_bookHasRoom 20 = some (.imul, 1) := by decide +kernel
theorem a_X4_bookHasRoom_21 : ix_at mT_X4_bookHasRoom 21 = some (.iadd, 1) := by decide +kernel
theorem a_X4_bookHasRoom_22 : ix_at mT_X4_bookHasRoom 22 = some (.sipush 16000, 3) := by decide +kernel
theorem a_X4_bookHasRoom_25 : ix_at mT_X4_bookHasRoom 25 = some (.if_icmp .gt 7, 3) := by decide +kernel
theorem a_X4_bookHasRoom_28 : ix_at mT_X4_bookHasRoom 28 = some (.iconst 1, 1) := by decide +kernel
theorem a_X4_bookHasRoom_29 : ix_at mT_X4_bookHasRoom 29 = some (.goto 4, 3) := by decide +kernel
theorem a_X4_bookHasRoom_32 : ix_at mT_X4_bookHasRoom 32 = some (.iconst 0, 1) := by decide +kernel
theorem a_X4_bookHasRoom_33 : ix_at mT_X4_bookHasRoom 33 = some (.ireturn, 1) := by decide +kernel
theorem a_X4_registeredProducers_0 : ix_at mT_X4_registeredProducers 0 = some (.iconst 0, 1) := by decide +kernel
theorem a_X4_registeredProducers_1 : ix_at mT_X4_registeredProducers 1 = some (.istore_n 1, 1) := by decide +kernel
theorem a_X4_registeredProducers_2 : ix_at mT_X4_registeredProducers 2 = some (.iconst 0, 1) := by decide +kernel
theorem a_X4_registeredProducers_3 : ix_at mT_X4_registeredProducers 3 = some (.istore_n 2, 1) := by decide +kernel
theorem a_X4_registeredProducers_4 : ix_at mT_X4_registeredProducers 4 = some (.iload_n 2, 1) := by decide +kernel
theorem a_X4_registeredProducers_5 : ix_at mT_X4_registeredProducers 5 = some (.bipush 32, 2) := by decide +kernel
theorem a_X4_registeredProducers_7 : ix_at mT_X4_registeredProducers 7 = some (.if_icmp .ge 25, 3) := by decide +kernel
theorem a_X4_registeredProducers_10 : ix_at mT_X4_registeredProducers 10 = some (.iload_n 1, 1) := by decide +kernel
theorem a_X4_registeredProducers_11 : ix_at mT_X4_registeredProducers 11 = some (.aload_n 0, 1) := by decide +kernel
theorem a_X4_registeredProducers_12 : ix_at mT_X4_registeredProducers 12 = some (.iload_n 2, 1) := by decide +kernel
theorem a_X4_registeredProducers_13 : ix_at mT_X4_registeredProducers 13 = some (.invokevirtual 202, 3) := by decide +kernel
theorem a_X4_registeredProducers_16 : ix_at mT_X4_registeredProducers 16 = some (.ifCond .eq 7, 3) := by decide +kernel
theorem a_X4_registeredProducers_19 : ix_at mT_X4_registeredProducers 19 = some (.iconst 1, 1) := by decide +kernel
theorem a_X4_registeredProducers_20 : ix_at mT_X4_registeredProducers 20 = some (.goto 4, 3) := by decide +kernel
theorem a_X4_registeredProducers_23 : ix_at mT_X4_registeredProducers 23 = some (.iconst 0, 1) := by decide +kernel
theorem a_X4_registeredProducers_24 : ix_at mT_X4_registeredProducers 24 = some (.iadd, 1) := by decide +kernel
theorem a_X4_registeredProducers_25 : ix_at mT_X4_registeredProducers 25 = some (.istore_n 1, 1) := by decide +kernel
theorem a_X4_registeredProducers_26 : ix_at mT_X4_registeredProducers 26 = some (.iinc 2 1, 3) := by decide +kernel
theorem a_X4_registeredProducers_29 : ix_at mT_X4_registeredProducers 29 = some (.goto (-25), 3) := by decide +kernel
theorem a_X4_registeredProducers_32 : ix_at mT_X4_registeredProducers 32 = some (.iload_n 1, 1) := by decide +kernel
theorem a_X4_registeredProducers_33 : ix_at mT_X4_registeredProducers 33 = some (.ireturn, 1) := by decide +kernel
theorem a_X4_openTransactions_0 : ix_at mT_X4_openTransactions 0 = some (.iconst 0, 1) := by decide +kernel
theorem a_X4_openTransactions_1 : ix_at mT_X4_openTransactions 1 = some (.istore_n 1, 1) := by decide +kernel
theorem a_X4_openTransactions_2 : ix_at mT_X4_openTransactions 2 = some (.iconst 0, 1) := by decide +kernel
theorem a_X4_openTransactions_3 : ix_at mT_X4_openTransactions 3 = some (.istore_n 2, 1) := by decide +kernel
theorem a_X4_openTransactions_4 : ix_at mT_X4_openTransactions 4 = some (.iload_n 2, 1) := by decide +kernel
theorem a_X4_openTransactions_5 : ix_at mT_X4_openTransactions 5 = some (.bipush 32, 2) := by decide +kernel
theorem a_X4_openTransactions_7 : ix_at mT_X4_openTransactions 7 = some (.if_icmp .ge 29, 3) := by decide +kernel
theorem a_X4_openTransactions_10 : ix_at mT_X4_openTransactions 10 = some (.iload_n 1, 1) := by decide +kernel
theorem a_X4_openTransactions_11 : ix_at mT_X4_openTransactions 11 = some (.aload_n 0, 1) := by decide +kernel
theorem a_X4_openTransactions_12 : ix_at mT_X4_openTransactions 12 = some (.getfield 42, 3) := by decide +kernel
theorem a_X4_openTransactions_15 : ix_at mT_X4_openTransactions 15 = some (.iload_n 2, 1) := by decide +kernel
theorem a_X4_openTransactions_16 : ix_at mT_X4_openTransactions 16 = some (.aaload, 1) := by decide +kernel
theorem a_X4_openTransactions_17 : ix_at mT_X4_openTransactions 17 = some (.invokevirtual 71, 3) := by decide +kernel
theorem a_X4_openTransactions_20 : ix_at mT_X4_openTransactions 20 = some (.ifCond .eq 7, 3) := by decide +kernel
theorem a_X4_openTransactions_23 : ix_at mT_X4_openTransactions 23 = some (.iconst 1, 1) := by decide +kernel
theorem a_X4_openTransactions_24 : ix_at mT_X4_openTransactions 24 = some (.goto 4, 3) := by decide +kernel
theorem a_X4_openTransactions_27 : ix_at mT_X4_openTransactions 27 = some (.iconst 0, 1) := by decide +kernel
theorem a_X4_openTransactions_28 : ix_at mT_X4_openTransactions 28 = some (.iadd, 1) := by decide +kernel
theorem a_X4_openTransactions_29 : ix_at mT_X4_openTransactions 29 = some (.istore_n 1, 1) := by decide +kernel
theorem a_X4_openTransactions_30 : ix_at mT_X4_openTransactions 30 = some (.iinc 2 1, 3) := by decide +kernel
theorem a_X4_openTransactions_33 : ix_at mT_X4_openTransactions 33 = some (.goto (-29), 3) := by decide +kernel
theorem a_X4_openTransactions_36 : ix_at mT_X4_openTransactions 36 = some (.iload_n 1, 1) := by decide +kernel
theorem a_X4_openTransactions_37 : ix_at mT_X4_openTransactions 37 = some (.ireturn, 1) := by decide +kernel
theorem a_X4_openThatAdded_0 : ix_at mT_X4_openThatAdded 0 = some (.iconst 0, 1) := by decide +kernel
theorem a_X4_openThatAdded_1 : ix_at mT_X4_openThatAdded 1 = some (.istore_n 2, 1) := by decide +kernel
theorem a_X4_openThatAdded_2 : ix_at mT_X4_openThatAdded 2 = some (.iconst 0, 1) := by decide +kernel
theorem a_X4_openThatAdded_3 : ix_at mT_X4_openThatAdded 3 = some (.istore_n 3, 1) := by decide +kernel
theorem a_X4_openThatAdded_4 : ix_at mT_X4_openThatAdded 4 = some (.iload_n 3, 1) := by decide +kernel
theorem a_X4_openThatAdded_5 : ix_at mT_X4_openThatAdded 5 = some (.bipush 32, 2) := by decide +kernel
theorem a_X4_openThatAdded_7 : ix_at mT_X4_openThatAdded 7 = some (.if_icmp .ge 30, 3) := by decide +kernel
theorem a_X4_openThatAdded_10 : ix_at mT_X4_openThatAdded 10 = some (.iload_n 2, 1) := by decide +kernel
theorem a_X4_openThatAdded_11 : ix_at mT_X4_openThatAdded 11 = some (.aload_n 0, 1) := by decide +kernel
theorem a_X4_openThatAdded_12 : ix_at mT_X4_openThatAdded 12 = some (.getfield 42, 3) := by decide +kernel
theorem a_X4_openThatAdded_15 : ix_at mT_X4_openThatAdded 15 = some (.iload_n 3, 1) := by decide +kernel
theorem a_X4_openThatAdded_16 : ix_at mT_X4_openThatAdded 16 = some (.aaload, 1) := by decide +kernel
theorem a_X4_openThatAdded_17 : ix_at mT_X4_openThatAdded 17 = some (.iload_n 1, 1) := by decide +kernel
theorem a_X4_openThatAdded_18 : ix_at mT_X4_openThatAdded 18 = some (.invokevirtual 243, 3) := by decide +kernel
theorem a_X4_openThatAdded_21 : ix_at mT_X4_openThatAdded 21 = some (.ifCond .eq 7, 3) := by decide +kernel
theorem a_X4_openThatAdded_24 : ix_at mT_X4_openThatAdded 24 = some (.iconst 1, 1) := by decide +kernel
theorem a_X4_openThatAdded_25 : ix_at mT_X4_openThatAdded 25 = some (.goto 4, 3) := by decide +kernel
theorem a_X4_openThatAdded_28 : ix_at mT_X4_openThatAdded 28 = some (.iconst 0, 1) := by decide +kernel
theorem a_X4_openThatAdded_29 : ix_at mT_X4_openThatAdded 29 = some (.iadd, 1) := by decide +kernel
theorem a_X4_openThatAdded_30 : ix_at mT_X4_openThatAdded 30 = some (.istore_n 2, 1) := by decide +kernel
theorem a_X4_openThatAdded_31 : ix_at mT_X4_openThatAdded 31 = some (.iinc 3 1, 3) := by decide +kernel
theorem a_X4_openThatAdded_34 : ix_at mT_X4_openThatAdded 34 = some (.goto (-30), 3) := by decide +kernel
theorem a_X4_openThatAdded_37 : ix_at mT_X4_openThatAdded 37 = some (.iload_n 2, 1) := by decide +kernel
theorem a_X4_openThatAdded_38 : ix_at mT_X4_openThatAdded 38 = some (.ireturn, 1) := by decide +kernel
theorem a_X4_writeToLog_0 : ix_at mT_X4_writeToLog 0 = some (.aload_n 0, 1) := by decide +kernel
theorem a_X4_writeToLog_1 : ix_at mT_X4_writeToLog 1 = some (.getfield 26, 3) := by decide +kernel
theorem a_X4_writeToLog_4 : ix_at mT_X4_writeToLog 4 = some (.iload_n 1, 1) := by decide +kernel
theorem a_X4_writeToLog_5 : ix_at mT_X4_writeToLog 5 = some (.aaload, 1) := by decide +kernel
theorem a_X4_writeToLog_6 : ix_at mT_X4_writeToLog 6 = some (.astore 7, 2) := by decide +kernel
theorem a_X4_writeToLog_8 : ix_at mT_X4_writeToLog 8 = some (.aload 7, 2) := by decide +kernel
theorem a_X4_writeToLog_10 : ix_at mT_X4_writeToLog 10 = some (.getfield 186, 3) := by decide +kernel
theorem a_X4_writeToLog_13 : ix_at mT_X4_writeToLog 13 = some (.getfield 56, 3) := by decide +kernel
theorem a_X4_writeToLog_16 : ix_at mT_X4_writeToLog 16 = some (.istore 8, 2) := by decide +kernel
theorem a_X4_writeToLog_18 : ix_at mT_X4_writeToLog 18 = some (.aload 7, 2) := by decide +kernel
theorem a_X4_writeToLog_20 : ix_at mT_X4_writeToLog 20 = some (.iload_n 2, 1) := by decide +kernel
theorem a_X4_writeToLog_21 : ix_at mT_X4_writeToLog 21 = some (.iload_n 3, 1) := by decide +kernel
theorem a_X4_writeToLog_22 : ix_at mT_X4_writeToLog 22 = some (.iload 4, 2) := by decide +kernel
theorem a_X4_writeToLog_24 : ix_at mT_X4_writeToLog 24 = some (.iload 5, 2) := by decide +kernel
theorem a_X4_writeToLog_26 : ix_at mT_X4_writeToLog 26 = some (.aload 6, 2) := by decide +kernel
theorem a_X4_writeToLog_28 : ix_at mT_X4_writeToLog 28 = some (.invokevirtual 254, 3) := by decide +kernel
theorem a_X4_writeToLog_31 : ix_at mT_X4_writeToLog 31 = some (.aload_n 0, 1) := by decide +kernel
theorem a_X4_writeToLog_32 : ix_at mT_X4_writeToLog 32 = some (.getfield 36, 3) := by decide +kernel
theorem a_X4_writeToLog_35 : ix_at mT_X4_writeToLog 35 = some (.iload_n 1, 1) := by decide +kernel
theorem a_X4_writeToLog_36 : ix_at mT_X4_writeToLog 36 = some (.aload 7, 2) := by decide +kernel
theorem a_X4_writeToLog_38 : ix_at mT_X4_writeToLog 38 = some (.getfield 186, 3) := by decide +kernel
theorem a_X4_writeToLog_41 : ix_at mT_X4_writeToLog 41 = some (.getfield 56, 3) := by decide +kernel
theorem a_X4_writeToLog_44 : ix_at mT_X4_writeToLog 44 = some (.iload 8, 2) := by decide +kernel
theorem a_X4_writeToLog_46 : ix_at mT_X4_writeToLog 46 = some (.isub, 1) := by decide +kernel
theorem a_X4_writeToLog_47 : ix_at mT_X4_writeToLog 47 = some (.invokevirtual 258, 3) := by decide +kernel
theorem a_X4_writeToLog_50 : ix_at mT_X4_writeToLog 50 = some (.aload 7, 2) := by decide +kernel
theorem a_X4_writeToLog_52 : ix_at mT_X4_writeToLog 52 = some (.getfield 180, 3) := by decide +kernel
theorem a_X4_writeToLog_55 : ix_at mT_X4_writeToLog 55 = some (.iconst 1, 1) := by decide +kernel
theorem a_X4_writeToLog_56 : ix_at mT_X4_writeToLog 56 = some (.isub, 1) := by decide +kernel
theorem a_X4_writeToLog_57 : ix_at mT_X4_writeToLog 57 = some (.ireturn, 1) := by decide +kernel
theorem a_X4_writeToBook_0 : ix_at mT_X4_writeToBook 0 = some (.aload_n 0, 1) := by decide +kernel
theorem a_X4_writeToBook_1 : ix_at mT_X4_writeToBook 1 = some (.getfield 30, 3) := by decide +kernel
theorem a_X4_writeToBook_4 : ix_at mT_X4_writeToBook 4 = some (.getfield 56, 3) := by decide +kernel
theorem a_X4_writeToBook_7 : ix_at mT_X4_writeToBook 7 = some (.istore 6, 2) := by decide +kernel
theorem a_X4_writeToBook_9 : ix_at mT_X4_writeToBook 9 = some (.aload_n 0, 1) := by decide +kernel
theorem a_X4_writeToBook_10 : ix_at mT_X4_writeToBook 10 = some (.getfield 30, 3) := by decide +kernel
theorem a_X4_writeToBook_13 : ix_at mT_X4_writeToBook 13 = some (.iconst 0, 1) := by decide +kernel
theorem a_X4_writeToBook_14 : ix_at mT_X4_writeToBook 14 = some (.iconst 4, 1) := by decide +kernel
theorem a_X4_writeToBook_15 : ix_at mT_X4_writeToBook 15 = some (.invokevirtual 262, 3) := by decide +kernel
theorem a_X4_writeToBook_18 : ix_at mT_X4_writeToBook 18 = some (.aload_n 0, 1) := by decide +kernel
theorem a_X4_writeToBook_19 : ix_at mT_X4_writeToBook 19 = some (.getfield 30, 3) := by decide +kernel
theorem a_X4_writeToBook_22 : ix_at mT_X4_writeToBook 22 = some (.iload_n 1, 1) := by decide +kernel
theorem a_X4_writeToBook_23 : ix_at mT_X4_writeToBook 23 = some (.iconst 1, 1) := by decide +kernel
theorem a_X4_writeToBook_24 : ix_at mT_X4_writeToBook 24 = some (.invokevirtual 262, 3) := by decide +kernel
theorem a_X4_writeToBook_27 : ix_at mT_X4_writeToBook 27 = some (.aload_n 0, 1) := by decide +kernel
theorem a_X4_writeToBook_28 : ix_at mT_X4_writeToBook 28 = some (.getfield 30, 3) := by decide +kernel
theorem a_X4_writeToBook_31 : ix_at mT_X4_writeToBook 31 = some (.iload_n 2, 1) := by decide +kernel
theorem a_X4_writeToBook_32 : ix_at mT_X4_writeToBook 32 = some (.iconst 1, 1) := by decide +kernel
theorem a_X4_writeToBook_33 : ix_at mT_X4_writeToBook 33 = some (.invokevirtual 262, 3) := by decide +kernel
theorem a_X4_writeToBook_36 : ix_at mT_X4_writeToBook 36 = some (.aload_n 0, 1) := by decide +kernel
theorem a_X4_writeToBook_37 : ix_at mT_X4_writeToBook 37 = some (.getfield 30, 3) := by decide +kernel
theorem a_X4_writeToBook_40 : ix_at mT_X4_writeToBook 40 = some (.iload_n 3, 1) := by decide +kernel
theorem a_X4_writeToBook_41 : ix_at mT_X4_writeToBook 41 = some (.iconst 2, 1) := by decide +kernel
theorem a_X4_writeToBook_42 : ix_at mT_X4_writeToBook 42 = some (.invokevirtual 262, 3) := by decide +kernel
theorem a_X4_writeToBook_45 : ix_at mT_X4_writeToBook 45 = some (.aload_n 0, 1) := by decide +kernel
theorem a_X4_writeToBook_46 : ix_at mT_X4_writeToBook 46 = some (.getfield 30, 3) := by decide +kernel
theorem a_X4_writeToBook_49 : ix_at mT_X4_writeToBook 49 = some (.iload 4, 2) := by decide +kernel
theorem a_X4_writeToBook_51 : ix_at mT_X4_writeToBook 51 = some (.iconst 4, 1) := by decide +kernel
theorem a_X4_writeToBook_52 : ix_at mT_X4_writeToBook 52 = some (.invokevirtual 262, 3) := by decide +kernel
theorem a_X4_writeToBook_55 : ix_at mT_X4_writeToBook 55 = some (.aload_n 0, 1) := by decide +kernel
theorem a_X4_writeToBook_56 : ix_at mT_X4_writeToBook 56 = some (.getfield 30, 3) := by decide +kernel
theorem a_X4_writeToBook_59 : ix_at mT_X4_writeToBook 59 = some (.iload 5, 2) := by decide +kernel
theorem a_X4_writeToBook_61 : ix_at mT_X4_writeToBook 61 = some (.iconst 4, 1) := by decide +kernel
theorem a_X4_writeToBook_62 : ix_at mT_X4_writeToBook 62 = some (.invokevirtual 262, 3) := by decide +kernel
theorem a_X4_writeToBook_65 : ix_at mT_X4_writeToBook 65 = some (.aload_n 0, 1) := by decide +kernel
theorem a_X4_writeToBook_66 : ix_at mT_X4_writeToBook 66 = some (.getfield 30, 3) := by decide +kernel
theorem a_X4_writeToBook_69 : ix_at mT_X4_writeToBook 69 = some (.iload 6, 2) := by decide +kernel
theorem a_X4_writeToBook_71 : ix_at mT_X4_writeToBook 71 = some (.invokevirtual 265, 3) := by decide +kernel
theorem a_X4_writeToBook_74 : ix_at mT_X4_writeToBook 74 = some (.aload_n 0, 1) := by decide +kernel
theorem a_X4_writeToBook_75 : ix_at mT_X4_writeToBook 75 = some (.getfield 36, 3) := by decide +kernel
theorem a_X4_writeToBook_78 : ix_at mT_X4_writeToBook 78 = some (.aload_n 0, 1) := by decide +kernel
theorem a_X4_writeToBook_79 : ix_at mT_X4_writeToBook 79 = some (.getfield 146, 3) := by decide +kernel
theorem a_X4_writeToBook_82 : ix_at mT_X4_writeToBook 82 = some (.aload_n 0, 1) := by decide +kernel
theorem a_X4_writeToBook_83 : ix_at mT_X4_writeToBook 83 = some (.getfield 30, 3) := by decide +kernel
theorem a_X4_writeToBook_86 : ix_at mT_X4_writeToBook 86 = some (.getfield 56, 3) := by decide +kernel
theorem a_X4_writeToBook_89 : ix_at mT_X4_writeToBook 89 = some (.iload 6, 2) := by decide +kernel
theorem a_X4_writeToBook_91 : ix_at mT_X4_writeToBook 91 = some (.isub, 1) := by decide +kernel
theorem a_X4_writeToBook_92 : ix_at mT_X4_writeToBook 92 = some (.invokevirtual 258, 3) := by decide +kernel
theorem a_X4_writeToBook_95 : ix_at mT_X4_writeToBook 95 = some (.aload_n 0, 1) := by decide +kernel
theorem a_X4_writeToBook_96 : ix_at mT_X4_writeToBook 96 = some (.iload 6, 2) := by decide +kernel
theorem a_X4_writeToBook_98 : ix_at mT_X4_writeToBook 98 = some (.invokevirtual 174, 3) := by decide +kernel
theorem a_X4_writeToBook_101 : ix_at mT_X4_writeToBook 101 = some (.return_, 1) := by decide +kernel
theorem a_X4_learn_0 : ix_at mT_X4_learn 0 = some (.aload_n 0, 1) := by decide +kernel
theorem a_X4_learn_1 : ix_at mT_X4_learn 1 = some (.getfield 30, 3) := by decide +kernel
theorem a_X4_learn_4 : ix_at mT_X4_learn 4 = some (.iload_n 1, 1) := by decide +kernel
theorem a_X4_learn_5 : ix_at mT_X4_learn 5 = some (.iconst 5, 1) := by decide +kernel
theorem a_X4_learn_6 : ix_at mT_X4_learn 6 = some (.iadd, 1) := by decide +kernel
theorem a_X4_learn_7 : ix_at mT_X4_learn 7 = some (.iconst 1, 1) := by decide +kernel
theorem a_X4_learn_8 : ix_at mT_X4_learn 8 = some (.invokevirtual 268, 3) := by decide +kernel
theorem a_X4_learn_11 : ix_at mT_X4_learn 11 = some (.istore_n 2, 1) := by decide +kernel
theorem a_X4_learn_12 : ix_at mT_X4_learn 12 = some (.aload_n 0, 1) := by decide +kernel
theorem a_X4_learn_13 : ix_at mT_X4_learn 13 = some (.iload_n 2, 1) := by decide +kernel
theorem a_X4_learn_14 : ix_at mT_X4_learn 14 = some (.invokevirtual 67, 3) := by decide +kernel
theorem a_X4_learn_17 : ix_at mT_X4_learn 17 = some (.ifCond .ne 4, 3) := by decide +kernel
theorem a_X4_learn_20 : ix_at mT_X4_learn 20 = some (.return_, 1) := by decide +kernel
theorem a_X4_learn_21 : ix_at mT_X4_learn 21 = some (.aload_n 0, 1) := by decide +kernel
theorem a_X4_learn_22 : ix_at mT_X4_learn 22 = some (.getfield 42, 3) := by decide +kernel
theorem a_X4_learn_25 : ix_at mT_X4_learn 25 = some (.iload_n 2, 1) := by decide +kernel
theorem a_X4_learn_26 : ix_at mT_X4_learn 26 = some (.aaload, 1) := by decide +kernel
theorem a_X4_learn_27 : ix_at mT_X4_learn 27 = some (.astore_n 3, 1) := by decide +kernel
theorem a_X4_learn_28 : ix_at mT_X4_learn 28 = some (.aload_n 0, 1) := by decide +kernel
theorem a_X4_learn_29 : ix_at mT_X4_learn 29 = some (.getfield 30, 3) := by decide +kernel
theorem a_X4_learn_32 : ix_at mT_X4_learn 32 = some (.iload_n 1, 1) := by decide +kernel
theorem a_X4_learn_33 : ix_at mT_X4_learn 33 = some (.bipush 8, 2) := by decide +kernel
theorem a_X4_learn_35 : ix_at mT_X4_learn 35 = some (.iadd, 1) := by decide +kernel
theorem a_X4_learn_36 : ix_at mT_X4_learn 36 = some (.iconst 4, 1) := by decide +kernel
theorem a_X4_learn_37 : ix_at mT_X4_learn 37 = some (.invokevirtual 268, 3) := by decide +kernel
theorem a_X4_learn_40 : ix_at mT_X4_learn 40 = some (.istore 4, 2) := by decide +kernel
theorem a_X4_learn_42 : ix_at mT_X4_learn 42 = some (.aload_n 0, 1) := by decide +kernel
theorem a_X4_learn_43 : ix_at mT_X4_learn 43 = some (.getfield 30, 3) := by decide +kernel
theorem a_X4_learn_46 : ix_at mT_X4_learn 46 = some (.iload_n 1, 1) := by decide +kernel
theorem a_X4_learn_47 : ix_at mT_X4_learn 47 = some (.bipush 12, 2) := by decide +kernel
theorem a_X4_learn_49 : ix_at mT_X4_learn 49 = some (.iadd, 1) := by decide +kernel
theorem a_X4_learn_50 : ix_at mT_X4_learn 50 = some (.iconst 4, 1) := by decide +kernel
theorem a_X4_learn_51 : ix_at mT_X4_learn 51 = some (.invokevirtual 268, 3) := by decide +kernel
theorem a_X4_learn_54 : ix_at mT_X4_learn 54 = some (.istore 5, 2) := by decide +kernel
theorem a_X4_learn_56 : ix_at mT_X4_learn 56 = some (.aload_n 0, 1) := by decide +kernel
theorem a_X4_learn_57 : ix_at mT_X4_learn 57 = some (.getfield 30, 3) := by decide +kernel
theorem a_X4_learn_60 : ix_at mT_X4_learn 60 = some (.iload_n 1, 1) := by decide +kernel
theorem a_X4_learn_61 : ix_at mT_X4_learn 61 = some (.iconst 4, 1) := by decide +kernel
theorem a_X4_learn_62 : ix_at mT_X4_learn 62 = some (.iadd, 1) := by decide +kernel
theorem a_X4_learn_63 : ix_at mT_X4_learn 63 = some (.iconst 1, 1) := by decide +kernel
theorem a_X4_learn_64 : ix_at mT_X4_learn 64 = some (.invokevirtual 268, 3) := by decide +kernel
theorem a_X4_learn_67 : ix_at mT_X4_learn 67 = some (.tableswitch 154 0 6 #[41, 60, 80, 96, 109, 118, 143], 41) := by decide +kernel
theorem a_X4_learn_108 : ix_at mT_X4_learn 108 = some (.aload_n 3, 1) := by decide +kernel
theorem a_X4_learn_109 : ix_at mT_X4_learn 109 = some (.aload_n 0, 1) := by decide +kernel
theorem a_X4_learn_110 : ix_at mT_X4_learn 110 = some (.getfield 30, 3) := by decide +kernel
theorem a_X4_learn_113 : ix_at mT_X4_learn 113 = some (.iload_n 1, 1) := by decide +kernel
theorem a_X4_learn_114 : ix_at mT_X4_learn 114 = some (.bipush 6, 2) := by decide +kernel
theorem a_X4_learn_116 : ix_at mT_X4_learn 116 = some (.iadd, 1) := by decide +kernel
theorem a_X4_learn_117 : ix_at mT_X4_learn 117 = some (.iconst 2, 1) := by decide +kernel
theorem a_X4_learn_118 : ix_at mT_X4_learn 118 = some (.invokevirtual 268, 3) := by decide +kernel
theorem a_X4_learn_121 : ix_at mT_X4_learn 121 = some (.putfield 88, 3) := by decide +kernel
theorem a_X4_learn_124 : ix_at mT_X4_learn 124 = some (.goto 97, 3) := by decide +kernel
theorem a_X4_learn_127 : ix_at mT_X4_learn 127 = some (.aload_n 3, 1) := by decide +kernel
theorem a_X4_learn_128 : ix_at mT_X4_learn 128 = some (.iload 5, 2) := by decide +kernel
theorem a_X4_learn_130 : ix_at mT_X4_learn 130 = some (.iload 4, 2) := by decide +kernel
theorem a_X4_learn_132 : ix_at mT_X4_learn 132 = some (.iload_n 1, 1) := by decide +kernel
theorem a_X4_learn_133 : ix_at mT_X4_learn 133 = some (.invokevirtual 271, 3) := by decide +kernel
theorem a_X4_learn_136 : ix_at mT_X4_learn 136 = some (.aload_n 0, 1) := by decide +kernel
theorem a_X4_learn_137 : ix_at mT_X4_learn 137 = some (.iload 5, 2) := by decide +kernel
theorem a_X4_learn_139 : ix_at mT_X4_learn 139 = some (.iconst 1, 1) := by decide +kernel
theorem a_X4_learn_140 : ix_at mT_X4_learn 140 = some (.iadd, 1) := by decide +kernel
theorem a_X4_learn_141 : ix_at mT_X4_learn 141 = some (.putfield 95, 3) := by decide +kernel
theorem a_X4_learn_144 : ix_at mT_X4_learn 144 = some (.goto 77, 3) := by decide +kernel
theorem a_X4_learn_147 : ix_at mT_X4_learn 147 = some (.aload_n 3, 1) := by decide +kernel
theorem a_X4_learn_148 : ix_at mT_X4_learn 148 = some (.dup, 1) := by decide +kernel
theorem a_X4_learn_149 : ix_at mT_X4_learn 149 = some (.getfield 211, 3) := by decide +kernel
theorem a_X4_learn_152 : ix_at mT_X4_learn 152 = some (.iconst 1, 1) := by decide +kernel
theorem a_X4_learn_153 : ix_at mT_X4_learn 153 = some (.iload 4, 2) := by decide +kernel
theorem a_X4_learn_155 : ix_at mT_X4_learn 155 = some (.ishl, 1) := by decide +kernel
theorem a_X4_learn_156 : ix_at mT_X4_learn 156 = some (.ior, 1) := by decide +kernel
theorem a_X4_learn_157 : ix_at mT_X4_learn 157 = some (.putfield 211, 3) := by decide +kernel
theorem a_X4_learn_160 : ix_at mT_X4_learn 160 = some (.goto 61, 3) := by decide +kernel
theorem a_X4_learn_163 : ix_at mT_X4_learn 163 = some (.aload_n 3, 1) := by decide +kernel
theorem a_X4_learn_164 : ix_at mT_X4_learn 164 = some (.dup, 1) := by decide +kernel
theorem a_X4_learn_165 : ix_at mT_X4_learn 165 = some (.getfield 214, 3) := by decide +kernel
theorem a_X4_learn_168 : ix_at mT_X4_learn 168 = some (.iconst 1, 1) := by decide +kernel
theorem a_X4_learn_169 : ix_at mT_X4_learn 169 = some (.iadd, 1) := by decide +kernel
theorem a_X4_learn_170 : ix_at mT_X4_learn 170 = some (.putfield 214, 3) := by decide +kernel
theorem a_X4_learn_173 : ix_at mT_X4_learn 173 = some (.goto 48, 3) := by decide +kernel
theorem a_X4_learn_176 : ix_at mT_X4_learn 176 = some (.aload_n 3, 1) := by decide +kernel
theorem a_X4_learn_177 : ix_at mT_X4_learn 177 = some (.iload 4, 2) := by decide +kernel
theorem a_X4_learn_179 : ix_at mT_X4_learn 179 = some (.putfield 274, 3) := by decide +kernel
theorem a_X4_learn_182 : ix_at mT_X4_learn 182 = some (.goto 39, 3) := by decide +kernel
theorem a_X4_learn_185 : ix_at mT_X4_learn 185 = some (.aload_n 3, 1) := by decide +kernel
theorem a_X4_learn_186 : ix_at mT_X4_learn 186 = some (.getfield 274, 3) := by decide +kernel
theorem a_X4_learn_189 : ix_at mT_X4_learn 189 = some (.iconst 1, 1) := by decide +kernel
theorem a_X4_learn_190 : ix_at mT_X4_learn 190 = some (.if_icmp .ne 13, 3) := by decide +kernel
theorem a_X4_learn_193 : ix_at mT_X4_learn 193 = some (.aload_n 0, 1) := by decide +kernel
theorem a_X4_learn_194 : ix_at mT_X4_learn 194 = some (.iload_n 2, 1) := by decide +kernel
theorem a_X4_learn_195 : ix_at mT_X4_learn 195 = some (.aload_n 3, 1) := by decide +kernel
theorem a_X4_learn_196 : ix_at mT_X4_learn 196 = some (.getfield 277, 3) := by decide +kernel
theorem a_X4_learn_199 : ix_at mT_X4_learn 199 = some (.iload_n 1, 1) := by decide +kernel
theorem a_X4_learn_200 : ix_at mT_X4_learn 200 = some (.invokevirtual 280, 3) := by decide +kernel
theorem a_X4_learn_203 : ix_at mT_X4_learn 203 = some (.aload_n 3, 1) := by decide +kernel
theorem a_X4_learn_204 : ix_at mT_X4_learn 204 = some (.invokevirtual 283, 3) := by decide +kernel
theorem a_X4_learn_207 : ix_at mT_X4_learn 207 = some (.goto 14, 3) := by decide +kernel
theorem a_X4_learn_210 : ix_at mT_X4_learn 210 = some (.aload_n 0, 1) := by decide +kernel
theorem a_X4_learn_211 : ix_at mT_X4_learn 211 = some (.iload 4, 2) := by decide +kernel
theorem a_X4_learn_213 : ix_at mT_X4_learn 213 = some (.iload 5, 2) := by decide +kernel
theorem a_X4_learn_215 : ix_at mT_X4_learn 215 = some (.invokevirtual 286, 3) := by decide +kernel
theorem a_X4_learn_218 : ix_at mT_X4_learn 218 = some (.goto 3, 3) := by decide +kernel
theorem a_X4_learn_221 : ix_at mT_X4_learn 221 = some (.return_, 1) := by decide +kernel
theorem a_X4_markLaters_0 : ix_at mT_X4_markLaters 0 = some (.iload_n 2, 1) := by decide +kernel
theorem a_X4_markLaters_1 : ix_at mT_X4_markLaters 1 = some (.istore 4, 2) := by decide +kernel
theorem a_X4_markLaters_3 : ix_at mT_X4_markLaters 3 = some (.iload 4, 2) := by decide +kernel
theorem a_X4_markLaters_5 : ix_at mT_X4_markLaters 5 = some (.iload_n 3, 1) := by decide +kernel
theorem a_X4_markLaters_6 : ix_at mT_X4_markLaters 6 = some (.if_icmp .ge 71, 3) := by decide +kernel
theorem a_X4_markLaters_9 : ix_at mT_X4_markLaters 9 = some (.aload_n 0, 1) := by decide +kernel
theorem a_X4_markLaters_10 : ix_at mT_X4_markLaters 10 = some (.getfield 30, 3) := by decide +kernel
theorem a_X4_markLaters_13 : ix_at mT_X4_markLaters 13 = some (.iload 4, 2) := by decide +kernel
theorem a_X4_markLaters_15 : ix_at mT_X4_markLaters 15 = some (.iconst 4, 1) := by decide +kernel
theorem a_X4_markLaters_16 : ix_at mT_X4_markLaters 16 = some (.iadd, 1) := by decide +kernel
theorem a_X4_markLaters_17 : ix_at mT_X4_markLaters 17 = some (.iconst 1, 1) := by decide +kernel
theorem a_X4_markLaters_18 : ix_at mT_X4_markLaters 18 = some (.invokevirtual 268, 3) := by decide +kernel
theorem a_X4_markLaters_21 : ix_at mT_X4_markLaters 21 = some (.iconst 3, 1) := by decide +kernel
theorem a_X4_markLaters_22 : ix_at mT_X4_markLaters 22 = some (.if_icmp .ne 49, 3) := by decide +kernel
theorem a_X4_markLaters_25 : ix_at mT_X4_markLaters 25 = some (.aload_n 0, 1) := by decide +kernel
theorem a_X4_markLaters_26 : ix_at mT_X4_markLaters 26 = some (.getfield 30, 3) := by decide +kernel
theorem a_X4_markLaters_29 : ix_at mT_X4_markLaters 29 = some (.iload 4, 2) := by decide +kernel
theorem a_X4_markLaters_31 : ix_at mT_X4_markLaters 31 = some (.iconst 5, 1) := by decide +kernel
theorem a_X4_markLaters_32 : ix_at mT_X4_markLaters 32 = some (.iadd, 1) := by decide +kernel
theorem a_X4_markLaters_33 : ix_at mT_X4_markLaters 33 = some (.iconst 1, 1) := by decide +kernel
theorem a_X4_markLaters_34 : ix_at mT_X4_markLaters 34 = some (.invokevirtual 268, 3) := by decide +kernel
theorem a_X4_markLaters_37 : ix_at mT_X4_markLaters 37 = some (.iload_n 1, 1) := by decide +kernel
theorem a_X4_markLaters_38 : ix_at mT_X4_markLaters 38 = some (.if_icmp .ne 33, 3) := by decide +kernel
theorem a_X4_markLaters_41 : ix_at mT_X4_markLaters 41 = some (.aload_n 0, 1) := by decide +kernel
theorem a_X4_markLaters_42 : ix_at mT_X4_markLaters 42 = some (.aload_n 0, 1) := by decide +kernel
theorem a_X4_markLaters_43 : ix_at mT_X4_markLaters 43 = some (.getfield 30, 3) := by decide +kernel
theorem a_X4_markLaters_46 : ix_at mT_X4_markLaters 46 = some (.iload 4, 2) := by decide +kernel
theorem a_X4_markLaters_48 : ix_at mT_X4_markLaters 48 = some (.bipush 8, 2) := by decide +kernel
theorem a_X4_markLaters_50 : ix_at mT_X4_markLaters 50 = some (.iadd, 1) := by decide +kernel
theorem a_X4_markLaters_51 : ix_at mT_X4_markLaters 51 = some (.iconst 4, 1) := by decide +kernel
theorem a_X4_markLaters_52 : ix_at mT_X4_markLaters 52 = some (.invokevirtual 268, 3) := by decide +kernel
theorem a_X4_markLaters_55 : ix_at mT_X4_markLaters 55 = some (.aload_n 0, 1) := by decide +kernel
theorem a_X4_markLaters_56 : ix_at mT_X4_markLaters 56 = some (.getfield 30, 3) := by decide +kernel
theorem a_X4_markLaters_59 : ix_at mT_X4_markLaters 59 = some (.iload 4, 2) := by decide +kernel
theorem a_X4_markLaters_61 : ix_at mT_X4_markLaters 61 = some (.bipush 12, 2) := by decide +kernel
theorem a_X4_markLaters_63 : ix_at mT_X4_markLaters 63 = some (.iadd, 1) := by decide +kernel
theorem a_X4_markLaters_64 : ix_at mT_X4_markLaters 64 = some (.iconst 4, 1) := by decide +kernel
theorem a_X4_markLaters_65 : ix_at mT_X4_markLaters 65 = some (.invokevirtual 268, 3) := by decide +kernel
theorem a_X4_markLaters_68 : ix_at mT_X4_markLaters 68 = some (.invokevirtual 286, 3) := by decide +kernel
theorem a_X4_markLaters_71 : ix_at mT_X4_markLaters 71 = some (.iinc 4 16, 3) := by decide +kernel
theorem a_X4_markLaters_74 : ix_at mT_X4_markLaters 74 = some (.goto (-71), 3) := by decide +kernel
theorem a_X4_markLaters_77 : ix_at mT_X4_markLaters 77 = some (.return_, 1) := by decide +kernel
theorem a_X4_setMark_0 : ix_at mT_X4_setMark 0 = some (.iload_n 1, 1) := by decide +kernel
theorem a_X4_setMark_1 : ix_at mT_X4_setMark 1 = some (.ifCond .lt 19, 3) := by decide +kernel
theorem a_X4_setMark_4 : ix_at mT_X4_setMark 4 = some (.iload_n 1, 1) := by decide +kernel
theorem a_X4_setMark_5 : ix_at mT_X4_setMark 5 = some (.aload_n 0, 1) := by decide +kernel
theorem a_X4_setMark_6 : ix_at mT_X4_setMark 6 = some (.getfield 46, 3) := by decide +kernel
theorem a_X4_setMark_9 : ix_at mT_X4_setMark 9 = some (.arraylength, 1) := by decide +kernel
theorem a_X4_setMark_10 : ix_at mT_X4_setMark 10 = some (.if_icmp .ge 10, 3) := by decide +kernel
theorem a_X4_setMark_13 : ix_at mT_X4_setMark 13 = some (.aload_n 0, 1) := by decide +kernel
theorem a_X4_setMark_14 : ix_at mT_X4_setMark 14 = some (.getfield 46, 3) := by decide +kernel
theorem a_X4_setMark_17 : ix_at mT_X4_setMark 17 = some (.iload_n 1, 1) := by decide +kernel
theorem a_X4_setMark_18 : ix_at mT_X4_setMark 18 = some (.iload_n 2, 1) := by decide +kernel
theorem a_X4_setMark_19 : ix_at mT_X4_setMark 19 = some (.iastore, 1) := by decide +kernel
theorem a_X4_setMark_20 : ix_at mT_X4_setMark 20 = some (.return_, 1) := by decide +kernel
theorem a_X4_raiseEpoch_0 : ix_at mT_X4_raiseEpoch 0 = some (.aload_n 0, 1) := by decide +kernel
theorem a_X4_raiseEpoch_1 : ix_at mT_X4_raiseEpoch 1 = some (.iconst 0, 1) := by decide +kernel
theorem a_X4_raiseEpoch_2 : ix_at mT_X4_raiseEpoch 2 = some (.iload_n 1, 1) := by decide +kernel
theorem a_X4_raiseEpoch_3 : ix_at mT_X4_raiseEpoch 3 = some (.aload_n 0, 1) := by decide +kernel
theorem a_X4_raiseEpoch_4 : ix_at mT_X4_raiseEpoch 4 = some (.getfield 42, 3) := by decide +kernel
theorem a_X4_raiseEpoch_7 : ix_at mT_X4_raiseEpoch 7 = some (.iload_n 1, 1) := by decide +kernel
theorem a_X4_raiseEpoch_8 : ix_at mT_X4_raiseEpoch 8 = some (.aaload, 1) := by decide +kernel
theorem a_X4_raiseEpoch_9 : ix_at mT_X4_raiseEpoch 9 = some (.getfield 88, 3) := by decide +kernel
theorem a_X4_raiseEpoch_12 : ix_at mT_X4_raiseEpoch 12 = some (.iconst 1, 1) := by decide +kernel
theorem a_X4_raiseEpoch_13 : ix_at mT_X4_raiseEpoch 13 = some (.iadd, 1) := by decide +kernel
theorem a_X4_raiseEpoch_14 : ix_at mT_X4_raiseEpoch 14 = some (.iconst 0, 1) := by decide +kernel
theorem a_X4_raiseEpoch_15 : ix_at mT_X4_raiseEpoch 15 = some (.iconst 0, 1) := by decide +kernel
theorem a_X4_raiseEpoch_16 : ix_at mT_X4_raiseEpoch 16 = some (.invokevirtual 101, 3) := by decide +kernel
theorem a_X4_raiseEpoch_19 : ix_at mT_X4_raiseEpoch 19 = some (.return_, 1) := by decide +kernel
theorem a_X4_decide_0 : ix_at mT_X4_decide 0 = some (.aload_n 0, 1) := by decide +kernel
theorem a_X4_decide_1 : ix_at mT_X4_decide 1 = some (.getfield 42, 3) := by decide +kernel
theorem a_X4_decide_4 : ix_at mT_X4_decide 4 = some (.iload_n 1, 1) := by decide +kernel
theorem a_X4_decide_5 : ix_at mT_X4_decide 5 = some (.aaload, 1) := by decide +kernel
theorem a_X4_decide_6 : ix_at mT_X4_decide 6 = some (.astore_n 3, 1) := by decide +kernel
theorem a_X4_decide_7 : ix_at mT_X4_decide 7 = some (.aload_n 0, 1) := by decide +kernel
theorem a_X4_decide_8 : ix_at mT_X4_decide 8 = some (.iconst 4, 1) := by decide +kernel
theorem a_X4_decide_9 : ix_at mT_X4_decide 9 = some (.iload_n 1, 1) := by decide +kernel
theorem a_X4_decide_10 : ix_at mT_X4_decide 10 = some (.aload_n 3, 1) := by decide +kernel
theorem a_X4_decide_11 : ix_at mT_X4_decide 11 = some (.getfield 88, 3) := by decide +kernel
theorem a_X4_decide_14 : ix_at mT_X4_decide 14 = some (.iload_n 2, 1) := by decide +kernel
theorem a_X4_decide_15 : ix_at mT_X4_decide 15 = some (.ifCond .eq 7, 3) := by decide +kernel
theorem a_X4_decide_18 : ix_at mT_X4_decide 18 = some (.iconst 1, 1) := by decide +kernel
theorem a_X4_decide_19 : ix_at mT_X4_decide 19 = some (.goto 4, 3) := by decide +kernel
theorem a_X4_decide_22 : ix_at mT_X4_decide 22 = some (.iconst 0, 1) := by decide +kernel
theorem a_X4_decide_23 : ix_at mT_X4_decide 23 = some (.aload_n 3, 1) := by decide +kernel
theorem a_X4_decide_24 : ix_at mT_X4_decide 24 = some (.getfield 205, 3) := by decide +kernel
theorem a_X4_decide_27 : ix_at mT_X4_decide 27 = some (.invokevirtual 101, 3) := by decide +kernel
theorem a_X4_decide_30 : ix_at mT_X4_decide 30 = some (.return_, 1) := by decide +kernel
theorem a_X4_finish_0 : ix_at mT_X4_finish 0 = some (.aload_n 0, 1) := by decide +kernel
theorem a_X4_finish_1 : ix_at mT_X4_finish 1 = some (.getfield 42, 3) := by decide +kernel
theorem a_X4_finish_4 : ix_at mT_X4_finish 4 = some (.iload_n 1, 1) := by decide +kernel
theorem a_X4_finish_5 : ix_at mT_X4_finish 5 = some (.aaload, 1) := by decide +kernel
theorem a_X4_finish_6 : ix_at mT_X4_finish 6 = some (.astore_n 2, 1) := by decide +kernel
theorem a_X4_finish_7 : ix_at mT_X4_finish 7 = some (.aload_n 2, 1) := by decide +kernel
theorem a_X4_finish_8 : ix_at mT_X4_finish 8 = some (.getfield 274, 3) := by decide +kernel
theorem a_X4_finish_11 : ix_at mT_X4_finish 11 = some (.iconst 1, 1) := by decide +kernel
theorem a_X4_finish_12 : ix_at mT_X4_finish 12 = some (.if_icmp .ne 7, 3) := by decide +kernel
theorem a_X4_finish_15 : ix_at mT_X4_finish 15 = some (.iconst 2, 1) := by decide +kernel
theorem a_X4_finish_16 : ix_at mT_X4_finish 16 = some (.goto 4, 3) := by decide +kernel
theorem a_X4_finish_19 : ix_at mT_X4_finish 19 = some (.iconst 3, 1) := by decide +kernel
theorem a_X4_finish_20 : ix_at mT_X4_finish 20 = some (.istore_n 3, 1) := by decide +kernel
theorem a_X4_finish_21 : ix_at mT_X4_finish 21 = some (.iconst 0, 1) := by decide +kernel
theorem a_X4_finish_22 : ix_at mT_X4_finish 22 = some (.istore 4, 2) := by decide +kernel
theorem a_X4_finish_24 : ix_at mT_X4_finish 24 = some (.iload 4, 2) := by decide +kernel
theorem a_X4_finish_26 : ix_at mT_X4_finish 26 = some (.aload_n 0, 1) := by decide +kernel
theorem a_X4_finish_27 : ix_at mT_X4_finish 27 = some (.getfield 146, 3) := by decide +kernel
theorem a_X4_finish_30 : ix_at mT_X4_finish 30 = some (.if_icmp .ge 56, 3) := by decide +kernel
theorem a_X4_finish_33 : ix_at mT_X4_finish 33 = some (.aload_n 2, 1) := by decide +kernel
theorem a_X4_finish_34 : ix_at mT_X4_finish 34 = some (.iload 4, 2) := by decide +kernel
theorem a_X4_finish_36 : ix_at mT_X4_finish 36 = some (.invokevirtual 243, 3) := by decide +kernel
theorem a_X4_finish_39 : ix_at mT_X4_finish 39 = some (.ifCond .eq 41, 3) := by decide +kernel
theorem a_X4_finish_42 : ix_at mT_X4_finish 42 = some (.aload_n 0, 1) := by decide +kernel
theorem a_X4_finish_43 : ix_at mT_X4_finish 43 = some (.getfield 26, 3) := by decide +kernel
theorem a_X4_finish_46 : ix_at mT_X4_finish 46 = some (.iload 4, 2) := by decide +kernel
theorem a_X4_finish_48 : ix_at mT_X4_finish 48 = some (.aaload, 1) := by decide +kernel
theorem a_X4_finish_49 : ix_at mT_X4_finish 49 = some (.aload_n 2, 1) := by decide +kernel
theorem a_X4_finish_50 : ix_at mT_X4_finish 50 = some (.getfield 205, 3) := by decide +kernel
theorem a_X4_finish_53 : ix_at mT_X4_finish 53 = some (.invokevirtual 289, 3) := by decide +kernel
theorem a_X4_finish_56 : ix_at mT_X4_finish 56 = some (.ifCond .ne 24, 3) := by decide +kernel
theorem a_X4_finish_59 : ix_at mT_X4_finish 59 = some (.aload_n 0, 1) := by decide +kernel
theorem a_X4_finish_60 : ix_at mT_X4_finish 60 = some (.iload 4, 2) := by decide +kernel
theorem a_X4_finish_62 : ix_at mT_X4_finish 62 = some (.iload_n 3, 1) := by decide +kernel
theorem a_X4_finish_63 : ix_at mT_X4_finish 63 = some (.iload_n 1, 1) := by decide +kernel
theorem a_X4_finish_64 : ix_at mT_X4_finish 64 = some (.aload_n 2, 1) := by decide +kernel
theorem a_X4_finish_65 : ix_at mT_X4_finish 65 = some (.getfield 88, 3) := by decide +kernel
theorem a_X4_finish_68 : ix_at mT_X4_finish 68 = some (.aload_n 2, 1) := by decide +kernel
theorem a_X4_finish_69 : ix_at mT_X4_finish 69 = some (.getfield 205, 3) := by decide +kernel
theorem a_X4_finish_72 : ix_at mT_X4_finish 72 = some (.aload_n 0, 1) := by decide +kernel
theorem a_X4_finish_73 : ix_at mT_X4_finish 73 = some (.getfield 21, 3) := by decide +kernel
theorem a_X4_finish_76 : ix_at mT_X4_finish 76 = some (.invokevirtual 250, 3) := by decide +kernel
theorem a_X4_finish_79 : ix_at mT_X4_finish 79 = some (.pop, 1) := by decide +kernel
theorem a_X4_finish_80 : ix_at mT_X4_finish 80 = some (.iinc 4 1, 3) := by decide +kernel
theorem a_X4_finish_83 : ix_at mT_X4_finish 83 = some (.goto (-59), 3) := by decide +kernel
theorem a_X4_finish_86 : ix_at mT_X4_finish 86 = some (.aload_n 0, 1) := by decide +kernel
theorem a_X4_finish_87 : ix_at mT_X4_finish 87 = some (.iconst 5, 1) := by decide +kernel
theorem a_X4_finish_88 : ix_at mT_X4_finish 88 = some (.iload_n 1, 1) := by decide +kernel
theorem a_X4_finish_89 : ix_at mT_X4_finish 89 = some (.aload_n 2, 1) := by decide +kernel
theorem a_X4_finish_90 : ix_at mT_X4_finish 90 = some (.getfield 88, 3) := by decide +kernel
theorem a_X4_finish_93 : ix_at mT_X4_finish 93 = some (.iconst 0, 1) := by decide +kernel
theorem a_X4_finish_94 : ix_at mT_X4_finish 94 = some (.aload_n 2, 1) := by decide +kernel
theorem a_X4_finish_95 : ix_at mT_X4_finish 95 = some (.getfield 205, 3) := by decide +kernel
theorem a_X4_finish_98 : ix_at mT_X4_finish 98 = some (.invokevirtual 101, 3) := by decide +kernel
theorem a_X4_finish_101 : ix_at mT_X4_finish 101 = some (.return_, 1) := by decide +kernel
theorem a_X4_endOverdue_0 : ix_at mT_X4_endOverdue 0 = some (.iconst 0, 1) := by decide +kernel
theorem a_X4_endOverdue_1 : ix_at mT_X4_endOverdue 1 = some (.istore_n 1, 1) := by decide +kernel
theorem a_X4_endOverdue_2 : ix_at mT_X4_endOverdue 2 = some (.iconst 0, 1) := by decide +kernel
theorem a_X4_endOverdue_3 : ix_at mT_X4_endOverdue 3 = some (.istore_n 2, 1) := by decide +kernel
theorem a_X4_endOverdue_4 : ix_at mT_X4_endOverdue 4 = some (.iload_n 2, 1) := by decide +kernel
theorem a_X4_endOverdue_5 : ix_at mT_X4_endOverdue 5 = some (.bipush 32, 2) := by decide +kernel
theorem a_X4_endOverdue_7 : ix_at mT_X4_endOverdue 7 = some (.if_icmp .ge 42, 3) := by decide +kernel
theorem a_X4_endOverdue_10 : ix_at mT_X4_endOverdue 10 = some (.aload_n 0, 1) := by decide +kernel
theorem a_X4_endOverdue_11 : ix_at mT_X4_endOverdue 11 = some (.iconst 0, 1) := by decide +kernel
theorem a_X4_endOverdue_12 : ix_at mT_X4_endOverdue 12 = some (.invokevirtual 292, 3) := by decide +kernel
theorem a_X4_endOverdue_15 : ix_at mT_X4_endOverdue 15 = some (.istore_n 3, 1) := by decide +kernel
theorem a_X4_endOverdue_16 : ix_at mT_X4_endOverdue 16 = some (.iload_n 3, 1) := by decide +kernel
theorem a_X4_endOverdue_17 : ix_at mT_X4_endOverdue 17 = some (.iconst (-1), 1) := by decide +kernel
theorem a_X4_endOverdue_18 : ix_at mT_X4_endOverdue 18 = some (.if_icmp .ne 6, 3) := by decide +kernel
theorem a_X4_endOverdue_21 : ix_at mT_X4_endOverdue 21 = some (.goto 28, 3) := by decide +kernel
theorem a_X4_endOverdue_24 : ix_at mT_X4_endOverdue 24 = some (.aload_n 0, 1) := by decide +kernel
theorem a_X4_endOverdue_25 : ix_at mT_X4_endOverdue 25 = some (.iload_n 3, 1) := by decide +kernel
theorem a_X4_endOverdue_26 : ix_at mT_X4_endOverdue 26 = some (.iconst 0, 1) := by decide +kernel
theorem a_X4_endOverdue_27 : ix_at mT_X4_endOverdue 27 = some (.invokevirtual 75, 3) := by decide +kernel
theorem a_X4_endOverdue_30 : ix_at mT_X4_endOverdue 30 = some (.aload_n 0, 1) := by decide +kernel
theorem a_X4_endOverdue_31 : ix_at mT_X4_endOverdue 31 = some (.iload_n 3, 1) := by decide +kernel
theorem a_X4_endOverdue_32 : ix_at mT_X4_endOverdue 32 = some (.invokevirtual 79, 3) := by decide +kernel
theorem a_X4_endOverdue_35 : ix_at mT_X4_endOverdue 35 = some (.aload_n 0, 1) := by decide +kernel
theorem a_X4_endOverdue_36 : ix_at mT_X4_endOverdue 36 = some (.iload_n 3, 1) := by decide +kernel
theorem a_X4_endOverdue_37 : ix_at mT_X4_endOverdue 37 = some (.invokevirtual 85, 3) := by decide +kernel
theorem a_X4_endOverdue_40 : ix_at mT_X4_endOverdue 40 = some (.iinc 1 1, 3) := by decide +kernel
theorem a_X4_endOverdue_43 : ix_at mT_X4_endOverdue 43 = some (.iinc 2 1, 3) := by decide +kernel
theorem a_X4_endOverdue_46 : ix_at mT_X4_endOverdue 46 = some (.goto (-42), 3) := by decide +kernel
theorem a_X4_endOverdue_49 : ix_at mT_X4_endOverdue 49 = some (.iload_n 1, 1) := by decide +kernel
theorem a_X4_endOverdue_50 : ix_at mT_X4_endOverdue 50 = some (.ireturn, 1) := by decide +kernel
theorem a_X4_finishDecided_0 : ix_at mT_X4_finishDecided 0 = some (.iconst 0, 1) := by decide +kernel
theorem a_X4_finishDecided_1 : ix_at mT_X4_finishDecided 1 = some (.istore_n 1, 1) := by decide +kernel
theorem a_X4_finishDecided_2 : ix_at mT_X4_finishDecided 2 = some (.iconst 0, 1) := by decide +kernel
theorem a_X4_finishDecided_3 : ix_at mT_X4_finishDecided 3 = some (.istore_n 2, 1) := by decide +kernel
theorem a_X4_finishDecided_4 : ix_at mT_X4_finishDecided 4 = some (.iload_n 2, 1) := by decide +kernel
theorem a_X4_finishDecided_5 : ix_at mT_X4_finishDecided 5 = some (.bipush 32, 2) := by decide +kernel
theorem a_X4_finishDecided_7 : ix_at mT_X4_finishDecided 7 = some (.if_icmp .ge 31, 3) := by decide +kernel
theorem a_X4_finishDecided_10 : ix_at mT_X4_finishDecided 10 = some (.aload_n 0, 1) := by decide +kernel
theorem a_X4_finishDecided_11 : ix_at mT_X4_finishDecided 11 = some (.iconst 1, 1) := by decide +kernel
theorem a_X4_finishDecided_12 : ix_at mT_X4_finishDecided 12 = some (.invokevirtual 292, 3) := by decide +kernel
theorem a_X4_finishDecided_15 : ix_at mT_X4_finishDecided 15 = some (.istore_n 3, 1) := by decide +kernel
theorem a_X4_finishDecided_16 : ix_at mT_X4_finishDecided 16 = some (.iload_n 3, 1) := by decide +kernel
theorem a_X4_finishDecided_17 : ix_at mT_X4_finishDecided 17 = some (.iconst (-1), 1) := by decide +kernel
theorem a_X4_finishDecided_18 : ix_at mT_X4_finishDecided 18 = some (.if_icmp .ne 6, 3) := by decide +kernel
theorem a_X4_finishDecided_21 : ix_at mT_X4_finishDecided 21 = some (.goto 17, 3) := by decide +kernel
theorem a_X4_finishDecided_24 : ix_at mT_X4_finishDecided 24 = some (.aload_n 0, 1) := by decide +kernel
theorem a_X4_finishDecided_25 : ix_at mT_X4_finishDecided 25 = some (.iload_n 3, 1) := by decide +kernel
theorem a_X4_finishDecided_26 : ix_at mT_X4_finishDecided 26 = some (.invokevirtual 79, 3) := by decide +kernel
theorem a_X4_finishDecided_29 : ix_at mT_X4_finishDecided 29 = some (.iinc 1 1, 3) := by decide +kernel
theorem a_X4_finishDecided_32 : ix_at mT_X4_finishDecided 32 = some (.iinc 2 1, 3) := by decide +kernel
theorem a_X4_finishDecided_35 : ix_at mT_X4_finishDecided 35 = some (.goto (-31), 3) := by decide +kernel
theorem a_X4_finishDecided_38 : ix_at mT_X4_finishDecided 38 = some (.iload_n 1, 1) := by decide +kernel
theorem a_X4_finishDecided_39 : ix_at mT_X4_finishDecided 39 = some (.ireturn, 1) := by decide +kernel
theorem a_X4_firstToEnd_0 : ix_at mT_X4_firstToEnd 0 = some (.iconst (-1), 1) := by decide +kernel
theorem a_X4_firstToEnd_1 : ix_at mT_X4_firstToEnd 1 = some (.istore_n 2, 1) := by decide +kernel
theorem a_X4_firstToEnd_2 : ix_at mT_X4_firstToEnd 2 = some (.iconst 0, 1) := by decide +kernel
theorem a_X4_firstToEnd_3 : ix_at mT_X4_firstToEnd 3 = some (.istore_n 3, 1) := by decide +kernel
theorem a_X4_firstToEnd_4 : ix_at mT_X4_firstToEnd 4 = some (.iload_n 3, 1) := by decide +kernel
theorem a_X4_firstToEnd_5 : ix_at mT_X4_firstToEnd 5 = some (.bipush 32, 2) := by decide +kernel
theorem a_X4_firstToEnd_7 : ix_at mT_X4_firstToEnd 7 = some (.if_icmp .ge 99, 3) := by decide +kernel
theorem a_X4_firstToEnd_10 : ix_at mT_X4_firstToEnd 10 = some (.aload_n 0, 1) := by decide +kernel
theorem a_X4_firstToEnd_11 : ix_at mT_X4_firstToEnd 11 = some (.getfield 42, 3) := by decide +kernel
theorem a_X4_firstToEnd_14 : ix_at mT_X4_firstToEnd 14 = some (.iload_n 3, 1) := by decide +kernel
theorem a_X4_firstToEnd_15 : ix_at mT_X4_firstToEnd 15 = some (.aaload, 1) := by decide +kernel
theorem a_X4_firstToEnd_16 : ix_at mT_X4_firstToEnd 16 = some (.astore 4, 2) := by decide +kernel
theorem a_X4_firstToEnd_18 : ix_at mT_X4_firstToEnd 18 = some (.iload_n 1, 1) := by decide +kernel
theorem a_X4_firstToEnd_19 : ix_at mT_X4_firstToEnd 19 = some (.ifCond .eq 20, 3) := by decide +kernel
theorem a_X4_firstToEnd_22 : ix_at mT_X4_firstToEnd 22 = some (.aload 4, 2) := by decide +kernel
theorem a_X4_firstToEnd_24 : ix_at mT_X4_firstToEnd 24 = some (.getfield 274, 3) := by decide +kernel
theorem a_X4_firstToEnd_27 : ix_at mT_X4_firstToEnd 27 = some (.iconst (-1), 1) := by decide +kernel
theorem a_X4_firstToEnd_28 : ix_at mT_X4_firstToEnd 28 = some (.if_icmp .eq 7, 3) := by decide +kernel
theorem a_X4_firstToEnd_31 : ix_at mT_X4_firstToEnd 31 = some (.iconst 1, 1) := by decide +kernel
theorem a_X4_firstToEnd_32 : ix_at mT_X4_firstToEnd 32 = some (.goto 29, 3) := by decide +kernel
theorem a_X4_firstToEnd_35 : ix_at mT_X4_firstToEnd 35 = some (.iconst 0, 1) := by decide +kernel
theorem a_X4_firstToEnd_36 : ix_at mT_X4_firstToEnd 36 = some (.goto 25, 3) := by decide +kernel
theorem a_X4_firstToEnd_39 : ix_at mT_X4_firstToEnd 39 = some (.aload_n 0, 1) := by decide +kernel
theorem a_X4_firstToEnd_40 : ix_at mT_X4_firstToEnd 40 = some (.getfield 98, 3) := by decide +kernel
theorem a_X4_firstToEnd_43 : ix_at mT_X4_firstToEnd 43 = some (.aload 4, 2) := by decide +kernel
theorem a_X4_firstToEnd_45 : ix_at mT_X4_firstToEnd 45 = some (.getfield 208, 3) := by decide +kernel
theorem a_X4_firstToEnd_48 : ix_at mT_X4_firstToEnd 48 = some (.isub, 1) := by decide +kernel
theorem a_X4_firstToEnd_49 : ix_at mT_X4_firstToEnd 49 = some (.aload_n 0, 1) := by decide +kernel
theorem a_X4_firstToEnd_50 : ix_at mT_X4_firstToEnd 50 = some (.getfield 223, 3) := by decide +kernel
theorem a_X4_firstToEnd_53 : ix_at mT_X4_firstToEnd 53 = some (.if_icmp .le 7, 3) := by decide +kernel
theorem a_X4_firstToEnd_56 : ix_at mT_X4_firstToEnd 56 = some (.iconst 1, 1) := by decide +kernel
theorem a_X4_firstToEnd_57 : ix_at mT_X4_firstToEnd 57 = some (.goto 4, 3) := by decide +kernel
theorem a_X4_firstToEnd_60 : ix_at mT_X4_firstToEnd 60 = some (.iconst 0, 1) := by decide +kernel
theorem a_X4_firstToEnd_61 : ix_at mT_X4_firstToEnd 61 = some (.istore 5, 2) := by decide +kernel
theorem a_X4_firstToEnd_63 : ix_at mT_X4_firstToEnd 63 = some (.aload 4, 2) := by decide +kernel
theorem a_X4_firstToEnd_65 : ix_at mT_X4_firstToEnd 65 = some (.invokevirtual 71, 3) := by decide +kernel
theorem a_X4_firstToEnd_68 : ix_at mT_X4_firstToEnd 68 = some (.ifCond .eq 32, 3) := by decide +kernel
theorem a_X4_firstToEnd_71 : ix_at mT_X4_firstToEnd 71 = some (.iload 5, 2) := by decide +kernel
theorem a_X4_firstToEnd_73 : ix_at mT_X4_firstToEnd 73 = some (.ifCond .eq 27, 3) := by decide +kernel
theorem a_X4_firstToEnd_76 : ix_at mT_X4_firstToEnd 76 = some (.iload_n 2, 1) := by decide +kernel
theorem a_X4_firstToEnd_77 : ix_at mT_X4_firstToEnd 77 = some (.iconst (-1), 1) := by decide +kernel
theorem a_X4_firstToEnd_78 : ix_at mT_X4_firstToEnd 78 = some (.if_icmp .eq 20, 3) := by decide +kernel
theorem a_X4_firstToEnd_81 : ix_at mT_X4_firstToEnd 81 = some (.aload 4, 2) := by decide +kernel
theorem a_X4_firstToEnd_83 : ix_at mT_X4_firstToEnd 83 = some (.getfield 205, 3) := by decide +kernel
theorem a_X4_firstToEnd_86 : ix_at mT_X4_firstToEnd 86 = some (.aload_n 0, 1) := by decide +kernel
theorem a_X4_firstToEnd_87 : ix_at mT_X4_firstToEnd 87 = some (.getfield 42, 3) := by decide +kernel
theorem a_X4_firstToEnd_90 : ix_at mT_X4_firstToEnd 90 = some (.iload_n 2, 1) := by decide +kernel
theorem a_X4_firstToEnd_91 : ix_at mT_X4_firstToEnd 91 = some (.aaload, 1) := by decide +kernel
theorem a_X4_firstToEnd_92 : ix_at mT_X4_firstToEnd 92 = some (.getfield 205, 3) := by decide +kernel
theorem a_X4_firstToEnd_95 : ix_at mT_X4_firstToEnd 95 = some (.if_icmp .ge 5, 3) := by decide +kernel
theorem a_X4_firstToEnd_98 : ix_at mT_X4_firstToEnd 98 = some (.iload_n 3, 1) := by decide +kernel
theorem a_X4_firstToEnd_99 : ix_at mT_X4_firstToEnd 99 = some (.istore_n 2, 1) := by decide +kernel
theorem a_X4_firstToEnd_100 : ix_at mT_X4_firstToEnd 100 = some (.iinc 3 1, 3) := by decide +kernel
theorem a_X4_firstToEnd_103 : ix_at mT_X4_firstToEnd 103 = some (.goto (-99), 3) := by decide +kernel
theorem a_X4_firstToEnd_106 : ix_at mT_X4_firstToEnd 106 = some (.iload_n 2, 1) := by decide +kernel
theorem a_X4_firstToEnd_107 : ix_at mT_X4_firstToEnd 107 = some (.ireturn, 1) := by decide +kernel
theorem a_X5_init_0 : ix_at mT_X5_init 0 = some (.aload_n 0, 1) := by decide +kernel
theorem a_X5_init_1 : ix_at mT_X5_init 1 = some (.invokespecial 1, 3) := by decide +kernel
theorem a_X5_init_4 : ix_at mT_X5_init 4 = some (.aload_n 0, 1) := by decide +kernel
theorem a_X5_init_5 : ix_at mT_X5_init 5 = some (.sipush 4200, 3) := by decide +kernel
theorem a_X5_init_8 : ix_at mT_X5_init 8 = some (.newarray .int, 2) := by decide +kernel
theorem a_X5_init_10 : ix_at mT_X5_init 10 = some (.putfield 9, 3) := by decide +kernel
theorem a_X5_init_13 : ix_at mT_X5_init 13 = some (.aload_n 0, 1) := by decide +kernel
theorem a_X5_init_14 : ix_at mT_X5_init 14 = some (.sipush 4200, 3) := by decide +kernel
theorem a_X5_init_17 : ix_at mT_X5_init 17 = some (.newarray .int, 2) := by decide +kernel
theorem a_X5_init_19 : ix_at mT_X5_init 19 = some (.putfield 13, 3) := by decide +kernel
theorem a_X5_init_22 : ix_at mT_X5_init 22 = some (.aload_n 0, 1) := by decide +kernel
theorem a_X5_init_23 : ix_at mT_X5_init 23 = some (.sipush 4200, 3) := by decide +kernel
theorem a_X5_init_26 : ix_at mT_X5_init 26 = some (.newarray .int, 2) := by decide +kernel
theorem a_X5_init_28 : ix_at mT_X5_init 28 = some (.putfield 16, 3) := by decide +kernel
theorem a_X5_init_31 : ix_at mT_X5_init 31 = some (.aload_n 0, 1) := by decide +kernel
theorem a_X5_init_32 : ix_at mT_X5_init 32 = some (.sipush 4200, 3) := by decide +kernel
theorem a_X5_init_35 : ix_at mT_X5_init 35 = some (.newarray .int, 2) := by decide +kernel
theorem a_X5_init_37 : ix_at mT_X5_init 37 = some (.putfield 19, 3) := by decide +kernel
theorem a_X5_init_40 : ix_at mT_X5_init 40 = some (.aload_n 0, 1) := by decide +kernel
theorem a_X5_init_41 : ix_at mT_X5_init 41 = some (.sipush 4200, 3) := by decide +kernel
theorem a_X5_init_44 : ix_at mT_X5_init 44 = some (.newarray .int, 2) := by decide +kernel
theorem a_X5_init_46 : ix_at mT_X5_init 46 = some (.putfield 22, 3) := by decide +kernel
theorem a_X5_init_49 : ix_at mT_X5_init 49 = some (.aload_n 0, 1) := by decide +kernel
theorem a_X5_init_50 : ix_at mT_X5_init 50 = some (.sipush 4200, 3) := by decide +kernel
theorem a_X5_init_53 : ix_at mT_X5_init 53 = some (.newarray .int, 2) := by decide +kernel
theorem a_X5_init_55 : ix_at mT_X5_init 55 = some (.putfield 25, 3) := by decide +kernel
theorem a_X5_init_58 : ix_at mT_X5_init 58 = some (.aload_n 0, 1) := by decide +kernel
theorem a_X5_init_59 : ix_at mT_X5_init 59 = some (.sipush 4200, 3) := by decide +kernel
theorem a_X5_init_62 : ix_at mT_X5_init 62 = some (.newarray .int, 2) := by decide +kernel
theorem a_X5_init_64 : ix_at mT_X5_init 64 = some (.putfield 28, 3) := by decide +kernel
theorem a_X5_init_67 : ix_at mT_X5_init 67 = some (.aload_n 0, 1) := by decide +kernel
theorem a_X5_init_68 : ix_at mT_X5_init 68 = some (.ldc 31, 2) := by decide +kernel
theorem a_X5_init_70 : ix_at mT_X5_init 70 = some (.newarray .byte, 2) := by decide +kernel
theorem a_X5_init_72 : ix_at mT_X5_init 72 = some (.putfield 32, 3) := by decide +kernel
theorem a_X5_init_75 : ix_at mT_X5_init 75 = some (.aload_n 0, 1) := by decide +kernel
theorem a_X5_init_76 : ix_at mT_X5_init 76 = some (.bipush 32, 2) := by decide +kernel
theorem a_X5_init_78 : ix_at mT_X5_init 78 = some (.newarray .boolean, 2) := by decide +kernel
theorem a_X5_init_80 : ix_at mT_X5_init 80 = some (.putfield 36, 3) := by decide +kernel
theorem a_X5_init_83 : ix_at mT_X5_init 83 = some (.aload_n 0, 1) := by decide +kernel
theorem a_X5_init_84 : ix_at mT_X5_init 84 = some (.bipush 32, 2) := by decide +kernel
theorem a_X5_init_86 : ix_at mT_X5_init 86 = some (.newarray .int, 2) := by decide +kernel
theorem a_X5_init_88 : ix_at mT_X5_init 88 = some (.putfield 40, 3) := by decide +kernel
theorem a_X5_init_91 : ix_at mT_X5_init 91 = some (.aload_n 0, 1) := by decide +kernel
theorem a_X5_init_92 : ix_at mT_X5_init 92 = some (.bipush 32, 2) := by decide +kernel
theorem a_X5_init_94 : ix_at mT_X5_init 94 = some (.newarray .int, 2) := by decide +kernel
theorem a_X5_init_96 : ix_at mT_X5_init 96 = some (.putfield 43, 3) := by decide +kernel
theorem a_X5_init_99 : ix_at mT_X5_init 99 = some (.aload_n 0, 1) := by decide +kernel
theorem a_X5_init_100 : ix_at mT_X5_init 100 = some (.bipush 32, 2) := by decide +kernel
theorem a_X5_init_102 : ix_at mT_X5_init 102 = some (.newarray .int, 2) := by decide +kernel
theorem a_X5_init_104 : ix_at mT_X5_init 104 = some (.putfield 46, 3) := by decide +kernel
theorem a_X5_init_107 : ix_at mT_X5_init 107 = some (.aload_n 0, 1) := by decide +kernel
theorem a_X5_init_108 : ix_at mT_X5_init 108 = some (.bipush 32, 2) := by decide +kernel
theorem a_X5_init_110 : ix_at mT_X5_init 110 = some (.newarray .int, 2) := by decide +kernel
theorem a_X5_init_112 : ix_at mT_X5_init 112 = some (.putfield 49, 3) := by decide +kernel
theorem a_X5_init_115 : ix_at mT_X5_init 115 = some (.aload_n 0, 1) := by decide +kernel
theorem a_X5_init_116 : ix_at mT_X5_init 116 = some (.bipush 64, 2) := by decide +kernel
theorem a_X5_init_118 : ix_at mT_X5_init 118 = some (.newarray .int, 2) := by decide +kernel
theorem a_X5_init_120 : ix_at mT_X5_init 120 = some (.putfield 52, 3) := by decide +kernel
theorem a_X5_init_123 : ix_at mT_X5_init 123 = some (.aload_n 0, 1) := by decide +kernel
theorem a_X5_init_124 : ix_at mT_X5_init 124 = some (.sipush 1100, 3) := by decide +kernel
theorem a_X5_init_127 : ix_at mT_X5_init 127 = some (.newarray .int, 2) := by decide +kernel
theorem a_X5_init_129 : ix_at mT_X5_init 129 = some (.putfield 55, 3) := by decide +kernel
theorem a_X5_init_132 : ix_at mT_X5_init 132 = some (.aload_n 0, 1) := by decide +kernel
theorem a_X5_init_133 : ix_at mT_X5_init 133 = some (.sipush 1100, 3) := by decide +kernel
theorem a_X5_init_136 : ix_at mT_X5_init 136 = some (.newarray .int, 2) := by decide +kernel
theorem a_X5_init_138 : ix_at mT_X5_init 138 = some (.putfield 58, 3) := by decide +kernel
theorem a_X5_init_141 : ix_at mT_X5_init 141 = some (.aload_n 0, 1) := by decide +kernel
theorem a_X5_init_142 : ix_at mT_X5_init 142 = some (.sipush 1100, 3) := by decide +kernel
theorem a_X5_init_145 : ix_at mT_X5_init 145 = some (.newarray .int, 2) := by decide +kernel
theorem a_X5_init_147 : ix_at mT_X5_init 147 = some (.putfield 61, 3) := by decide +kernel
theorem a_X5_init_150 : ix_at mT_X5_init 150 = some (.aload_n 0, 1) := by decide +kernel
theorem a_X5_init_151 : ix_at mT_X5_init 151 = some (.sipush 1100, 3) := by decide +kernel
theorem a_X5_init_154 : ix_at mT_X5_init 154 = some (.newarray .int, 2) := by decide +kernel
theorem a_X5_init_156 : ix_at mT_X5_init 156 = some (.putfield 64, 3) := by decide +kernel
theorem a_X5_init_159 : ix_at mT_X5_init 159 = some (.aload_n 0, 1) := by decide +kernel
theorem a_X5_init_160 : ix_at mT_X5_init 160 = some (.bipush 40, 2) := by decide +kernel
theorem a_X5_init_162 : ix_at mT_X5_init 162 = some (.newarray .byte, 2) := by decide +kernel
theorem a_X5_init_164 : ix_at mT_X5_init 164 = some (.putfield 67, 3) := by decide +kernel
theorem a_X5_init_167 : ix_at mT_X5_init 167 = some (.aload_n 0, 1) := by decide +kernel
theorem a_X5_init_168 : ix_at mT_X5_init 168 = some (.bipush 40, 2) := by decide +kernel
theorem a_X5_init_170 : ix_at mT_X5_init 170 = some (.newarray .byte, 2) := by decide +kernel
theorem a_X5_init_172 : ix_at mT_X5_init 172 = some (.putfield 70, 3) := by decide +kernel
theorem a_X5_init_175 : ix_at mT_X5_init 175 = some (.aload_n 0, 1) := by decide +kernel
theorem a_X5_init_176 : ix_at mT_X5_init 176 = some (.sipush 1100, 3) := by decide +kernel
theorem a_X5_init_179 : ix_at mT_X5_init 179 = some (.newarray .int, 2) := by decide +kernel
theorem a_X5_init_181 : ix_at mT_X5_init 181 = some (.putfield 73, 3) := by decide +kernel
theorem a_X5_init_184 : ix_at mT_X5_init 184 = some (.aload_n 0, 1) := by decide +kernel
theorem a_X5_init_185 : ix_at mT_X5_init 185 = some (.iconst 4, 1) := by decide +kernel
theorem a_X5_init_186 : ix_at mT_X5_init 186 = some (.sipush 2000, 3) := by decide +kernel
theorem a_X5_init_189 : ix_at mT_X5_init 189 = some (.bipush 100, 2) := by decide +kernel
theorem a_X5_init_191 : ix_at mT_X5_init 191 = some (.invokevirtual 76, 3) := by decide +kernel
theorem a_X5_init_194 : ix_at mT_X5_init 194 = some (.istore_n 1, 1) := by decide +kernel
theorem a_X5_init_195 : ix_at mT_X5_init 195 = some (.return_, 1) := by decide +kernel
theorem a_X5_forgets_0 : ix_at mT_X5_forgets 0 = some (.aload_n 0, 1) := by decide +kernel
theorem a_X5_forgets_1 : ix_at mT_X5_forgets 1 = some (.iconst 0, 1) := by decide +kernel
theorem a_X5_forgets_2 : ix_at mT_X5_forgets 2 = some (.putfield 80, 3) := by decide +kernel
theorem a_X5_forgets_5 : ix_at mT_X5_forgets 5 = some (.aload_n 0, 1) := by decide +kernel
theorem a_X5_forgets_6 : ix_at mT_X5_forgets 6 = some (.iconst 0, 1) := by decide +kernel
theorem a_X5_forgets_7 : ix_at mT_X5_forgets 7 = some (.putfield 84, 3) := by decide +kernel
theorem a_X5_forgets_10 : ix_at mT_X5_forgets 10 = some (.iconst 0, 1) := by decide +kernel
theorem a_X5_forgets_11 : ix_at mT_X5_forgets 11 = some (.istore_n 1, 1) := by decide +kernel
theorem a_X5_forgets_12 : ix_at mT_X5_forgets 12 = some (.iload_n 1, 1) := by decide +kernel
theorem a_X5_forgets_13 : ix_at mT_X5_forgets 13 = some (.bipush 32, 2) := by decide +kernel
theorem a_X5_forgets_15 : ix_at mT_X5_forgets 15 = some (.if_icmp .ge 44, 3) := by decide +kernel
theorem a_X5_forgets_18 : ix_at mT_X5_forgets 18 = some (.aload_n 0, 1) := by decide +kernel
theorem a_X5_forgets_19 : ix_at mT_X5_forgets 19 = some (.getfield 36, 3) := by decide +kernel
theorem a_X5_forgets_22 : ix_at mT_X5_forgets 22 = some (.iload_n 1, 1) := by decide +kernel
theorem a_X5_forgets_23 : ix_at mT_X5_forgets 23 = some (.iconst 0, 1) := by decide +kernel
theorem a_X5_forgets_24 : ix_at mT_X5_forgets 24 = some (.bastore, 1) := by decide +kernel
theorem a_X5_forgets_25 : ix_at mT_X5_forgets 25 = some (.aload_n 0, 1) := by decide +kernel
theorem a_X5_forgets_26 : ix_at mT_X5_forgets 26 = some (.getfield 40, 3) := by decide +kernel
theorem a_X5_forgets_29 : ix_at mT_X5_forgets 29 = some (.iload_n 1, 1) := by decide +kernel
theorem a_X5_forgets_30 : ix_at mT_X5_forgets 30 = some (.iconst 0, 1) := by decide +kernel
theorem a_X5_forgets_31 : ix_at mT_X5_forgets 31 = some (.iastore, 1) := by decide +kernel
theorem a_X5_forgets_32 : ix_at mT_X5_forgets 32 = some (.aload_n 0, 1) := by decide +kernel
theorem a_X5_forgets_33 : ix_at mT_X5_forgets 33 = some (.getfield 43, 3) := by decide +kernel
theorem a_X5_forgets_36 : ix_at mT_X5_forgets 36 = some (.iload_n 1, 1) := by decide +kernel
theorem a_X5_forgets_37 : ix_at mT_X5_forgets 37 = some (.iconst (-1), 1) := by decide +kernel
theorem a_X5_forgets_38 : ix_at mT_X5_forgets 38 = some (.iastore, 1) := by decide +kernel
theorem a_X5_forgets_39 : ix_at mT_X5_forgets 39 = some (.aload_n 0, 1) := by decide +kernel
theorem a_X5_forgets_40 : ix_at mT_X5_forgets 40 = some (.getfield 46, 3) := by decide +kernel
theorem a_X5_forgets_43 : ix_at mT_X5_forgets 43 = some (.iload_n 1, 1) := by decide +kernel
theorem a_X5_forgets_44 : ix_at mT_X5_forgets 44 = some (.iconst 0, 1) := by decide +kernel
theorem a_X5_forgets_45 : ix_at mT_X5_forgets 45 = some (.iastore, 1) := by decide +kernel
theorem a_X5_forgets_46 : ix_at mT_X5_forgets 46 = some (.aload_n 0, 1) := by decide +kernel
theorem a_X5_forgets_47 : ix_at mT_X5_forgets 47 = some (.getfield 49, 3) := by decide +kernel
theorem a_X5_forgets_50 : ix_at mT_X5_forgets 50 = some (.iload_n 1, 1) := by decide +kernel
theorem a_X5_forgets_51 : ix_at mT_X5_forgets 51 = some (.iconst 0, 1) := by decide +kernel
theorem a_X5_forgets_52 : ix_at mT_X5_forgets 52 = some (.iastore, 1) := by decide +kernel
theorem a_X5_forgets_53 : ix_at mT_X5_forgets 53 = some (.iinc 1 1, 3) := by decide +kernel
theorem a_X5_forgets_56 : ix_at mT_X5_forgets 56 = some (.goto (-44), 3) := by decide +kernel
theorem a_X5_forgets_59 : ix_at mT_X5_forgets 59 = some (.iconst 0, 1) := by decide +kernel
theorem a_X5_forgets_60 : ix_at mT_X5_forgets 60 = some (.istore_n 1, 1) := by decide +kernel
theorem a_X5_forgets_61 : ix_at mT_X5_forgets 61 = some (.iload_n 1, 1) := by decide +kernel
theorem a_X5_forgets_62 : ix_at mT_X5_forgets 62 = some (.bipush 64, 2) := by decide +kernel
theorem a_X5_forgets_64 : ix_at mT_X5_forgets 64 = some (.if_icmp .ge 16, 3) := by decide +kernel
theorem a_X5_forgets_67 : ix_at mT_X5_forgets 67 = some (.aload_n 0, 1) := by decide +kernel
theorem a_X5_forgets_68 : ix_at mT_X5_forgets 68 = some (.getfield 52, 3) := by decide +kernel
theorem a_X5_forgets_71 : ix_at mT_X5_forgets 71 = some (.iload_n 1, 1) := by decide +kernel
theorem a_X5_forgets_72 : ix_at mT_X5_forgets 72 = some (.iconst (-1), 1) := by decide +kernel
theorem a_X5_forgets_73 : ix_at mT_X5_forgets 73 = some (.iastore, 1) := by decide +kernel
theorem a_X5_forgets_74 : ix_at mT_X5_forgets 74 = some (.iinc 1 1, 3) := by decide +kernel
theorem a_X5_forgets_77 : ix_at mT_X5_forgets 77 = some (.goto (-16), 3) := by decide +kernel
theorem a_X5_forgets_80 : ix_at mT_X5_forgets 80 = some (.return_, 1) := by decide +kernel
theorem a_X5_format_0 : ix_at mT_X5_format 0 = some (.iload_n 1, 1) := by decide +kernel
theorem a_X5_format_1 : ix_at mT_X5_format 1 = some (.iconst 1, 1) := by decide +kernel
theorem a_X5_format_2 : ix_at mT_X5_format 2 = some (.if_icmp .lt 34, 3) := by decide +kernel
theorem a_X5_format_5 : ix_at mT_X5_format 5 = some (.iload_n 1, 1) := by decide +kernel
theorem a_X5_format_6 : ix_at mT_X5_format 6 = some (.bipush 8, 2) := by decide +kernel
theorem a_X5_format_8 : ix_at mT_X5_format 8 = some (.if_icmp .gt 28, 3) := by decide +kernel
theorem a_X5_format_11 : ix_at mT_X5_format 11 = some (.iload_n 2, 1) := by decide +kernel
theorem a_X5_format_12 : ix_at mT_X5_format 12 = some (.bipush 100, 2) := by decide +kernel
theorem a_X5_format_14 : ix_at mT_X5_format 14 = some (.if_icmp .lt 22, 3) := by decide +kernel
theorem a_X5_format_17 : ix_at mT_X5_format 17 = some (.iload_n 2, 1) := by decide +kernel
theorem a_X5_format_18 : ix_at mT_X5_format 18 = some (.sipush 4000, 3) := by decide +kernel
theorem a_X5_format_21 : ix_at mT_X5_format 21 = some (.if_icmp .gt 15, 3) := by decide +kernel
theorem a_X5_format_24 : ix_at mT_X5_format 24 = some (.iload_n 3, 1) := by decide +kernel
theorem a_X5_format_25 : ix_at mT_X5_format 25 = some (.iconst 1, 1) := by decide +kernel
theorem a_X5_format_26 : ix_at mT_X5_format 26 = some (.if_icmp .lt 10, 3) := by decide +kernel
theorem a_X5_format_29 : ix_at mT_X5_format 29 = some (.iload_n 3, 1) := by decide +kernel
theorem a_X5_format_30 : ix_at mT_X5_format 30 = some (.sipush 1000, 3) := by decide +kernel
theorem a_X5_format_33 : ix_at mT_X5_format 33 = some (.if_icmp .le 5, 3) := by decide +kernel
theorem a_X5_format_36 : ix_at mT_X5_format 36 = some (.iconst 0, 1) := by decide +kernel
theorem a_X5_format_37 : ix_at mT_X5_format 37 = some (.ireturn, 1) := by decide +kernel
theorem a_X5_format_38 : ix_at mT_X5_format 38 = some (.aload_n 0, 1) := by decide +kernel
theorem a_X5_format_39 : ix_at mT_X5_format 39 = some (.iload_n 1, 1) := by decide +kernel
theorem a_X5_format_40 : ix_at mT_X5_format 40 = some (.putfield 87, 3) := by decide +kernel
theorem a_X5_format_43 : ix_at mT_X5_format 43 = some (.aload_n 0, 1) := by decide +kernel
theorem a_X5_format_44 : ix_at mT_X5_format 44 = some (.iload_n 2, 1) := by decide +kernel
theorem a_X5_format_45 : ix_at mT_X5_format 45 = some (.putfield 90, 3) := by decide +kernel
theorem a_X5_format_48 : ix_at mT_X5_format 48 = some (.aload_n 0, 1) := by decide +kernel
theorem a_X5_format_49 : ix_at mT_X5_format 49 = some (.iload_n 3, 1) := by decide +kernel
theorem a_X5_format_50 : ix_at mT_X5_format 50 = some (.putfield 93, 3) := by decide +kernel
theorem a_X5_format_53 : ix_at mT_X5_format 53 = some (.aload_n 0, 1) := by decide +kernel
theorem a_X5_format_54 : ix_at mT_X5_format 54 = some (.iconst 0, 1) := by decide +kernel
theorem a_X5_format_55 : ix_at mT_X5_format 55 = some (.putfield 96, 3) := by decide +kernel
theorem a_X5_format_58 : ix_at mT_X5_format 58 = some (.aload_n 0, 1) := by decide +kernel
theorem a_X5_format_59 : ix_at mT_X5_format 59 = some (.iconst 0, 1) := by decide +kernel
theorem a_X5_format_60 : ix_at mT_X5_format 60 = some (.putfield 99, 3) := by decide +kernel
theorem a_X5_format_63 : ix_at mT_X5_format 63 = some (.aload_n 0, 1) := by decide +kernel
theorem a_X5_format_64 : ix_at mT_X5_format 64 = some (.iconst 0, 1) := by decide +kernel
theorem a_X5_format_65 : ix_at mT_X5_format 65 = some (.putfield 103, 3) := by decide +kernel
theorem a_X5_format_68 : ix_at mT_X5_format 68 = some (.aload_n 0, 1) := by decide +kernel
theorem a_X5_format_69 : ix_at mT_X5_format 69 = some (.iconst 0, 1) := by decide +kernel
theorem a_X5_format_70 : ix_at mT_X5_format 70 = some (.putfield 106, 3) := by decide +kernel
theorem a_X5_format_73 : ix_at mT_X5_format 73 = some (.aload_n 0, 1) := by decide +kernel
theorem a_X5_format_74 : ix_at mT_X5_format 74 = some (.iconst 0, 1) := by decide +kernel
theorem a_X5_format_75 : ix_at mT_X5_format 75 = some (.putfield 109, 3) := by decide +kernel
theorem a_X5_format_78 : ix_at mT_X5_format 78 = some (.aload_n 0, 1) := by decide +kernel
theorem a_X5_format_79 : ix_at mT_X5_format 79 = some (.iconst 0, 1) := by decide +kernel
theorem a_X5_format_80 : ix_at mT_X5_format 80 = some (.putfield 112, 3) := by decide +kernel
theorem a_X5_format_83 : ix_at mT_X5_format 83 = some (.aload_n 0, 1) := by decide +kernel
theorem a_X5_format_84 : ix_at mT_X5_format 84 = some (.iconst 0, 1) := by decide +kernel
theorem a_X5_format_85 : ix_at mT_X5_format 85 = some (.putfield 115, 3) := by decide +kernel
theorem a_X5_format_88 : ix_at mT_X5_format 88 = some (.aload_n 0, 1) := by decide +kernel
theorem a_X5_format_89 : ix_at mT_X5_format 89 = some (.invokevirtual 118, 3) := by decide +kernel
theorem a_X5_format_92 : ix_at mT_X5_format 92 = some (.iconst 1, 1) := by decide +kernel
theorem a_X5_format_93 : ix_at mT_X5_format 93 = some (.ireturn, 1) := by decide +kernel
theorem a_X5_sizeOf_0 : ix_at mT_X5_sizeOf 0 = some (.aload_n 0, 1) := by decide +kernel
theorem a_X5_sizeOf_1 : ix_at mT_X5_sizeOf 1 = some (.getfield 9, 3) := by decide +kernel
theorem a_X5_sizeOf_4 : ix_at mT_X5_sizeOf 4 = some (.iload_n 1, 1) := by decide +kernel
theorem a_X5_sizeOf_5 : ix_at mT_X5_sizeOf 5 = some (.iaload, 1) := by decide +kernel
theorem a_X5_sizeOf_6 : ix_at mT_X5_sizeOf 6 = some (.aload_n 0, 1) := by decide +kernel
theorem a_X5_sizeOf_7 : ix_at mT_X5_sizeOf 7 = some (.getfield 87, 3) := by decide +kernel
theorem a_X5_sizeOf_10 : ix_at mT_X5_sizeOf 10 = some (.if_icmp .ne 8, 3) := by decide +kernel
theorem a_X5_sizeOf_13 : ix_at mT_X5_sizeOf 13 = some (.bipush 16, 2) := by decide +kernel
theorem a_X5_sizeOf_15 : ix_at mT_X5_sizeOf 15 = some (.goto 12, 3) := by decide +kernel
theorem a_X5_sizeOf_18 : ix_at mT_X5_sizeOf 18 = some (.bipush 14, 2) := by decide +kernel
theorem a_X5_sizeOf_20 : ix_at mT_X5_sizeOf 20 = some (.aload_n 0, 1) := by decide +kernel
theorem a_X5_sizeOf_21 : ix_at mT_X5_sizeOf 21 = some (.getfield 25, 3) := by decide +kernel
theorem a_X5_sizeOf_24 : ix_at mT_X5_sizeOf 24 = some (.iload_n 1, 1) := by decide +kernel
theorem a_X5_sizeOf_25 : ix_at mT_X5_sizeOf 25 = some (.iaload, 1) := by decide +kernel
theorem a_X5_sizeOf_26 : ix_at mT_X5_sizeOf 26 = some (.iadd, 1) := by decide +kernel
theorem a_X5_sizeOf_27 : ix_at mT_X5_sizeOf 27 = some (.ireturn, 1) := by decide +kernel
theorem a_X5_bytesFrom_0 : ix_at mT_X5_bytesFrom 0 = some (.iconst 0, 1) := by decide +kernel
theorem a_X5_bytesFrom_1 : ix_at mT_X5_bytesFrom 1 = some (.istore_n 3, 1) := by decide +kernel
theorem a_X5_bytesFrom_2 : ix_at mT_X5_bytesFrom 2 = some (.iload_n 2, 1) := by decide +kernel
theorem a_X5_bytesFrom_3 : ix_at mT_X5_bytesFrom 3 = some (.istore 4, 2) := by decide +kernel
theorem a_X5_bytesFrom_5 : ix_at mT_X5_bytesFrom 5 = some (.iload 4, 2) := by decide +kernel
theorem a_X5_bytesFrom_7 : ix_at mT_X5_bytesFrom 7 = some (.aload_n 0, 1) := by decide +kernel
theorem a_X5_bytesFrom_8 : ix_at mT_X5_bytesFrom 8 = some (.getfield 106, 3) := by decide +kernel
theorem a_X5_bytesFrom_11 : ix_at mT_X5_bytesFrom 11 = some (.if_icmp .ge 33, 3) := by decide +kernel
theorem a_X5_bytesFrom_14 : ix_at mT_X5_bytesFrom 14 = some (.iload_n 3, 1) := by decide +kernel
theorem a_X5_bytesFrom_15 : ix_at mT_X5_bytesFrom 15 = some (.aload_n 0, 1) := by decide +kernel
theorem a_X5_bytesFrom_16 : ix_at mT_X5_bytesFrom 16 = some (.getfield 9, 3) := by decide +kernel
theorem a_X5_bytesFrom_19 : ix_at mT_X5_bytesFrom 19 = some (.iload 4, 2) := by decide +kernel
theorem a_X5_bytesFrom_21 : ix_at mT_X5_bytesFrom 21 = some (.iaload, 1) := by decide +kernel
theorem a_X5_bytesFrom_22 : ix_at mT_X5_bytesFrom 22 = some (.iload_n 1, 1) := by decide +kernel
theorem a_X5_bytesFrom_23 : ix_at mT_X5_bytesFrom 23 = some (.if_icmp .ne 12, 3) := by decide +kernel
theorem a_X5_bytesFrom_26 : ix_at mT_X5_bytesFrom 26 = some (.aload_n 0, 1) := by decide +kernel
theorem a_X5_bytesFrom_27 : ix_at mT_X5_bytesFrom 27 = some (.iload 4, 2) := by decide +kernel
theorem a_X5_bytesFrom_29 : ix_at mT_X5_bytesFrom 29 = some (.invokevirtual 121, 3) := by decide +kernel
theorem a_X5_bytesFrom_32 : ix_at mT_X5_bytesFrom 32 = some (.goto 4, 3) := by decide +kernel
theorem a_X5_bytesFrom_35 : ix_at mT_X5_bytesFrom 35 = some (.iconst 0, 1) := by decide +kernel
theorem a_X5_bytesFrom_36 : ix_at mT_X5_bytesFrom 36 = some (.iadd, 1) := by decide +kernel
theorem a_X5_bytesFrom_37 : ix_at mT_X5_bytesFrom 37 = some (.istore_n 3, 1) := by decide +kernel
theorem a_X5_bytesFrom_38 : ix_at mT_X5_bytesFrom 38 = some (.iinc 4 1, 3) := by decide +kernel
theorem a_X5_bytesFrom_41 : ix_at mT_X5_bytesFrom 41 = some (.goto (-36), 3) := by decide +kernel
theorem a_X5_bytesFrom_44 : ix_at mT_X5_bytesFrom 44 = some (.iload_n 3, 1) := by decide +kernel
theorem a_X5_bytesFrom_45 : ix_at mT_X5_bytesFrom 45 = some (.ireturn, 1) := by decide +kernel
theorem a_X5_unsynced_0 : ix_at mT_X5_unsynced 0 = some (.iconst 0, 1) := by decide +kernel
theorem a_X5_unsynced_1 : ix_at mT_X5_unsynced 1 = some (.istore_n 1, 1) := by decide +kernel
theorem a_X5_unsynced_2 : ix_at mT_X5_unsynced 2 = some (.aload_n 0, 1) := by decide +kernel
theorem a_X5_unsynced_3 : ix_at mT_X5_unsynced 3 = some (.getfield 109, 3) := by decide +kernel
theorem a_X5_unsynced_6 : ix_at mT_X5_unsynced 6 = some (.istore_n 2, 1) := by decide +kernel
theorem a_X5_unsynced_7 : ix_at mT_X5_unsynced 7 = some (.iload_n 2, 1) := by decide +kernel
theorem a_X5_unsynced_8 : ix_at mT_X5_unsynced 8 = some (.aload_n 0, 1) := by decide +kernel
theorem a_X5_unsynced_9 : ix_at mT_X5_unsynced 9 = some (.getfield 106, 3) := by decide +kernel
theorem a_X5_unsynced_12 : ix_at mT_X5_unsynced 12 = some (.if_icmp .ge 17, 3) := by decide +kernel
theorem a_X5_unsynced_15 : ix_at mT_X5_unsynced 15 = some (.iload_n 1, 1) := by decide +kernel
theorem a_X5_unsynced_16 : ix_at mT_X5_unsynced 16 = some (.aload_n 0, 1) := by decide +kernel
theorem a_X5_unsynced_17 : ix_at mT_X5_unsynced 17 = some (.iload_n 2, 1) := by decide +kernel
theorem a_X5_unsynced_18 : ix_at mT_X5_unsynced 18 = some (.invokevirtual 121, 3) := by decide +kernel
theorem a_X5_unsynced_21 : ix_at mT_X5_unsynced 21 = some (.iadd, 1) := by decide +kernel
theorem a_X5_unsynced_22 : ix_at mT_X5_unsynced 22 = some (.istore_n 1, 1) := by decide +kernel
theorem a_X5_unsynced_23 : ix_at mT_X5_unsynced 23 = some (.iinc 2 1, 3) := by decide +kernel
theorem a_X5_unsynced_26 : ix_at mT_X5_unsynced 26 = some (.goto (-19), 3) := by decide +kernel
theorem a_X5_unsynced_29 : ix_at mT_X5_unsynced 29 = some (.iload_n 1, 1) := by decide +kernel
theorem a_X5_unsynced_30 : ix_at mT_X5_unsynced 30 = some (.ireturn, 1) := by decide +kernel
theorem a_X5_add_0 : ix_at mT_X5_add 0 = some (.aload_n 0, 1) := by decide +kernel
theorem a_X5_add_1 : ix_at mT_X5_add 1 = some (.getfield 106, 3) := by decide +kernel
theorem a_X5_add_4 : ix_at mT_X5_add 4 = some (.istore 7, 2) := by decide +kernel
theorem a_X5_add_6 : ix_at mT_X5_add 6 = some (.aload_n 0, 1) := by decide +kernel
theorem a_X5_add_7 : ix_at mT_X5_add 7 = some (.dup, 1) := by decide +kernel
theorem a_X5_add_8 : ix_at mT_X5_add 8 = some (.getfield 106, 3) := by decide +kernel
theorem a_X5_add_11 : ix_at mT_X5_add 11 = some (.iconst 1, 1) := by decide +kernel
theorem a_X5_add_12 : ix_at mT_X5_add 12 = some (.iadd, 1) := by decide +kernel
theorem a_X5_add_13 : ix_at mT_X5_add 13 = some (.putfield 106, 3) := by decide +kernel
theorem a_X5_add_16 : ix_at mT_X5_add 16 = some (.aload_n 0, 1) := by decide +kernel
theorem a_X5_add_17 : ix_at mT_X5_add 17 = some (.getfield 9, 3) := by decide +kernel
theorem a_X5_add_20 : ix_at mT_X5_add 20 = some (.iload 7, 2) := by decide +kernel
theorem a_X5_add_22 : ix_at mT_X5_add 22 = some (.iload_n 1, 1) := by decide +kernel
theorem a_X5_add_23 : ix_at mT_X5_add 23 = some (.iastore, 1) := by decide +kernel
theorem a_X5_add_24 : ix_at mT_X5_add 24 = some (.aload_n 0, 1) := by decide +kernel
theorem a_X5_add_25 : ix_at mT_X5_add 25 = some (.getfield 13, 3) := by decide +kernel
theorem a_X5_add_28 : ix_at mT_X5_add 28 = some (.iload 7, 2) := by decide +kernel
theorem a_X5_add_30 : ix_at mT_X5_add 30 = some (.iload_n 2, 1) := by decide +kernel
theorem a_X5_add_31 : ix_at mT_X5_add 31 = some (.iastore, 1) := by decide +kernel
theorem a_X5_add_32 : ix_at mT_X5_add 32 = some (.aload_n 0, 1) := by decide +kernel
theorem a_X5_add_33 : ix_at mT_X5_add 33 = some (.getfield 16, 3) := by decide +kernel
theorem a_X5_add_36 : ix_at mT_X5_add 36 = some (.iload 7, 2) := by decide +kernel
theorem a_X5_add_38 : ix_at mT_X5_add 38 = some (.iload_n 3, 1) := by decide +kernel
theorem a_X5_add_39 : ix_at mT_X5_add 39 = some (.iastore, 1) := by decide +kernel
theorem a_X5_add_40 : ix_at mT_X5_add 40 = some (.aload_n 0, 1) := by decide +kernel
theorem a_X5_add_41 : ix_at mT_X5_add 41 = some (.getfield 19, 3) := by decide +kernel
theorem a_X5_add_44 : ix_at mT_X5_add 44 = some (.iload 7, 2) := by decide +kernel
theorem a_X5_add_46 : ix_at mT_X5_add 46 = some (.iload 4, 2) := by decide +kernel
theorem a_X5_add_48 : ix_at mT_X5_add 48 = some (.iastore, 1) := by decide +kernel
theorem a_X5_add_49 : ix_at mT_X5_add 49 = some (.aload_n 0, 1) := by decide +kernel
theorem a_X5_add_50 : ix_at mT_X5_add 50 = some (.getfield 22, 3) := by decide +kernel
theorem a_X5_add_53 : ix_at mT_X5_add 53 = some (.iload 7, 2) := by decide +kernel
theorem a_X5_add_55 : ix_at mT_X5_add 55 = some (.iload 5, 2) := by decide +kernel
theorem a_X5_add_57 : ix_at mT_X5_add 57 = some (.iastore, 1) := by decide +kernel
theorem a_X5_add_58 : ix_at mT_X5_add 58 = some (.aload_n 0, 1) := by decide +kernel
theorem a_X5_add_59 : ix_at mT_X5_add 59 = some (.getfield 25, 3) := by decide +kernel
theorem a_X5_add_62 : ix_at mT_X5_add 62 = some (.iload 7, 2) := by decide +kernel
theorem a_X5_add_64 : ix_at mT_X5_add 64 = some (.iload 6, 2) := by decide +kernel
theorem a_X5_add_66 : ix_at mT_X5_add 66 = some (.iastore, 1) := by decide +kernel
theorem a_X5_add_67 : ix_at mT_X5_add 67 = some (.aload_n 0, 1) := by decide +kernel
theorem a_X5_add_68 : ix_at mT_X5_add 68 = some (.getfield 28, 3) := by decide +kernel
theorem a_X5_add_71 : ix_at mT_X5_add 71 = some (.iload 7, 2) := by decide +kernel
theorem a_X5_add_73 : ix_at mT_X5_add 73 = some (.iconst (-1), 1) := by decide +kernel
theorem a_X5_add_74 : ix_at mT_X5_add 74 = some (.iastore, 1) := by decide +kernel
theorem a_X5_add_75 : ix_at mT_X5_add 75 = some (.iload 7, 2) := by decide +kernel
theorem a_X5_add_77 : ix_at mT_X5_add 77 = some (.ireturn, 1) := by decide +kernel
theorem a_X5_opened_0 : ix_at mT_X5_opened 0 = some (.iconst 0, 1) := by decide +kernel
theorem a_X5_opened_1 : ix_at mT_X5_opened 1 = some (.istore_n 1, 1) := by decide +kernel
theorem a_X5_opened_2 : ix_at mT_X5_opened 2 = some (.iconst 0, 1) := by decide +kernel
theorem a_X5_opened_3 : ix_at mT_X5_opened 3 = some (.istore_n 2, 1) := by decide +kernel
theorem a_X5_opened_4 : ix_at mT_X5_opened 4 = some (.iload_n 2, 1) := by decide +kernel
theorem a_X5_opened_5 : ix_at mT_X5_opened 5 = some (.bipush 32, 2) := by decide +kernel
theorem a_X5_opened_7 : ix_at mT_X5_opened 7 = some (.if_icmp .ge 27, 3) := by decide +kernel
theorem a_X5_opened_10 : ix_at mT_X5_opened 10 = some (.iload_n 1, 1) := by decide +kernel
theorem a_X5_opened_11 : ix_at mT_X5_opened 11 = some (.aload_n 0, 1) := by decide +kernel
theorem a_X5_opened_12 : ix_at mT_X5_opened 12 = some (.getfield 43, 3) := by decide +kernel
theorem a_X5_opened_15 : ix_at mT_X5_opened 15 = some (.iload_n 2, 1) := by decide +kernel
theorem a_X5_opened_16 : ix_at mT_X5_opened 16 = some (.iaload, 1) := by decide +kernel
theorem a_X5_opened_17 : ix_at mT_X5_opened 17 = some (.iconst (-1), 1) := by decide +kernel
theorem a_X5_opened_18 : ix_at mT_X5_opened 18 = some (.if_icmp .ne 7, 3) := by decide +kernel
theorem a_X5_opened_21 : ix_at mT_X5_opened 21 = some (.iconst 0, 1) := by decide +kernel
theorem a_X5_opened_22 : ix_at mT_X5_opened 22 = some (.goto 4, 3) := by decide +kernel
theorem a_X5_opened_25 : ix_at mT_X5_opened 25 = some (.iconst 1, 1) := by decide +kernel
theorem a_X5_opened_26 : ix_at mT_X5_opened 26 = some (.iadd, 1) := by decide +kernel
theorem a_X5_opened_27 : ix_at mT_X5_opened 27 = some (.istore_n 1, 1) := by decide +kernel
theorem a_X5_opened_28 : ix_at mT_X5_opened 28 = some (.iinc 2 1, 3) := by decide +kernel
theorem a_X5_opened_31 : ix_at mT_X5_opened 31 = some (.goto (-27), 3) := by decide +kernel
theorem a_X5_opened_34 : ix_at mT_X5_opened 34 = some (.iload_n 1, 1) := by decide +kernel
theorem a_X5_opened_35 : ix_at mT_X5_opened 35 = some (.ireturn, 1) := by decide +kernel
theorem a_X5_openedAt_0 : ix_at mT_X5_openedAt 0 = some (.iconst 0, 1) := by decide +kernel
theorem a_X5_openedAt_1 : ix_at mT_X5_openedAt 1 = some (.istore_n 2, 1) := by decide +kernel
theorem a_X5_openedAt_2 : ix_at mT_X5_openedAt 2 = some (.iconst 0, 1) := by decide +kernel
theorem a_X5_openedAt_3 : ix_at mT_X5_openedAt 3 = some (.istore_n 3, 1) := by decide +kernel
theorem a_X5_openedAt_4 : ix_at mT_X5_openedAt 4 = some (.iload_n 3, 1) := by decide +kernel
theorem a_X5_openedAt_5 : ix_at mT_X5_openedAt 5 = some (.bipush 32, 2) := by decide +kernel
theorem a_X5_openedAt_7 : ix_at mT_X5_openedAt 7 = some (.if_icmp .ge 41, 3) := by decide +kernel
theorem a_X5_openedAt_10 : ix_at mT_X5_openedAt 10 = some (.iload_n 2, 1) := by decide +kernel
theorem a_X5_openedAt_11 : ix_at mT_X5_openedAt 11 = some (.aload_n 0, 1) := by decide +kernel
theorem a_X5_openedAt_12 : ix_at mT_X5_openedAt 12 = some (.getfield 43, 3) := by decide +kernel
theorem a_X5_openedAt_15 : ix_at mT_X5_openedAt 15 = some (.iload_n 3, 1) := by decide +kernel
theorem a_X5_openedAt_16 : ix_at mT_X5_openedAt 16 = some (.iaload, 1) := by decide +kernel
theorem a_X5_openedAt_17 : ix_at mT_X5_openedAt 17 = some (.iconst (-1), 1) := by decide +kernel
theorem a_X5_openedAt_18 : ix_at mT_X5_openedAt 18 = some (.if_icmp .eq 21, 3) := by decide +kernel
theorem a_X5_openedAt_21 : ix_at mT_X5_openedAt 21 = some (.aload_n 0, 1) := by decide +kernel
theorem a_X5_openedAt_22 : ix_at mT_X5_openedAt 22 = some (.getfield 49, 3) := by decide +kernel
theorem a_X5_openedAt_25 : ix_at mT_X5_openedAt 25 = some (.iload_n 3, 1) := by decide +kernel
theorem a_X5_openedAt_26 : ix_at mT_X5_openedAt 26 = some (.iaload, 1) := by decide +kernel
theorem a_X5_openedAt_27 : ix_at mT_X5_openedAt 27 = some (.iload_n 1, 1) := by decide +kernel
theorem a_X5_openedAt_28 : ix_at mT_X5_openedAt 28 = some (.ishr, 1) := by decide +kernel
theorem a_X5_openedAt_29 : ix_at mT_X5_openedAt 29 = some (.iconst 1, 1) := by decide +kernel
theorem a_X5_openedAt_30 : ix_at mT_X5_openedAt 30 = some (.iand, 1) := by decide +kernel
theorem a_X5_openedAt_31 : ix_at mT_X5_openedAt 31 = some (.iconst 1, 1) := by decide +kernel
theorem a_X5_openedAt_32 : ix_at mT_X5_openedAt 32 = some (.if_icmp .ne 7, 3) := by decide +kernel
theorem a_X5_openedAt_35 : ix_at mT_X5_openedAt 35 = some (.iconst 1, 1) := by decide +kernel
theorem a_X5_openedAt_36 : ix_at mT_X5_openedAt 36 = some (.goto 4, 3) := by decide +kernel
theorem a_X5_openedAt_39 : ix_at mT_X5_openedAt 39 = some (.iconst 0, 1) := by decide +kernel
theorem a_X5_openedAt_40 : ix_at mT_X5_openedAt 40 = some (.iadd, 1) := by decide +kernel
theorem a_X5_openedAt_41 : ix_at mT_X5_openedAt 41 = some (.istore_n 2, 1) := by decide +kernel
theorem a_X5_openedAt_42 : ix_at mT_X5_openedAt 42 = some (.iinc 3 1, 3) := by decide +kernel
theorem a_X5_openedAt_45 : ix_at mT_X5_openedAt 45 = some (.goto (-41), 3) := by decide +kernel
theorem a_X5_openedAt_48 : ix_at mT_X5_openedAt 48 = some (.iload_n 2, 1) := by decide +kernel
theorem a_X5_openedAt_49 : ix_at mT_X5_openedAt 49 = some (.ireturn, 1) := by decide +kernel
theorem a_X5_bookHas_0 : ix_at mT_X5_bookHas 0 = some (.aload_n 0, 1) := by decide +kernel
theorem a_X5_bookHas_1 : ix_at mT_X5_bookHas 1 = some (.aload_n 0, 1) := by decide +kernel
theorem a_X5_bookHas_2 : ix_at mT_X5_bookHas 2 = some (.getfield 87, 3) := by decide +kernel
theorem a_X5_bookHas_5 : ix_at mT_X5_bookHas 5 = some (.iconst 0, 1) := by decide +kernel
theorem a_X5_bookHas_6 : ix_at mT_X5_bookHas 6 = some (.invokevirtual 125, 3) := by decide +kernel
theorem a_X5_bookHas_9 : ix_at mT_X5_bookHas 9 = some (.iload_n 1, 1) := by decide +kernel
theorem a_X5_bookHas_10 : ix_at mT_X5_bookHas 10 = some (.iadd, 1) := by decide +kernel
theorem a_X5_bookHas_11 : ix_at mT_X5_bookHas 11 = some (.bipush 48, 2) := by decide +kernel
theorem a_X5_bookHas_13 : ix_at mT_X5_bookHas 13 = some (.iload_n 2, 1) := by decide +kernel
theorem a_X5_bookHas_14 : ix_at mT_X5_bookHas 14 = some (.imul, 1) := by decide +kernel
theorem a_X5_bookHas_15 : ix_at mT_X5_bookHas 15 = some (.iadd, 1) := by decide +kernel
theorem a_X5_bookHas_16 : ix_at mT_X5_bookHas 16 = some (.sipush 16000, 3) := by decide +kernel
theorem a_X5_bookHas_19 : ix_at mT_X5_bookHas 19 = some (.if_icmp .gt 7, 3) := by decide +kernel
theorem a_X5_bookHas_22 : ix_at mT_X5_bookHas 22 = some (.iconst 1, 1) := by decide +kernel
theorem a_X5_bookHas_23 : ix_at mT_X5_bookHas 23 = some (.goto 4, 3) := by decide +kernel
theorem a_X5_bookHas_26 : ix_at mT_X5_bookHas 26 = some (.iconst 0, 1) := by decide +kernel
theorem a_X5_bookHas_27 : ix_at mT_X5_bookHas 27 = some (.ireturn, 1) := by decide +kernel
theorem a_X5_refused_0 : ix_at mT_X5_refused 0 = some (.aload_n 0, 1) := by decide +kernel
theorem a_X5_refused_1 : ix_at mT_X5_refused 1 = some (.getfield 99, 3) := by decide +kernel
theorem a_X5_refused_4 : ix_at mT_X5_refused 4 = some (.ifCond .eq 5, 3) := by decide +kernel
theorem a_X5_refused_7 : ix_at mT_X5_refused 7 = some (.iconst (-1), 1) := by decide +kernel
theorem a_X5_refused_8 : ix_at mT_X5_refused 8 = some (.ireturn, 1) := by decide +kernel
theorem a_X5_refused_9 : ix_at mT_X5_refused 9 = some (.iload_n 1, 1) := by decide +kernel
theorem a_X5_refused_10 : ix_at mT_X5_refused 10 = some (.ifCond .lt 18, 3) := by decide +kernel
theorem a_X5_refused_13 : ix_at mT_X5_refused 13 = some (.iload_n 1, 1) := by decide +kernel
theorem a_X5_refused_14 : ix_at mT_X5_refused 14 = some (.bipush 31, 2) := by decide +kernel
theorem a_X5_refused_16 : ix_at mT_X5_refused 16 = some (.if_icmp .gt 12, 3) := by decide +kernel
theorem a_X5_refused_19 : ix_at mT_X5_refused 19 = some (.aload_n 0, 1) := by decide +kernel
theorem a_X5_refused_20 : ix_at mT_X5_refused 20 = some (.getfield 36, 3) := by decide +kernel
theorem a_X5_refused_23 : ix_at mT_X5_refused 23 = some (.iload_n 1, 1) := by decide +kernel
theorem a_X5_refused_24 : ix_at mT_X5_refused 24 = some (.baload, 1) := by decide +kernel
theorem a_X5_refused_25 : ix_at mT_X5_refused 25 = some (.ifCond .ne 6, 3) := by decide +kernel
theorem a_X5_refused_28 : ix_at mT_X5_refused 28 = some (.bipush (-2), 2) := by decide +kernel
theorem a_X5_refused_30 : ix_at mT_X5_refused 30 = some (.ireturn, 1) := by decide +kernel
theorem a_X5_refused_31 : ix_at mT_X5_refused 31 = some (.aload_n 0, 1) := by decide +kernel
theorem a_X5_refused_32 : ix_at mT_X5_refused 32 = some (.getfield 40, 3) := by decide +kernel
theorem a_X5_refused_35 : ix_at mT_X5_refused 35 = some (.iload_n 1, 1) := by decide +kernel
theorem a_X5_refused_36 : ix_at mT_X5_refused 36 = some (.iaload, 1) := by decide +kernel
theorem a_X5_refused_37 : ix_at mT_X5_refused 37 = some (.iload_n 2, 1) := by decide +kernel
theorem a_X5_refused_38 : ix_at mT_X5_refused 38 = some (.if_icmp .ne 7, 3) := by decide +kernel
theorem a_X5_refused_41 : ix_at mT_X5_refused 41 = some (.iconst 0, 1) := by decide +kernel
theorem a_X5_refused_42 : ix_at mT_X5_refused 42 = some (.goto 5, 3) := by decide +kernel
theorem a_X5_refused_45 : ix_at mT_X5_refused 45 = some (.bipush (-3), 2) := by decide +kernel
theorem a_X5_refused_47 : ix_at mT_X5_refused 47 = some (.ireturn, 1) := by decide +kernel
theorem a_X5_registers_0 : ix_at mT_X5_registers 0 = some (.aload_n 0, 1) := by decide +kernel
theorem a_X5_registers_1 : ix_at mT_X5_registers 1 = some (.getfield 40, 3) := by decide +kernel
theorem a_X5_registers_4 : ix_at mT_X5_registers 4 = some (.iload_n 1, 1) := by decide +kernel
theorem a_X5_registers_5 : ix_at mT_X5_registers 5 = some (.aload_n 0, 1) := by decide +kernel
theorem a_X5_registers_6 : ix_at mT_X5_registers 6 = some (.getfield 36, 3) := by decide +kernel
theorem a_X5_registers_9 : ix_at mT_X5_registers 9 = some (.iload_n 1, 1) := by decide +kernel
theorem a_X5_registers_10 : ix_at mT_X5_registers 10 = some (.baload, 1) := by decide +kernel
theorem a_X5_registers_11 : ix_at mT_X5_registers 11 = some (.ifCond .eq 14, 3) := by decide +kernel
theorem a_X5_registers_14 : ix_at mT_X5_registers 14 = some (.aload_n 0, 1) := by decide +kernel
theorem a_X5_registers_15 : ix_at mT_X5_registers 15 = some (.getfield 40, 3) := by decide +kernel
theorem a_X5_registers_18 : ix_at mT_X5_registers 18 = some (.iload_n 1, 1) := by decide +kernel
theorem a_X5_registers_19 : ix_at mT_X5_registers 19 = some (.iaload, 1) := by decide +kernel
theorem a_X5_registers_20 : ix_at mT_X5_registers 20 = some (.iconst 1, 1) := by decide +kernel
theorem a_X5_registers_21 : ix_at mT_X5_registers 21 = some (.iadd, 1) := by decide +kernel
theorem a_X5_registers_22 : ix_at mT_X5_registers 22 = some (.goto 4, 3) := by decide +kernel
theorem a_X5_registers_25 : ix_at mT_X5_registers 25 = some (.iconst 0, 1) := by decide +kernel
theorem a_X5_registers_26 : ix_at mT_X5_registers 26 = some (.iastore, 1) := by decide +kernel
theorem a_X5_registers_27 : ix_at mT_X5_registers 27 = some (.aload_n 0, 1) := by decide +kernel
theorem a_X5_registers_28 : ix_at mT_X5_registers 28 = some (.getfield 36, 3) := by decide +kernel
theorem a_X5_registers_31 : ix_at mT_X5_registers 31 = some (.iload_n 1, 1) := by decide +kernel
theorem a_X5_registers_32 : ix_at mT_X5_registers 32 = some (.iconst 1, 1) := by decide +kernel
theorem a_X5_registers_33 : ix_at mT_X5_registers 33 = some (.bastore, 1) := by decide +kernel
theorem a_X5_registers_34 : ix_at mT_X5_registers 34 = some (.aload_n 0, 1) := by decide +kernel
theorem a_X5_registers_35 : ix_at mT_X5_registers 35 = some (.aload_n 0, 1) := by decide +kernel
theorem a_X5_registers_36 : ix_at mT_X5_registers 36 = some (.getfield 87, 3) := by decide +kernel
theorem a_X5_registers_39 : ix_at mT_X5_registers 39 = some (.iconst 0, 1) := by decide +kernel
theorem a_X5_registers_40 : ix_at mT_X5_registers 40 = some (.iload_n 1, 1) := by decide +kernel
theorem a_X5_registers_41 : ix_at mT_X5_registers 41 = some (.aload_n 0, 1) := by decide +kernel
theorem a_X5_registers_42 : ix_at mT_X5_registers 42 = some (.getfield 40, 3) := by decide +kernel
theorem a_X5_registers_45 : ix_at mT_X5_registers 45 = some (.iload_n 1, 1) := by decide +kernel
theorem a_X5_registers_46 : ix_at mT_X5_registers 46 = some (.iaload, 1) := by decide +kernel
theorem a_X5_registers_47 : ix_at mT_X5_registers 47 = some (.iconst 0, 1) := by decide +kernel
theorem a_X5_registers_48 : ix_at mT_X5_registers 48 = some (.iconst 0, 1) := by decide +kernel
theorem a_X5_registers_49 : ix_at mT_X5_registers 49 = some (.invokevirtual 129, 3) := by decide +kernel
theorem a_X5_registers_52 : ix_at mT_X5_registers 52 = some (.istore_n 2, 1) := by decide +kernel
theorem a_X5_registers_53 : ix_at mT_X5_registers 53 = some (.return_, 1) := by decide +kernel
theorem a_X5_marksOf_0 : ix_at mT_X5_marksOf 0 = some (.iconst 0, 1) := by decide +kernel
theorem a_X5_marksOf_1 : ix_at mT_X5_marksOf 1 = some (.istore_n 2, 1) := by decide +kernel
theorem a_X5_marksOf_2 : ix_at mT_X5_marksOf 2 = some (.iload_n 2, 1) := by decide +kernel
theorem a_X5_marksOf_3 : ix_at mT_X5_marksOf 3 = some (.aload_n 0, 1) := by decide +kernel
theorem a_X5_marksOf_4 : ix_at mT_X5_marksOf 4 = some (.getfield 84, 3) := by decide +kernel
theorem a_X5_marksOf_7 : ix_at mT_X5_marksOf 7 = some (.if_icmp .ge 36, 3) := by decide +kernel
theorem a_X5_marksOf_10 : ix_at mT_X5_marksOf 10 = some (.aload_n 0, 1) := by decide +kernel
theorem a_X5_marksOf_11 : ix_at mT_X5_marksOf 11 = some (.getfield 58, 3) := by decide +kernel
theorem a_X5_marksOf_14 : ix_at mT_X5_marksOf 14 = some (.iload_n 2, 1) := by decide +kernel
theorem a_X5_marksOf_15 : ix_at mT_X5_marksOf 15 = some (.iaload, 1) := by decide +kernel
theorem a_X5_marksOf_16 : ix_at mT_X5_marksOf 16 = some (.iload_n 1, 1) := by decide +kernel
theorem a_X5_marksOf_17 : ix_at mT_X5_marksOf 17 = some (.if_icmp .ne 20, 3) := by decide +kernel
theorem a_X5_marksOf_20 : ix_at mT_X5_marksOf 20 = some (.aload_n 0, 1) := by decide +kernel
theorem a_X5_marksOf_21 : ix_at mT_X5_marksOf 21 = some (.getfield 52, 3) := by decide +kernel
theorem a_X5_marksOf_24 : ix_at mT_X5_marksOf 24 = some (.aload_n 0, 1) := by decide +kernel
theorem a_X5_marksOf_25 : ix_at mT_X5_marksOf 25 = some (.getfield 61, 3) := by decide +kernel
theorem a_X5_marksOf_28 : ix_at mT_X5_marksOf 28 = some (.iload_n 2, 1) := by decide +kernel
theorem a_X5_marksOf_29 : ix_at mT_X5_marksOf 29 = some (.iaload, 1) := by decide +kernel
theorem a_X5_marksOf_30 : ix_at mT_X5_marksOf 30 = some (.aload_n 0, 1) := by decide +kernel
theorem a_X5_marksOf_31 : ix_at mT_X5_marksOf 31 = some (.getfield 64, 3) := by decide +kernel
theorem a_X5_marksOf_34 : ix_at mT_X5_marksOf 34 = some (.iload_n 2, 1) := by decide +kernel
theorem a_X5_marksOf_35 : ix_at mT_X5_marksOf 35 = some (.iaload, 1) := by decide +kernel
theorem a_X5_marksOf_36 : ix_at mT_X5_marksOf 36 = some (.iastore, 1) := by decide +kernel
theorem a_X5_marksOf_37 : ix_at mT_X5_marksOf 37 = some (.iinc 2 1, 3) := by decide +kernel
theorem a_X5_marksOf_40 : ix_at mT_X5_marksOf 40 = some (.goto (-38), 3) := by decide +kernel
theorem a_X5_marksOf_43 : ix_at mT_X5_marksOf 43 = some (.return_, 1) := by decide +kernel
theorem a_X5_finishes_0 : ix_at mT_X5_finishes 0 = some (.aload_n 0, 1) := by decide +kernel
theorem a_X5_finishes_1 : ix_at mT_X5_finishes 1 = some (.getfield 43, 3) := by decide +kernel
theorem a_X5_finishes_4 : ix_at mT_X5_finishes 4 = some (.iload_n 1, 1) := by decide +kernel
theorem a_X5_finishes_5 : ix_at mT_X5_finishes 5 = some (.iaload, 1) := by decide +kernel
theorem a_X5_finishes_6 : ix_at mT_X5_finishes 6 = some (.istore_n 3, 1) := by decide +kernel
theorem a_X5_finishes_7 : ix_at mT_X5_finishes 7 = some (.iconst 0, 1) := by decide +kernel
theorem a_X5_finishes_8 : ix_at mT_X5_finishes 8 = some (.istore 4, 2) := by decide +kernel
theorem a_X5_finishes_10 : ix_at mT_X5_finishes 10 = some (.iload 4, 2) := by decide +kernel
theorem a_X5_finishes_12 : ix_at mT_X5_finishes 12 = some (.aload_n 0, 1) := by decide +kernel
theorem a_X5_finishes_13 : ix_at mT_X5_finishes 13 = some (.getfield 87, 3) := by decide +kernel
theorem a_X5_finishes_16 : ix_at mT_X5_finishes 16 = some (.if_icmp .ge 122, 3) := by decide +kernel
theorem a_X5_finishes_19 : ix_at mT_X5_finishes 19 = some (.iconst 0, 1) := by decide +kernel
theorem a_X5_finishes_20 : ix_at mT_X5_finishes 20 = some (.istore 5, 2) := by decide +kernel
theorem a_X5_finishes_22 : ix_at mT_X5_finishes 22 = some (.iconst 0, 1) := by decide +kernel
theorem a_X5_finishes_23 : ix_at mT_X5_finishes 23 = some (.istore 6, 2) := by decide +kernel
theorem a_X5_finishes_25 : ix_at mT_X5_finishes 25 = some (.iload 6, 2) := by decide +kernel
theorem a_X5_finishes_27 : ix_at mT_X5_finishes 27 = some (.aload_n 0, 1) := by decide +kernel
theorem a_X5_finishes_28 : ix_at mT_X5_finishes 28 = some (.getfield 106, 3) := by decide +kernel
theorem a_X5_finishes_31 : ix_at mT_X5_finishes 31 = some (.if_icmp .ge 55, 3) := by decide +kernel
theorem a_X5_finishes_34 : ix_at mT_X5_finishes 34 = some (.iload 5, 2) := by decide +kernel
theorem a_X5_finishes_36 : ix_at mT_X5_finishes 36 = some (.ifCond .ne 37, 3) := by decide +kernel
theorem a_X5_finishes_39 : ix_at mT_X5_finishes 39 = some (.aload_n 0, 1) := by decide +kernel
theorem a_X5_finishes_40 : ix_at mT_X5_finishes 40 = some (.getfield 9, 3) := by decide +kernel
theorem a_X5_finishes_43 : ix_at mT_X5_finishes 43 = some (.iload 6, 2) := by decide +kernel
theorem a_X5_finishes_45 : ix_at mT_X5_finishes 45 = some (.iaload, 1) := by decide +kernel
theorem a_X5_finishes_46 : ix_at mT_X5_finishes 46 = some (.iload 4, 2) := by decide +kernel
theorem a_X5_finishes_48 : ix_at mT_X5_finishes 48 = some (.if_icmp .ne 29, 3) := by decide +kernel
theorem a_X5_finishes_51 : ix_at mT_X5_finishes 51 = some (.aload_n 0, 1) := by decide +kernel
theorem a_X5_finishes_52 : ix_at mT_X5_finishes 52 = some (.getfield 13, 3) := by decide +kernel
theorem a_X5_finishes_55 : ix_at mT_X5_finishes 55 = some (.iload 6, 2) := by decide +kernel
theorem a_X5_finishes_57 : ix_at mT_X5_finishes 57 = some (.iaload, 1) := by decide +kernel
theorem a_X5_finishes_58 : ix_at mT_X5_finishes 58 = some (.iconst 1, 1) := by decide +kernel
theorem a_X5_finishes_59 : ix_at mT_X5_finishes 59 = some (.if_icmp .le 18, 3) := by decide +kernel
theorem a_X5_finishes_62 : ix_at mT_X5_finishes 62 = some (.aload_n 0, 1) := by decide +kernel
theorem a_X5_finishes_63 : ix_at mT_X5_finishes 63 = some (.getfield 22, 3) := by decide +kernel
theorem a_X5_finishes_66 : ix_at mT_X5_finishes 66 = some (.iload 6, 2) := by decide +kernel
theorem a_X5_finishes_68 : ix_at mT_X5_finishes 68 = some (.iaload, 1) := by decide +kernel
theorem a_X5_finishes_69 : ix_at mT_X5_finishes 69 = some (.iload_n 3, 1) := by decide +kernel
theorem a_X5_finishes_70 : ix_at mT_X5_finishes 70 = some (.if_icmp .ne 7, 3) := by decide +kernel
theorem a_X5_finishes_73 : ix_at mT_X5_finishes 73 = some (.iconst 1, 1) := by decide +kernel
theorem a_X5_finishes_74 : ix_at mT_X5_finishes 74 = some (.goto 4, 3) := by decide +kernel
theorem a_X5_finishes_77 : ix_at mT_X5_finishes 77 = some (.iconst 0, 1) := by decide +kernel
theorem a_X5_finishes_78 : ix_at mT_X5_finishes 78 = some (.istore 5, 2) := by decide +kernel
theorem a_X5_finishes_80 : ix_at mT_X5_finishes 80 = some (.iinc 6 1, 3) := by decide +kernel
theorem a_X5_finishes_83 : ix_at mT_X5_finishes 83 = some (.goto (-58), 3) := by decide +kernel
theorem a_X5_finishes_86 : ix_at mT_X5_finishes 86 = some (.aload_n 0, 1) := by decide +kernel
theorem a_X5_finishes_87 : ix_at mT_X5_finishes 87 = some (.getfield 49, 3) := by decide +kernel
theorem a_X5_finishes_90 : ix_at mT_X5_finishes 90 = some (.iload_n 1, 1) := by decide +kernel
theorem a_X5_finishes_91 : ix_at mT_X5_finishes 91 = some (.iaload, 1) := by decide +kernel
theorem a_X5_finishes_92 : ix_at mT_X5_finishes 92 = some (.iload 4, 2) := by decide +kernel
theorem a_X5_finishes_94 : ix_at mT_X5_finishes 94 = some (.ishr, 1) := by decide +kernel
theorem a_X5_finishes_95 : ix_at mT_X5_finishes 95 = some (.iconst 1, 1) := by decide +kernel
theorem a_X5_finishes_96 : ix_at mT_X5_finishes 96 = some (.iand, 1) := by decide +kernel
theorem a_X5_finishes_97 : ix_at mT_X5_finishes 97 = some (.iconst 1, 1) := by decide +kernel
theorem a_X5_finishes_98 : ix_at mT_X5_finishes 98 = some (.if_icmp .ne 34, 3) := by decide +kernel
theorem a_X5_finishes_101 : ix_at mT_X5_finishes 101 = some (.iload 5, 2) := by decide +kernel
theorem a_X5_finishes_103 : ix_at mT_X5_finishes 103 = some (.ifCond .ne 29, 3) := by decide +kernel
theorem a_X5_finishes_106 : ix_at mT_X5_finishes 106 = some (.aload_n 0, 1) := by decide +kernel
theorem a_X5_finishes_107 : ix_at mT_X5_finishes 107 = some (.iload 4, 2) := by decide +kernel
theorem a_X5_finishes_109 : ix_at mT_X5_finishes 109 = some (.iload_n 2, 1) := by decide +kernel
theorem a_X5_finishes_110 : ix_at mT_X5_finishes 110 = some (.ifCond .eq 7, 3) := by decide +kernel
theorem a_X5_finishes_113 : ix_at mT_X5_finishes 113 = some (.iconst 2, 1) := by decide +kernel
theorem a_X5_finishes_114 : ix_at mT_X5_finishes 114 = some (.goto 4, 3) := by decide +kernel
theorem a_X5_finishes_117 : ix_at mT_X5_finishes 117 = some (.iconst 3, 1) := by decide +kernel
theorem a_X5_finishes_118 : ix_at mT_X5_finishes 118 = some (.iload_n 1, 1) := by decide +kernel
theorem a_X5_finishes_119 : ix_at mT_X5_finishes 119 = some (.aload_n 0, 1) := by decide +kernel
theorem a_X5_finishes_120 : ix_at mT_X5_finishes 120 = some (.getfield 40, 3) := by decide +kernel
theorem a_X5_finishes_123 : ix_at mT_X5_finishes 123 = some (.iload_n 1, 1) := by decide +kernel
theorem a_X5_finishes_124 : ix_at mT_X5_finishes 124 = some (.iaload, 1) := by decide +kernel
theorem a_X5_finishes_125 : ix_at mT_X5_finishes 125 = some (.iload_n 3, 1) := by decide +kernel
theorem a_X5_finishes_126 : ix_at mT_X5_finishes 126 = some (.iconst 0, 1) := by decide +kernel
theorem a_X5_finishes_127 : ix_at mT_X5_finishes 127 = some (.invokevirtual 129, 3) := by decide +kernel
theorem a_X5_finishes_130 : ix_at mT_X5_finishes 130 = some (.istore 6, 2) := by decide +kernel
theorem a_X5_finishes_132 : ix_at mT_X5_finishes 132 = some (.iinc 4 1, 3) := by decide +kernel
theorem a_X5_finishes_135 : ix_at mT_X5_finishes 135 = some (.goto (-125), 3) := by decide +kernel
theorem a_X5_finishes_138 : ix_at mT_X5_finishes 138 = some (.aload_n 0, 1) := by decide +kernel
theorem a_X5_finishes_139 : ix_at mT_X5_finishes 139 = some (.aload_n 0, 1) := by decide +kernel
theorem a_X5_finishes_140 : ix_at mT_X5_finishes 140 = some (.getfield 87, 3) := by decide +kernel
theorem a_X5_finishes_143 : ix_at mT_X5_finishes 143 = some (.iconst 5, 1) := by decide +kernel
theorem a_X5_finishes_144 : ix_at mT_X5_finishes 144 = some (.iload_n 1, 1) := by decide +kernel
theorem a_X5_finishes_145 : ix_at mT_X5_finishes 145 = some (.aload_n 0, 1) := by decide +kernel
theorem a_X5_finishes_146 : ix_at mT_X5_finishes 146 = some (.getfield 40, 3) := by decide +kernel
theorem a_X5_finishes_149 : ix_at mT_X5_finishes 149 = some (.iload_n 1, 1) := by decide +kernel
theorem a_X5_finishes_150 : ix_at mT_X5_finishes 150 = some (.iaload, 1) := by decide +kernel
theorem a_X5_finishes_151 : ix_at mT_X5_finishes 151 = some (.iconst 0, 1) := by decide +kernel
theorem a_X5_finishes_152 : ix_at mT_X5_finishes 152 = some (.iload_n 3, 1) := by decide +kernel
theorem a_X5_finishes_153 : ix_at mT_X5_finishes 153 = some (.invokevirtual 129, 3) := by decide +kernel
theorem a_X5_finishes_156 : ix_at mT_X5_finishes 156 = some (.istore 4, 2) := by decide +kernel
theorem a_X5_finishes_158 : ix_at mT_X5_finishes 158 = some (.aload_n 0, 1) := by decide +kernel
theorem a_X5_finishes_159 : ix_at mT_X5_finishes 159 = some (.iload_n 1, 1) := by decide +kernel
theorem a_X5_finishes_160 : ix_at mT_X5_finishes 160 = some (.iload_n 2, 1) := by decide +kernel
theorem a_X5_finishes_161 : ix_at mT_X5_finishes 161 = some (.invokevirtual 133, 3) := by decide +kernel
theorem a_X5_finishes_164 : ix_at mT_X5_finishes 164 = some (.return_, 1) := by decide +kernel
theorem a_X5_closes_0 : ix_at mT_X5_closes 0 = some (.aload_n 0, 1) := by decide +kernel
theorem a_X5_closes_1 : ix_at mT_X5_closes 1 = some (.getfield 43, 3) := by decide +kernel
theorem a_X5_closes_4 : ix_at mT_X5_closes 4 = some (.iload_n 1, 1) := by decide +kernel
theorem a_X5_closes_5 : ix_at mT_X5_closes 5 = some (.iaload, 1) := by decide +kernel
theorem a_X5_closes_6 : ix_at mT_X5_closes 6 = some (.istore_n 3, 1) := by decide +kernel
theorem a_X5_closes_7 : ix_at mT_X5_closes 7 = some (.aload_n 0, 1) := by decide +kernel
theorem a_X5_closes_8 : ix_at mT_X5_closes 8 = some (.getfield 55, 3) := by decide +kernel
theorem a_X5_closes_11 : ix_at mT_X5_closes 11 = some (.iload_n 3, 1) := by decide +kernel
theorem a_X5_closes_12 : ix_at mT_X5_closes 12 = some (.iload_n 2, 1) := by decide +kernel
theorem a_X5_closes_13 : ix_at mT_X5_closes 13 = some (.ifCond .eq 7, 3) := by decide +kernel
theorem a_X5_closes_16 : ix_at mT_X5_closes 16 = some (.iconst 1, 1) := by decide +kernel
theorem a_X5_closes_17 : ix_at mT_X5_closes 17 = some (.goto 4, 3) := by decide +kernel
theorem a_X5_closes_20 : ix_at mT_X5_closes 20 = some (.iconst 2, 1) := by decide +kernel
theorem a_X5_closes_21 : ix_at mT_X5_closes 21 = some (.iastore, 1) := by decide +kernel
theorem a_X5_closes_22 : ix_at mT_X5_closes 22 = some (.iload_n 2, 1) := by decide +kernel
theorem a_X5_closes_23 : ix_at mT_X5_closes 23 = some (.ifCond .eq 8, 3) := by decide +kernel
theorem a_X5_closes_26 : ix_at mT_X5_closes 26 = some (.aload_n 0, 1) := by decide +kernel
theorem a_X5_closes_27 : ix_at mT_X5_closes 27 = some (.iload_n 3, 1) := by decide +kernel
theorem a_X5_closes_28 : ix_at mT_X5_closes 28 = some (.invokevirtual 137, 3) := by decide +kernel
theorem a_X5_closes_31 : ix_at mT_X5_closes 31 = some (.aload_n 0, 1) := by decide +kernel
theorem a_X5_closes_32 : ix_at mT_X5_closes 32 = some (.getfield 43, 3) := by decide +kernel
theorem a_X5_closes_35 : ix_at mT_X5_closes 35 = some (.iload_n 1, 1) := by decide +kernel
theorem a_X5_closes_36 : ix_at mT_X5_closes 36 = some (.iconst (-1), 1) := by decide +kernel
theorem a_X5_closes_37 : ix_at mT_X5_closes 37 = some (.iastore, 1) := by decide +kernel
theorem a_X5_closes_38 : ix_at mT_X5_closes 38 = some (.aload_n 0, 1) := by decide +kernel
theorem a_X5_closes_39 : ix_at mT_X5_closes 39 = some (.getfield 49, 3) := by decide +kernel
theorem a_X5_closes_42 : ix_at mT_X5_closes 42 = some (.iload_n 1, 1) := by decide +kernel
theorem a_X5_closes_43 : ix_at mT_X5_closes 43 = some (.iconst 0, 1) := by decide +kernel
theorem a_X5_closes_44 : ix_at mT_X5_closes 44 = some (.iastore, 1) := by decide +kernel
theorem a_X5_closes_45 : ix_at mT_X5_closes 45 = some (.return_, 1) := by decide +kernel
theorem a_X5_ends_0 : ix_at mT_X5_ends 0 = some (.aload_n 0, 1) := by decide +kernel
theorem a_X5_ends_1 : ix_at mT_X5_ends 1 = some (.aload_n 0, 1) := by decide +kernel
theorem a_X5_ends_2 : ix_at mT_X5_ends 2 = some (.getfield 87, 3) := by decide +kernel
theorem a_X5_ends_5 : ix_at mT_X5_ends 5 = some (.iconst 4, 1) := by decide +kernel
theorem a_X5_ends_6 : ix_at mT_X5_ends 6 = some (.iload_n 1, 1) := by decide +kernel
theorem a_X5_ends_7 : ix_at mT_X5_ends 7 = some (.aload_n 0, 1) := by decide +kernel
theorem a_X5_ends_8 : ix_at mT_X5_ends 8 = some (.getfield 40, 3) := by decide +kernel
theorem a_X5_ends_11 : ix_at mT_X5_ends 11 = some (.iload_n 1, 1) := by decide +kernel
theorem a_X5_ends_12 : ix_at mT_X5_ends 12 = some (.iaload, 1) := by decide +kernel
theorem a_X5_ends_13 : ix_at mT_X5_ends 13 = some (.iload_n 2, 1) := by decide +kernel
theorem a_X5_ends_14 : ix_at mT_X5_ends 14 = some (.ifCond .eq 7, 3) := by decide +kernel
theorem a_X5_ends_17 : ix_at mT_X5_ends 17 = some (.iconst 1, 1) := by decide +kernel
theorem a_X5_ends_18 : ix_at mT_X5_ends 18 = some (.goto 4, 3) := by decide +kernel
theorem a_X5_ends_21 : ix_at mT_X5_ends 21 = some (.iconst 0, 1) := by decide +kernel
theorem a_X5_ends_22 : ix_at mT_X5_ends 22 = some (.aload_n 0, 1) := by decide +kernel
theorem a_X5_ends_23 : ix_at mT_X5_ends 23 = some (.getfield 43, 3) := by decide +kernel
theorem a_X5_ends_26 : ix_at mT_X5_ends 26 = some (.iload_n 1, 1) := by decide +kernel
theorem a_X5_ends_27 : ix_at mT_X5_ends 27 = some (.iaload, 1) := by decide +kernel
theorem a_X5_ends_28 : ix_at mT_X5_ends 28 = some (.invokevirtual 129, 3) := by decide +kernel
theorem a_X5_ends_31 : ix_at mT_X5_ends 31 = some (.istore_n 3, 1) := by decide +kernel
theorem a_X5_ends_32 : ix_at mT_X5_ends 32 = some (.aload_n 0, 1) := by decide +kernel
theorem a_X5_ends_33 : ix_at mT_X5_ends 33 = some (.iload_n 1, 1) := by decide +kernel
theorem a_X5_ends_34 : ix_at mT_X5_ends 34 = some (.iload_n 2, 1) := by decide +kernel
theorem a_X5_ends_35 : ix_at mT_X5_ends 35 = some (.invokevirtual 141, 3) := by decide +kernel
theorem a_X5_ends_38 : ix_at mT_X5_ends 38 = some (.return_, 1) := by decide +kernel
theorem a_X5_register_0 : ix_at mT_X5_register 0 = some (.aload_n 0, 1) := by decide +kernel
theorem a_X5_register_1 : ix_at mT_X5_register 1 = some (.getfield 99, 3) := by decide +kernel
theorem a_X5_register_4 : ix_at mT_X5_register 4 = some (.ifCond .eq 5, 3) := by decide +kernel
theorem a_X5_register_7 : ix_at mT_X5_register 7 = some (.iconst (-1), 1) := by decide +kernel
theorem a_X5_register_8 : ix_at mT_X5_register 8 = some (.ireturn, 1) := by decide +kernel
theorem a_X5_register_9 : ix_at mT_X5_register 9 = some (.iload_n 1, 1) := by decide +kernel
theorem a_X5_register_10 : ix_at mT_X5_register 10 = some (.ifCond .lt 9, 3) := by decide +kernel
theorem a_X5_register_13 : ix_at mT_X5_register 13 = some (.iload_n 1, 1) := by decide +kernel
theorem a_X5_register_14 : ix_at mT_X5_register 14 = some (.bipush 31, 2) := by decide +kernel
theorem a_X5_register_16 : ix_at mT_X5_register 16 = some (.if_icmp .le 6, 3) := by decide +kernel
theorem a_X5_register_19 : ix_at mT_X5_register 19 = some (.bipush (-2), 2) := by decide +kernel
theorem a_X5_register_21 : ix_at mT_X5_register 21 = some (.ireturn, 1) := by decide +kernel
theorem a_X5_register_22 : ix_at mT_X5_register 22 = some (.aload_n 0, 1) := by decide +kernel
theorem a_X5_register_23 : ix_at mT_X5_register 23 = some (.getfield 43, 3) := by decide +kernel
theorem a_X5_register_26 : ix_at mT_X5_register 26 = some (.iload_n 1, 1) := by decide +kernel
theorem a_X5_register_27 : ix_at mT_X5_register 27 = some (.iaload, 1) := by decide +kernel
theorem a_X5_register_28 : ix_at mT_X5_register 28 = some (.iconst (-1), 1) := by decide +kernel
theorem a_X5_register_29 : ix_at mT_X5_register 29 = some (.if_icmp .eq 12, 3) := by decide +kernel
theorem a_X5_register_32 : ix_at mT_X5_register 32 = some (.aload_n 0, 1) := by decide +kernel
theorem a_X5_register_33 : ix_at mT_X5_register 33 = some (.iload_n 1, 1) := by decide +kernel
theorem a_X5_register_34 : ix_at mT_X5_register 34 = some (.iconst 0, 1) := by decide +kernel
theorem a_X5_register_35 : ix_at mT_X5_register 35 = some (.invokevirtual 144, 3) := by decide +kernel
theorem a_X5_register_38 : ix_at mT_X5_register 38 = some (.goto 19, 3) := by decide +kernel
theorem a_X5_register_41 : ix_at mT_X5_register 41 = some (.aload_n 0, 1) := by decide +kernel
theorem a_X5_register_42 : ix_at mT_X5_register 42 = some (.bipush 16, 2) := by decide +kernel
theorem a_X5_register_44 : ix_at mT_X5_register 44 = some (.aload_n 0, 1) := by decide +kernel
theorem a_X5_register_45 : ix_at mT_X5_register 45 = some (.invokevirtual 147, 3) := by decide +kernel
theorem a_X5_register_48 : ix_at mT_X5_register 48 = some (.invokevirtual 151, 3) := by decide +kernel
theorem a_X5_register_51 : ix_at mT_X5_register 51 = some (.ifCond .ne 6, 3) := by decide +kernel
theorem a_X5_register_54 : ix_at mT_X5_register 54 = some (.bipush (-8), 2) := by decide +kernel
theorem a_X5_register_56 : ix_at mT_X5_register 56 = some (.ireturn, 1) := by decide +kernel
theorem a_X5_register_57 : ix_at mT_X5_register 57 = some (.aload_n 0, 1) := by decide +kernel
theorem a_X5_register_58 : ix_at mT_X5_register 58 = some (.iload_n 1, 1) := by decide +kernel
theorem a_X5_register_59 : ix_at mT_X5_register 59 = some (.invokevirtual 155, 3) := by decide +kernel
theorem a_X5_register_62 : ix_at mT_X5_register 62 = some (.aload_n 0, 1) := by decide +kernel
theorem a_X5_register_63 : ix_at mT_X5_register 63 = some (.getfield 40, 3) := by decide +kernel
theorem a_X5_register_66 : ix_at mT_X5_register 66 = some (.iload_n 1, 1) := by decide +kernel
theorem a_X5_register_67 : ix_at mT_X5_register 67 = some (.iaload, 1) := by decide +kernel
theorem a_X5_register_68 : ix_at mT_X5_register 68 = some (.ireturn, 1) := by decide +kernel
theorem a_X5_begins_0 : ix_at mT_X5_begins 0 = some (.aload_n 0, 1) := by decide +kernel
theorem a_X5_begins_1 : ix_at mT_X5_begins 1 = some (.getfield 43, 3) := by decide +kernel
theorem a_X5_begins_4 : ix_at mT_X5_begins 4 = some (.iload_n 1, 1) := by decide +kernel
theorem a_X5_begins_5 : ix_at mT_X5_begins 5 = some (.iload_n 2, 1) := by decide +kernel
theorem a_X5_begins_6 : ix_at mT_X5_begins 6 = some (.iastore, 1) := by decide +kernel
theorem a_X5_begins_7 : ix_at mT_X5_begins 7 = some (.aload_n 0, 1) := by decide +kernel
theorem a_X5_begins_8 : ix_at mT_X5_begins 8 = some (.getfield 46, 3) := by decide +kernel
theorem a_X5_begins_11 : ix_at mT_X5_begins 11 = some (.iload_n 1, 1) := by decide +kernel
theorem a_X5_begins_12 : ix_at mT_X5_begins 12 = some (.iload_n 3, 1) := by decide +kernel
theorem a_X5_begins_13 : ix_at mT_X5_begins 13 = some (.iastore, 1) := by decide +kernel
theorem a_X5_begins_14 : ix_at mT_X5_begins 14 = some (.aload_n 0, 1) := by decide +kernel
theorem a_X5_begins_15 : ix_at mT_X5_begins 15 = some (.getfield 49, 3) := by decide +kernel
theorem a_X5_begins_18 : ix_at mT_X5_begins 18 = some (.iload_n 1, 1) := by decide +kernel
theorem a_X5_begins_19 : ix_at mT_X5_begins 19 = some (.iconst 0, 1) := by decide +kernel
theorem a_X5_begins_20 : ix_at mT_X5_begins 20 = some (.iastore, 1) := by decide +kernel
theorem a_X5_begins_21 : ix_at mT_X5_begins 21 = some (.aload_n 0, 1) := by decide +kernel
theorem a_X5_begins_22 : ix_at mT_X5_begins 22 = some (.getfield 55, 3) := by decide +kernel
theorem a_X5_begins_25 : ix_at mT_X5_begins 25 = some (.iload_n 2, 1) := by decide +kernel
theorem a_X5_begins_26 : ix_at mT_X5_begins 26 = some (.iconst 0, 1) := by decide +kernel
theorem a_X5_begins_27 : ix_at mT_X5_begins 27 = some (.iastore, 1) := by decide +kernel
theorem a_X5_begins_28 : ix_at mT_X5_begins 28 = some (.aload_n 0, 1) := by decide +kernel
theorem a_X5_begins_29 : ix_at mT_X5_begins 29 = some (.iload_n 2, 1) := by decide +kernel
theorem a_X5_begins_30 : ix_at mT_X5_begins 30 = some (.iconst 1, 1) := by decide +kernel
theorem a_X5_begins_31 : ix_at mT_X5_begins 31 = some (.iadd, 1) := by decide +kernel
theorem a_X5_begins_32 : ix_at mT_X5_begins 32 = some (.putfield 80, 3) := by decide +kernel
theorem a_X5_begins_35 : ix_at mT_X5_begins 35 = some (.return_, 1) := by decide +kernel
theorem a_X5_begin_0 : ix_at mT_X5_begin 0 = some (.aload_n 0, 1) := by decide +kernel
theorem a_X5_begin_1 : ix_at mT_X5_begin 1 = some (.iload_n 1, 1) := by decide +kernel
theorem a_X5_begin_2 : ix_at mT_X5_begin 2 = some (.iload_n 2, 1) := by decide +kernel
theorem a_X5_begin_3 : ix_at mT_X5_begin 3 = some (.invokevirtual 158, 3) := by decide +kernel
theorem a_X5_begin_6 : ix_at mT_X5_begin 6 = some (.istore_n 3, 1) := by decide +kernel
theorem a_X5_begin_7 : ix_at mT_X5_begin 7 = some (.iload_n 3, 1) := by decide +kernel
theorem a_X5_begin_8 : ix_at mT_X5_begin 8 = some (.ifCond .eq 5, 3) := by decide +kernel
theorem a_X5_begin_11 : ix_at mT_X5_begin 11 = some (.iload_n 3, 1) := by decide +kernel
theorem a_X5_begin_12 : ix_at mT_X5_begin 12 = some (.ireturn, 1) := by decide +kernel
theorem a_X5_begin_13 : ix_at mT_X5_begin 13 = some (.aload_n 0, 1) := by decide +kernel
theorem a_X5_begin_14 : ix_at mT_X5_begin 14 = some (.getfield 43, 3) := by decide +kernel
theorem a_X5_begin_17 : ix_at mT_X5_begin 17 = some (.iload_n 1, 1) := by decide +kernel
theorem a_X5_begin_18 : ix_at mT_X5_begin 18 = some (.iaload, 1) := by decide +kernel
theorem a_X5_begin_19 : ix_at mT_X5_begin 19 = some (.iconst (-1), 1) := by decide +kernel
theorem a_X5_begin_20 : ix_at mT_X5_begin 20 = some (.if_icmp .eq 6, 3) := by decide +kernel
theorem a_X5_begin_23 : ix_at mT_X5_begin 23 = some (.bipush (-4), 2) := by decide +kernel
theorem a_X5_begin_25 : ix_at mT_X5_begin 25 = some (.ireturn, 1) := by decide +kernel
theorem a_X5_begin_26 : ix_at mT_X5_begin 26 = some (.aload_n 0, 1) := by decide +kernel
theorem a_X5_begin_27 : ix_at mT_X5_begin 27 = some (.bipush 16, 2) := by decide +kernel
theorem a_X5_begin_29 : ix_at mT_X5_begin 29 = some (.aload_n 0, 1) := by decide +kernel
theorem a_X5_begin_30 : ix_at mT_X5_begin 30 = some (.invokevirtual 147, 3) := by decide +kernel
theorem a_X5_begin_33 : ix_at mT_X5_begin 33 = some (.iconst 1, 1) := by decide +kernel
theorem a_X5_begin_34 : ix_at mT_X5_begin 34 = some (.iadd, 1) := by decide +kernel
theorem a_X5_begin_35 : ix_at mT_X5_begin 35 = some (.invokevirtual 151, 3) := by decide +kernel
theorem a_X5_begin_38 : ix_at mT_X5_begin 38 = some (.ifCond .ne 6, 3) := by decide +kernel
theorem a_X5_begin_41 : ix_at mT_X5_begin 41 = some (.bipush (-8), 2) := by decide +kernel
theorem a_X5_begin_43 : ix_at mT_X5_begin 43 = some (.ireturn, 1) := by decide +kernel
theorem a_X5_begin_44 : ix_at mT_X5_begin 44 = some (.aload_n 0, 1) := by decide +kernel
theorem a_X5_begin_45 : ix_at mT_X5_begin 45 = some (.aload_n 0, 1) := by decide +kernel
theorem a_X5_begin_46 : ix_at mT_X5_begin 46 = some (.getfield 87, 3) := by decide +kernel
theorem a_X5_begin_49 : ix_at mT_X5_begin 49 = some (.iconst 1, 1) := by decide +kernel
theorem a_X5_begin_50 : ix_at mT_X5_begin 50 = some (.iload_n 1, 1) := by decide +kernel
theorem a_X5_begin_51 : ix_at mT_X5_begin 51 = some (.iload_n 2, 1) := by decide +kernel
theorem a_X5_begin_52 : ix_at mT_X5_begin 52 = some (.aload_n 0, 1) := by decide +kernel
theorem a_X5_begin_53 : ix_at mT_X5_begin 53 = some (.getfield 96, 3) := by decide +kernel
theorem a_X5_begin_56 : ix_at mT_X5_begin 56 = some (.aload_n 0, 1) := by decide +kernel
theorem a_X5_begin_57 : ix_at mT_X5_begin 57 = some (.getfield 80, 3) := by decide +kernel
theorem a_X5_begin_60 : ix_at mT_X5_begin 60 = some (.invokevirtual 129, 3) := by decide +kernel
theorem a_X5_begin_63 : ix_at mT_X5_begin 63 = some (.istore 4, 2) := by decide +kernel
theorem a_X5_begin_65 : ix_at mT_X5_begin 65 = some (.aload_n 0, 1) := by decide +kernel
theorem a_X5_begin_66 : ix_at mT_X5_begin 66 = some (.iload_n 1, 1) := by decide +kernel
theorem a_X5_begin_67 : ix_at mT_X5_begin 67 = some (.aload_n 0, 1) := by decide +kernel
theorem a_X5_begin_68 : ix_at mT_X5_begin 68 = some (.getfield 80, 3) := by decide +kernel
theorem a_X5_begin_71 : ix_at mT_X5_begin 71 = some (.aload_n 0, 1) := by decide +kernel
theorem a_X5_begin_72 : ix_at mT_X5_begin 72 = some (.getfield 96, 3) := by decide +kernel
theorem a_X5_begin_75 : ix_at mT_X5_begin 75 = some (.invokevirtual 161, 3) := by decide +kernel
theorem a_X5_begin_78 : ix_at mT_X5_begin 78 = some (.aload_n 0, 1) := by decide +kernel
theorem a_X5_begin_79 : ix_at mT_X5_begin 79 = some (.getfield 43, 3) := by decide +kernel
theorem a_X5_begin_82 : ix_at mT_X5_begin 82 = some (.iload_n 1, 1) := by decide +kernel
theorem a_X5_begin_83 : ix_at mT_X5_begin 83 = some (.iaload, 1) := by decide +kernel
theorem a_X5_begin_84 : ix_at mT_X5_begin 84 = some (.ireturn, 1) := by decide +kernel
theorem a_X5_offsetOf_0 : ix_at mT_X5_offsetOf 0 = some (.iconst 0, 1) := by decide +kernel
theorem a_X5_offsetOf_1 : ix_at mT_X5_offsetOf 1 = some (.istore_n 2, 1) := by decide +kernel
theorem a_X5_offsetOf_2 : ix_at mT_X5_offsetOf 2 = some (.iconst 0, 1) := by decide +kernel
theorem a_X5_offsetOf_3 : ix_at mT_X5_offsetOf 3 = some (.istore_n 3, 1) := by decide +kernel
theorem a_X5_offsetOf_4 : ix_at mT_X5_offsetOf 4 = some (.iload_n 3, 1) := by decide +kernel
theorem a_X5_offsetOf_5 : ix_at mT_X5_offsetOf 5 = some (.iload_n 1, 1) := by decide +kernel
theorem a_X5_offsetOf_6 : ix_at mT_X5_offsetOf 6 = some (.if_icmp .ge 32, 3) := by decide +kernel
theorem a_X5_offsetOf_9 : ix_at mT_X5_offsetOf 9 = some (.iload_n 2, 1) := by decide +kernel
theorem a_X5_offsetOf_10 : ix_at mT_X5_offsetOf 10 = some (.aload_n 0, 1) := by decide +kernel
theorem a_X5_offsetOf_11 : ix_at mT_X5_offsetOf 11 = some (.getfield 9, 3) := by decide +kernel
theorem a_X5_offsetOf_14 : ix_at mT_X5_offsetOf 14 = some (.iload_n 3, 1) := by decide +kernel
theorem a_X5_offsetOf_15 : ix_at mT_X5_offsetOf 15 = some (.iaload, 1) := by decide +kernel
theorem a_X5_offsetOf_16 : ix_at mT_X5_offsetOf 16 = some (.aload_n 0, 1) := by decide +kernel
theorem a_X5_offsetOf_17 : ix_at mT_X5_offsetOf 17 = some (.getfield 9, 3) := by decide +kernel
theorem a_X5_offsetOf_20 : ix_at mT_X5_offsetOf 20 = some (.iload_n 1, 1) := by decide +kernel
theorem a_X5_offsetOf_21 : ix_at mT_X5_offsetOf 21 = some (.iaload, 1) := by decide +kernel
theorem a_X5_offsetOf_22 : ix_at mT_X5_offsetOf 22 = some (.if_icmp .ne 7, 3) := by decide +kernel
theorem a_X5_offsetOf_25 : ix_at mT_X5_offsetOf 25 = some (.iconst 1, 1) := by decide +kernel
theorem a_X5_offsetOf_26 : ix_at mT_X5_offsetOf 26 = some (.goto 4, 3) := by decide +kernel
theorem a_X5_offsetOf_29 : ix_at mT_X5_offsetOf 29 = some (.iconst 0, 1) := by decide +kernel
theorem a_X5_offsetOf_30 : ix_at mT_X5_offsetOf 30 = some (.iadd, 1) := by decide +kernel
theorem a_X5_offsetOf_31 : ix_at mT_X5_offsetOf 31 = some (.istore_n 2, 1) := by decide +kernel
theorem a_X5_offsetOf_32 : ix_at mT_X5_offsetOf 32 = some (.iinc 3 1, 3) := by decide +kernel
theorem a_X5_offsetOf_35 : ix_at mT_X5_offsetOf 35 = some (.goto (-31), 3) := by decide +kernel
theorem a_X5_offsetOf_38 : ix_at mT_X5_offsetOf 38 = some (.iload_n 2, 1) := by decide +kernel
theorem a_X5_offsetOf_39 : ix_at mT_X5_offsetOf 39 = some (.ireturn, 1) := by decide +kernel
theorem a_X5_nextOf_0 : ix_at mT_X5_nextOf 0 = some (.aload_n 0, 1) := by decide +kernel
theorem a_X5_nextOf_1 : ix_at mT_X5_nextOf 1 = some (.getfield 106, 3) := by decide +kernel
theorem a_X5_nextOf_4 : ix_at mT_X5_nextOf 4 = some (.iconst 1, 1) := by decide +kernel
theorem a_X5_nextOf_5 : ix_at mT_X5_nextOf 5 = some (.isub, 1) := by decide +kernel
theorem a_X5_nextOf_6 : ix_at mT_X5_nextOf 6 = some (.istore_n 3, 1) := by decide +kernel
theorem a_X5_nextOf_7 : ix_at mT_X5_nextOf 7 = some (.iload_n 3, 1) := by decide +kernel
theorem a_X5_nextOf_8 : ix_at mT_X5_nextOf 8 = some (.ifCond .lt 63, 3) := by decide +kernel
theorem a_X5_nextOf_11 : ix_at mT_X5_nextOf 11 = some (.aload_n 0, 1) := by decide +kernel
theorem a_X5_nextOf_12 : ix_at mT_X5_nextOf 12 = some (.getfield 9, 3) := by decide +kernel
theorem a_X5_nextOf_15 : ix_at mT_X5_nextOf 15 = some (.iload_n 3, 1) := by decide +kernel
theorem a_X5_nextOf_16 : ix_at mT_X5_nextOf 16 = some (.iaload, 1) := by decide +kernel
theorem a_X5_nextOf_17 : ix_at mT_X5_nextOf 17 = some (.iload_n 2, 1) := by decide +kernel
theorem a_X5_nextOf_18 : ix_at mT_X5_nextOf 18 = some (.if_icmp .ne 47, 3) := by decide +kernel
theorem a_X5_nextOf_21 : ix_at mT_X5_nextOf 21 = some (.aload_n 0, 1) := by decide +kernel
theorem a_X5_nextOf_22 : ix_at mT_X5_nextOf 22 = some (.getfield 13, 3) := by decide +kernel
theorem a_X5_nextOf_25 : ix_at mT_X5_nextOf 25 = some (.iload_n 3, 1) := by decide +kernel
theorem a_X5_nextOf_26 : ix_at mT_X5_nextOf 26 = some (.iaload, 1) := by decide +kernel
theorem a_X5_nextOf_27 : ix_at mT_X5_nextOf 27 = some (.iconst 1, 1) := by decide +kernel
theorem a_X5_nextOf_28 : ix_at mT_X5_nextOf 28 = some (.if_icmp .gt 37, 3) := by decide +kernel
theorem a_X5_nextOf_31 : ix_at mT_X5_nextOf 31 = some (.aload_n 0, 1) := by decide +kernel
theorem a_X5_nextOf_32 : ix_at mT_X5_nextOf 32 = some (.getfield 16, 3) := by decide +kernel
theorem a_X5_nextOf_35 : ix_at mT_X5_nextOf 35 = some (.iload_n 3, 1) := by decide +kernel
theorem a_X5_nextOf_36 : ix_at mT_X5_nextOf 36 = some (.iaload, 1) := by decide +kernel
theorem a_X5_nextOf_37 : ix_at mT_X5_nextOf 37 = some (.iload_n 1, 1) := by decide +kernel
theorem a_X5_nextOf_38 : ix_at mT_X5_nextOf 38 = some (.if_icmp .ne 27, 3) := by decide +kernel
theorem a_X5_nextOf_41 : ix_at mT_X5_nextOf 41 = some (.aload_n 0, 1) := by decide +kernel
theorem a_X5_nextOf_42 : ix_at mT_X5_nextOf 42 = some (.getfield 19, 3) := by decide +kernel
theorem a_X5_nextOf_45 : ix_at mT_X5_nextOf 45 = some (.iload_n 3, 1) := by decide +kernel
theorem a_X5_nextOf_46 : ix_at mT_X5_nextOf 46 = some (.iaload, 1) := by decide +kernel
theorem a_X5_nextOf_47 : ix_at mT_X5_nextOf 47 = some (.aload_n 0, 1) := by decide +kernel
theorem a_X5_nextOf_48 : ix_at mT_X5_nextOf 48 = some (.getfield 40, 3) := by decide +kernel
theorem a_X5_nextOf_51 : ix_at mT_X5_nextOf 51 = some (.iload_n 1, 1) := by decide +kernel
theorem a_X5_nextOf_52 : ix_at mT_X5_nextOf 52 = some (.iaload, 1) := by decide +kernel
theorem a_X5_nextOf_53 : ix_at mT_X5_nextOf 53 = some (.if_icmp .ne 12, 3) := by decide +kernel
theorem a_X5_nextOf_56 : ix_at mT_X5_nextOf 56 = some (.aload_n 0, 1) := by decide +kernel
theorem a_X5_nextOf_57 : ix_at mT_X5_nextOf 57 = some (.getfield 22, 3) := by decide +kernel
theorem a_X5_nextOf_60 : ix_at mT_X5_nextOf 60 = some (.iload_n 3, 1) := by decide +kernel
theorem a_X5_nextOf_61 : ix_at mT_X5_nextOf 61 = some (.iaload, 1) := by decide +kernel
theorem a_X5_nextOf_62 : ix_at mT_X5_nextOf 62 = some (.iconst 1, 1) := by decide +kernel
theorem a_X5_nextOf_63 : ix_at mT_X5_nextOf 63 = some (.iadd, 1) := by decide +kernel
theorem a_X5_nextOf_64 : ix_at mT_X5_nextOf 64 = some (.ireturn, 1) := by decide +kernel
theorem a_X5_nextOf_65 : ix_at mT_X5_nextOf 65 = some (.iinc 3 (-1), 3) := by decide +kernel
theorem a_X5_nextOf_68 : ix_at mT_X5_nextOf 68 = some (.goto (-61), 3) := by decide +kernel
theorem a_X5_nextOf_71 : ix_at mT_X5_nextOf 71 = some (.iconst 0, 1) := by decide +kernel
theorem a_X5_nextOf_72 : ix_at mT_X5_nextOf 72 = some (.ireturn, 1) := by decide +kernel
theorem a_X5_again_0 : ix_at mT_X5_again 0 = some (.iconst 5, 1) := by decide +kernel
theorem a_X5_again_1 : ix_at mT_X5_again 1 = some (.istore 4, 2) := by decide +kernel
theorem a_X5_again_3 : ix_at mT_X5_again 3 = some (.aload_n 0, 1) := by decide +kernel
theorem a_X5_again_4 : ix_at mT_X5_again 4 = some (.getfield 106, 3) := by decide +kernel
theorem a_X5_again_7 : ix_at mT_X5_again 7 = some (.iconst 1, 1) := by decide +kernel
theorem a_X5_again_8 : ix_at mT_X5_again 8 = some (.isub, 1) := by decide +kernel
theorem a_X5_again_9 : ix_at mT_X5_again 9 = some (.istore 5, 2) := by decide +kernel
theorem a_X5_again_11 : ix_at mT_X5_again 11 = some (.iload 5, 2) := by decide +kernel
theorem a_X5_again_13 : ix_at mT_X5_again 13 = some (.ifCond .lt 84, 3) := by decide +kernel
theorem a_X5_again_16 : ix_at mT_X5_again 16 = some (.iload 4, 2) := by decide +kernel
theorem a_X5_again_18 : ix_at mT_X5_again 18 = some (.ifCond .le 79, 3) := by decide +kernel
theorem a_X5_again_21 : ix_at mT_X5_again 21 = some (.aload_n 0, 1) := by decide +kernel
theorem a_X5_again_22 : ix_at mT_X5_again 22 = some (.getfield 9, 3) := by decide +kernel
theorem a_X5_again_25 : ix_at mT_X5_again 25 = some (.iload 5, 2) := by decide +kernel
theorem a_X5_again_27 : ix_at mT_X5_again 27 = some (.iaload, 1) := by decide +kernel
theorem a_X5_again_28 : ix_at mT_X5_again 28 = some (.iload_n 2, 1) := by decide +kernel
theorem a_X5_again_29 : ix_at mT_X5_again 29 = some (.if_icmp .ne 62, 3) := by decide +kernel
theorem a_X5_again_32 : ix_at mT_X5_again 32 = some (.aload_n 0, 1) := by decide +kernel
theorem a_X5_again_33 : ix_at mT_X5_again 33 = some (.getfield 13, 3) := by decide +kernel
theorem a_X5_again_36 : ix_at mT_X5_again 36 = some (.iload 5, 2) := by decide +kernel
theorem a_X5_again_38 : ix_at mT_X5_again 38 = some (.iaload, 1) := by decide +kernel
theorem a_X5_again_39 : ix_at mT_X5_again 39 = some (.iconst 1, 1) := by decide +kernel
theorem a_X5_again_40 : ix_at mT_X5_again 40 = some (.if_icmp .gt 51, 3) := by decide +kernel
theorem a_X5_again_43 : ix_at mT_X5_again 43 = some (.aload_n 0, 1) := by decide +kernel
theorem a_X5_again_44 : ix_at mT_X5_again 44 = some (.getfield 16, 3) := by decide +kernel
theorem a_X5_again_47 : ix_at mT_X5_again 47 = some (.iload 5, 2) := by decide +kernel
theorem a_X5_again_49 : ix_at mT_X5_again 49 = some (.iaload, 1) := by decide +kernel
theorem a_X5_again_50 : ix_at mT_X5_again 50 = some (.iload_n 1, 1) := by decide +kernel
theorem a_X5_again_51 : ix_at mT_X5_again 51 = some (.if_icmp .ne 40, 3) := by decide +kernel
theorem a_X5_again_54 : ix_at mT_X5_again 54 = some (.aload_n 0, 1) := by decide +kernel
theorem a_X5_again_55 : ix_at mT_X5_again 55 = some (.getfield 19, 3) := by decide +kernel
theorem a_X5_again_58 : ix_at mT_X5_again 58 = some (.iload 5, 2) := by decide +kernel
theorem a_X5_again_60 : ix_at mT_X5_again 60 = some (.iaload, 1) := by decide +kernel
theorem a_X5_again_61 : ix_at mT_X5_again 61 = some (.aload_n 0, 1) := by decide +kernel
theorem a_X5_again_62 : ix_at mT_X5_again 62 = some (.getfield 40, 3) := by decide +kernel
theorem a_X5_again_65 : ix_at mT_X5_again 65 = some (.iload_n 1, 1) := by decide +kernel
theorem a_X5_again_66 : ix_at mT_X5_again 66 = some (.iaload, 1) := by decide +kernel
theorem a_X5_again_67 : ix_at mT_X5_again 67 = some (.if_icmp .ne 24, 3) := by decide +kernel
theorem a_X5_again_70 : ix_at mT_X5_again 70 = some (.aload_n 0, 1) := by decide +kernel
theorem a_X5_again_71 : ix_at mT_X5_again 71 = some (.getfield 22, 3) := by decide +kernel
theorem a_X5_again_74 : ix_at mT_X5_again 74 = some (.iload 5, 2) := by decide +kernel
theorem a_X5_again_76 : ix_at mT_X5_again 76 = some (.iaload, 1) := by decide +kernel
theorem a_X5_again_77 : ix_at mT_X5_again 77 = some (.iload_n 3, 1) := by decide +kernel
theorem a_X5_again_78 : ix_at mT_X5_again 78 = some (.if_icmp .ne 10, 3) := by decide +kernel
theorem a_X5_again_81 : ix_at mT_X5_again 81 = some (.aload_n 0, 1) := by decide +kernel
theorem a_X5_again_82 : ix_at mT_X5_again 82 = some (.iload 5, 2) := by decide +kernel
theorem a_X5_again_84 : ix_at mT_X5_again 84 = some (.invokevirtual 165, 3) := by decide +kernel
theorem a_X5_again_87 : ix_at mT_X5_again 87 = some (.ireturn, 1) := by decide +kernel
theorem a_X5_again_88 : ix_at mT_X5_again 88 = some (.iinc 4 (-1), 3) := by decide +kernel
theorem a_X5_again_91 : ix_at mT_X5_again 91 = some (.iinc 5 (-1), 3) := by decide +kernel
theorem a_X5_again_94 : ix_at mT_X5_again 94 = some (.goto (-83), 3) := by decide +kernel
theorem a_X5_again_97 : ix_at mT_X5_again 97 = some (.iconst (-1), 1) := by decide +kernel
theorem a_X5_again_98 : ix_at mT_X5_again 98 = some (.ireturn, 1) := by decide +kernel
theorem a_X5_send_0 : ix_at mT_X5_send 0 = some (.aload_n 0, 1) := by decide +kernel
theorem a_X5_send_1 : ix_at mT_X5_send 1 = some (.getfield 168, 3) := by decide +kernel
theorem a_X5_send_4 : ix_at mT_X5_send 4 = some (.istore 6, 2) := by decide +kernel
theorem a_X5_send_6 : ix_at mT_X5_send 6 = some (.aload_n 0, 1) := by decide +kernel
theorem a_X5_send_7 : ix_at mT_X5_send 7 = some (.iconst 0, 1) := by decide +kernel
theorem a_X5_send_8 : ix_at mT_X5_send 8 = some (.putfield 168, 3) := by decide +kernel
theorem a_X5_send_11 : ix_at mT_X5_send 11 = some (.aload_n 0, 1) := by decide +kernel
theorem a_X5_send_12 : ix_at mT_X5_send 12 = some (.getfield 99, 3) := by decide +kernel
theorem a_X5_send_15 : ix_at mT_X5_send 15 = some (.ifCond .eq 5, 3) := by decide +kernel
theorem a_X5_send_18 : ix_at mT_X5_send 18 = some (.iconst (-1), 1) := by decide +kernel
theorem a_X5_send_19 : ix_at mT_X5_send 19 = some (.ireturn, 1) := by decide +kernel
theorem a_X5_send_20 : ix_at mT_X5_send 20 = some (.iload_n 1, 1) := by decide +kernel
theorem a_X5_send_21 : ix_at mT_X5_send 21 = some (.ifCond .lt 30, 3) := by decide +kernel
theorem a_X5_send_24 : ix_at mT_X5_send 24 = some (.iload_n 1, 1) := by decide +kernel
theorem a_X5_send_25 : ix_at mT_X5_send 25 = some (.bipush 31, 2) := by decide +kernel
theorem a_X5_send_27 : ix_at mT_X5_send 27 = some (.if_icmp .gt 24, 3) := by decide +kernel
theorem a_X5_send_30 : ix_at mT_X5_send 30 = some (.aload_n 0, 1) := by decide +kernel
theorem a_X5_send_31 : ix_at mT_X5_send 31 = some (.getfield 36, 3) := by decide +kernel
theorem a_X5_send_34 : ix_at mT_X5_send 34 = some (.iload_n 1, 1) := by decide +kernel
theorem a_X5_send_35 : ix_at mT_X5_send 35 = some (.baload, 1) := by decide +kernel
theorem a_X5_send_36 : ix_at mT_X5_send 36 = some (.ifCond .eq 15, 3) := by decide +kernel
theorem a_X5_send_39 : ix_at mT_X5_send 39 = some (.iload_n 3, 1) := by decide +kernel
theorem a_X5_send_40 : ix_at mT_X5_send 40 = some (.ifCond .lt 11, 3) := by decide +kernel
theorem a_X5_send_43 : ix_at mT_X5_send 43 = some (.iload_n 3, 1) := by decide +kernel
theorem a_X5_send_44 : ix_at mT_X5_send 44 = some (.aload_n 0, 1) := by decide +kernel
theorem a_X5_send_45 : ix_at mT_X5_send 45 = some (.getfield 87, 3) := by decide +kernel
theorem a_X5_send_48 : ix_at mT_X5_send 48 = some (.if_icmp .lt 6, 3) := by decide +kernel
theorem a_X5_send_51 : ix_at mT_X5_send 51 = some (.bipush (-2), 2) := by decide +kernel
theorem a_X5_send_53 : ix_at mT_X5_send 53 = some (.ireturn, 1) := by decide +kernel
theorem a_X5_send_54 : ix_at mT_X5_send 54 = some (.aload_n 0, 1) := by decide +kernel
theorem a_X5_send_55 : ix_at mT_X5_send 55 = some (.getfield 40, 3) := by decide +kernel
theorem a_X5_send_58 : ix_at mT_X5_send 58 = some (.iload_n 1, 1) := by decide +kernel
theorem a_X5_send_59 : ix_at mT_X5_send 59 = some (.iaload, 1) := by decide +kernel
theorem a_X5_send_60 : ix_at mT_X5_send 60 = some (.iload_n 2, 1) := by decide +kernel
theorem a_X5_send_61 : ix_at mT_X5_send 61 = some (.if_icmp .eq 6, 3) := by decide +kernel
theorem a_X5_send_64 : ix_at mT_X5_send 64 = some (.bipush (-3), 2) := by decide +kernel
theorem a_X5_send_66 : ix_at mT_X5_send 66 = some (.ireturn, 1) := by decide +kernel
theorem a_X5_send_67 : ix_at mT_X5_send 67 = some (.iload 5, 2) := by decide +kernel
theorem a_X5_send_69 : ix_at mT_X5_send 69 = some (.aload_n 0, 1) := by decide +kernel
theorem a_X5_send_70 : ix_at mT_X5_send 70 = some (.getfield 43, 3) := by decide +kernel
theorem a_X5_send_73 : ix_at mT_X5_send 73 = some (.iload_n 1, 1) := by decide +kernel
theorem a_X5_send_74 : ix_at mT_X5_send 74 = some (.iaload, 1) := by decide +kernel
theorem a_X5_send_75 : ix_at mT_X5_send 75 = some (.iconst (-1), 1) := by decide +kernel
theorem a_X5_send_76 : ix_at mT_X5_send 76 = some (.if_icmp .ne 7, 3) := by decide +kernel
theorem a_X5_send_79 : ix_at mT_X5_send 79 = some (.iconst 1, 1) := by decide +kernel
theorem a_X5_send_80 : ix_at mT_X5_send 80 = some (.goto 4, 3) := by decide +kernel
theorem a_X5_send_83 : ix_at mT_X5_send 83 = some (.iconst 0, 1) := by decide +kernel
theorem a_X5_send_84 : ix_at mT_X5_send 84 = some (.if_icmp .ne 6, 3) := by decide +kernel
theorem a_X5_send_87 : ix_at mT_X5_send 87 = some (.bipush (-5), 2) := by decide +kernel
theorem a_X5_send_89 : ix_at mT_X5_send 89 = some (.ireturn, 1) := by decide +kernel
theorem a_X5_send_90 : ix_at mT_X5_send 90 = some (.aload_n 0, 1) := by decide +kernel
theorem a_X5_send_91 : ix_at mT_X5_send 91 = some (.iload_n 1, 1) := by decide +kernel
theorem a_X5_send_92 : ix_at mT_X5_send 92 = some (.iload_n 3, 1) := by decide +kernel
theorem a_X5_send_93 : ix_at mT_X5_send 93 = some (.iload 4, 2) := by decide +kernel
theorem a_X5_send_95 : ix_at mT_X5_send 95 = some (.invokevirtual 171, 3) := by decide +kernel
theorem a_X5_send_98 : ix_at mT_X5_send 98 = some (.istore 7, 2) := by decide +kernel
theorem a_X5_send_100 : ix_at mT_X5_send 100 = some (.iload 7, 2) := by decide +kernel
theorem a_X5_send_102 : ix_at mT_X5_send 102 = some (.iconst (-1), 1) := by decide +kernel
theorem a_X5_send_103 : ix_at mT_X5_send 103 = some (.if_icmp .eq 6, 3) := by decide +kernel
theorem a_X5_send_106 : ix_at mT_X5_send 106 = some (.iload 7, 2) := by decide +kernel
theorem a_X5_send_108 : ix_at mT_X5_send 108 = some (.ireturn, 1) := by decide +kernel
theorem a_X5_send_109 : ix_at mT_X5_send 109 = some (.iload 4, 2) := by decide +kernel
theorem a_X5_send_111 : ix_at mT_X5_send 111 = some (.aload_n 0, 1) := by decide +kernel
theorem a_X5_send_112 : ix_at mT_X5_send 112 = some (.iload_n 1, 1) := by decide +kernel
theorem a_X5_send_113 : ix_at mT_X5_send 113 = some (.iload_n 3, 1) := by decide +kernel
theorem a_X5_send_114 : ix_at mT_X5_send 114 = some (.invokevirtual 175, 3) := by decide +kernel
theorem a_X5_send_117 : ix_at mT_X5_send 117 = some (.if_icmp .eq 6, 3) := by decide +kernel
theorem a_X5_send_120 : ix_at mT_X5_send 120 = some (.bipush (-6), 2) := by decide +kernel
theorem a_X5_send_122 : ix_at mT_X5_send 122 = some (.ireturn, 1) := by decide +kernel
theorem a_X5_send_123 : ix_at mT_X5_send 123 = some (.iload 5, 2) := by decide +kernel
theorem a_X5_send_125 : ix_at mT_X5_send 125 = some (.ifCond .eq 20, 3) := by decide +kernel
theorem a_X5_send_128 : ix_at mT_X5_send 128 = some (.aload_n 0, 1) := by decide +kernel
theorem a_X5_send_129 : ix_at mT_X5_send 129 = some (.getfield 49, 3) := by decide +kernel
theorem a_X5_send_132 : ix_at mT_X5_send 132 = some (.iload_n 1, 1) := by decide +kernel
theorem a_X5_send_133 : ix_at mT_X5_send 133 = some (.iaload, 1) := by decide +kernel
theorem a_X5_send_134 : ix_at mT_X5_send 134 = some (.iload_n 3, 1) := by decide +kernel
theorem a_X5_send_135 : ix_at mT_X5_send 135 = some (.ishr, 1) := by decide +kernel
theorem a_X5_send_136 : ix_at mT_X5_send 136 = some (.iconst 1, 1) := by decide +kernel
theorem a_X5_send_137 : ix_at mT_X5_send 137 = some (.iand, 1) := by decide +kernel
theorem a_X5_send_138 : ix_at mT_X5_send 138 = some (.ifCond .ne 7, 3) := by decide +kernel
theorem a_X5_send_141 : ix_at mT_X5_send 141 = some (.iconst 1, 1) := by decide +kernel
theorem a_X5_send_142 : ix_at mT_X5_send 142 = some (.goto 4, 3) := by decide +kernel
theorem a_X5_send_145 : ix_at mT_X5_send 145 = some (.iconst 0, 1) := by decide +kernel
theorem a_X5_send_146 : ix_at mT_X5_send 146 = some (.istore 8, 2) := by decide +kernel
theorem a_X5_send_148 : ix_at mT_X5_send 148 = some (.aload_n 0, 1) := by decide +kernel
theorem a_X5_send_149 : ix_at mT_X5_send 149 = some (.iload_n 3, 1) := by decide +kernel
theorem a_X5_send_150 : ix_at mT_X5_send 150 = some (.iconst 0, 1) := by decide +kernel
theorem a_X5_send_151 : ix_at mT_X5_send 151 = some (.invokevirtual 125, 3) := by decide +kernel
theorem a_X5_send_154 : ix_at mT_X5_send 154 = some (.bipush 14, 2) := by decide +kernel
theorem a_X5_send_156 : ix_at mT_X5_send 156 = some (.iadd, 1) := by decide +kernel
theorem a_X5_send_157 : ix_at mT_X5_send 157 = some (.iload 6, 2) := by decide +kernel
theorem a_X5_send_159 : ix_at mT_X5_send 159 = some (.iadd, 1) := by decide +kernel
theorem a_X5_send_160 : ix_at mT_X5_send 160 = some (.bipush 14, 2) := by decide +kernel
theorem a_X5_send_162 : ix_at mT_X5_send 162 = some (.aload_n 0, 1) := by decide +kernel
theorem a_X5_send_163 : ix_at mT_X5_send 163 = some (.iload_n 3, 1) := by decide +kernel
theorem a_X5_send_164 : ix_at mT_X5_send 164 = some (.invokevirtual 178, 3) := by decide +kernel
theorem a_X5_send_167 : ix_at mT_X5_send 167 = some (.iload 8, 2) := by decide +kernel
theorem a_X5_send_169 : ix_at mT_X5_send 169 = some (.ifCond .eq 7, 3) := by decide +kernel
theorem a_X5_send_172 : ix_at mT_X5_send 172 = some (.iconst 1, 1) := by decide +kernel
theorem a_X5_send_173 : ix_at mT_X5_send 173 = some (.goto 4, 3) := by decide +kernel
theorem a_X5_send_176 : ix_at mT_X5_send 176 = some (.iconst 0, 1) := by decide +kernel
theorem a_X5_send_177 : ix_at mT_X5_send 177 = some (.iadd, 1) := by decide +kernel
theorem a_X5_send_178 : ix_at mT_X5_send 178 = some (.imul, 1) := by decide +kernel
theorem a_X5_send_179 : ix_at mT_X5_send 179 = some (.iadd, 1) := by decide +kernel
theorem a_X5_send_180 : ix_at mT_X5_send 180 = some (.istore 9, 2) := by decide +kernel
theorem a_X5_send_182 : ix_at mT_X5_send 182 = some (.iload 9, 2) := by decide +kernel
theorem a_X5_send_184 : ix_at mT_X5_send 184 = some (.aload_n 0, 1) := by decide +kernel
theorem a_X5_send_185 : ix_at mT_X5_send 185 = some (.getfield 90, 3) := by decide +kernel
theorem a_X5_send_188 : ix_at mT_X5_send 188 = some (.if_icmp .gt 21, 3) := by decide +kernel
theorem a_X5_send_191 : ix_at mT_X5_send 191 = some (.iload 8, 2) := by decide +kernel
theorem a_X5_send_193 : ix_at mT_X5_send 193 = some (.ifCond .eq 19, 3) := by decide +kernel
theorem a_X5_send_196 : ix_at mT_X5_send 196 = some (.aload_n 0, 1) := by decide +kernel
theorem a_X5_send_197 : ix_at mT_X5_send 197 = some (.bipush 16, 2) := by decide +kernel
theorem a_X5_send_199 : ix_at mT_X5_send 199 = some (.aload_n 0, 1) := by decide +kernel
theorem a_X5_send_200 : ix_at mT_X5_send 200 = some (.invokevirtual 147, 3) := by decide +kernel
theorem a_X5_send_203 : ix_at mT_X5_send 203 = some (.invokevirtual 151, 3) := by decide +kernel
theorem a_X5_send_206 : ix_at mT_X5_send 206 = some (.ifCond .ne 6, 3) := by decide +kernel
theorem a_X5_send_209 : ix_at mT_X5_send 209 = some (.bipush (-8), 2) := by decide +kernel
theorem a_X5_send_211 : ix_at mT_X5_send 211 = some (.ireturn, 1) := by decide +kernel
theorem a_X5_send_212 : ix_at mT_X5_send 212 = some (.iload 8, 2) := by decide +kernel
theorem a_X5_send_214 : ix_at mT_X5_send 214 = some (.ifCond .eq 30, 3) := by decide +kernel
theorem a_X5_send_217 : ix_at mT_X5_send 217 = some (.aload_n 0, 1) := by decide +kernel
theorem a_X5_send_218 : ix_at mT_X5_send 218 = some (.aload_n 0, 1) := by decide +kernel
theorem a_X5_send_219 : ix_at mT_X5_send 219 = some (.getfield 87, 3) := by decide +kernel
theorem a_X5_send_222 : ix_at mT_X5_send 222 = some (.iconst 2, 1) := by decide +kernel
theorem a_X5_send_223 : ix_at mT_X5_send 223 = some (.iload_n 1, 1) := by decide +kernel
theorem a_X5_send_224 : ix_at mT_X5_send 224 = some (.iload_n 2, 1) := by decide +kernel
theorem a_X5_send_225 : ix_at mT_X5_send 225 = some (.iload_n 3, 1) := by decide +kernel
theorem a_X5_send_226 : ix_at mT_X5_send 226 = some (.iconst 0, 1) := by decide +kernel
theorem a_X5_send_227 : ix_at mT_X5_send 227 = some (.invokevirtual 129, 3) := by decide +kernel
theorem a_X5_send_230 : ix_at mT_X5_send 230 = some (.istore 10, 2) := by decide +kernel
theorem a_X5_send_232 : ix_at mT_X5_send 232 = some (.aload_n 0, 1) := by decide +kernel
theorem a_X5_send_233 : ix_at mT_X5_send 233 = some (.getfield 49, 3) := by decide +kernel
theorem a_X5_send_236 : ix_at mT_X5_send 236 = some (.iload_n 1, 1) := by decide +kernel
theorem a_X5_send_237 : ix_at mT_X5_send 237 = some (.dup2, 1) := by decide +kernel
theorem a_X5_send_238 : ix_at mT_X5_send 238 = some (.iaload, 1) := by decide +kernel
theorem a_X5_send_239 : ix_at mT_X5_send 239 = some (.iconst 1, 1) := by decide +kernel
theorem a_X5_send_240 : ix_at mT_X5_send 240 = some (.iload_n 3, 1) := by decide +kernel
theorem a_X5_send_241 : ix_at mT_X5_send 241 = some (.ishl, 1) := by decide +kernel
theorem a_X5_send_242 : ix_at mT_X5_send 242 = some (.ior, 1) := by decide +kernel
theorem a_X5_send_243 : ix_at mT_X5_send 243 = some (.iastore, 1) := by decide +kernel
theorem a_X5_send_244 : ix_at mT_X5_send 244 = some (.aload_n 0, 1) := by decide +kernel
theorem a_X5_send_245 : ix_at mT_X5_send 245 = some (.iload_n 3, 1) := by decide +kernel
theorem a_X5_send_246 : ix_at mT_X5_send 246 = some (.iload 5, 2) := by decide +kernel
theorem a_X5_send_248 : ix_at mT_X5_send 248 = some (.ifCond .eq 7, 3) := by decide +kernel
theorem a_X5_send_251 : ix_at mT_X5_send 251 = some (.iconst 1, 1) := by decide +kernel
theorem a_X5_send_252 : ix_at mT_X5_send 252 = some (.goto 4, 3) := by decide +kernel
theorem a_X5_send_255 : ix_at mT_X5_send 255 = some (.iconst 0, 1) := by decide +kernel
theorem a_X5_send_256 : ix_at mT_X5_send 256 = some (.iload_n 1, 1) := by decide +kernel
theorem a_X5_send_257 : ix_at mT_X5_send 257 = some (.iload_n 2, 1) := by decide +kernel
theorem a_X5_send_258 : ix_at mT_X5_send 258 = some (.iload 4, 2) := by decide +kernel
theorem a_X5_send_260 : ix_at mT_X5_send 260 = some (.iload 6, 2) := by decide +kernel
theorem a_X5_send_262 : ix_at mT_X5_send 262 = some (.invokevirtual 129, 3) := by decide +kernel
theorem a_X5_send_265 : ix_at mT_X5_send 265 = some (.istore 10, 2) := by decide +kernel
theorem a_X5_send_267 : ix_at mT_X5_send 267 = some (.aload_n 0, 1) := by decide +kernel
theorem a_X5_send_268 : ix_at mT_X5_send 268 = some (.getfield 28, 3) := by decide +kernel
theorem a_X5_send_271 : ix_at mT_X5_send 271 = some (.iload 10, 2) := by decide +kernel
theorem a_X5_send_273 : ix_at mT_X5_send 273 = some (.iload 5, 2) := by decide +kernel
theorem a_X5_send_275 : ix_at mT_X5_send 275 = some (.ifCond .eq 12, 3) := by decide +kernel
theorem a_X5_send_278 : ix_at mT_X5_send 278 = some (.aload_n 0, 1) := by decide +kernel
theorem a_X5_send_279 : ix_at mT_X5_send 279 = some (.getfield 43, 3) := by decide +kernel
theorem a_X5_send_282 : ix_at mT_X5_send 282 = some (.iload_n 1, 1) := by decide +kernel
theorem a_X5_send_283 : ix_at mT_X5_send 283 = some (.iaload, 1) := by decide +kernel
theorem a_X5_send_284 : ix_at mT_X5_send 284 = some (.goto 4, 3) := by decide +kernel
theorem a_X5_send_287 : ix_at mT_X5_send 287 = some (.iconst (-1), 1) := by decide +kernel
theorem a_X5_send_288 : ix_at mT_X5_send 288 = some (.iastore, 1) := by decide +kernel
theorem a_X5_send_289 : ix_at mT_X5_send 289 = some (.iconst 0, 1) := by decide +kernel
theorem a_X5_send_290 : ix_at mT_X5_send 290 = some (.istore 11, 2) := by decide +kernel
theorem a_X5_send_292 : ix_at mT_X5_send 292 = some (.iload 11, 2) := by decide +kernel
theorem a_X5_send_294 : ix_at mT_X5_send 294 = some (.iload 6, 2) := by decide +kernel
theorem a_X5_send_296 : ix_at mT_X5_send 296 = some (.if_icmp .ge 29, 3) := by decide +kernel
theorem a_X5_send_299 : ix_at mT_X5_send 299 = some (.aload_n 0, 1) := by decide +kernel
theorem a_X5_send_300 : ix_at mT_X5_send 300 = some (.getfield 32, 3) := by decide +kernel
theorem a_X5_send_303 : ix_at mT_X5_send 303 = some (.bipush 40, 2) := by decide +kernel
theorem a_X5_send_305 : ix_at mT_X5_send 305 = some (.iload 10, 2) := by decide +kernel
theorem a_X5_send_307 : ix_at mT_X5_send 307 = some (.imul, 1) := by decide +kernel
theorem a_X5_send_308 : ix_at mT_X5_send 308 = some (.iload 11, 2) := by decide +kernel
theorem a_X5_send_310 : ix_at mT_X5_send 310 = some (.iadd, 1) := by decide +kernel
theorem a_X5_send_311 : ix_at mT_X5_send 311 = some (.aload_n 0, 1) := by decide +kernel
theorem a_X5_send_312 : ix_at mT_X5_send 312 = some (.getfield 67, 3) := by decide +kernel
theorem a_X5_send_315 : ix_at mT_X5_send 315 = some (.iload 11, 2) := by decide +kernel
theorem a_X5_send_317 : ix_at mT_X5_send 317 = some (.baload, 1) := by decide +kernel
theorem a_X5_send_318 : ix_at mT_X5_send 318 = some (.bastore, 1) := by decide +kernel
theorem a_X5_send_319 : ix_at mT_X5_send 319 = some (.iinc 11 1, 3) := by decide +kernel
theorem a_X5_send_322 : ix_at mT_X5_send 322 = some (.goto (-30), 3) := by decide +kernel
theorem a_X5_send_325 : ix_at mT_X5_send 325 = some (.aload_n 0, 1) := by decide +kernel
theorem a_X5_send_326 : ix_at mT_X5_send 326 = some (.iload 10, 2) := by decide +kernel
theorem a_X5_send_328 : ix_at mT_X5_send 328 = some (.invokevirtual 165, 3) := by decide +kernel
theorem a_X5_send_331 : ix_at mT_X5_send 331 = some (.ireturn, 1) := by decide +kernel
theorem a_X5_isGroup_0 : ix_at mT_X5_isGroup 0 = some (.iload_n 0, 1) := by decide +kernel
theorem a_X5_isGroup_1 : ix_at mT_X5_isGroup 1 = some (.ifCond .lt 13, 3) := by decide +kernel
theorem a_X5_isGroup_4 : ix_at mT_X5_isGroup 4 = some (.iload_n 0, 1) := by decide +kernel
theorem a_X5_isGroup_5 : ix_at mT_X5_isGroup 5 = some (.bipush 7, 2) := by decide +kernel
theorem a_X5_isGroup_7 : ix_at mT_X5_isGroup 7 = some (.if_icmp .gt 7, 3) := by decide +kernel
theorem a_X5_isGroup_10 : ix_at mT_X5_isGroup 10 = some (.iconst 1, 1) := by decide +kernel
theorem a_X5_isGroup_11 : ix_at mT_X5_isGroup 11 = some (.goto 4, 3) := by decide +kernel
theorem a_X5_isGroup_14 : ix_at mT_X5_isGroup 14 = some (.iconst 0, 1) := by decide +kernel
theorem a_X5_isGroup_15 : ix_at mT_X5_isGroup 15 = some (.ireturn, 1) := by decide +kernel
theorem a_X5_isPartition_0 : ix_at mT_X5_isPartition 0 = some (.iload_n 1, 1) := by decide +kernel
theorem a_X5_isPartition_1 : ix_at mT_X5_isPartition 1 = some (.ifCond .lt 15, 3) := by decide +kernel
theorem a_X5_isPartition_4 : ix_at mT_X5_isPartition 4 = some (.iload_n 1, 1) := by decide +kernel
theorem a_X5_isPartition_5 : ix_at mT_X5_isPartition 5 = some (.aload_n 0, 1) := by decide +kernel
theorem a_X5_isPartition_6 : ix_at mT_X5_isPartition 6 = some (.getfield 87, 3) := by decide +kernel
theorem a_X5_isPartition_9 : ix_at mT_X5_isPartition 9 = some (.if_icmp .ge 7, 3) := by decide +kernel
theorem a_X5_isPartition_12 : ix_at mT_X5_isPartition 12 = some (.iconst 1, 1) := by decide +kernel
theorem a_X5_isPartition_13 : ix_at mT_X5_isPartition 13 = some (.goto 4, 3) := by decide +kernel
theorem a_X5_isPartition_16 : ix_at mT_X5_isPartition 16 = some (.iconst 0, 1) := by decide +kernel
theorem a_X5_isPartition_17 : ix_at mT_X5_isPartition 17 = some (.ireturn, 1) := by decide +kernel
theorem a_X5_later_0 : ix_at mT_X5_later 0 = some (.aload_n 0, 1) := by decide +kernel
theorem a_X5_later_1 : ix_at mT_X5_later 1 = some (.getfield 58, 3) := by decide +kernel
theorem a_X5_later_4 : ix_at mT_X5_later 4 = some (.aload_n 0, 1) := by decide +kernel
theorem a_X5_later_5 : ix_at mT_X5_later 5 = some (.getfield 84, 3) := by decide +kernel
theorem a_X5_later_8 : ix_at mT_X5_later 8 = some (.iload_n 1, 1) := by decide +kernel
theorem a_X5_later_9 : ix_at mT_X5_later 9 = some (.iastore, 1) := by decide +kernel
theorem a_X5_later_10 : ix_at mT_X5_later 10 = some (.aload_n 0, 1) := by decide +kernel
theorem a_X5_later_11 : ix_at mT_X5_later 11 = some (.getfield 61, 3) := by decide +kernel
theorem a_X5_later_14 : ix_at mT_X5_later 14 = some (.aload_n 0, 1) := by decide +kernel
theorem a_X5_later_15 : ix_at mT_X5_later 15 = some (.getfield 84, 3) := by decide +kernel
theorem a_X5_later_18 : ix_at mT_X5_later 18 = some (.iload_n 2, 1) := by decide +kernel
theorem a_X5_later_19 : ix_at mT_X5_later 19 = some (.iastore, 1) := by decide +kernel
theorem a_X5_later_20 : ix_at mT_X5_later 20 = some (.aload_n 0, 1) := by decide +kernel
theorem a_X5_later_21 : ix_at mT_X5_later 21 = some (.getfield 64, 3) := by decide +kernel
theorem a_X5_later_24 : ix_at mT_X5_later 24 = some (.aload_n 0, 1) := by decide +kernel
theorem a_X5_later_25 : ix_at mT_X5_later 25 = some (.getfield 84, 3) := by decide +kernel
theorem a_X5_later_28 : ix_at mT_X5_later 28 = some (.iload_n 3, 1) := by decide +kernel
theorem a_X5_later_29 : ix_at mT_X5_later 29 = some (.iastore, 1) := by decide +kernel
theorem a_X5_later_30 : ix_at mT_X5_later 30 = some (.aload_n 0, 1) := by decide +kernel
theorem a_X5_later_31 : ix_at mT_X5_later 31 = some (.dup, 1) := by decide +kernel
theorem a_X5_later_32 : ix_at mT_X5_later 32 = some (.getfield 84, 3) := by decide +kernel
theorem a_X5_later_35 : ix_at mT_X5_later 35 = some (.iconst 1, 1) := by decide +kernel
theorem a_X5_later_36 : ix_at mT_X5_later 36 = some (.iadd, 1) := by decide +kernel
theorem a_X5_later_37 : ix_at mT_X5_later 37 = some (.putfield 84, 3) := by decide +kernel
theorem a_X5_later_40 : ix_at mT_X5_later 40 = some (.return_, 1) := by decide +kernel
theorem a_X5_later__0 : ix_at mT_X5_later_ 0 = some (.aload_n 0, 1) := by decide +kernel
theorem a_X5_later__1 : ix_at mT_X5_later_ 1 = some (.getfield 99, 3) := by decide +kernel
theorem a_X5_later__4 : ix_at mT_X5_later_ 4 = some (.ifCond .eq 5, 3) := by decide +kernel
theorem a_X5_later__7 : ix_at mT_X5_later_ 7 = some (.iconst (-1), 1) := by decide +kernel
theorem a_X5_later__8 : ix_at mT_X5_later_ 8 = some (.ireturn, 1) := by decide +kernel
theorem a_X5_later__9 : ix_at mT_X5_later_ 9 = some (.iload_n 3, 1) := by decide +kernel
theorem a_X5_later__10 : ix_at mT_X5_later_ 10 = some (.invokestatic 181, 3) := by decide +kernel
theorem a_X5_later__13 : ix_at mT_X5_later_ 13 = some (.ifCond .eq 17, 3) := by decide +kernel
theorem a_X5_later__16 : ix_at mT_X5_later_ 16 = some (.aload_n 0, 1) := by decide +kernel
theorem a_X5_later__17 : ix_at mT_X5_later_ 17 = some (.iload 4, 2) := by decide +kernel
theorem a_X5_later__19 : ix_at mT_X5_later_ 19 = some (.invokevirtual 185, 3) := by decide +kernel
theorem a_X5_later__22 : ix_at mT_X5_later_ 22 = some (.ifCond .eq 8, 3) := by decide +kernel
theorem a_X5_later__25 : ix_at mT_X5_later_ 25 = some (.iload 5, 2) := by decide +kernel
theorem a_X5_later__27 : ix_at mT_X5_later_ 27 = some (.ifCond .ge 6, 3) := by decide +kernel
theorem a_X5_later__30 : ix_at mT_X5_later_ 30 = some (.bipush (-2), 2) := by decide +kernel
theorem a_X5_later__32 : ix_at mT_X5_later_ 32 = some (.ireturn, 1) := by decide +kernel
theorem a_X5_later__33 : ix_at mT_X5_later_ 33 = some (.aload_n 0, 1) := by decide +kernel
theorem a_X5_later__34 : ix_at mT_X5_later_ 34 = some (.iload_n 1, 1) := by decide +kernel
theorem a_X5_later__35 : ix_at mT_X5_later_ 35 = some (.iload_n 2, 1) := by decide +kernel
theorem a_X5_later__36 : ix_at mT_X5_later_ 36 = some (.invokevirtual 158, 3) := by decide +kernel
theorem a_X5_later__39 : ix_at mT_X5_later_ 39 = some (.istore 6, 2) := by decide +kernel
theorem a_X5_later__41 : ix_at mT_X5_later_ 41 = some (.iload 6, 2) := by decide +kernel
theorem a_X5_later__43 : ix_at mT_X5_later_ 43 = some (.ifCond .eq 6, 3) := by decide +kernel
theorem a_X5_later__46 : ix_at mT_X5_later_ 46 = some (.iload 6, 2) := by decide +kernel
theorem a_X5_later__48 : ix_at mT_X5_later_ 48 = some (.ireturn, 1) := by decide +kernel
theorem a_X5_later__49 : ix_at mT_X5_later_ 49 = some (.aload_n 0, 1) := by decide +kernel
theorem a_X5_later__50 : ix_at mT_X5_later_ 50 = some (.getfield 43, 3) := by decide +kernel
theorem a_X5_later__53 : ix_at mT_X5_later_ 53 = some (.iload_n 1, 1) := by decide +kernel
theorem a_X5_later__54 : ix_at mT_X5_later_ 54 = some (.iaload, 1) := by decide +kernel
theorem a_X5_later__55 : ix_at mT_X5_later_ 55 = some (.iconst (-1), 1) := by decide +kernel
theorem a_X5_later__56 : ix_at mT_X5_later_ 56 = some (.if_icmp .ne 6, 3) := by decide +kernel
theorem a_X5_later__59 : ix_at mT_X5_later_ 59 = some (.bipush (-5), 2) := by decide +kernel
theorem a_X5_later__61 : ix_at mT_X5_later_ 61 = some (.ireturn, 1) := by decide +kernel
theorem a_X5_later__62 : ix_at mT_X5_later_ 62 = some (.aload_n 0, 1) := by decide +kernel
theorem a_X5_later__63 : ix_at mT_X5_later_ 63 = some (.bipush 16, 2) := by decide +kernel
theorem a_X5_later__65 : ix_at mT_X5_later_ 65 = some (.aload_n 0, 1) := by decide +kernel
theorem a_X5_later__66 : ix_at mT_X5_later_ 66 = some (.invokevirtual 147, 3) := by decide +kernel
theorem a_X5_later__69 : ix_at mT_X5_later_ 69 = some (.invokevirtual 151, 3) := by decide +kernel
theorem a_X5_later__72 : ix_at mT_X5_later_ 72 = some (.ifCond .ne 6, 3) := by decide +kernel
theorem a_X5_later__75 : ix_at mT_X5_later_ 75 = some (.bipush (-8), 2) := by decide +kernel
theorem a_X5_later__77 : ix_at mT_X5_later_ 77 = some (.ireturn, 1) := by decide +kernel
theorem a_X5_later__78 : ix_at mT_X5_later_ 78 = some (.aload_n 0, 1) := by decide +kernel
theorem a_X5_later__79 : ix_at mT_X5_later_ 79 = some (.aload_n 0, 1) := by decide +kernel
theorem a_X5_later__80 : ix_at mT_X5_later_ 80 = some (.getfield 87, 3) := by decide +kernel
theorem a_X5_later__83 : ix_at mT_X5_later_ 83 = some (.iconst 3, 1) := by decide +kernel
theorem a_X5_later__84 : ix_at mT_X5_later_ 84 = some (.iload_n 1, 1) := by decide +kernel
theorem a_X5_later__85 : ix_at mT_X5_later_ 85 = some (.iload_n 2, 1) := by decide +kernel
theorem a_X5_later__86 : ix_at mT_X5_later_ 86 = some (.bipush 8, 2) := by decide +kernel
theorem a_X5_later__88 : ix_at mT_X5_later_ 88 = some (.iload_n 3, 1) := by decide +kernel
theorem a_X5_later__89 : ix_at mT_X5_later_ 89 = some (.imul, 1) := by decide +kernel
theorem a_X5_later__90 : ix_at mT_X5_later_ 90 = some (.iload 4, 2) := by decide +kernel
theorem a_X5_later__92 : ix_at mT_X5_later_ 92 = some (.iadd, 1) := by decide +kernel
theorem a_X5_later__93 : ix_at mT_X5_later_ 93 = some (.iload 5, 2) := by decide +kernel
theorem a_X5_later__95 : ix_at mT_X5_later_ 95 = some (.invokevirtual 129, 3) := by decide +kernel
theorem a_X5_later__98 : ix_at mT_X5_later_ 98 = some (.istore 7, 2) := by decide +kernel
theorem a_X5_later__100 : ix_at mT_X5_later_ 100 = some (.aload_n 0, 1) := by decide +kernel
theorem a_X5_later__101 : ix_at mT_X5_later_ 101 = some (.aload_n 0, 1) := by decide +kernel
theorem a_X5_later__102 : ix_at mT_X5_later_ 102 = some (.getfield 43, 3) := by decide +kernel
theorem a_X5_later__105 : ix_at mT_X5_later_ 105 = some (.iload_n 1, 1) := by decide +kernel
theorem a_X5_later__106 : ix_at mT_X5_later_ 106 = some (.iaload, 1) := by decide +kernel
theorem a_X5_later__107 : ix_at mT_X5_later_ 107 = some (.bipush 8, 2) := by decide +kernel
theorem a_X5_later__109 : ix_at mT_X5_later_ 109 = some (.iload_n 3, 1) := by decide +kernel
theorem a_X5_later__110 : ix_at mT_X5_later_ 110 = some (.imul, 1) := by decide +kernel
theorem a_X5_later__111 : ix_at mT_X5_later_ 111 = some (.iload 4, 2) := by decide +kernel
theorem a_X5_later__113 : ix_at mT_X5_later_ 113 = some (.iadd, 1) := by decide +kernel
theorem a_X5_later__114 : ix_at mT_X5_later_ 114 = some (.iload 5, 2) := by decide +kernel
theorem a_X5_later__116 : ix_at mT_X5_later_ 116 = some (.invokevirtual 188, 3) := by decide +kernel
theorem a_X5_later__119 : ix_at mT_X5_later_ 119 = some (.iconst 0, 1) := by decide +kernel
theorem a_X5_later__120 : ix_at mT_X5_later_ 120 = some (.ireturn, 1) := by decide +kernel
theorem a_X5_end_0 : ix_at mT_X5_end 0 = some (.aload_n 0, 1) := by decide +kernel
theorem a_X5_end_1 : ix_at mT_X5_end 1 = some (.iload_n 1, 1) := by decide +kernel
theorem a_X5_end_2 : ix_at mT_X5_end 2 = some (.iload_n 2, 1) := by decide +kernel
theorem a_X5_end_3 : ix_at mT_X5_end 3 = some (.invokevirtual 158, 3) := by decide +kernel
theorem a_X5_end_6 : ix_at mT_X5_end 6 = some (.istore 4, 2) := by decide +kernel
theorem a_X5_end_8 : ix_at mT_X5_end 8 = some (.iload 4, 2) := by decide +kernel
theorem a_X5_end_10 : ix_at mT_X5_end 10 = some (.ifCond .eq 6, 3) := by decide +kernel
theorem a_X5_end_13 : ix_at mT_X5_end 13 = some (.iload 4, 2) := by decide +kernel
theorem a_X5_end_15 : ix_at mT_X5_end 15 = some (.ireturn, 1) := by decide +kernel
theorem a_X5_end_16 : ix_at mT_X5_end 16 = some (.aload_n 0, 1) := by decide +kernel
theorem a_X5_end_17 : ix_at mT_X5_end 17 = some (.getfield 43, 3) := by decide +kernel
theorem a_X5_end_20 : ix_at mT_X5_end 20 = some (.iload_n 1, 1) := by decide +kernel
theorem a_X5_end_21 : ix_at mT_X5_end 21 = some (.iaload, 1) := by decide +kernel
theorem a_X5_end_22 : ix_at mT_X5_end 22 = some (.iconst (-1), 1) := by decide +kernel
theorem a_X5_end_23 : ix_at mT_X5_end 23 = some (.if_icmp .ne 6, 3) := by decide +kernel
theorem a_X5_end_26 : ix_at mT_X5_end 26 = some (.bipush (-5), 2) := by decide +kernel
theorem a_X5_end_28 : ix_at mT_X5_end 28 = some (.ireturn, 1) := by decide +kernel
theorem a_X5_end_29 : ix_at mT_X5_end 29 = some (.aload_n 0, 1) := by decide +kernel
theorem a_X5_end_30 : ix_at mT_X5_end 30 = some (.iload_n 1, 1) := by decide +kernel
theorem a_X5_end_31 : ix_at mT_X5_end 31 = some (.iload_n 3, 1) := by decide +kernel
theorem a_X5_end_32 : ix_at mT_X5_end 32 = some (.invokevirtual 144, 3) := by decide +kernel
theorem a_X5_end_35 : ix_at mT_X5_end 35 = some (.iconst 0, 1) := by decide +kernel
theorem a_X5_end_36 : ix_at mT_X5_end 36 = some (.ireturn, 1) := by decide +kernel
theorem a_X5_mark_0 : ix_at mT_X5_mark 0 = some (.aload_n 0, 1) := by decide +kernel
theorem a_X5_mark_1 : ix_at mT_X5_mark 1 = some (.getfield 99, 3) := by decide +kernel
theorem a_X5_mark_4 : ix_at mT_X5_mark 4 = some (.ifCond .eq 5, 3) := by decide +kernel
theorem a_X5_mark_7 : ix_at mT_X5_mark 7 = some (.iconst (-1), 1) := by decide +kernel
theorem a_X5_mark_8 : ix_at mT_X5_mark 8 = some (.ireturn, 1) := by decide +kernel
theorem a_X5_mark_9 : ix_at mT_X5_mark 9 = some (.iload_n 1, 1) := by decide +kernel
theorem a_X5_mark_10 : ix_at mT_X5_mark 10 = some (.invokestatic 181, 3) := by decide +kernel
theorem a_X5_mark_13 : ix_at mT_X5_mark 13 = some (.ifCond .eq 15, 3) := by decide +kernel
theorem a_X5_mark_16 : ix_at mT_X5_mark 16 = some (.aload_n 0, 1) := by decide +kernel
theorem a_X5_mark_17 : ix_at mT_X5_mark 17 = some (.iload_n 2, 1) := by decide +kernel
theorem a_X5_mark_18 : ix_at mT_X5_mark 18 = some (.invokevirtual 185, 3) := by decide +kernel
theorem a_X5_mark_21 : ix_at mT_X5_mark 21 = some (.ifCond .eq 7, 3) := by decide +kernel
theorem a_X5_mark_24 : ix_at mT_X5_mark 24 = some (.iload_n 3, 1) := by decide +kernel
theorem a_X5_mark_25 : ix_at mT_X5_mark 25 = some (.ifCond .ge 6, 3) := by decide +kernel
theorem a_X5_mark_28 : ix_at mT_X5_mark 28 = some (.bipush (-2), 2) := by decide +kernel
theorem a_X5_mark_30 : ix_at mT_X5_mark 30 = some (.ireturn, 1) := by decide +kernel
theorem a_X5_mark_31 : ix_at mT_X5_mark 31 = some (.aload_n 0, 1) := by decide +kernel
theorem a_X5_mark_32 : ix_at mT_X5_mark 32 = some (.bipush 16, 2) := by decide +kernel
theorem a_X5_mark_34 : ix_at mT_X5_mark 34 = some (.aload_n 0, 1) := by decide +kernel
theorem a_X5_mark_35 : ix_at mT_X5_mark 35 = some (.invokevirtual 147, 3) := by decide +kernel
theorem a_X5_mark_38 : ix_at mT_X5_mark 38 = some (.invokevirtual 151, 3) := by decide +kernel
theorem a_X5_mark_41 : ix_at mT_X5_mark 41 = some (.ifCond .ne 6, 3) := by decide +kernel
theorem a_X5_mark_44 : ix_at mT_X5_mark 44 = some (.bipush (-8), 2) := by decide +kernel
theorem a_X5_mark_46 : ix_at mT_X5_mark 46 = some (.ireturn, 1) := by decide +kernel
theorem a_X5_mark_47 : ix_at mT_X5_mark 47 = some (.aload_n 0, 1) := by decide +kernel
theorem a_X5_mark_48 : ix_at mT_X5_mark 48 = some (.aload_n 0, 1) := by decide +kernel
theorem a_X5_mark_49 : ix_at mT_X5_mark 49 = some (.getfield 87, 3) := by decide +kernel
theorem a_X5_mark_52 : ix_at mT_X5_mark 52 = some (.bipush 6, 2) := by decide +kernel
theorem a_X5_mark_54 : ix_at mT_X5_mark 54 = some (.iconst 0, 1) := by decide +kernel
theorem a_X5_mark_55 : ix_at mT_X5_mark 55 = some (.iconst 0, 1) := by decide +kernel
theorem a_X5_mark_56 : ix_at mT_X5_mark 56 = some (.bipush 8, 2) := by decide +kernel
theorem a_X5_mark_58 : ix_at mT_X5_mark 58 = some (.iload_n 1, 1) := by decide +kernel
theorem a_X5_mark_59 : ix_at mT_X5_mark 59 = some (.imul, 1) := by decide +kernel
theorem a_X5_mark_60 : ix_at mT_X5_mark 60 = some (.iload_n 2, 1) := by decide +kernel
theorem a_X5_mark_61 : ix_at mT_X5_mark 61 = some (.iadd, 1) := by decide +kernel
theorem a_X5_mark_62 : ix_at mT_X5_mark 62 = some (.iload_n 3, 1) := by decide +kernel
theorem a_X5_mark_63 : ix_at mT_X5_mark 63 = some (.invokevirtual 129, 3) := by decide +kernel
theorem a_X5_mark_66 : ix_at mT_X5_mark 66 = some (.istore 4, 2) := by decide +kernel
theorem a_X5_mark_68 : ix_at mT_X5_mark 68 = some (.aload_n 0, 1) := by decide +kernel
theorem a_X5_mark_69 : ix_at mT_X5_mark 69 = some (.getfield 52, 3) := by decide +kernel
theorem a_X5_mark_72 : ix_at mT_X5_mark 72 = some (.bipush 8, 2) := by decide +kernel
theorem a_X5_mark_74 : ix_at mT_X5_mark 74 = some (.iload_n 1, 1) := by decide +kernel
theorem a_X5_mark_75 : ix_at mT_X5_mark 75 = some (.imul, 1) := by decide +kernel
theorem a_X5_mark_76 : ix_at mT_X5_mark 76 = some (.iload_n 2, 1) := by decide +kernel
theorem a_X5_mark_77 : ix_at mT_X5_mark 77 = some (.iadd, 1) := by decide +kernel
theorem a_X5_mark_78 : ix_at mT_X5_mark 78 = some (.iload_n 3, 1) := by decide +kernel
theorem a_X5_mark_79 : ix_at mT_X5_mark 79 = some (.iastore, 1) := by decide +kernel
theorem a_X5_mark_80 : ix_at mT_X5_mark 80 = some (.iconst 0, 1) := by decide +kernel
theorem a_X5_mark_81 : ix_at mT_X5_mark 81 = some (.ireturn, 1) := by decide +kernel
theorem a_X5_marked_0 : ix_at mT_X5_marked 0 = some (.aload_n 0, 1) := by decide +kernel
theorem a_X5_marked_1 : ix_at mT_X5_marked 1 = some (.getfield 99, 3) := by decide +kernel
theorem a_X5_marked_4 : ix_at mT_X5_marked 4 = some (.ifCond .ne 18, 3) := by decide +kernel
theorem a_X5_marked_7 : ix_at mT_X5_marked 7 = some (.iload_n 1, 1) := by decide +kernel
theorem a_X5_marked_8 : ix_at mT_X5_marked 8 = some (.invokestatic 181, 3) := by decide +kernel
theorem a_X5_marked_11 : ix_at mT_X5_marked 11 = some (.ifCond .eq 11, 3) := by decide +kernel
theorem a_X5_marked_14 : ix_at mT_X5_marked 14 = some (.aload_n 0, 1) := by decide +kernel
theorem a_X5_marked_15 : ix_at mT_X5_marked 15 = some (.iload_n 2, 1) := by decide +kernel
theorem a_X5_marked_16 : ix_at mT_X5_marked 16 = some (.invokevirtual 185, 3) := by decide +kernel
theorem a_X5_marked_19 : ix_at mT_X5_marked 19 = some (.ifCond .ne 7, 3) := by decide +kernel
theorem a_X5_marked_22 : ix_at mT_X5_marked 22 = some (.iconst (-1), 1) := by decide +kernel
theorem a_X5_marked_23 : ix_at mT_X5_marked 23 = some (.goto 14, 3) := by decide +kernel
theorem a_X5_marked_26 : ix_at mT_X5_marked 26 = some (.aload_n 0, 1) := by decide +kernel
theorem a_X5_marked_27 : ix_at mT_X5_marked 27 = some (.getfield 52, 3) := by decide +kernel
theorem a_X5_marked_30 : ix_at mT_X5_marked 30 = some (.bipush 8, 2) := by decide +kernel
theorem a_X5_marked_32 : ix_at mT_X5_marked 32 = some (.iload_n 1, 1) := by decide +kernel
theorem a_X5_marked_33 : ix_at mT_X5_marked 33 = some (.imul, 1) := by decide +kernel
theorem a_X5_marked_34 : ix_at mT_X5_marked 34 = some (.iload_n 2, 1) := by decide +kernel
theorem a_X5_marked_35 : ix_at mT_X5_marked 35 = some (.iadd, 1) := by decide +kernel
theorem a_X5_marked_36 : ix_at mT_X5_marked 36 = some (.iaload, 1) := by decide +kernel
theorem a_X5_marked_37 : ix_at mT_X5_marked 37 = some (.ireturn, 1) := by decide +kernel
theorem a_X5_tick_0 : ix_at mT_X5_tick 0 = some (.iload_n 1, 1) := by decide +kernel
theorem a_X5_tick_1 : ix_at mT_X5_tick 1 = some (.ifCond .lt 21, 3) := by decide +kernel
theorem a_X5_tick_4 : ix_at mT_X5_tick 4 = some (.iload_n 1, 1) := by decide +kernel
theorem a_X5_tick_5 : ix_at mT_X5_tick 5 = some (.sipush 1000, 3) := by decide +kernel
theorem a_X5_tick_8 : ix_at mT_X5_tick 8 = some (.if_icmp .gt 14, 3) := by decide +kernel
theorem a_X5_tick_11 : ix_at mT_X5_tick 11 = some (.aload_n 0, 1) := by decide +kernel
theorem a_X5_tick_12 : ix_at mT_X5_tick 12 = some (.getfield 96, 3) := by decide +kernel
theorem a_X5_tick_15 : ix_at mT_X5_tick 15 = some (.iload_n 1, 1) := by decide +kernel
theorem a_X5_tick_16 : ix_at mT_X5_tick 16 = some (.iadd, 1) := by decide +kernel
theorem a_X5_tick_17 : ix_at mT_X5_tick 17 = some (.ldc 191, 2) := by decide +kernel
theorem a_X5_tick_19 : ix_at mT_X5_tick 19 = some (.if_icmp .le 6, 3) := by decide +kernel
theorem a_X5_tick_22 : ix_at mT_X5_tick 22 = some (.bipush (-2), 2) := by decide +kernel
theorem a_X5_tick_24 : ix_at mT_X5_tick 24 = some (.ireturn, 1) := by decide +kernel
theorem a_X5_tick_25 : ix_at mT_X5_tick 25 = some (.aload_n 0, 1) := by decide +kernel
theorem a_X5_tick_26 : ix_at mT_X5_tick 26 = some (.dup, 1) := by decide +kernel
theorem a_X5_tick_27 : ix_at mT_X5_tick 27 = some (.getfield 96, 3) := by decide +kernel
theorem a_X5_tick_30 : ix_at mT_X5_tick 30 = some (.iload_n 1, 1) := by decide +kernel
theorem a_X5_tick_31 : ix_at mT_X5_tick 31 = some (.iadd, 1) := by decide +kernel
theorem a_X5_tick_32 : ix_at mT_X5_tick 32 = some (.putfield 96, 3) := by decide +kernel
theorem a_X5_tick_35 : ix_at mT_X5_tick 35 = some (.iconst 0, 1) := by decide +kernel
theorem a_X5_tick_36 : ix_at mT_X5_tick 36 = some (.istore_n 2, 1) := by decide +kernel
theorem a_X5_tick_37 : ix_at mT_X5_tick 37 = some (.iconst 0, 1) := by decide +kernel
theorem a_X5_tick_38 : ix_at mT_X5_tick 38 = some (.istore_n 3, 1) := by decide +kernel
theorem a_X5_tick_39 : ix_at mT_X5_tick 39 = some (.iload_n 3, 1) := by decide +kernel
theorem a_X5_tick_40 : ix_at mT_X5_tick 40 = some (.aload_n 0, 1) := by decide +kernel
theorem a_X5_tick_41 : ix_at mT_X5_tick 41 = some (.getfield 80, 3) := by decide +kernel
theorem a_X5_tick_44 : ix_at mT_X5_tick 44 = some (.if_icmp .ge 78, 3) := by decide +kernel
theorem a_X5_tick_47 : ix_at mT_X5_tick 47 = some (.aload_n 0, 1) := by decide +kernel
theorem a_X5_tick_48 : ix_at mT_X5_tick 48 = some (.getfield 99, 3) := by decide +kernel
theorem a_X5_tick_51 : ix_at mT_X5_tick 51 = some (.ifCond .ne 71, 3) := by decide +kernel
theorem a_X5_tick_54 : ix_at mT_X5_tick 54 = some (.iconst 0, 1) := by decide +kernel
theorem a_X5_tick_55 : ix_at mT_X5_tick 55 = some (.istore 4, 2) := by decide +kernel
theorem a_X5_tick_57 : ix_at mT_X5_tick 57 = some (.iload 4, 2) := by decide +kernel
theorem a_X5_tick_59 : ix_at mT_X5_tick 59 = some (.bipush 32, 2) := by decide +kernel
theorem a_X5_tick_61 : ix_at mT_X5_tick 61 = some (.if_icmp .ge 55, 3) := by decide +kernel
theorem a_X5_tick_64 : ix_at mT_X5_tick 64 = some (.aload_n 0, 1) := by decide +kernel
theorem a_X5_tick_65 : ix_at mT_X5_tick 65 = some (.getfield 43, 3) := by decide +kernel
theorem a_X5_tick_68 : ix_at mT_X5_tick 68 = some (.iload 4, 2) := by decide +kernel
theorem a_X5_tick_70 : ix_at mT_X5_tick 70 = some (.iaload, 1) := by decide +kernel
theorem a_X5_tick_71 : ix_at mT_X5_tick 71 = some (.iload_n 3, 1) := by decide +kernel
theorem a_X5_tick_72 : ix_at mT_X5_tick 72 = some (.if_icmp .ne 38, 3) := by decide +kernel
theorem a_X5_tick_75 : ix_at mT_X5_tick 75 = some (.aload_n 0, 1) := by decide +kernel
theorem a_X5_tick_76 : ix_at mT_X5_tick 76 = some (.getfield 96, 3) := by decide +kernel
theorem a_X5_tick_79 : ix_at mT_X5_tick 79 = some (.aload_n 0, 1) := by decide +kernel
theorem a_X5_tick_80 : ix_at mT_X5_tick 80 = some (.getfield 46, 3) := by decide +kernel
theorem a_X5_tick_83 : ix_at mT_X5_tick 83 = some (.iload 4, 2) := by decide +kernel
theorem a_X5_tick_85 : ix_at mT_X5_tick 85 = some (.iaload, 1) := by decide +kernel
theorem a_X5_tick_86 : ix_at mT_X5_tick 86 = some (.isub, 1) := by decide +kernel
theorem a_X5_tick_87 : ix_at mT_X5_tick 87 = some (.aload_n 0, 1) := by decide +kernel
theorem a_X5_tick_88 : ix_at mT_X5_tick 88 = some (.getfield 93, 3) := by decide +kernel
theorem a_X5_tick_91 : ix_at mT_X5_tick 91 = some (.if_icmp .le 19, 3) := by decide +kernel
theorem a_X5_tick_94 : ix_at mT_X5_tick 94 = some (.aload_n 0, 1) := by decide +kernel
theorem a_X5_tick_95 : ix_at mT_X5_tick 95 = some (.iload 4, 2) := by decide +kernel
theorem a_X5_tick_97 : ix_at mT_X5_tick 97 = some (.iconst 0, 1) := by decide +kernel
theorem a_X5_tick_98 : ix_at mT_X5_tick 98 = some (.invokevirtual 144, 3) := by decide +kernel
theorem a_X5_tick_101 : ix_at mT_X5_tick 101 = some (.aload_n 0, 1) := by decide +kernel
theorem a_X5_tick_102 : ix_at mT_X5_tick 102 = some (.iload 4, 2) := by decide +kernel
theorem a_X5_tick_104 : ix_at mT_X5_tick 104 = some (.invokevirtual 155, 3) := by decide +kernel
theorem a_X5_tick_107 : ix_at mT_X5_tick 107 = some (.iinc 2 1, 3) := by decide +kernel
theorem a_X5_tick_110 : ix_at mT_X5_tick 110 = some (.iinc 4 1, 3) := by decide +kernel
theorem a_X5_tick_113 : ix_at mT_X5_tick 113 = some (.goto (-56), 3) := by decide +kernel
theorem a_X5_tick_116 : ix_at mT_X5_tick 116 = some (.iinc 3 1, 3) := by decide +kernel
theorem a_X5_tick_119 : ix_at mT_X5_tick 119 = some (.goto (-80), 3) := by decide +kernel
theorem a_X5_tick_122 : ix_at mT_X5_tick 122 = some (.iload_n 2, 1) := by decide +kernel
theorem a_X5_tick_123 : ix_at mT_X5_tick 123 = some (.ireturn, 1) := by decide +kernel
theorem a_X5_manyOf_0 : ix_at mT_X5_manyOf 0 = some (.iconst 0, 1) := by decide +kernel
theorem a_X5_manyOf_1 : ix_at mT_X5_manyOf 1 = some (.istore_n 2, 1) := by decide +kernel
theorem a_X5_manyOf_2 : ix_at mT_X5_manyOf 2 = some (.iconst 0, 1) := by decide +kernel
theorem a_X5_manyOf_3 : ix_at mT_X5_manyOf 3 = some (.istore_n 3, 1) := by decide +kernel
theorem a_X5_manyOf_4 : ix_at mT_X5_manyOf 4 = some (.iload_n 3, 1) := by decide +kernel
theorem a_X5_manyOf_5 : ix_at mT_X5_manyOf 5 = some (.aload_n 0, 1) := by decide +kernel
theorem a_X5_manyOf_6 : ix_at mT_X5_manyOf 6 = some (.getfield 106, 3) := by decide +kernel
theorem a_X5_manyOf_9 : ix_at mT_X5_manyOf 9 = some (.if_icmp .ge 27, 3) := by decide +kernel
theorem a_X5_manyOf_12 : ix_at mT_X5_manyOf 12 = some (.iload_n 2, 1) := by decide +kernel
theorem a_X5_manyOf_13 : ix_at mT_X5_manyOf 13 = some (.aload_n 0, 1) := by decide +kernel
theorem a_X5_manyOf_14 : ix_at mT_X5_manyOf 14 = some (.getfield 9, 3) := by decide +kernel
theorem a_X5_manyOf_17 : ix_at mT_X5_manyOf 17 = some (.iload_n 3, 1) := by decide +kernel
theorem a_X5_manyOf_18 : ix_at mT_X5_manyOf 18 = some (.iaload, 1) := by decide +kernel
theorem a_X5_manyOf_19 : ix_at mT_X5_manyOf 19 = some (.iload_n 1, 1) := by decide +kernel
theorem a_X5_manyOf_20 : ix_at mT_X5_manyOf 20 = some (.if_icmp .ne 7, 3) := by decide +kernel
theorem a_X5_manyOf_23 : ix_at mT_X5_manyOf 23 = some (.iconst 1, 1) := by decide +kernel
theorem a_X5_manyOf_24 : ix_at mT_X5_manyOf 24 = some (.goto 4, 3) := by decide +kernel
theorem a_X5_manyOf_27 : ix_at mT_X5_manyOf 27 = some (.iconst 0, 1) := by decide +kernel
theorem a_X5_manyOf_28 : ix_at mT_X5_manyOf 28 = some (.iadd, 1) := by decide +kernel
theorem a_X5_manyOf_29 : ix_at mT_X5_manyOf 29 = some (.istore_n 2, 1) := by decide +kernel
theorem a_X5_manyOf_30 : ix_at mT_X5_manyOf 30 = some (.iinc 3 1, 3) := by decide +kernel
theorem a_X5_manyOf_33 : ix_at mT_X5_manyOf 33 = some (.goto (-29), 3) := by decide +kernel
theorem a_X5_manyOf_36 : ix_at mT_X5_manyOf 36 = some (.iload_n 2, 1) := by decide +kernel
theorem a_X5_manyOf_37 : ix_at mT_X5_manyOf 37 = some (.ireturn, 1) := by decide +kernel
theorem a_X5_stable_0 : ix_at mT_X5_stable 0 = some (.iconst 0, 1) := by decide +kernel
theorem a_X5_stable_1 : ix_at mT_X5_stable 1 = some (.istore_n 2, 1) := by decide +kernel
theorem a_X5_stable_2 : ix_at mT_X5_stable 2 = some (.iconst 0, 1) := by decide +kernel
theorem a_X5_stable_3 : ix_at mT_X5_stable 3 = some (.istore_n 3, 1) := by decide +kernel
theorem a_X5_stable_4 : ix_at mT_X5_stable 4 = some (.iload_n 3, 1) := by decide +kernel
theorem a_X5_stable_5 : ix_at mT_X5_stable 5 = some (.aload_n 0, 1) := by decide +kernel
theorem a_X5_stable_6 : ix_at mT_X5_stable 6 = some (.getfield 106, 3) := by decide +kernel
theorem a_X5_stable_9 : ix_at mT_X5_stable 9 = some (.if_icmp .ge 51, 3) := by decide +kernel
theorem a_X5_stable_12 : ix_at mT_X5_stable 12 = some (.aload_n 0, 1) := by decide +kernel
theorem a_X5_stable_13 : ix_at mT_X5_stable 13 = some (.getfield 9, 3) := by decide +kernel
theorem a_X5_stable_16 : ix_at mT_X5_stable 16 = some (.iload_n 3, 1) := by decide +kernel
theorem a_X5_stable_17 : ix_at mT_X5_stable 17 = some (.iaload, 1) := by decide +kernel
theorem a_X5_stable_18 : ix_at mT_X5_stable 18 = some (.iload_n 1, 1) := by decide +kernel
theorem a_X5_stable_19 : ix_at mT_X5_stable 19 = some (.if_icmp .eq 6, 3) := by decide +kernel
theorem a_X5_stable_22 : ix_at mT_X5_stable 22 = some (.goto 32, 3) := by decide +kernel
theorem a_X5_stable_25 : ix_at mT_X5_stable 25 = some (.aload_n 0, 1) := by decide +kernel
theorem a_X5_stable_26 : ix_at mT_X5_stable 26 = some (.getfield 13, 3) := by decide +kernel
theorem a_X5_stable_29 : ix_at mT_X5_stable 29 = some (.iload_n 3, 1) := by decide +kernel
theorem a_X5_stable_30 : ix_at mT_X5_stable 30 = some (.iaload, 1) := by decide +kernel
theorem a_X5_stable_31 : ix_at mT_X5_stable 31 = some (.iconst 1, 1) := by decide +kernel
theorem a_X5_stable_32 : ix_at mT_X5_stable 32 = some (.if_icmp .ne 19, 3) := by decide +kernel
theorem a_X5_stable_35 : ix_at mT_X5_stable 35 = some (.aload_n 0, 1) := by decide +kernel
theorem a_X5_stable_36 : ix_at mT_X5_stable 36 = some (.getfield 55, 3) := by decide +kernel
theorem a_X5_stable_39 : ix_at mT_X5_stable 39 = some (.aload_n 0, 1) := by decide +kernel
theorem a_X5_stable_40 : ix_at mT_X5_stable 40 = some (.getfield 28, 3) := by decide +kernel
theorem a_X5_stable_43 : ix_at mT_X5_stable 43 = some (.iload_n 3, 1) := by decide +kernel
theorem a_X5_stable_44 : ix_at mT_X5_stable 44 = some (.iaload, 1) := by decide +kernel
theorem a_X5_stable_45 : ix_at mT_X5_stable 45 = some (.iaload, 1) := by decide +kernel
theorem a_X5_stable_46 : ix_at mT_X5_stable 46 = some (.ifCond .ne 5, 3) := by decide +kernel
theorem a_X5_stable_49 : ix_at mT_X5_stable 49 = some (.iload_n 2, 1) := by decide +kernel
theorem a_X5_stable_50 : ix_at mT_X5_stable 50 = some (.ireturn, 1) := by decide +kernel
theorem a_X5_stable_51 : ix_at mT_X5_stable 51 = some (.iinc 2 1, 3) := by decide +kernel
theorem a_X5_stable_54 : ix_at mT_X5_stable 54 = some (.iinc 3 1, 3) := by decide +kernel
theorem a_X5_stable_57 : ix_at mT_X5_stable 57 = some (.goto (-53), 3) := by decide +kernel
theorem a_X5_stable_60 : ix_at mT_X5_stable 60 = some (.iload_n 2, 1) := by decide +kernel
theorem a_X5_stable_61 : ix_at mT_X5_stable 61 = some (.ireturn, 1) := by decide +kernel
theorem a_X5_isSeen_0 : ix_at mT_X5_isSeen 0 = some (.aload_n 0, 1) := by decide +kernel
theorem a_X5_isSeen_1 : ix_at mT_X5_isSeen 1 = some (.getfield 13, 3) := by decide +kernel
theorem a_X5_isSeen_4 : ix_at mT_X5_isSeen 4 = some (.iload_n 1, 1) := by decide +kernel
theorem a_X5_isSeen_5 : ix_at mT_X5_isSeen 5 = some (.iaload, 1) := by decide +kernel
theorem a_X5_isSeen_6 : ix_at mT_X5_isSeen 6 = some (.iconst 1, 1) := by decide +kernel
theorem a_X5_isSeen_7 : ix_at mT_X5_isSeen 7 = some (.if_icmp .le 5, 3) := by decide +kernel
theorem a_X5_isSeen_10 : ix_at mT_X5_isSeen 10 = some (.iconst 0, 1) := by decide +kernel
theorem a_X5_isSeen_11 : ix_at mT_X5_isSeen 11 = some (.ireturn, 1) := by decide +kernel
theorem a_X5_isSeen_12 : ix_at mT_X5_isSeen 12 = some (.iload_n 2, 1) := by decide +kernel
theorem a_X5_isSeen_13 : ix_at mT_X5_isSeen 13 = some (.ifCond .eq 33, 3) := by decide +kernel
theorem a_X5_isSeen_16 : ix_at mT_X5_isSeen 16 = some (.iload_n 3, 1) := by decide +kernel
theorem a_X5_isSeen_17 : ix_at mT_X5_isSeen 17 = some (.iload 4, 2) := by decide +kernel
theorem a_X5_isSeen_19 : ix_at mT_X5_isSeen 19 = some (.if_icmp .ge 31, 3) := by decide +kernel
theorem a_X5_isSeen_22 : ix_at mT_X5_isSeen 22 = some (.aload_n 0, 1) := by decide +kernel
theorem a_X5_isSeen_23 : ix_at mT_X5_isSeen 23 = some (.getfield 13, 3) := by decide +kernel
theorem a_X5_isSeen_26 : ix_at mT_X5_isSeen 26 = some (.iload_n 1, 1) := by decide +kernel
theorem a_X5_isSeen_27 : ix_at mT_X5_isSeen 27 = some (.iaload, 1) := by decide +kernel
theorem a_X5_isSeen_28 : ix_at mT_X5_isSeen 28 = some (.ifCond .eq 18, 3) := by decide +kernel
theorem a_X5_isSeen_31 : ix_at mT_X5_isSeen 31 = some (.aload_n 0, 1) := by decide +kernel
theorem a_X5_isSeen_32 : ix_at mT_X5_isSeen 32 = some (.getfield 55, 3) := by decide +kernel
theorem a_X5_isSeen_35 : ix_at mT_X5_isSeen 35 = some (.aload_n 0, 1) := by decide +kernel
theorem a_X5_isSeen_36 : ix_at mT_X5_isSeen 36 = some (.getfield 28, 3) := by decide +kernel
theorem a_X5_isSeen_39 : ix_at mT_X5_isSeen 39 = some (.iload_n 1, 1) := by decide +kernel
theorem a_X5_isSeen_40 : ix_at mT_X5_isSeen 40 = some (.iaload, 1) := by decide +kernel
theorem a_X5_isSeen_41 : ix_at mT_X5_isSeen 41 = some (.iaload, 1) := by decide +kernel
theorem a_X5_isSeen_42 : ix_at mT_X5_isSeen 42 = some (.iconst 1, 1) := by decide +kernel
theorem a_X5_isSeen_43 : ix_at mT_X5_isSeen 43 = some (.if_icmp .ne 7, 3) := by decide +kernel
theorem a_X5_isSeen_46 : ix_at mT_X5_isSeen 46 = some (.iconst 1, 1) := by decide +kernel
theorem a_X5_isSeen_47 : ix_at mT_X5_isSeen 47 = some (.goto 4, 3) := by decide +kernel
theorem a_X5_isSeen_50 : ix_at mT_X5_isSeen 50 = some (.iconst 0, 1) := by decide +kernel
theorem a_X5_isSeen_51 : ix_at mT_X5_isSeen 51 = some (.ireturn, 1) := by decide +kernel
theorem a_X5_fetch_0 : ix_at mT_X5_fetch 0 = some (.aload_n 0, 1) := by decide +kernel
theorem a_X5_fetch_1 : ix_at mT_X5_fetch 1 = some (.iconst 0, 1) := by decide +kernel
theorem a_X5_fetch_2 : ix_at mT_X5_fetch 2 = some (.putfield 115, 3) := by decide +kernel
theorem a_X5_fetch_5 : ix_at mT_X5_fetch 5 = some (.aload_n 0, 1) := by decide +kernel
theorem a_X5_fetch_6 : ix_at mT_X5_fetch 6 = some (.getfield 99, 3) := by decide +kernel
theorem a_X5_fetch_9 : ix_at mT_X5_fetch 9 = some (.ifCond .ne 15, 3) := by decide +kernel
theorem a_X5_fetch_12 : ix_at mT_X5_fetch 12 = some (.aload_n 0, 1) := by decide +kernel
theorem a_X5_fetch_13 : ix_at mT_X5_fetch 13 = some (.iload_n 1, 1) := by decide +kernel
theorem a_X5_fetch_14 : ix_at mT_X5_fetch 14 = some (.invokevirtual 185, 3) := by decide +kernel
theorem a_X5_fetch_17 : ix_at mT_X5_fetch 17 = some (.ifCond .eq 7, 3) := by decide +kernel
theorem a_X5_fetch_20 : ix_at mT_X5_fetch 20 = some (.iload_n 2, 1) := by decide +kernel
theorem a_X5_fetch_21 : ix_at mT_X5_fetch 21 = some (.ifCond .ge 5, 3) := by decide +kernel
theorem a_X5_fetch_24 : ix_at mT_X5_fetch 24 = some (.iconst (-1), 1) := by decide +kernel
theorem a_X5_fetch_25 : ix_at mT_X5_fetch 25 = some (.ireturn, 1) := by decide +kernel
theorem a_X5_fetch_26 : ix_at mT_X5_fetch 26 = some (.aload_n 0, 1) := by decide +kernel
theorem a_X5_fetch_27 : ix_at mT_X5_fetch 27 = some (.iload_n 1, 1) := by decide +kernel
theorem a_X5_fetch_28 : ix_at mT_X5_fetch 28 = some (.invokevirtual 192, 3) := by decide +kernel
theorem a_X5_fetch_31 : ix_at mT_X5_fetch 31 = some (.istore 4, 2) := by decide +kernel
theorem a_X5_fetch_33 : ix_at mT_X5_fetch 33 = some (.iconst 0, 1) := by decide +kernel
theorem a_X5_fetch_34 : ix_at mT_X5_fetch 34 = some (.istore 5, 2) := by decide +kernel
theorem a_X5_fetch_36 : ix_at mT_X5_fetch 36 = some (.iconst 0, 1) := by decide +kernel
theorem a_X5_fetch_37 : ix_at mT_X5_fetch 37 = some (.istore 6, 2) := by decide +kernel
theorem a_X5_fetch_39 : ix_at mT_X5_fetch 39 = some (.iload 6, 2) := by decide +kernel
theorem a_X5_fetch_41 : ix_at mT_X5_fetch 41 = some (.aload_n 0, 1) := by decide +kernel
theorem a_X5_fetch_42 : ix_at mT_X5_fetch 42 = some (.getfield 106, 3) := by decide +kernel
theorem a_X5_fetch_45 : ix_at mT_X5_fetch 45 = some (.if_icmp .ge 98, 3) := by decide +kernel
theorem a_X5_fetch_48 : ix_at mT_X5_fetch 48 = some (.aload_n 0, 1) := by decide +kernel
theorem a_X5_fetch_49 : ix_at mT_X5_fetch 49 = some (.getfield 9, 3) := by decide +kernel
theorem a_X5_fetch_52 : ix_at mT_X5_fetch 52 = some (.iload 6, 2) := by decide +kernel
theorem a_X5_fetch_54 : ix_at mT_X5_fetch 54 = some (.iaload, 1) := by decide +kernel
theorem a_X5_fetch_55 : ix_at mT_X5_fetch 55 = some (.iload_n 1, 1) := by decide +kernel
theorem a_X5_fetch_56 : ix_at mT_X5_fetch 56 = some (.if_icmp .eq 6, 3) := by decide +kernel
theorem a_X5_fetch_59 : ix_at mT_X5_fetch 59 = some (.goto 78, 3) := by decide +kernel
theorem a_X5_fetch_62 : ix_at mT_X5_fetch 62 = some (.iload 5, 2) := by decide +kernel
theorem a_X5_fetch_64 : ix_at mT_X5_fetch 64 = some (.iload_n 2, 1) := by decide +kernel
theorem a_X5_fetch_65 : ix_at mT_X5_fetch 65 = some (.if_icmp .lt 69, 3) := by decide +kernel
theorem a_X5_fetch_68 : ix_at mT_X5_fetch 68 = some (.aload_n 0, 1) := by decide +kernel
theorem a_X5_fetch_69 : ix_at mT_X5_fetch 69 = some (.iload 6, 2) := by decide +kernel
theorem a_X5_fetch_71 : ix_at mT_X5_fetch 71 = some (.iload_n 3, 1) := by decide +kernel
theorem a_X5_fetch_72 : ix_at mT_X5_fetch 72 = some (.iload 5, 2) := by decide +kernel
theorem a_X5_fetch_74 : ix_at mT_X5_fetch 74 = some (.iload 4, 2) := by decide +kernel
theorem a_X5_fetch_76 : ix_at mT_X5_fetch 76 = some (.invokevirtual 195, 3) := by decide +kernel
theorem a_X5_fetch_79 : ix_at mT_X5_fetch 79 = some (.ifCond .eq 55, 3) := by decide +kernel
theorem a_X5_fetch_82 : ix_at mT_X5_fetch 82 = some (.aload_n 0, 1) := by decide +kernel
theorem a_X5_fetch_83 : ix_at mT_X5_fetch 83 = some (.aload_n 0, 1) := by decide +kernel
theorem a_X5_fetch_84 : ix_at mT_X5_fetch 84 = some (.getfield 25, 3) := by decide +kernel
theorem a_X5_fetch_87 : ix_at mT_X5_fetch 87 = some (.iload 6, 2) := by decide +kernel
theorem a_X5_fetch_89 : ix_at mT_X5_fetch 89 = some (.iaload, 1) := by decide +kernel
theorem a_X5_fetch_90 : ix_at mT_X5_fetch 90 = some (.putfield 115, 3) := by decide +kernel
theorem a_X5_fetch_93 : ix_at mT_X5_fetch 93 = some (.iconst 0, 1) := by decide +kernel
theorem a_X5_fetch_94 : ix_at mT_X5_fetch 94 = some (.istore 7, 2) := by decide +kernel
theorem a_X5_fetch_96 : ix_at mT_X5_fetch 96 = some (.iload 7, 2) := by decide +kernel
theorem a_X5_fetch_98 : ix_at mT_X5_fetch 98 = some (.aload_n 0, 1) := by decide +kernel
theorem a_X5_fetch_99 : ix_at mT_X5_fetch 99 = some (.getfield 115, 3) := by decide +kernel
theorem a_X5_fetch_102 : ix_at mT_X5_fetch 102 = some (.if_icmp .ge 29, 3) := by decide +kernel
theorem a_X5_fetch_105 : ix_at mT_X5_fetch 105 = some (.aload_n 0, 1) := by decide +kernel
theorem a_X5_fetch_106 : ix_at mT_X5_fetch 106 = some (.getfield 70, 3) := by decide +kernel
theorem a_X5_fetch_109 : ix_at mT_X5_fetch 109 = some (.iload 7, 2) := by decide +kernel
theorem a_X5_fetch_111 : ix_at mT_X5_fetch 111 = some (.aload_n 0, 1) := by decide +kernel
theorem a_X5_fetch_112 : ix_at mT_X5_fetch 112 = some (.getfield 32, 3) := by decide +kernel
theorem a_X5_fetch_115 : ix_at mT_X5_fetch 115 = some (.bipush 40, 2) := by decide +kernel
theorem a_X5_fetch_117 : ix_at mT_X5_fetch 117 = some (.iload 6, 2) := by decide +kernel
theorem a_X5_fetch_119 : ix_at mT_X5_fetch 119 = some (.imul, 1) := by decide +kernel
theorem a_X5_fetch_120 : ix_at mT_X5_fetch 120 = some (.iload 7, 2) := by decide +kernel
theorem a_X5_fetch_122 : ix_at mT_X5_fetch 122 = some (.iadd, 1) := by decide +kernel
theorem a_X5_fetch_123 : ix_at mT_X5_fetch 123 = some (.baload, 1) := by decide +kernel
theorem a_X5_fetch_124 : ix_at mT_X5_fetch 124 = some (.bastore, 1) := by decide +kernel
theorem a_X5_fetch_125 : ix_at mT_X5_fetch 125 = some (.iinc 7 1, 3) := by decide +kernel
theorem a_X5_fetch_128 : ix_at mT_X5_fetch 128 = some (.goto (-32), 3) := by decide +kernel
theorem a_X5_fetch_131 : ix_at mT_X5_fetch 131 = some (.iload 5, 2) := by decide +kernel
theorem a_X5_fetch_133 : ix_at mT_X5_fetch 133 = some (.ireturn, 1) := by decide +kernel
theorem a_X5_fetch_134 : ix_at mT_X5_fetch 134 = some (.iinc 5 1, 3) := by decide +kernel
theorem a_X5_fetch_137 : ix_at mT_X5_fetch 137 = some (.iinc 6 1, 3) := by decide +kernel
theorem a_X5_fetch_140 : ix_at mT_X5_fetch 140 = some (.goto (-101), 3) := by decide +kernel
theorem a_X5_fetch_143 : ix_at mT_X5_fetch 143 = some (.iconst (-1), 1) := by decide +kernel
theorem a_X5_fetch_144 : ix_at mT_X5_fetch 144 = some (.ireturn, 1) := by decide +kernel
theorem a_X5_answer_0 : ix_at mT_X5_answer 0 = some (.iload_n 1, 1) := by decide +kernel
theorem a_X5_answer_1 : ix_at mT_X5_answer 1 = some (.ifCond .lt 11, 3) := by decide +kernel
theorem a_X5_answer_4 : ix_at mT_X5_answer 4 = some (.iload_n 1, 1) := by decide +kernel
theorem a_X5_answer_5 : ix_at mT_X5_answer 5 = some (.aload_n 0, 1) := by decide +kernel
theorem a_X5_answer_6 : ix_at mT_X5_answer 6 = some (.getfield 115, 3) := by decide +kernel
theorem a_X5_answer_9 : ix_at mT_X5_answer 9 = some (.if_icmp .lt 7, 3) := by decide +kernel
theorem a_X5_answer_12 : ix_at mT_X5_answer 12 = some (.iconst (-1), 1) := by decide +kernel
theorem a_X5_answer_13 : ix_at mT_X5_answer 13 = some (.goto 13, 3) := by decide +kernel
theorem a_X5_answer_16 : ix_at mT_X5_answer 16 = some (.aload_n 0, 1) := by decide +kernel
theorem a_X5_answer_17 : ix_at mT_X5_answer 17 = some (.getfield 70, 3) := by decide +kernel
theorem a_X5_answer_20 : ix_at mT_X5_answer 20 = some (.iload_n 1, 1) := by decide +kernel
theorem a_X5_answer_21 : ix_at mT_X5_answer 21 = some (.baload, 1) := by decide +kernel
theorem a_X5_answer_22 : ix_at mT_X5_answer 22 = some (.sipush 255, 3) := by decide +kernel
theorem a_X5_answer_25 : ix_at mT_X5_answer 25 = some (.iand, 1) := by decide +kernel
theorem a_X5_answer_26 : ix_at mT_X5_answer 26 = some (.ireturn, 1) := by decide +kernel
theorem a_X5_feed_0 : ix_at mT_X5_feed 0 = some (.iload_n 1, 1) := by decide +kernel
theorem a_X5_feed_1 : ix_at mT_X5_feed 1 = some (.iconst 1, 1) := by decide +kernel
theorem a_X5_feed_2 : ix_at mT_X5_feed 2 = some (.if_icmp .lt 20, 3) := by decide +kernel
theorem a_X5_feed_5 : ix_at mT_X5_feed 5 = some (.iload_n 1, 1) := by decide +kernel
theorem a_X5_feed_6 : ix_at mT_X5_feed 6 = some (.bipush 16, 2) := by decide +kernel
theorem a_X5_feed_8 : ix_at mT_X5_feed 8 = some (.if_icmp .gt 14, 3) := by decide +kernel
theorem a_X5_feed_11 : ix_at mT_X5_feed 11 = some (.aload_n 0, 1) := by decide +kernel
theorem a_X5_feed_12 : ix_at mT_X5_feed 12 = some (.getfield 168, 3) := by decide +kernel
theorem a_X5_feed_15 : ix_at mT_X5_feed 15 = some (.iload_n 1, 1) := by decide +kernel
theorem a_X5_feed_16 : ix_at mT_X5_feed 16 = some (.iadd, 1) := by decide +kernel
theorem a_X5_feed_17 : ix_at mT_X5_feed 17 = some (.bipush 40, 2) := by decide +kernel
theorem a_X5_feed_19 : ix_at mT_X5_feed 19 = some (.if_icmp .le 5, 3) := by decide +kernel
theorem a_X5_feed_22 : ix_at mT_X5_feed 22 = some (.iconst (-1), 1) := by decide +kernel
theorem a_X5_feed_23 : ix_at mT_X5_feed 23 = some (.ireturn, 1) := by decide +kernel
theorem a_X5_feed_24 : ix_at mT_X5_feed 24 = some (.iconst 0, 1) := by decide +kernel
theorem a_X5_feed_25 : ix_at mT_X5_feed 25 = some (.istore 6, 2) := by decide +kernel
theorem a_X5_feed_27 : ix_at mT_X5_feed 27 = some (.iload 6, 2) := by decide +kernel
theorem a_X5_feed_29 : ix_at mT_X5_feed 29 = some (.iload_n 1, 1) := by decide +kernel
theorem a_X5_feed_30 : ix_at mT_X5_feed 30 = some (.if_icmp .ge 52, 3) := by decide +kernel
theorem a_X5_feed_33 : ix_at mT_X5_feed 33 = some (.aload_n 0, 1) := by decide +kernel
theorem a_X5_feed_34 : ix_at mT_X5_feed 34 = some (.getfield 67, 3) := by decide +kernel
theorem a_X5_feed_37 : ix_at mT_X5_feed 37 = some (.aload_n 0, 1) := by decide +kernel
theorem a_X5_feed_38 : ix_at mT_X5_feed 38 = some (.getfield 168, 3) := by decide +kernel
theorem a_X5_feed_41 : ix_at mT_X5_feed 41 = some (.iload 6, 2) := by decide +kernel
theorem a_X5_feed_43 : ix_at mT_X5_feed 43 = some (.bipush 8, 2) := by decide +kernel
theorem a_X5_feed_45 : ix_at mT_X5_feed 45 = some (.if_icmp .ge 7, 3) := by decide +kernel
theorem a_X5_feed_48 : ix_at mT_X5_feed 48 = some (.lload_n 2, 1) := by decide +kernel
theorem a_X5_feed_49 : ix_at mT_X5_feed 49 = some (.goto 5, 3) := by decide +kernel
theorem a_X5_feed_52 : ix_at mT_X5_feed 52 = some (.lload 4, 2) := by decide +kernel
theorem a_X5_feed_54 : ix_at mT_X5_feed 54 = some (.bipush 8, 2) := by decide +kernel
theorem a_X5_feed_56 : ix_at mT_X5_feed 56 = some (.iload 6, 2) := by decide +kernel
theorem a_X5_feed_58 : ix_at mT_X5_feed 58 = some (.bipush 8, 2) := by decide +kernel
theorem a_X5_feed_60 : ix_at mT_X5_feed 60 = some (.irem, 1) := by decide +kernel
theorem a_X5_feed_61 : ix_at mT_X5_feed 61 = some (.imul, 1) := by decide +kernel
theorem a_X5_feed_62 : ix_at mT_X5_feed 62 = some (.lshr, 1) := by decide +kernel
theorem a_X5_feed_63 : ix_at mT_X5_feed 63 = some (.l2i, 1) := by decide +kernel
theorem a_X5_feed_64 : ix_at mT_X5_feed 64 = some (.i2b, 1) := by decide +kernel
theorem a_X5_feed_65 : ix_at mT_X5_feed 65 = some (.bastore, 1) := by decide +kernel
theorem a_X5_feed_66 : ix_at mT_X5_feed 66 = some (.aload_n 0, 1) := by decide +kernel
theorem a_X5_feed_67 : ix_at mT_X5_feed 67 = some (.dup, 1) := by decide +kernel
theorem a_X5_feed_68 : ix_at mT_X5_feed 68 = some (.getfield 168, 3) := by decide +kernel
theorem a_X5_feed_71 : ix_at mT_X5_feed 71 = some (.iconst 1, 1) := by decide +kernel
theorem a_X5_feed_72 : ix_at mT_X5_feed 72 = some (.iadd, 1) := by decide +kernel
theorem a_X5_feed_73 : ix_at mT_X5_feed 73 = some (.putfield 168, 3) := by decide +kernel
theorem a_X5_feed_76 : ix_at mT_X5_feed 76 = some (.iinc 6 1, 3) := by decide +kernel
theorem a_X5_feed_79 : ix_at mT_X5_feed 79 = some (.goto (-52), 3) := by decide +kernel
theorem a_X5_feed_82 : ix_at mT_X5_feed 82 = some (.aload_n 0, 1) := by decide +kernel
theorem a_X5_feed_83 : ix_at mT_X5_feed 83 = some (.getfield 168, 3) := by decide +kernel
theorem a_X5_feed_86 : ix_at mT_X5_feed 86 = some (.ireturn, 1) := by decide +kernel
theorem a_X5_sync_0 : ix_at mT_X5_sync 0 = some (.aload_n 0, 1) := by decide +kernel
theorem a_X5_sync_1 : ix_at mT_X5_sync 1 = some (.getfield 99, 3) := by decide +kernel
theorem a_X5_sync_4 : ix_at mT_X5_sync 4 = some (.ifCond .eq 5, 3) := by decide +kernel
theorem a_X5_sync_7 : ix_at mT_X5_sync 7 = some (.iconst (-1), 1) := by decide +kernel
theorem a_X5_sync_8 : ix_at mT_X5_sync 8 = some (.ireturn, 1) := by decide +kernel
theorem a_X5_sync_9 : ix_at mT_X5_sync 9 = some (.aload_n 0, 1) := by decide +kernel
theorem a_X5_sync_10 : ix_at mT_X5_sync 10 = some (.invokevirtual 199, 3) := by decide +kernel
theorem a_X5_sync_13 : ix_at mT_X5_sync 13 = some (.istore_n 1, 1) := by decide +kernel
theorem a_X5_sync_14 : ix_at mT_X5_sync 14 = some (.aload_n 0, 1) := by decide +kernel
theorem a_X5_sync_15 : ix_at mT_X5_sync 15 = some (.aload_n 0, 1) := by decide +kernel
theorem a_X5_sync_16 : ix_at mT_X5_sync 16 = some (.getfield 106, 3) := by decide +kernel
theorem a_X5_sync_19 : ix_at mT_X5_sync 19 = some (.putfield 109, 3) := by decide +kernel
theorem a_X5_sync_22 : ix_at mT_X5_sync 22 = some (.iload_n 1, 1) := by decide +kernel
theorem a_X5_sync_23 : ix_at mT_X5_sync 23 = some (.ireturn, 1) := by decide +kernel
theorem a_X5_crash_0 : ix_at mT_X5_crash 0 = some (.aload_n 0, 1) := by decide +kernel
theorem a_X5_crash_1 : ix_at mT_X5_crash 1 = some (.getfield 99, 3) := by decide +kernel
theorem a_X5_crash_4 : ix_at mT_X5_crash 4 = some (.ifCond .eq 5, 3) := by decide +kernel
theorem a_X5_crash_7 : ix_at mT_X5_crash 7 = some (.iconst (-1), 1) := by decide +kernel
theorem a_X5_crash_8 : ix_at mT_X5_crash 8 = some (.ireturn, 1) := by decide +kernel
theorem a_X5_crash_9 : ix_at mT_X5_crash 9 = some (.aload_n 0, 1) := by decide +kernel
theorem a_X5_crash_10 : ix_at mT_X5_crash 10 = some (.invokevirtual 199, 3) := by decide +kernel
theorem a_X5_crash_13 : ix_at mT_X5_crash 13 = some (.istore_n 2, 1) := by decide +kernel
theorem a_X5_crash_14 : ix_at mT_X5_crash 14 = some (.iload_n 1, 1) := by decide +kernel
theorem a_X5_crash_15 : ix_at mT_X5_crash 15 = some (.ifCond .lt 8, 3) := by decide +kernel
theorem a_X5_crash_18 : ix_at mT_X5_crash 18 = some (.iload_n 1, 1) := by decide +kernel
theorem a_X5_crash_19 : ix_at mT_X5_crash 19 = some (.iload_n 2, 1) := by decide +kernel
theorem a_X5_crash_20 : ix_at mT_X5_crash 20 = some (.if_icmp .le 6, 3) := by decide +kernel
theorem a_X5_crash_23 : ix_at mT_X5_crash 23 = some (.bipush (-2), 2) := by decide +kernel
theorem a_X5_crash_25 : ix_at mT_X5_crash 25 = some (.ireturn, 1) := by decide +kernel
theorem a_X5_crash_26 : ix_at mT_X5_crash 26 = some (.iload_n 1, 1) := by decide +kernel
theorem a_X5_crash_27 : ix_at mT_X5_crash 27 = some (.istore_n 3, 1) := by decide +kernel
theorem a_X5_crash_28 : ix_at mT_X5_crash 28 = some (.aload_n 0, 1) := by decide +kernel
theorem a_X5_crash_29 : ix_at mT_X5_crash 29 = some (.getfield 109, 3) := by decide +kernel
theorem a_X5_crash_32 : ix_at mT_X5_crash 32 = some (.istore 4, 2) := by decide +kernel
theorem a_X5_crash_34 : ix_at mT_X5_crash 34 = some (.iload 4, 2) := by decide +kernel
theorem a_X5_crash_36 : ix_at mT_X5_crash 36 = some (.aload_n 0, 1) := by decide +kernel
theorem a_X5_crash_37 : ix_at mT_X5_crash 37 = some (.getfield 106, 3) := by decide +kernel
theorem a_X5_crash_40 : ix_at mT_X5_crash 40 = some (.if_icmp .ge 28, 3) := by decide +kernel
theorem a_X5_crash_43 : ix_at mT_X5_crash 43 = some (.aload_n 0, 1) := by decide +kernel
theorem a_X5_crash_44 : ix_at mT_X5_crash 44 = some (.iload 4, 2) := by decide +kernel
theorem a_X5_crash_46 : ix_at mT_X5_crash 46 = some (.invokevirtual 121, 3) := by decide +kernel
theorem a_X5_crash_49 : ix_at mT_X5_crash 49 = some (.iload_n 3, 1) := by decide +kernel
theorem a_X5_crash_50 : ix_at mT_X5_crash 50 = some (.if_icmp .gt 18, 3) := by decide +kernel
theorem a_X5_crash_53 : ix_at mT_X5_crash 53 = some (.iload_n 3, 1) := by decide +kernel
theorem a_X5_crash_54 : ix_at mT_X5_crash 54 = some (.aload_n 0, 1) := by decide +kernel
theorem a_X5_crash_55 : ix_at mT_X5_crash 55 = some (.iload 4, 2) := by decide +kernel
theorem a_X5_crash_57 : ix_at mT_X5_crash 57 = some (.invokevirtual 121, 3) := by decide +kernel
theorem a_X5_crash_60 : ix_at mT_X5_crash 60 = some (.isub, 1) := by decide +kernel
theorem a_X5_crash_61 : ix_at mT_X5_crash 61 = some (.istore_n 3, 1) := by decide +kernel
theorem a_X5_crash_62 : ix_at mT_X5_crash 62 = some (.iinc 4 1, 3) := by decide +kernel
theorem a_X5_crash_65 : ix_at mT_X5_crash 65 = some (.goto (-31), 3) := by decide +kernel
theorem a_X5_crash_68 : ix_at mT_X5_crash 68 = some (.aload_n 0, 1) := by decide +kernel
theorem a_X5_crash_69 : ix_at mT_X5_crash 69 = some (.iload 4, 2) := by decide +kernel
theorem a_X5_crash_71 : ix_at mT_X5_crash 71 = some (.putfield 106, 3) := by decide +kernel
theorem a_X5_crash_74 : ix_at mT_X5_crash 74 = some (.aload_n 0, 1) := by decide +kernel
theorem a_X5_crash_75 : ix_at mT_X5_crash 75 = some (.iload 4, 2) := by decide +kernel
theorem a_X5_crash_77 : ix_at mT_X5_crash 77 = some (.putfield 109, 3) := by decide +kernel
theorem a_X5_crash_80 : ix_at mT_X5_crash 80 = some (.aload_n 0, 1) := by decide +kernel
theorem a_X5_crash_81 : ix_at mT_X5_crash 81 = some (.iload_n 3, 1) := by decide +kernel
theorem a_X5_crash_82 : ix_at mT_X5_crash 82 = some (.putfield 112, 3) := by decide +kernel
theorem a_X5_crash_85 : ix_at mT_X5_crash 85 = some (.aload_n 0, 1) := by decide +kernel
theorem a_X5_crash_86 : ix_at mT_X5_crash 86 = some (.iconst 1, 1) := by decide +kernel
theorem a_X5_crash_87 : ix_at mT_X5_crash 87 = some (.putfield 99, 3) := by decide +kernel
theorem a_X5_crash_90 : ix_at mT_X5_crash 90 = some (.aload_n 0, 1) := by decide +kernel
theorem a_X5_crash_91 : ix_at mT_X5_crash 91 = some (.invokevirtual 118, 3) := by decide +kernel
theorem a_X5_crash_94 : ix_at mT_X5_crash 94 = some (.iload_n 2, 1) := by decide +kernel
theorem a_X5_crash_95 : ix_at mT_X5_crash 95 = some (.iload_n 1, 1) := by decide +kernel
theorem a_X5_crash_96 : ix_at mT_X5_crash 96 = some (.isub, 1) := by decide +kernel
theorem a_X5_crash_97 : ix_at mT_X5_crash 97 = some (.ireturn, 1) := by decide +kernel
theorem a_X5_tells_0 : ix_at mT_X5_tells 0 = some (.aload_n 0, 1) := by decide +kernel
theorem a_X5_tells_1 : ix_at mT_X5_tells 1 = some (.getfield 16, 3) := by decide +kernel
theorem a_X5_tells_4 : ix_at mT_X5_tells 4 = some (.iload_n 1, 1) := by decide +kernel
theorem a_X5_tells_5 : ix_at mT_X5_tells 5 = some (.iaload, 1) := by decide +kernel
theorem a_X5_tells_6 : ix_at mT_X5_tells 6 = some (.istore_n 2, 1) := by decide +kernel
theorem a_X5_tells_7 : ix_at mT_X5_tells 7 = some (.aload_n 0, 1) := by decide +kernel
theorem a_X5_tells_8 : ix_at mT_X5_tells 8 = some (.getfield 13, 3) := by decide +kernel
theorem a_X5_tells_11 : ix_at mT_X5_tells 11 = some (.iload_n 1, 1) := by decide +kernel
theorem a_X5_tells_12 : ix_at mT_X5_tells 12 = some (.iaload, 1) := by decide +kernel
theorem a_X5_tells_13 : ix_at mT_X5_tells 13 = some (.tableswitch 183 0 5 #[39, 61, 81, 101, 126, 155], 39) := by decide +kernel
theorem a_X5_tells_52 : ix_at mT_X5_tells 52 = some (.aload_n 0, 1) := by decide +kernel
theorem a_X5_tells_53 : ix_at mT_X5_tells 53 = some (.getfield 36, 3) := by decide +kernel
theorem a_X5_tells_56 : ix_at mT_X5_tells 56 = some (.iload_n 2, 1) := by decide +kernel
theorem a_X5_tells_57 : ix_at mT_X5_tells 57 = some (.iconst 1, 1) := by decide +kernel
theorem a_X5_tells_58 : ix_at mT_X5_tells 58 = some (.bastore, 1) := by decide +kernel
theorem a_X5_tells_59 : ix_at mT_X5_tells 59 = some (.aload_n 0, 1) := by decide +kernel
theorem a_X5_tells_60 : ix_at mT_X5_tells 60 = some (.getfield 40, 3) := by decide +kernel
theorem a_X5_tells_63 : ix_at mT_X5_tells 63 = some (.iload_n 2, 1) := by decide +kernel
theorem a_X5_tells_64 : ix_at mT_X5_tells 64 = some (.aload_n 0, 1) := by decide +kernel
theorem a_X5_tells_65 : ix_at mT_X5_tells 65 = some (.getfield 19, 3) := by decide +kernel
theorem a_X5_tells_68 : ix_at mT_X5_tells 68 = some (.iload_n 1, 1) := by decide +kernel
theorem a_X5_tells_69 : ix_at mT_X5_tells 69 = some (.iaload, 1) := by decide +kernel
theorem a_X5_tells_70 : ix_at mT_X5_tells 70 = some (.iastore, 1) := by decide +kernel
theorem a_X5_tells_71 : ix_at mT_X5_tells 71 = some (.goto 142, 3) := by decide +kernel
theorem a_X5_tells_74 : ix_at mT_X5_tells 74 = some (.aload_n 0, 1) := by decide +kernel
theorem a_X5_tells_75 : ix_at mT_X5_tells 75 = some (.iload_n 2, 1) := by decide +kernel
theorem a_X5_tells_76 : ix_at mT_X5_tells 76 = some (.aload_n 0, 1) := by decide +kernel
theorem a_X5_tells_77 : ix_at mT_X5_tells 77 = some (.getfield 25, 3) := by decide +kernel
theorem a_X5_tells_80 : ix_at mT_X5_tells 80 = some (.iload_n 1, 1) := by decide +kernel
theorem a_X5_tells_81 : ix_at mT_X5_tells 81 = some (.iaload, 1) := by decide +kernel
theorem a_X5_tells_82 : ix_at mT_X5_tells 82 = some (.aload_n 0, 1) := by decide +kernel
theorem a_X5_tells_83 : ix_at mT_X5_tells 83 = some (.getfield 22, 3) := by decide +kernel
theorem a_X5_tells_86 : ix_at mT_X5_tells 86 = some (.iload_n 1, 1) := by decide +kernel
theorem a_X5_tells_87 : ix_at mT_X5_tells 87 = some (.iaload, 1) := by decide +kernel
theorem a_X5_tells_88 : ix_at mT_X5_tells 88 = some (.invokevirtual 161, 3) := by decide +kernel
theorem a_X5_tells_91 : ix_at mT_X5_tells 91 = some (.goto 122, 3) := by decide +kernel
theorem a_X5_tells_94 : ix_at mT_X5_tells 94 = some (.aload_n 0, 1) := by decide +kernel
theorem a_X5_tells_95 : ix_at mT_X5_tells 95 = some (.getfield 49, 3) := by decide +kernel
theorem a_X5_tells_98 : ix_at mT_X5_tells 98 = some (.iload_n 2, 1) := by decide +kernel
theorem a_X5_tells_99 : ix_at mT_X5_tells 99 = some (.dup2, 1) := by decide +kernel
theorem a_X5_tells_100 : ix_at mT_X5_tells 100 = some (.iaload, 1) := by decide +kernel
theorem a_X5_tells_101 : ix_at mT_X5_tells 101 = some (.iconst 1, 1) := by decide +kernel
theorem a_X5_tells_102 : ix_at mT_X5_tells 102 = some (.aload_n 0, 1) := by decide +kernel
theorem a_X5_tells_103 : ix_at mT_X5_tells 103 = some (.getfield 22, 3) := by decide +kernel
theorem a_X5_tells_106 : ix_at mT_X5_tells 106 = some (.iload_n 1, 1) := by decide +kernel
theorem a_X5_tells_107 : ix_at mT_X5_tells 107 = some (.iaload, 1) := by decide +kernel
theorem a_X5_tells_108 : ix_at mT_X5_tells 108 = some (.ishl, 1) := by decide +kernel
theorem a_X5_tells_109 : ix_at mT_X5_tells 109 = some (.ior, 1) := by decide +kernel
theorem a_X5_tells_110 : ix_at mT_X5_tells 110 = some (.iastore, 1) := by decide +kernel
theorem a_X5_tells_111 : ix_at mT_X5_tells 111 = some (.goto 102, 3) := by decide +kernel
theorem a_X5_tells_114 : ix_at mT_X5_tells 114 = some (.aload_n 0, 1) := by decide +kernel
theorem a_X5_tells_115 : ix_at mT_X5_tells 115 = some (.aload_n 0, 1) := by decide +kernel
theorem a_X5_tells_116 : ix_at mT_X5_tells 116 = some (.getfield 43, 3) := by decide +kernel
theorem a_X5_tells_119 : ix_at mT_X5_tells 119 = some (.iload_n 2, 1) := by decide +kernel
theorem a_X5_tells_120 : ix_at mT_X5_tells 120 = some (.iaload, 1) := by decide +kernel
theorem a_X5_tells_121 : ix_at mT_X5_tells 121 = some (.aload_n 0, 1) := by decide +kernel
theorem a_X5_tells_122 : ix_at mT_X5_tells 122 = some (.getfield 22, 3) := by decide +kernel
theorem a_X5_tells_125 : ix_at mT_X5_tells 125 = some (.iload_n 1, 1) := by decide +kernel
theorem a_X5_tells_126 : ix_at mT_X5_tells 126 = some (.iaload, 1) := by decide +kernel
theorem a_X5_tells_127 : ix_at mT_X5_tells 127 = some (.aload_n 0, 1) := by decide +kernel
theorem a_X5_tells_128 : ix_at mT_X5_tells 128 = some (.getfield 25, 3) := by decide +kernel
theorem a_X5_tells_131 : ix_at mT_X5_tells 131 = some (.iload_n 1, 1) := by decide +kernel
theorem a_X5_tells_132 : ix_at mT_X5_tells 132 = some (.iaload, 1) := by decide +kernel
theorem a_X5_tells_133 : ix_at mT_X5_tells 133 = some (.invokevirtual 188, 3) := by decide +kernel
theorem a_X5_tells_136 : ix_at mT_X5_tells 136 = some (.goto 77, 3) := by decide +kernel
theorem a_X5_tells_139 : ix_at mT_X5_tells 139 = some (.aload_n 0, 1) := by decide +kernel
theorem a_X5_tells_140 : ix_at mT_X5_tells 140 = some (.getfield 73, 3) := by decide +kernel
theorem a_X5_tells_143 : ix_at mT_X5_tells 143 = some (.aload_n 0, 1) := by decide +kernel
theorem a_X5_tells_144 : ix_at mT_X5_tells 144 = some (.getfield 25, 3) := by decide +kernel
theorem a_X5_tells_147 : ix_at mT_X5_tells 147 = some (.iload_n 1, 1) := by decide +kernel
theorem a_X5_tells_148 : ix_at mT_X5_tells 148 = some (.iaload, 1) := by decide +kernel
theorem a_X5_tells_149 : ix_at mT_X5_tells 149 = some (.aload_n 0, 1) := by decide +kernel
theorem a_X5_tells_150 : ix_at mT_X5_tells 150 = some (.getfield 22, 3) := by decide +kernel
theorem a_X5_tells_153 : ix_at mT_X5_tells 153 = some (.iload_n 1, 1) := by decide +kernel
theorem a_X5_tells_154 : ix_at mT_X5_tells 154 = some (.iaload, 1) := by decide +kernel
theorem a_X5_tells_155 : ix_at mT_X5_tells 155 = some (.iconst 1, 1) := by decide +kernel
theorem a_X5_tells_156 : ix_at mT_X5_tells 156 = some (.if_icmp .ne 7, 3) := by decide +kernel
theorem a_X5_tells_159 : ix_at mT_X5_tells 159 = some (.iconst 1, 1) := by decide +kernel
theorem a_X5_tells_160 : ix_at mT_X5_tells 160 = some (.goto 4, 3) := by decide +kernel
theorem a_X5_tells_163 : ix_at mT_X5_tells 163 = some (.iconst 2, 1) := by decide +kernel
theorem a_X5_tells_164 : ix_at mT_X5_tells 164 = some (.iastore, 1) := by decide +kernel
theorem a_X5_tells_165 : ix_at mT_X5_tells 165 = some (.goto 48, 3) := by decide +kernel
theorem a_X5_tells_168 : ix_at mT_X5_tells 168 = some (.aload_n 0, 1) := by decide +kernel
theorem a_X5_tells_169 : ix_at mT_X5_tells 169 = some (.iload_n 2, 1) := by decide +kernel
theorem a_X5_tells_170 : ix_at mT_X5_tells 170 = some (.aload_n 0, 1) := by decide +kernel
theorem a_X5_tells_171 : ix_at mT_X5_tells 171 = some (.getfield 73, 3) := by decide +kernel
theorem a_X5_tells_174 : ix_at mT_X5_tells 174 = some (.aload_n 0, 1) := by decide +kernel
theorem a_X5_tells_175 : ix_at mT_X5_tells 175 = some (.getfield 25, 3) := by decide +kernel
theorem a_X5_tells_178 : ix_at mT_X5_tells 178 = some (.iload_n 1, 1) := by decide +kernel
theorem a_X5_tells_179 : ix_at mT_X5_tells 179 = some (.iaload, 1) := by decide +kernel
theorem a_X5_tells_180 : ix_at mT_X5_tells 180 = some (.iaload, 1) := by decide +kernel
theorem a_X5_tells_181 : ix_at mT_X5_tells 181 = some (.iconst 1, 1) := by decide +kernel
theorem a_X5_tells_182 : ix_at mT_X5_tells 182 = some (.if_icmp .ne 7, 3) := by decide +kernel
theorem a_X5_tells_185 : ix_at mT_X5_tells 185 = some (.iconst 1, 1) := by decide +kernel
theorem a_X5_tells_186 : ix_at mT_X5_tells 186 = some (.goto 4, 3) := by decide +kernel
theorem a_X5_tells_189 : ix_at mT_X5_tells 189 = some (.iconst 0, 1) := by decide +kernel
theorem a_X5_tells_190 : ix_at mT_X5_tells 190 = some (.invokevirtual 133, 3) := by decide +kernel
theorem a_X5_tells_193 : ix_at mT_X5_tells 193 = some (.goto 20, 3) := by decide +kernel
theorem a_X5_tells_196 : ix_at mT_X5_tells 196 = some (.aload_n 0, 1) := by decide +kernel
theorem a_X5_tells_197 : ix_at mT_X5_tells 197 = some (.getfield 52, 3) := by decide +kernel
theorem a_X5_tells_200 : ix_at mT_X5_tells 200 = some (.aload_n 0, 1) := by decide +kernel
theorem a_X5_tells_201 : ix_at mT_X5_tells 201 = some (.getfield 22, 3) := by decide +kernel
theorem a_X5_tells_204 : ix_at mT_X5_tells 204 = some (.iload_n 1, 1) := by decide +kernel
theorem a_X5_tells_205 : ix_at mT_X5_tells 205 = some (.iaload, 1) := by decide +kernel
theorem a_X5_tells_206 : ix_at mT_X5_tells 206 = some (.aload_n 0, 1) := by decide +kernel
theorem a_X5_tells_207 : ix_at mT_X5_tells 207 = some (.getfield 25, 3) := by decide +kernel
theorem a_X5_tells_210 : ix_at mT_X5_tells 210 = some (.iload_n 1, 1) := by decide +kernel
theorem a_X5_tells_211 : ix_at mT_X5_tells 211 = some (.iaload, 1) := by decide +kernel
theorem a_X5_tells_212 : ix_at mT_X5_tells 212 = some (.iastore, 1) := by decide +kernel
theorem a_X5_tells_213 : ix_at mT_X5_tells 213 = some (.return_, 1) := by decide +kernel
theorem a_X5_open_0 : ix_at mT_X5_open 0 = some (.aload_n 0, 1) := by decide +kernel
theorem a_X5_open_1 : ix_at mT_X5_open 1 = some (.getfield 99, 3) := by decide +kernel
theorem a_X5_open_4 : ix_at mT_X5_open 4 = some (.ifCond .ne 5, 3) := by decide +kernel
theorem a_X5_open_7 : ix_at mT_X5_open 7 = some (.iconst (-1), 1) := by decide +kernel
theorem a_X5_open_8 : ix_at mT_X5_open 8 = some (.ireturn, 1) := by decide +kernel
theorem a_X5_open_9 : ix_at mT_X5_open 9 = some (.aload_n 0, 1) := by decide +kernel
theorem a_X5_open_10 : ix_at mT_X5_open 10 = some (.iconst 0, 1) := by decide +kernel
theorem a_X5_open_11 : ix_at mT_X5_open 11 = some (.putfield 99, 3) := by decide +kernel
theorem a_X5_open_14 : ix_at mT_X5_open 14 = some (.aload_n 0, 1) := by decide +kernel
theorem a_X5_open_15 : ix_at mT_X5_open 15 = some (.aload_n 0, 1) := by decide +kernel
theorem a_X5_open_16 : ix_at mT_X5_open 16 = some (.getfield 112, 3) := by decide +kernel
theorem a_X5_open_19 : ix_at mT_X5_open 19 = some (.putfield 103, 3) := by decide +kernel
theorem a_X5_open_22 : ix_at mT_X5_open 22 = some (.aload_n 0, 1) := by decide +kernel
theorem a_X5_open_23 : ix_at mT_X5_open 23 = some (.iconst 0, 1) := by decide +kernel
theorem a_X5_open_24 : ix_at mT_X5_open 24 = some (.putfield 112, 3) := by decide +kernel
theorem a_X5_open_27 : ix_at mT_X5_open 27 = some (.iconst 0, 1) := by decide +kernel
theorem a_X5_open_28 : ix_at mT_X5_open 28 = some (.istore_n 1, 1) := by decide +kernel
theorem a_X5_open_29 : ix_at mT_X5_open 29 = some (.iload_n 1, 1) := by decide +kernel
theorem a_X5_open_30 : ix_at mT_X5_open 30 = some (.sipush 1100, 3) := by decide +kernel
theorem a_X5_open_33 : ix_at mT_X5_open 33 = some (.if_icmp .ge 16, 3) := by decide +kernel
theorem a_X5_open_36 : ix_at mT_X5_open 36 = some (.aload_n 0, 1) := by decide +kernel
theorem a_X5_open_37 : ix_at mT_X5_open 37 = some (.getfield 73, 3) := by decide +kernel
theorem a_X5_open_40 : ix_at mT_X5_open 40 = some (.iload_n 1, 1) := by decide +kernel
theorem a_X5_open_41 : ix_at mT_X5_open 41 = some (.iconst 0, 1) := by decide +kernel
theorem a_X5_open_42 : ix_at mT_X5_open 42 = some (.iastore, 1) := by decide +kernel
theorem a_X5_open_43 : ix_at mT_X5_open 43 = some (.iinc 1 1, 3) := by decide +kernel
theorem a_X5_open_46 : ix_at mT_X5_open 46 = some (.goto (-17), 3) := by decide +kernel
theorem a_X5_open_49 : ix_at mT_X5_open 49 = some (.iconst 0, 1) := by decide +kernel
theorem a_X5_open_50 : ix_at mT_X5_open 50 = some (.istore_n 1, 1) := by decide +kernel
theorem a_X5_open_51 : ix_at mT_X5_open 51 = some (.iload_n 1, 1) := by decide +kernel
theorem a_X5_open_52 : ix_at mT_X5_open 52 = some (.aload_n 0, 1) := by decide +kernel
theorem a_X5_open_53 : ix_at mT_X5_open 53 = some (.getfield 106, 3) := by decide +kernel
theorem a_X5_open_56 : ix_at mT_X5_open 56 = some (.if_icmp .ge 27, 3) := by decide +kernel
theorem a_X5_open_59 : ix_at mT_X5_open 59 = some (.aload_n 0, 1) := by decide +kernel
theorem a_X5_open_60 : ix_at mT_X5_open 60 = some (.getfield 9, 3) := by decide +kernel
theorem a_X5_open_63 : ix_at mT_X5_open 63 = some (.iload_n 1, 1) := by decide +kernel
theorem a_X5_open_64 : ix_at mT_X5_open 64 = some (.iaload, 1) := by decide +kernel
theorem a_X5_open_65 : ix_at mT_X5_open 65 = some (.aload_n 0, 1) := by decide +kernel
theorem a_X5_open_66 : ix_at mT_X5_open 66 = some (.getfield 87, 3) := by decide +kernel
theorem a_X5_open_69 : ix_at mT_X5_open 69 = some (.if_icmp .ne 8, 3) := by decide +kernel
theorem a_X5_open_72 : ix_at mT_X5_open 72 = some (.aload_n 0, 1) := by decide +kernel
theorem a_X5_open_73 : ix_at mT_X5_open 73 = some (.iload_n 1, 1) := by decide +kernel
theorem a_X5_open_74 : ix_at mT_X5_open 74 = some (.invokevirtual 202, 3) := by decide +kernel
theorem a_X5_open_77 : ix_at mT_X5_open 77 = some (.iinc 1 1, 3) := by decide +kernel
theorem a_X5_open_80 : ix_at mT_X5_open 80 = some (.goto (-29), 3) := by decide +kernel
theorem a_X5_open_83 : ix_at mT_X5_open 83 = some (.iconst 0, 1) := by decide +kernel
theorem a_X5_open_84 : ix_at mT_X5_open 84 = some (.istore_n 1, 1) := by decide +kernel
theorem a_X5_open_85 : ix_at mT_X5_open 85 = some (.iconst 0, 1) := by decide +kernel
theorem a_X5_open_86 : ix_at mT_X5_open 86 = some (.istore_n 2, 1) := by decide +kernel
theorem a_X5_open_87 : ix_at mT_X5_open 87 = some (.iload_n 2, 1) := by decide +kernel
theorem a_X5_open_88 : ix_at mT_X5_open 88 = some (.aload_n 0, 1) := by decide +kernel
theorem a_X5_open_89 : ix_at mT_X5_open 89 = some (.getfield 80, 3) := by decide +kernel
theorem a_X5_open_92 : ix_at mT_X5_open 92 = some (.if_icmp .ge 65, 3) := by decide +kernel
theorem a_X5_open_95 : ix_at mT_X5_open 95 = some (.iconst 0, 1) := by decide +kernel
theorem a_X5_open_96 : ix_at mT_X5_open 96 = some (.istore_n 3, 1) := by decide +kernel
theorem a_X5_open_97 : ix_at mT_X5_open 97 = some (.iload_n 3, 1) := by decide +kernel
theorem a_X5_open_98 : ix_at mT_X5_open 98 = some (.bipush 32, 2) := by decide +kernel
theorem a_X5_open_100 : ix_at mT_X5_open 100 = some (.if_icmp .ge 51, 3) := by decide +kernel
theorem a_X5_open_103 : ix_at mT_X5_open 103 = some (.aload_n 0, 1) := by decide +kernel
theorem a_X5_open_104 : ix_at mT_X5_open 104 = some (.getfield 43, 3) := by decide +kernel
theorem a_X5_open_107 : ix_at mT_X5_open 107 = some (.iload_n 3, 1) := by decide +kernel
theorem a_X5_open_108 : ix_at mT_X5_open 108 = some (.iaload, 1) := by decide +kernel
theorem a_X5_open_109 : ix_at mT_X5_open 109 = some (.iload_n 2, 1) := by decide +kernel
theorem a_X5_open_110 : ix_at mT_X5_open 110 = some (.if_icmp .ne 35, 3) := by decide +kernel
theorem a_X5_open_113 : ix_at mT_X5_open 113 = some (.aload_n 0, 1) := by decide +kernel
theorem a_X5_open_114 : ix_at mT_X5_open 114 = some (.getfield 73, 3) := by decide +kernel
theorem a_X5_open_117 : ix_at mT_X5_open 117 = some (.iload_n 2, 1) := by decide +kernel
theorem a_X5_open_118 : ix_at mT_X5_open 118 = some (.iaload, 1) := by decide +kernel
theorem a_X5_open_119 : ix_at mT_X5_open 119 = some (.ifCond .eq 26, 3) := by decide +kernel
theorem a_X5_open_122 : ix_at mT_X5_open 122 = some (.aload_n 0, 1) := by decide +kernel
theorem a_X5_open_123 : ix_at mT_X5_open 123 = some (.iload_n 3, 1) := by decide +kernel
theorem a_X5_open_124 : ix_at mT_X5_open 124 = some (.aload_n 0, 1) := by decide +kernel
theorem a_X5_open_125 : ix_at mT_X5_open 125 = some (.getfield 73, 3) := by decide +kernel
theorem a_X5_open_128 : ix_at mT_X5_open 128 = some (.iload_n 2, 1) := by decide +kernel
theorem a_X5_open_129 : ix_at mT_X5_open 129 = some (.iaload, 1) := by decide +kernel
theorem a_X5_open_130 : ix_at mT_X5_open 130 = some (.iconst 1, 1) := by decide +kernel
theorem a_X5_open_131 : ix_at mT_X5_open 131 = some (.if_icmp .ne 7, 3) := by decide +kernel
theorem a_X5_open_134 : ix_at mT_X5_open 134 = some (.iconst 1, 1) := by decide +kernel
theorem a_X5_open_135 : ix_at mT_X5_open 135 = some (.goto 4, 3) := by decide +kernel
theorem a_X5_open_138 : ix_at mT_X5_open 138 = some (.iconst 0, 1) := by decide +kernel
theorem a_X5_open_139 : ix_at mT_X5_open 139 = some (.invokevirtual 141, 3) := by decide +kernel
theorem a_X5_open_142 : ix_at mT_X5_open 142 = some (.iinc 1 1, 3) := by decide +kernel
theorem a_X5_open_145 : ix_at mT_X5_open 145 = some (.iinc 3 1, 3) := by decide +kernel
theorem a_X5_open_148 : ix_at mT_X5_open 148 = some (.goto (-51), 3) := by decide +kernel
theorem a_X5_open_151 : ix_at mT_X5_open 151 = some (.iinc 2 1, 3) := by decide +kernel
theorem a_X5_open_154 : ix_at mT_X5_open 154 = some (.goto (-67), 3) := by decide +kernel
theorem a_X5_open_157 : ix_at mT_X5_open 157 = some (.iload_n 1, 1) := by decide +kernel
theorem a_X5_open_158 : ix_at mT_X5_open 158 = some (.ireturn, 1) := by decide +kernel
theorem a_X5_partition_0 : ix_at mT_X5_partition 0 = some (.aload_n 0, 1) := by decide +kernel
theorem a_X5_partition_1 : ix_at mT_X5_partition 1 = some (.iload_n 1, 1) := by decide +kernel
theorem a_X5_partition_2 : ix_at mT_X5_partition 2 = some (.invokevirtual 185, 3) := by decide +kernel
theorem a_X5_partition_5 : ix_at mT_X5_partition 5 = some (.ifCond .ne 5, 3) := by decide +kernel
theorem a_X5_partition_8 : ix_at mT_X5_partition 8 = some (.iconst (-1), 1) := by decide +kernel
theorem a_X5_partition_9 : ix_at mT_X5_partition 9 = some (.ireturn, 1) := by decide +kernel
theorem a_X5_partition_10 : ix_at mT_X5_partition 10 = some (.iload_n 2, 1) := by decide +kernel
theorem a_X5_partition_11 : ix_at mT_X5_partition 11 = some (.tableswitch 110 0 5 #[37, 43, 60, 66, 76, 93], 37) := by decide +kernel
theorem a_X5_partition_48 : ix_at mT_X5_partition 48 = some (.aload_n 0, 1) := by decide +kernel
theorem a_X5_partition_49 : ix_at mT_X5_partition 49 = some (.iload_n 1, 1) := by decide +kernel
theorem a_X5_partition_50 : ix_at mT_X5_partition 50 = some (.invokevirtual 205, 3) := by decide +kernel
theorem a_X5_partition_53 : ix_at mT_X5_partition 53 = some (.ireturn, 1) := by decide +kernel
theorem a_X5_partition_54 : ix_at mT_X5_partition 54 = some (.aload_n 0, 1) := by decide +kernel
theorem a_X5_partition_55 : ix_at mT_X5_partition 55 = some (.getfield 99, 3) := by decide +kernel
theorem a_X5_partition_58 : ix_at mT_X5_partition 58 = some (.ifCond .eq 7, 3) := by decide +kernel
theorem a_X5_partition_61 : ix_at mT_X5_partition 61 = some (.iconst (-1), 1) := by decide +kernel
theorem a_X5_partition_62 : ix_at mT_X5_partition 62 = some (.goto 8, 3) := by decide +kernel
theorem a_X5_partition_65 : ix_at mT_X5_partition 65 = some (.aload_n 0, 1) := by decide +kernel
theorem a_X5_partition_66 : ix_at mT_X5_partition 66 = some (.iload_n 1, 1) := by decide +kernel
theorem a_X5_partition_67 : ix_at mT_X5_partition 67 = some (.invokevirtual 192, 3) := by decide +kernel
theorem a_X5_partition_70 : ix_at mT_X5_partition 70 = some (.ireturn, 1) := by decide +kernel
theorem a_X5_partition_71 : ix_at mT_X5_partition 71 = some (.aload_n 0, 1) := by decide +kernel
theorem a_X5_partition_72 : ix_at mT_X5_partition 72 = some (.iload_n 1, 1) := by decide +kernel
theorem a_X5_partition_73 : ix_at mT_X5_partition 73 = some (.invokevirtual 208, 3) := by decide +kernel
theorem a_X5_partition_76 : ix_at mT_X5_partition 76 = some (.ireturn, 1) := by decide +kernel
theorem a_X5_partition_77 : ix_at mT_X5_partition 77 = some (.aload_n 0, 1) := by decide +kernel
theorem a_X5_partition_78 : ix_at mT_X5_partition 78 = some (.iload_n 1, 1) := by decide +kernel
theorem a_X5_partition_79 : ix_at mT_X5_partition 79 = some (.aload_n 0, 1) := by decide +kernel
theorem a_X5_partition_80 : ix_at mT_X5_partition 80 = some (.getfield 109, 3) := by decide +kernel
theorem a_X5_partition_83 : ix_at mT_X5_partition 83 = some (.invokevirtual 125, 3) := by decide +kernel
theorem a_X5_partition_86 : ix_at mT_X5_partition 86 = some (.ireturn, 1) := by decide +kernel
theorem a_X5_partition_87 : ix_at mT_X5_partition 87 = some (.aload_n 0, 1) := by decide +kernel
theorem a_X5_partition_88 : ix_at mT_X5_partition 88 = some (.getfield 99, 3) := by decide +kernel
theorem a_X5_partition_91 : ix_at mT_X5_partition 91 = some (.ifCond .eq 7, 3) := by decide +kernel
theorem a_X5_partition_94 : ix_at mT_X5_partition 94 = some (.iconst (-1), 1) := by decide +kernel
theorem a_X5_partition_95 : ix_at mT_X5_partition 95 = some (.goto 8, 3) := by decide +kernel
theorem a_X5_partition_98 : ix_at mT_X5_partition 98 = some (.aload_n 0, 1) := by decide +kernel
theorem a_X5_partition_99 : ix_at mT_X5_partition 99 = some (.iload_n 1, 1) := by decide +kernel
theorem a_X5_partition_100 : ix_at mT_X5_partition 100 = some (.invokevirtual 211, 3) := by decide +kernel
theorem a_X5_partition_103 : ix_at mT_X5_partition 103 = some (.ireturn, 1) := by decide +kernel
theorem a_X5_partition_104 : ix_at mT_X5_partition 104 = some (.aload_n 0, 1) := by decide +kernel
theorem a_X5_partition_105 : ix_at mT_X5_partition 105 = some (.getfield 99, 3) := by decide +kernel
theorem a_X5_partition_108 : ix_at mT_X5_partition 108 = some (.ifCond .eq 7, 3) := by decide +kernel
theorem a_X5_partition_111 : ix_at mT_X5_partition 111 = some (.iconst (-1), 1) := by decide +kernel
theorem a_X5_partition_112 : ix_at mT_X5_partition 112 = some (.goto 8, 3) := by decide +kernel
theorem a_X5_partition_115 : ix_at mT_X5_partition 115 = some (.aload_n 0, 1) := by decide +kernel
theorem a_X5_partition_116 : ix_at mT_X5_partition 116 = some (.iload_n 1, 1) := by decide +kernel
theorem a_X5_partition_117 : ix_at mT_X5_partition 117 = some (.invokevirtual 178, 3) := by decide +kernel
theorem a_X5_partition_120 : ix_at mT_X5_partition 120 = some (.ireturn, 1) := by decide +kernel
theorem a_X5_partition_121 : ix_at mT_X5_partition 121 = some (.iconst (-1), 1) := by decide +kernel
theorem a_X5_partition_122 : ix_at mT_X5_partition 122 = some (.ireturn, 1) := by decide +kernel
theorem a_X5_bytesOf_0 : ix_at mT_X5_bytesOf 0 = some (.aload_n 0, 1) := by decide +kernel
theorem a_X5_bytesOf_1 : ix_at mT_X5_bytesOf 1 = some (.iload_n 1, 1) := by decide +kernel
theorem a_X5_bytesOf_2 : ix_at mT_X5_bytesOf 2 = some (.iconst 0, 1) := by decide +kernel
theorem a_X5_bytesOf_3 : ix_at mT_X5_bytesOf 3 = some (.invokevirtual 125, 3) := by decide +kernel
theorem a_X5_bytesOf_6 : ix_at mT_X5_bytesOf 6 = some (.aload_n 0, 1) := by decide +kernel
theorem a_X5_bytesOf_7 : ix_at mT_X5_bytesOf 7 = some (.getfield 112, 3) := by decide +kernel
theorem a_X5_bytesOf_10 : ix_at mT_X5_bytesOf 10 = some (.ifCond .le 23, 3) := by decide +kernel
theorem a_X5_bytesOf_13 : ix_at mT_X5_bytesOf 13 = some (.aload_n 0, 1) := by decide +kernel
theorem a_X5_bytesOf_14 : ix_at mT_X5_bytesOf 14 = some (.getfield 9, 3) := by decide +kernel
theorem a_X5_bytesOf_17 : ix_at mT_X5_bytesOf 17 = some (.aload_n 0, 1) := by decide +kernel
theorem a_X5_bytesOf_18 : ix_at mT_X5_bytesOf 18 = some (.getfield 106, 3) := by decide +kernel
theorem a_X5_bytesOf_21 : ix_at mT_X5_bytesOf 21 = some (.iaload, 1) := by decide +kernel
theorem a_X5_bytesOf_22 : ix_at mT_X5_bytesOf 22 = some (.iload_n 1, 1) := by decide +kernel
theorem a_X5_bytesOf_23 : ix_at mT_X5_bytesOf 23 = some (.if_icmp .ne 10, 3) := by decide +kernel
theorem a_X5_bytesOf_26 : ix_at mT_X5_bytesOf 26 = some (.aload_n 0, 1) := by decide +kernel
theorem a_X5_bytesOf_27 : ix_at mT_X5_bytesOf 27 = some (.getfield 112, 3) := by decide +kernel
theorem a_X5_bytesOf_30 : ix_at mT_X5_bytesOf 30 = some (.goto 4, 3) := by decide +kernel
theorem a_X5_bytesOf_33 : ix_at mT_X5_bytesOf 33 = some (.iconst 0, 1) := by decide +kernel
theorem a_X5_bytesOf_34 : ix_at mT_X5_bytesOf 34 = some (.iadd, 1) := by decide +kernel
theorem a_X5_bytesOf_35 : ix_at mT_X5_bytesOf 35 = some (.ireturn, 1) := by decide +kernel
theorem a_X5_seenOf_0 : ix_at mT_X5_seenOf 0 = some (.aload_n 0, 1) := by decide +kernel
theorem a_X5_seenOf_1 : ix_at mT_X5_seenOf 1 = some (.iload_n 1, 1) := by decide +kernel
theorem a_X5_seenOf_2 : ix_at mT_X5_seenOf 2 = some (.invokevirtual 192, 3) := by decide +kernel
theorem a_X5_seenOf_5 : ix_at mT_X5_seenOf 5 = some (.istore_n 2, 1) := by decide +kernel
theorem a_X5_seenOf_6 : ix_at mT_X5_seenOf 6 = some (.iconst 0, 1) := by decide +kernel
theorem a_X5_seenOf_7 : ix_at mT_X5_seenOf 7 = some (.istore_n 3, 1) := by decide +kernel
theorem a_X5_seenOf_8 : ix_at mT_X5_seenOf 8 = some (.iconst 0, 1) := by decide +kernel
theorem a_X5_seenOf_9 : ix_at mT_X5_seenOf 9 = some (.istore 4, 2) := by decide +kernel
theorem a_X5_seenOf_11 : ix_at mT_X5_seenOf 11 = some (.iconst 0, 1) := by decide +kernel
theorem a_X5_seenOf_12 : ix_at mT_X5_seenOf 12 = some (.istore 5, 2) := by decide +kernel
theorem a_X5_seenOf_14 : ix_at mT_X5_seenOf 14 = some (.iload 5, 2) := by decide +kernel
theorem a_X5_seenOf_16 : ix_at mT_X5_seenOf 16 = some (.aload_n 0, 1) := by decide +kernel
theorem a_X5_seenOf_17 : ix_at mT_X5_seenOf 17 = some (.getfield 106, 3) := by decide +kernel
theorem a_X5_seenOf_20 : ix_at mT_X5_seenOf 20 = some (.if_icmp .ge 45, 3) := by decide +kernel
theorem a_X5_seenOf_23 : ix_at mT_X5_seenOf 23 = some (.aload_n 0, 1) := by decide +kernel
theorem a_X5_seenOf_24 : ix_at mT_X5_seenOf 24 = some (.getfield 9, 3) := by decide +kernel
theorem a_X5_seenOf_27 : ix_at mT_X5_seenOf 27 = some (.iload 5, 2) := by decide +kernel
theorem a_X5_seenOf_29 : ix_at mT_X5_seenOf 29 = some (.iaload, 1) := by decide +kernel
theorem a_X5_seenOf_30 : ix_at mT_X5_seenOf 30 = some (.iload_n 1, 1) := by decide +kernel
theorem a_X5_seenOf_31 : ix_at mT_X5_seenOf 31 = some (.if_icmp .ne 28, 3) := by decide +kernel
theorem a_X5_seenOf_34 : ix_at mT_X5_seenOf 34 = some (.iload 4, 2) := by decide +kernel
theorem a_X5_seenOf_36 : ix_at mT_X5_seenOf 36 = some (.aload_n 0, 1) := by decide +kernel
theorem a_X5_seenOf_37 : ix_at mT_X5_seenOf 37 = some (.iload 5, 2) := by decide +kernel
theorem a_X5_seenOf_39 : ix_at mT_X5_seenOf 39 = some (.iconst 1, 1) := by decide +kernel
theorem a_X5_seenOf_40 : ix_at mT_X5_seenOf 40 = some (.iload_n 3, 1) := by decide +kernel
theorem a_X5_seenOf_41 : ix_at mT_X5_seenOf 41 = some (.iload_n 2, 1) := by decide +kernel
theorem a_X5_seenOf_42 : ix_at mT_X5_seenOf 42 = some (.invokevirtual 195, 3) := by decide +kernel
theorem a_X5_seenOf_45 : ix_at mT_X5_seenOf 45 = some (.ifCond .eq 7, 3) := by decide +kernel
theorem a_X5_seenOf_48 : ix_at mT_X5_seenOf 48 = some (.iconst 1, 1) := by decide +kernel
theorem a_X5_seenOf_49 : ix_at mT_X5_seenOf 49 = some (.goto 4, 3) := by decide +kernel
theorem a_X5_seenOf_52 : ix_at mT_X5_seenOf 52 = some (.iconst 0, 1) := by decide +kernel
theorem a_X5_seenOf_53 : ix_at mT_X5_seenOf 53 = some (.iadd, 1) := by decide +kernel
theorem a_X5_seenOf_54 : ix_at mT_X5_seenOf 54 = some (.istore 4, 2) := by decide +kernel
theorem a_X5_seenOf_56 : ix_at mT_X5_seenOf 56 = some (.iinc 3 1, 3) := by decide +kernel
theorem a_X5_seenOf_59 : ix_at mT_X5_seenOf 59 = some (.iinc 5 1, 3) := by decide +kernel
theorem a_X5_seenOf_62 : ix_at mT_X5_seenOf 62 = some (.goto (-48), 3) := by decide +kernel
theorem a_X5_seenOf_65 : ix_at mT_X5_seenOf 65 = some (.iload 4, 2) := by decide +kernel
theorem a_X5_seenOf_67 : ix_at mT_X5_seenOf 67 = some (.ireturn, 1) := by decide +kernel
theorem a_X5_entry_0 : ix_at mT_X5_entry 0 = some (.aload_n 0, 1) := by decide +kernel
theorem a_X5_entry_1 : ix_at mT_X5_entry 1 = some (.iload_n 1, 1) := by decide +kernel
theorem a_X5_entry_2 : ix_at mT_X5_entry 2 = some (.invokevirtual 185, 3) := by decide +kernel
theorem a_X5_entry_5 : ix_at mT_X5_entry 5 = some (.ifCond .eq 7, 3) := by decide +kernel
theorem a_X5_entry_8 : ix_at mT_X5_entry 8 = some (.iload_n 2, 1) := by decide +kernel
theorem a_X5_entry_9 : ix_at mT_X5_entry 9 = some (.ifCond .ge 5, 3) := by decide +kernel
theorem a_X5_entry_12 : ix_at mT_X5_entry 12 = some (.iconst (-1), 1) := by decide +kernel
theorem a_X5_entry_13 : ix_at mT_X5_entry 13 = some (.ireturn, 1) := by decide +kernel
theorem a_X5_entry_14 : ix_at mT_X5_entry 14 = some (.iload_n 2, 1) := by decide +kernel
theorem a_X5_entry_15 : ix_at mT_X5_entry 15 = some (.istore 4, 2) := by decide +kernel
theorem a_X5_entry_17 : ix_at mT_X5_entry 17 = some (.iconst 0, 1) := by decide +kernel
theorem a_X5_entry_18 : ix_at mT_X5_entry 18 = some (.istore 5, 2) := by decide +kernel
theorem a_X5_entry_20 : ix_at mT_X5_entry 20 = some (.iload 5, 2) := by decide +kernel
theorem a_X5_entry_22 : ix_at mT_X5_entry 22 = some (.aload_n 0, 1) := by decide +kernel
theorem a_X5_entry_23 : ix_at mT_X5_entry 23 = some (.getfield 106, 3) := by decide +kernel
theorem a_X5_entry_26 : ix_at mT_X5_entry 26 = some (.if_icmp .ge 107, 3) := by decide +kernel
theorem a_X5_entry_29 : ix_at mT_X5_entry 29 = some (.aload_n 0, 1) := by decide +kernel
theorem a_X5_entry_30 : ix_at mT_X5_entry 30 = some (.getfield 9, 3) := by decide +kernel
theorem a_X5_entry_33 : ix_at mT_X5_entry 33 = some (.iload 5, 2) := by decide +kernel
theorem a_X5_entry_35 : ix_at mT_X5_entry 35 = some (.iaload, 1) := by decide +kernel
theorem a_X5_entry_36 : ix_at mT_X5_entry 36 = some (.iload_n 1, 1) := by decide +kernel
theorem a_X5_entry_37 : ix_at mT_X5_entry 37 = some (.if_icmp .eq 6, 3) := by decide +kernel
theorem a_X5_entry_40 : ix_at mT_X5_entry 40 = some (.goto 87, 3) := by decide +kernel
theorem a_X5_entry_43 : ix_at mT_X5_entry 43 = some (.iload 4, 2) := by decide +kernel
theorem a_X5_entry_45 : ix_at mT_X5_entry 45 = some (.ifCond .ne 79, 3) := by decide +kernel
theorem a_X5_entry_48 : ix_at mT_X5_entry 48 = some (.iload_n 3, 1) := by decide +kernel
theorem a_X5_entry_49 : ix_at mT_X5_entry 49 = some (.ifCond .ne 13, 3) := by decide +kernel
theorem a_X5_entry_52 : ix_at mT_X5_entry 52 = some (.aload_n 0, 1) := by decide +kernel
theorem a_X5_entry_53 : ix_at mT_X5_entry 53 = some (.getfield 13, 3) := by decide +kernel
theorem a_X5_entry_56 : ix_at mT_X5_entry 56 = some (.iload 5, 2) := by decide +kernel
theorem a_X5_entry_58 : ix_at mT_X5_entry 58 = some (.iaload, 1) := by decide +kernel
theorem a_X5_entry_59 : ix_at mT_X5_entry 59 = some (.goto 64, 3) := by decide +kernel
theorem a_X5_entry_62 : ix_at mT_X5_entry 62 = some (.iload_n 3, 1) := by decide +kernel
theorem a_X5_entry_63 : ix_at mT_X5_entry 63 = some (.iconst 1, 1) := by decide +kernel
theorem a_X5_entry_64 : ix_at mT_X5_entry 64 = some (.if_icmp .ne 13, 3) := by decide +kernel
theorem a_X5_entry_67 : ix_at mT_X5_entry 67 = some (.aload_n 0, 1) := by decide +kernel
theorem a_X5_entry_68 : ix_at mT_X5_entry 68 = some (.getfield 16, 3) := by decide +kernel
theorem a_X5_entry_71 : ix_at mT_X5_entry 71 = some (.iload 5, 2) := by decide +kernel
theorem a_X5_entry_73 : ix_at mT_X5_entry 73 = some (.iaload, 1) := by decide +kernel
theorem a_X5_entry_74 : ix_at mT_X5_entry 74 = some (.goto 49, 3) := by decide +kernel
theorem a_X5_entry_77 : ix_at mT_X5_entry 77 = some (.iload_n 3, 1) := by decide +kernel
theorem a_X5_entry_78 : ix_at mT_X5_entry 78 = some (.iconst 2, 1) := by decide +kernel
theorem a_X5_entry_79 : ix_at mT_X5_entry 79 = some (.if_icmp .ne 13, 3) := by decide +kernel
theorem a_X5_entry_82 : ix_at mT_X5_entry 82 = some (.aload_n 0, 1) := by decide +kernel
theorem a_X5_entry_83 : ix_at mT_X5_entry 83 = some (.getfield 19, 3) := by decide +kernel
theorem a_X5_entry_86 : ix_at mT_X5_entry 86 = some (.iload 5, 2) := by decide +kernel
theorem a_X5_entry_88 : ix_at mT_X5_entry 88 = some (.iaload, 1) := by decide +kernel
theorem a_X5_entry_89 : ix_at mT_X5_entry 89 = some (.goto 34, 3) := by decide +kernel
theorem a_X5_entry_92 : ix_at mT_X5_entry 92 = some (.iload_n 3, 1) := by decide +kernel
theorem a_X5_entry_93 : ix_at mT_X5_entry 93 = some (.iconst 3, 1) := by decide +kernel
theorem a_X5_entry_94 : ix_at mT_X5_entry 94 = some (.if_icmp .ne 13, 3) := by decide +kernel
theorem a_X5_entry_97 : ix_at mT_X5_entry 97 = some (.aload_n 0, 1) := by decide +kernel
theorem a_X5_entry_98 : ix_at mT_X5_entry 98 = some (.getfield 22, 3) := by decide +kernel
theorem a_X5_entry_101 : ix_at mT_X5_entry 101 = some (.iload 5, 2) := by decide +kernel
theorem a_X5_entry_103 : ix_at mT_X5_entry 103 = some (.iaload, 1) := by decide +kernel
theorem a_X5_entry_104 : ix_at mT_X5_entry 104 = some (.goto 19, 3) := by decide +kernel
theorem a_X5_entry_107 : ix_at mT_X5_entry 107 = some (.iload_n 3, 1) := by decide +kernel
theorem a_X5_entry_108 : ix_at mT_X5_entry 108 = some (.iconst 4, 1) := by decide +kernel
theorem a_X5_entry_109 : ix_at mT_X5_entry 109 = some (.if_icmp .ne 13, 3) := by decide +kernel
theorem a_X5_entry_112 : ix_at mT_X5_entry 112 = some (.aload_n 0, 1) := by decide +kernel
theorem a_X5_entry_113 : ix_at mT_X5_entry 113 = some (.getfield 25, 3) := by decide +kernel
theorem a_X5_entry_116 : ix_at mT_X5_entry 116 = some (.iload 5, 2) := by decide +kernel
theorem a_X5_entry_118 : ix_at mT_X5_entry 118 = some (.iaload, 1) := by decide +kernel
theorem a_X5_entry_119 : ix_at mT_X5_entry 119 = some (.goto 4, 3) := by decide +kernel
theorem a_X5_entry_122 : ix_at mT_X5_entry 122 = some (.iconst (-1), 1) := by decide +kernel
theorem a_X5_entry_123 : ix_at mT_X5_entry 123 = some (.ireturn, 1) := by decide +kernel
theorem a_X5_entry_124 : ix_at mT_X5_entry 124 = some (.iinc 4 (-1), 3) := by decide +kernel
theorem a_X5_entry_127 : ix_at mT_X5_entry 127 = some (.iinc 5 1, 3) := by decide +kernel
theorem a_X5_entry_130 : ix_at mT_X5_entry 130 = some (.goto (-110), 3) := by decide +kernel
theorem a_X5_entry_133 : ix_at mT_X5_entry 133 = some (.iconst (-1), 1) := by decide +kernel
theorem a_X5_entry_134 : ix_at mT_X5_entry 134 = some (.ireturn, 1) := by decide +kernel
theorem a_X5_producer_0 : ix_at mT_X5_producer 0 = some (.aload_n 0, 1) := by decide +kernel
theorem a_X5_producer_1 : ix_at mT_X5_producer 1 = some (.getfield 99, 3) := by decide +kernel
theorem a_X5_producer_4 : ix_at mT_X5_producer 4 = some (.ifCond .ne 22, 3) := by decide +kernel
theorem a_X5_producer_7 : ix_at mT_X5_producer 7 = some (.iload_n 1, 1) := by decide +kernel
theorem a_X5_producer_8 : ix_at mT_X5_producer 8 = some (.ifCond .lt 18, 3) := by decide +kernel
theorem a_X5_producer_11 : ix_at mT_X5_producer 11 = some (.iload_n 1, 1) := by decide +kernel
theorem a_X5_producer_12 : ix_at mT_X5_producer 12 = some (.bipush 31, 2) := by decide +kernel
theorem a_X5_producer_14 : ix_at mT_X5_producer 14 = some (.if_icmp .gt 12, 3) := by decide +kernel
theorem a_X5_producer_17 : ix_at mT_X5_producer 17 = some (.aload_n 0, 1) := by decide +kernel
theorem a_X5_producer_18 : ix_at mT_X5_producer 18 = some (.getfield 36, 3) := by decide +kernel
theorem a_X5_producer_21 : ix_at mT_X5_producer 21 = some (.iload_n 1, 1) := by decide +kernel
theorem a_X5_producer_22 : ix_at mT_X5_producer 22 = some (.baload, 1) := by decide +kernel
theorem a_X5_producer_23 : ix_at mT_X5_producer 23 = some (.ifCond .ne 5, 3) := by decide +kernel
theorem a_X5_producer_26 : ix_at mT_X5_producer 26 = some (.iconst (-1), 1) := by decide +kernel
theorem a_X5_producer_27 : ix_at mT_X5_producer 27 = some (.ireturn, 1) := by decide +kernel
theorem a_X5_producer_28 : ix_at mT_X5_producer 28 = some (.iload_n 2, 1) := by decide +kernel
theorem a_X5_producer_29 : ix_at mT_X5_producer 29 = some (.tableswitch 147 0 4 #[35, 42, 49, 70, 91], 35) := by decide +kernel
theorem a_X5_producer_64 : ix_at mT_X5_producer 64 = some (.aload_n 0, 1) := by decide +kernel
theorem a_X5_producer_65 : ix_at mT_X5_producer 65 = some (.getfield 40, 3) := by decide +kernel
theorem a_X5_producer_68 : ix_at mT_X5_producer 68 = some (.iload_n 1, 1) := by decide +kernel
theorem a_X5_producer_69 : ix_at mT_X5_producer 69 = some (.iaload, 1) := by decide +kernel
theorem a_X5_producer_70 : ix_at mT_X5_producer 70 = some (.ireturn, 1) := by decide +kernel
theorem a_X5_producer_71 : ix_at mT_X5_producer 71 = some (.aload_n 0, 1) := by decide +kernel
theorem a_X5_producer_72 : ix_at mT_X5_producer 72 = some (.getfield 43, 3) := by decide +kernel
theorem a_X5_producer_75 : ix_at mT_X5_producer 75 = some (.iload_n 1, 1) := by decide +kernel
theorem a_X5_producer_76 : ix_at mT_X5_producer 76 = some (.iaload, 1) := by decide +kernel
theorem a_X5_producer_77 : ix_at mT_X5_producer 77 = some (.ireturn, 1) := by decide +kernel
theorem a_X5_producer_78 : ix_at mT_X5_producer 78 = some (.aload_n 0, 1) := by decide +kernel
theorem a_X5_producer_79 : ix_at mT_X5_producer 79 = some (.getfield 43, 3) := by decide +kernel
theorem a_X5_producer_82 : ix_at mT_X5_producer 82 = some (.iload_n 1, 1) := by decide +kernel
theorem a_X5_producer_83 : ix_at mT_X5_producer 83 = some (.iaload, 1) := by decide +kernel
theorem a_X5_producer_84 : ix_at mT_X5_producer 84 = some (.iconst (-1), 1) := by decide +kernel
theorem a_X5_producer_85 : ix_at mT_X5_producer 85 = some (.if_icmp .ne 7, 3) := by decide +kernel
theorem a_X5_producer_88 : ix_at mT_X5_producer 88 = some (.iconst (-1), 1) := by decide +kernel
theorem a_X5_producer_89 : ix_at mT_X5_producer 89 = some (.goto 9, 3) := by decide +kernel
theorem a_X5_producer_92 : ix_at mT_X5_producer 92 = some (.aload_n 0, 1) := by decide +kernel
theorem a_X5_producer_93 : ix_at mT_X5_producer 93 = some (.getfield 46, 3) := by decide +kernel
theorem a_X5_producer_96 : ix_at mT_X5_producer 96 = some (.iload_n 1, 1) := by decide +kernel
theorem a_X5_producer_97 : ix_at mT_X5_producer 97 = some (.iaload, 1) := by decide +kernel
theorem a_X5_producer_98 : ix_at mT_X5_producer 98 = some (.ireturn, 1) := by decide +kernel
theorem a_X5_producer_99 : ix_at mT_X5_producer 99 = some (.aload_n 0, 1) := by decide +kernel
theorem a_X5_producer_100 : ix_at mT_X5_producer 100 = some (.getfield 43, 3) := by decide +kernel
theorem a_X5_producer_103 : ix_at mT_X5_producer 103 = some (.iload_n 1, 1) := by decide +kernel
theorem a_X5_producer_104 : ix_at mT_X5_producer 104 = some (.iaload, 1) := by decide +kernel
theorem a_X5_producer_105 : ix_at mT_X5_producer 105 = some (.iconst (-1), 1) := by decide +kernel
theorem a_X5_producer_106 : ix_at mT_X5_producer 106 = some (.if_icmp .ne 7, 3) := by decide +kernel
theorem a_X5_producer_109 : ix_at mT_X5_producer 109 = some (.iconst 0, 1) := by decide +kernel
theorem a_X5_producer_110 : ix_at mT_X5_producer 110 = some (.goto 9, 3) := by decide +kernel
theorem a_X5_producer_113 : ix_at mT_X5_producer 113 = some (.aload_n 0, 1) := by decide +kernel
theorem a_X5_producer_114 : ix_at mT_X5_producer 114 = some (.getfield 49, 3) := by decide +kernel
theorem a_X5_producer_117 : ix_at mT_X5_producer 117 = some (.iload_n 1, 1) := by decide +kernel
theorem a_X5_producer_118 : ix_at mT_X5_producer 118 = some (.iaload, 1) := by decide +kernel
theorem a_X5_producer_119 : ix_at mT_X5_producer 119 = some (.ireturn, 1) := by decide +kernel
theorem a_X5_producer_120 : ix_at mT_X5_producer 120 = some (.iconst 0, 1) := by decide +kernel
theorem a_X5_producer_121 : ix_at mT_X5_producer 121 = some (.istore_n 3, 1) := by decide +kernel
theorem a_X5_producer_122 : ix_at mT_X5_producer 122 = some (.iconst 0, 1) := by decide +kernel
theorem a_X5_producer_123 : ix_at mT_X5_producer 123 = some (.istore 4, 2) := by decide +kernel
theorem a_X5_producer_125 : ix_at mT_X5_producer 125 = some (.iload 4, 2) := by decide +kernel
theorem a_X5_producer_127 : ix_at mT_X5_producer 127 = some (.aload_n 0, 1) := by decide +kernel
theorem a_X5_producer_128 : ix_at mT_X5_producer 128 = some (.getfield 84, 3) := by decide +kernel
theorem a_X5_producer_131 : ix_at mT_X5_producer 131 = some (.if_icmp .ge 43, 3) := by decide +kernel
theorem a_X5_producer_134 : ix_at mT_X5_producer 134 = some (.aload_n 0, 1) := by decide +kernel
theorem a_X5_producer_135 : ix_at mT_X5_producer 135 = some (.getfield 43, 3) := by decide +kernel
theorem a_X5_producer_138 : ix_at mT_X5_producer 138 = some (.iload_n 1, 1) := by decide +kernel
theorem a_X5_producer_139 : ix_at mT_X5_producer 139 = some (.iaload, 1) := by decide +kernel
theorem a_X5_producer_140 : ix_at mT_X5_producer 140 = some (.iconst (-1), 1) := by decide +kernel
theorem a_X5_producer_141 : ix_at mT_X5_producer 141 = some (.if_icmp .eq 33, 3) := by decide +kernel
theorem a_X5_producer_144 : ix_at mT_X5_producer 144 = some (.iload_n 3, 1) := by decide +kernel
theorem a_X5_producer_145 : ix_at mT_X5_producer 145 = some (.aload_n 0, 1) := by decide +kernel
theorem a_X5_producer_146 : ix_at mT_X5_producer 146 = some (.getfield 58, 3) := by decide +kernel
theorem a_X5_producer_149 : ix_at mT_X5_producer 149 = some (.iload 4, 2) := by decide +kernel
theorem a_X5_producer_151 : ix_at mT_X5_producer 151 = some (.iaload, 1) := by decide +kernel
theorem a_X5_producer_152 : ix_at mT_X5_producer 152 = some (.aload_n 0, 1) := by decide +kernel
theorem a_X5_producer_153 : ix_at mT_X5_producer 153 = some (.getfield 43, 3) := by decide +kernel
theorem a_X5_producer_156 : ix_at mT_X5_producer 156 = some (.iload_n 1, 1) := by decide +kernel
theorem a_X5_producer_157 : ix_at mT_X5_producer 157 = some (.iaload, 1) := by decide +kernel
theorem a_X5_producer_158 : ix_at mT_X5_producer 158 = some (.if_icmp .ne 7, 3) := by decide +kernel
theorem a_X5_producer_161 : ix_at mT_X5_producer 161 = some (.iconst 1, 1) := by decide +kernel
theorem a_X5_producer_162 : ix_at mT_X5_producer 162 = some (.goto 4, 3) := by decide +kernel
theorem a_X5_producer_165 : ix_at mT_X5_producer 165 = some (.iconst 0, 1) := by decide +kernel
theorem a_X5_producer_166 : ix_at mT_X5_producer 166 = some (.iadd, 1) := by decide +kernel
theorem a_X5_producer_167 : ix_at mT_X5_producer 167 = some (.istore_n 3, 1) := by decide +kernel
theorem a_X5_producer_168 : ix_at mT_X5_producer 168 = some (.iinc 4 1, 3) := by decide +kernel
theorem a_X5_producer_171 : ix_at mT_X5_producer 171 = some (.goto (-46), 3) := by decide +kernel
theorem a_X5_producer_174 : ix_at mT_X5_producer 174 = some (.iload_n 3, 1) := by decide +kernel
theorem a_X5_producer_175 : ix_at mT_X5_producer 175 = some (.ireturn, 1) := by decide +kernel
theorem a_X5_producer_176 : ix_at mT_X5_producer 176 = some (.iconst (-1), 1) := by decide +kernel
theorem a_X5_producer_177 : ix_at mT_X5_producer 177 = some (.ireturn, 1) := by decide +kernel
theorem a_X5_next_0 : ix_at mT_X5_next 0 = some (.aload_n 0, 1) := by decide +kernel
theorem a_X5_next_1 : ix_at mT_X5_next 1 = some (.getfield 99, 3) := by decide +kernel
theorem a_X5_next_4 : ix_at mT_X5_next 4 = some (.ifCond .ne 30, 3) := by decide +kernel
theorem a_X5_next_7 : ix_at mT_X5_next 7 = some (.iload_n 1, 1) := by decide +kernel
theorem a_X5_next_8 : ix_at mT_X5_next 8 = some (.ifCond .lt 26, 3) := by decide +kernel
theorem a_X5_next_11 : ix_at mT_X5_next 11 = some (.iload_n 1, 1) := by decide +kernel
theorem a_X5_next_12 : ix_at mT_X5_next 12 = some (.bipush 31, 2) := by decide +kernel
theorem a_X5_next_14 : ix_at mT_X5_next 14 = some (.if_icmp .gt 20, 3) := by decide +kernel
theorem a_X5_next_17 : ix_at mT_X5_next 17 = some (.aload_n 0, 1) := by decide +kernel
theorem a_X5_next_18 : ix_at mT_X5_next 18 = some (.getfield 36, 3) := by decide +kernel
theorem a_X5_next_21 : ix_at mT_X5_next 21 = some (.iload_n 1, 1) := by decide +kernel
theorem a_X5_next_22 : ix_at mT_X5_next 22 = some (.baload, 1) := by decide +kernel
theorem a_X5_next_23 : ix_at mT_X5_next 23 = some (.ifCond .eq 11, 3) := by decide +kernel
theorem a_X5_next_26 : ix_at mT_X5_next 26 = some (.aload_n 0, 1) := by decide +kernel
theorem a_X5_next_27 : ix_at mT_X5_next 27 = some (.iload_n 2, 1) := by decide +kernel
theorem a_X5_next_28 : ix_at mT_X5_next 28 = some (.invokevirtual 185, 3) := by decide +kernel
theorem a_X5_next_31 : ix_at mT_X5_next 31 = some (.ifCond .ne 7, 3) := by decide +kernel
theorem a_X5_next_34 : ix_at mT_X5_next 34 = some (.iconst (-1), 1) := by decide +kernel
theorem a_X5_next_35 : ix_at mT_X5_next 35 = some (.goto 9, 3) := by decide +kernel
theorem a_X5_next_38 : ix_at mT_X5_next 38 = some (.aload_n 0, 1) := by decide +kernel
theorem a_X5_next_39 : ix_at mT_X5_next 39 = some (.iload_n 1, 1) := by decide +kernel
theorem a_X5_next_40 : ix_at mT_X5_next 40 = some (.iload_n 2, 1) := by decide +kernel
theorem a_X5_next_41 : ix_at mT_X5_next 41 = some (.invokevirtual 175, 3) := by decide +kernel
theorem a_X5_next_44 : ix_at mT_X5_next 44 = some (.ireturn, 1) := by decide +kernel
theorem a_X5_byteIn_0 : ix_at mT_X5_byteIn 0 = some (.iload_n 0, 1) := by decide +kernel
theorem a_X5_byteIn_1 : ix_at mT_X5_byteIn 1 = some (.bipush 8, 2) := by decide +kernel
theorem a_X5_byteIn_3 : ix_at mT_X5_byteIn 3 = some (.iload_n 1, 1) := by decide +kernel
theorem a_X5_byteIn_4 : ix_at mT_X5_byteIn 4 = some (.iconst 1, 1) := by decide +kernel
theorem a_X5_byteIn_5 : ix_at mT_X5_byteIn 5 = some (.isub, 1) := by decide +kernel
theorem a_X5_byteIn_6 : ix_at mT_X5_byteIn 6 = some (.iload_n 2, 1) := by decide +kernel
theorem a_X5_byteIn_7 : ix_at mT_X5_byteIn 7 = some (.isub, 1) := by decide +kernel
theorem a_X5_byteIn_8 : ix_at mT_X5_byteIn 8 = some (.imul, 1) := by decide +kernel
theorem a_X5_byteIn_9 : ix_at mT_X5_byteIn 9 = some (.ishr, 1) := by decide +kernel
theorem a_X5_byteIn_10 : ix_at mT_X5_byteIn 10 = some (.sipush 255, 3) := by decide +kernel
theorem a_X5_byteIn_13 : ix_at mT_X5_byteIn 13 = some (.iand, 1) := by decide +kernel
theorem a_X5_byteIn_14 : ix_at mT_X5_byteIn 14 = some (.ireturn, 1) := by decide +kernel
theorem a_X5_behind_0 : ix_at mT_X5_behind 0 = some (.aload_n 0, 1) := by decide +kernel
theorem a_X5_behind_1 : ix_at mT_X5_behind 1 = some (.getfield 9, 3) := by decide +kernel
theorem a_X5_behind_4 : ix_at mT_X5_behind 4 = some (.iload_n 1, 1) := by decide +kernel
theorem a_X5_behind_5 : ix_at mT_X5_behind 5 = some (.iaload, 1) := by decide +kernel
theorem a_X5_behind_6 : ix_at mT_X5_behind 6 = some (.aload_n 0, 1) := by decide +kernel
theorem a_X5_behind_7 : ix_at mT_X5_behind 7 = some (.getfield 87, 3) := by decide +kernel
theorem a_X5_behind_10 : ix_at mT_X5_behind 10 = some (.if_icmp .ne 92, 3) := by decide +kernel
theorem a_X5_behind_13 : ix_at mT_X5_behind 13 = some (.iload_n 2, 1) := by decide +kernel
theorem a_X5_behind_14 : ix_at mT_X5_behind 14 = some (.iconst 4, 1) := by decide +kernel
theorem a_X5_behind_15 : ix_at mT_X5_behind 15 = some (.if_icmp .ne 12, 3) := by decide +kernel
theorem a_X5_behind_18 : ix_at mT_X5_behind 18 = some (.aload_n 0, 1) := by decide +kernel
theorem a_X5_behind_19 : ix_at mT_X5_behind 19 = some (.getfield 13, 3) := by decide +kernel
theorem a_X5_behind_22 : ix_at mT_X5_behind 22 = some (.iload_n 1, 1) := by decide +kernel
theorem a_X5_behind_23 : ix_at mT_X5_behind 23 = some (.iaload, 1) := by decide +kernel
theorem a_X5_behind_24 : ix_at mT_X5_behind 24 = some (.goto 77, 3) := by decide +kernel
theorem a_X5_behind_27 : ix_at mT_X5_behind 27 = some (.iload_n 2, 1) := by decide +kernel
theorem a_X5_behind_28 : ix_at mT_X5_behind 28 = some (.iconst 5, 1) := by decide +kernel
theorem a_X5_behind_29 : ix_at mT_X5_behind 29 = some (.if_icmp .ne 12, 3) := by decide +kernel
theorem a_X5_behind_32 : ix_at mT_X5_behind 32 = some (.aload_n 0, 1) := by decide +kernel
theorem a_X5_behind_33 : ix_at mT_X5_behind 33 = some (.getfield 16, 3) := by decide +kernel
theorem a_X5_behind_36 : ix_at mT_X5_behind 36 = some (.iload_n 1, 1) := by decide +kernel
theorem a_X5_behind_37 : ix_at mT_X5_behind 37 = some (.iaload, 1) := by decide +kernel
theorem a_X5_behind_38 : ix_at mT_X5_behind 38 = some (.goto 63, 3) := by decide +kernel
theorem a_X5_behind_41 : ix_at mT_X5_behind 41 = some (.iload_n 2, 1) := by decide +kernel
theorem a_X5_behind_42 : ix_at mT_X5_behind 42 = some (.bipush 8, 2) := by decide +kernel
theorem a_X5_behind_44 : ix_at mT_X5_behind 44 = some (.if_icmp .ge 20, 3) := by decide +kernel
theorem a_X5_behind_47 : ix_at mT_X5_behind 47 = some (.aload_n 0, 1) := by decide +kernel
theorem a_X5_behind_48 : ix_at mT_X5_behind 48 = some (.getfield 19, 3) := by decide +kernel
theorem a_X5_behind_51 : ix_at mT_X5_behind 51 = some (.iload_n 1, 1) := by decide +kernel
theorem a_X5_behind_52 : ix_at mT_X5_behind 52 = some (.iaload, 1) := by decide +kernel
theorem a_X5_behind_53 : ix_at mT_X5_behind 53 = some (.iconst 2, 1) := by decide +kernel
theorem a_X5_behind_54 : ix_at mT_X5_behind 54 = some (.iload_n 2, 1) := by decide +kernel
theorem a_X5_behind_55 : ix_at mT_X5_behind 55 = some (.bipush 6, 2) := by decide +kernel
theorem a_X5_behind_57 : ix_at mT_X5_behind 57 = some (.isub, 1) := by decide +kernel
theorem a_X5_behind_58 : ix_at mT_X5_behind 58 = some (.invokestatic 214, 3) := by decide +kernel
theorem a_X5_behind_61 : ix_at mT_X5_behind 61 = some (.goto 40, 3) := by decide +kernel
theorem a_X5_behind_64 : ix_at mT_X5_behind 64 = some (.iload_n 2, 1) := by decide +kernel
theorem a_X5_behind_65 : ix_at mT_X5_behind 65 = some (.bipush 12, 2) := by decide +kernel
theorem a_X5_behind_67 : ix_at mT_X5_behind 67 = some (.if_icmp .ge 20, 3) := by decide +kernel
theorem a_X5_behind_70 : ix_at mT_X5_behind 70 = some (.aload_n 0, 1) := by decide +kernel
theorem a_X5_behind_71 : ix_at mT_X5_behind 71 = some (.getfield 22, 3) := by decide +kernel
theorem a_X5_behind_74 : ix_at mT_X5_behind 74 = some (.iload_n 1, 1) := by decide +kernel
theorem a_X5_behind_75 : ix_at mT_X5_behind 75 = some (.iaload, 1) := by decide +kernel
theorem a_X5_behind_76 : ix_at mT_X5_behind 76 = some (.iconst 4, 1) := by decide +kernel
theorem a_X5_behind_77 : ix_at mT_X5_behind 77 = some (.iload_n 2, 1) := by decide +kernel
theorem a_X5_behind_78 : ix_at mT_X5_behind 78 = some (.bipush 8, 2) := by decide +kernel
theorem a_X5_behind_80 : ix_at mT_X5_behind 80 = some (.isub, 1) := by decide +kernel
theorem a_X5_behind_81 : ix_at mT_X5_behind 81 = some (.invokestatic 214, 3) := by decide +kernel
theorem a_X5_behind_84 : ix_at mT_X5_behind 84 = some (.goto 17, 3) := by decide +kernel
theorem a_X5_behind_87 : ix_at mT_X5_behind 87 = some (.aload_n 0, 1) := by decide +kernel
theorem a_X5_behind_88 : ix_at mT_X5_behind 88 = some (.getfield 25, 3) := by decide +kernel
theorem a_X5_behind_91 : ix_at mT_X5_behind 91 = some (.iload_n 1, 1) := by decide +kernel
theorem a_X5_behind_92 : ix_at mT_X5_behind 92 = some (.iaload, 1) := by decide +kernel
theorem a_X5_behind_93 : ix_at mT_X5_behind 93 = some (.iconst 4, 1) := by decide +kernel
theorem a_X5_behind_94 : ix_at mT_X5_behind 94 = some (.iload_n 2, 1) := by decide +kernel
theorem a_X5_behind_95 : ix_at mT_X5_behind 95 = some (.bipush 12, 2) := by decide +kernel
theorem a_X5_behind_97 : ix_at mT_X5_behind 97 = some (.isub, 1) := by decide +kernel
theorem a_X5_behind_98 : ix_at mT_X5_behind 98 = some (.invokestatic 214, 3) := by decide +kernel
theorem a_X5_behind_101 : ix_at mT_X5_behind 101 = some (.ireturn, 1) := by decide +kernel
theorem a_X5_behind_102 : ix_at mT_X5_behind 102 = some (.iload_n 2, 1) := by decide +kernel
theorem a_X5_behind_103 : ix_at mT_X5_behind 103 = some (.bipush 6, 2) := by decide +kernel
theorem a_X5_behind_105 : ix_at mT_X5_behind 105 = some (.if_icmp .ge 17, 3) := by decide +kernel
theorem a_X5_behind_108 : ix_at mT_X5_behind 108 = some (.aload_n 0, 1) := by decide +kernel
theorem a_X5_behind_109 : ix_at mT_X5_behind 109 = some (.getfield 25, 3) := by decide +kernel
theorem a_X5_behind_112 : ix_at mT_X5_behind 112 = some (.iload_n 1, 1) := by decide +kernel
theorem a_X5_behind_113 : ix_at mT_X5_behind 113 = some (.iaload, 1) := by decide +kernel
theorem a_X5_behind_114 : ix_at mT_X5_behind 114 = some (.iconst 2, 1) := by decide +kernel
theorem a_X5_behind_115 : ix_at mT_X5_behind 115 = some (.iload_n 2, 1) := by decide +kernel
theorem a_X5_behind_116 : ix_at mT_X5_behind 116 = some (.iconst 4, 1) := by decide +kernel
theorem a_X5_behind_117 : ix_at mT_X5_behind 117 = some (.isub, 1) := by decide +kernel
theorem a_X5_behind_118 : ix_at mT_X5_behind 118 = some (.invokestatic 214, 3) := by decide +kernel
theorem a_X5_behind_121 : ix_at mT_X5_behind 121 = some (.ireturn, 1) := by decide +kernel
theorem a_X5_behind_122 : ix_at mT_X5_behind 122 = some (.iload_n 2, 1) := by decide +kernel
theorem a_X5_behind_123 : ix_at mT_X5_behind 123 = some (.bipush 8, 2) := by decide +kernel
theorem a_X5_behind_125 : ix_at mT_X5_behind 125 = some (.if_icmp .ge 25, 3) := by decide +kernel
theorem a_X5_behind_128 : ix_at mT_X5_behind 128 = some (.iload_n 2, 1) := by decide +kernel
theorem a_X5_behind_129 : ix_at mT_X5_behind 129 = some (.bipush 6, 2) := by decide +kernel
theorem a_X5_behind_131 : ix_at mT_X5_behind 131 = some (.if_icmp .ne 12, 3) := by decide +kernel
theorem a_X5_behind_134 : ix_at mT_X5_behind 134 = some (.aload_n 0, 1) := by decide +kernel
theorem a_X5_behind_135 : ix_at mT_X5_behind 135 = some (.getfield 13, 3) := by decide +kernel
theorem a_X5_behind_138 : ix_at mT_X5_behind 138 = some (.iload_n 1, 1) := by decide +kernel
theorem a_X5_behind_139 : ix_at mT_X5_behind 139 = some (.iaload, 1) := by decide +kernel
theorem a_X5_behind_140 : ix_at mT_X5_behind 140 = some (.goto 9, 3) := by decide +kernel
theorem a_X5_behind_143 : ix_at mT_X5_behind 143 = some (.aload_n 0, 1) := by decide +kernel
theorem a_X5_behind_144 : ix_at mT_X5_behind 144 = some (.getfield 16, 3) := by decide +kernel
theorem a_X5_behind_147 : ix_at mT_X5_behind 147 = some (.iload_n 1, 1) := by decide +kernel
theorem a_X5_behind_148 : ix_at mT_X5_behind 148 = some (.iaload, 1) := by decide +kernel
theorem a_X5_behind_149 : ix_at mT_X5_behind 149 = some (.ireturn, 1) := by decide +kernel
theorem a_X5_behind_150 : ix_at mT_X5_behind 150 = some (.iload_n 2, 1) := by decide +kernel
theorem a_X5_behind_151 : ix_at mT_X5_behind 151 = some (.bipush 10, 2) := by decide +kernel
theorem a_X5_behind_153 : ix_at mT_X5_behind 153 = some (.if_icmp .ge 20, 3) := by decide +kernel
theorem a_X5_behind_156 : ix_at mT_X5_behind 156 = some (.aload_n 0, 1) := by decide +kernel
theorem a_X5_behind_157 : ix_at mT_X5_behind 157 = some (.getfield 19, 3) := by decide +kernel
theorem a_X5_behind_160 : ix_at mT_X5_behind 160 = some (.iload_n 1, 1) := by decide +kernel
theorem a_X5_behind_161 : ix_at mT_X5_behind 161 = some (.iaload, 1) := by decide +kernel
theorem a_X5_behind_162 : ix_at mT_X5_behind 162 = some (.iconst 2, 1) := by decide +kernel
theorem a_X5_behind_163 : ix_at mT_X5_behind 163 = some (.iload_n 2, 1) := by decide +kernel
theorem a_X5_behind_164 : ix_at mT_X5_behind 164 = some (.bipush 8, 2) := by decide +kernel
theorem a_X5_behind_166 : ix_at mT_X5_behind 166 = some (.isub, 1) := by decide +kernel
theorem a_X5_behind_167 : ix_at mT_X5_behind 167 = some (.invokestatic 214, 3) := by decide +kernel
theorem a_X5_behind_170 : ix_at mT_X5_behind 170 = some (.goto 44, 3) := by decide +kernel
theorem a_X5_behind_173 : ix_at mT_X5_behind 173 = some (.iload_n 2, 1) := by decide +kernel
theorem a_X5_behind_174 : ix_at mT_X5_behind 174 = some (.bipush 14, 2) := by decide +kernel
theorem a_X5_behind_176 : ix_at mT_X5_behind 176 = some (.if_icmp .ge 20, 3) := by decide +kernel
theorem a_X5_behind_179 : ix_at mT_X5_behind 179 = some (.aload_n 0, 1) := by decide +kernel
theorem a_X5_behind_180 : ix_at mT_X5_behind 180 = some (.getfield 22, 3) := by decide +kernel
theorem a_X5_behind_183 : ix_at mT_X5_behind 183 = some (.iload_n 1, 1) := by decide +kernel
theorem a_X5_behind_184 : ix_at mT_X5_behind 184 = some (.iaload, 1) := by decide +kernel
theorem a_X5_behind_185 : ix_at mT_X5_behind 185 = some (.iconst 4, 1) := by decide +kernel
theorem a_X5_behind_186 : ix_at mT_X5_behind 186 = some (.iload_n 2, 1) := by decide +kernel
theorem a_X5_behind_187 : ix_at mT_X5_behind 187 = some (.bipush 10, 2) := by decide +kernel
theorem a_X5_behind_189 : ix_at mT_X5_behind 189 = some (.isub, 1) := by decide +kernel
theorem a_X5_behind_190 : ix_at mT_X5_behind 190 = some (.invokestatic 214, 3) := by decide +kernel
theorem a_X5_behind_193 : ix_at mT_X5_behind 193 = some (.goto 21, 3) := by decide +kernel
theorem a_X5_behind_196 : ix_at mT_X5_behind 196 = some (.aload_n 0, 1) := by decide +kernel
theorem a_X5_behind_197 : ix_at mT_X5_behind 197 = some (.getfield 32, 3) := by decide +kernel
theorem a_X5_behind_200 : ix_at mT_X5_behind 200 = some (.bipush 40, 2) := by decide +kernel
theorem a_X5_behind_202 : ix_at mT_X5_behind 202 = some (.iload_n 1, 1) := by decide +kernel
theorem a_X5_behind_203 : ix_at mT_X5_behind 203 = some (.imul, 1) := by decide +kernel
theorem a_X5_behind_204 : ix_at mT_X5_behind 204 = some (.iload_n 2, 1) := by decide +kernel
theorem a_X5_behind_205 : ix_at mT_X5_behind 205 = some (.iadd, 1) := by decide +kernel
theorem a_X5_behind_206 : ix_at mT_X5_behind 206 = some (.bipush 14, 2) := by decide +kernel
theorem a_X5_behind_208 : ix_at mT_X5_behind 208 = some (.isub, 1) := by decide +kernel
theorem a_X5_behind_209 : ix_at mT_X5_behind 209 = some (.baload, 1) := by decide +kernel
theorem a_X5_behind_210 : ix_at mT_X5_behind 210 = some (.sipush 255, 3) := by decide +kernel
theorem a_X5_behind_213 : ix_at mT_X5_behind 213 = some (.iand, 1) := by decide +kernel
theorem a_X5_behind_214 : ix_at mT_X5_behind 214 = some (.ireturn, 1) := by decide +kernel
theorem a_X5_byteAt_0 : ix_at mT_X5_byteAt 0 = some (.iload_n 2, 1) := by decide +kernel
theorem a_X5_byteAt_1 : ix_at mT_X5_byteAt 1 = some (.iconst 4, 1) := by decide +kernel
theorem a_X5_byteAt_2 : ix_at mT_X5_byteAt 2 = some (.if_icmp .lt 10, 3) := by decide +kernel
theorem a_X5_byteAt_5 : ix_at mT_X5_byteAt 5 = some (.aload_n 0, 1) := by decide +kernel
theorem a_X5_byteAt_6 : ix_at mT_X5_byteAt 6 = some (.iload_n 1, 1) := by decide +kernel
theorem a_X5_byteAt_7 : ix_at mT_X5_byteAt 7 = some (.iload_n 2, 1) := by decide +kernel
theorem a_X5_byteAt_8 : ix_at mT_X5_byteAt 8 = some (.invokevirtual 217, 3) := by decide +kernel
theorem a_X5_byteAt_11 : ix_at mT_X5_byteAt 11 = some (.ireturn, 1) := by decide +kernel
theorem a_X5_byteAt_12 : ix_at mT_X5_byteAt 12 = some (.bipush 17, 2) := by decide +kernel
theorem a_X5_byteAt_14 : ix_at mT_X5_byteAt 14 = some (.istore_n 3, 1) := by decide +kernel
theorem a_X5_byteAt_15 : ix_at mT_X5_byteAt 15 = some (.iconst 4, 1) := by decide +kernel
theorem a_X5_byteAt_16 : ix_at mT_X5_byteAt 16 = some (.istore 4, 2) := by decide +kernel
theorem a_X5_byteAt_18 : ix_at mT_X5_byteAt 18 = some (.iload 4, 2) := by decide +kernel
theorem a_X5_byteAt_20 : ix_at mT_X5_byteAt 20 = some (.aload_n 0, 1) := by decide +kernel
theorem a_X5_byteAt_21 : ix_at mT_X5_byteAt 21 = some (.iload_n 1, 1) := by decide +kernel
theorem a_X5_byteAt_22 : ix_at mT_X5_byteAt 22 = some (.invokevirtual 121, 3) := by decide +kernel
theorem a_X5_byteAt_25 : ix_at mT_X5_byteAt 25 = some (.if_icmp .ge 22, 3) := by decide +kernel
theorem a_X5_byteAt_28 : ix_at mT_X5_byteAt 28 = some (.iload_n 3, 1) := by decide +kernel
theorem a_X5_byteAt_29 : ix_at mT_X5_byteAt 29 = some (.bipush 31, 2) := by decide +kernel
theorem a_X5_byteAt_31 : ix_at mT_X5_byteAt 31 = some (.imul, 1) := by decide +kernel
theorem a_X5_byteAt_32 : ix_at mT_X5_byteAt 32 = some (.aload_n 0, 1) := by decide +kernel
theorem a_X5_byteAt_33 : ix_at mT_X5_byteAt 33 = some (.iload_n 1, 1) := by decide +kernel
theorem a_X5_byteAt_34 : ix_at mT_X5_byteAt 34 = some (.iload 4, 2) := by decide +kernel
theorem a_X5_byteAt_36 : ix_at mT_X5_byteAt 36 = some (.invokevirtual 217, 3) := by decide +kernel
theorem a_X5_byteAt_39 : ix_at mT_X5_byteAt 39 = some (.iadd, 1) := by decide +kernel
theorem a_X5_byteAt_40 : ix_at mT_X5_byteAt 40 = some (.istore_n 3, 1) := by decide +kernel
theorem a_X5_byteAt_41 : ix_at mT_X5_byteAt 41 = some (.iinc 4 1, 3) := by decide +kernel
theorem a_X5_byteAt_44 : ix_at mT_X5_byteAt 44 = some (.goto (-26), 3) := by decide +kernel
theorem a_X5_byteAt_47 : ix_at mT_X5_byteAt 47 = some (.iload_n 3, 1) := by decide +kernel
theorem a_X5_byteAt_48 : ix_at mT_X5_byteAt 48 = some (.iconst 4, 1) := by decide +kernel
theorem a_X5_byteAt_49 : ix_at mT_X5_byteAt 49 = some (.iload_n 2, 1) := by decide +kernel
theorem a_X5_byteAt_50 : ix_at mT_X5_byteAt 50 = some (.invokestatic 214, 3) := by decide +kernel
theorem a_X5_byteAt_53 : ix_at mT_X5_byteAt 53 = some (.ireturn, 1) := by decide +kernel
theorem a_X5_byteOf_0 : ix_at mT_X5_byteOf 0 = some (.iload_n 1, 1) := by decide +kernel
theorem a_X5_byteOf_1 : ix_at mT_X5_byteOf 1 = some (.ifCond .lt 24, 3) := by decide +kernel
theorem a_X5_byteOf_4 : ix_at mT_X5_byteOf 4 = some (.iload_n 1, 1) := by decide +kernel
theorem a_X5_byteOf_5 : ix_at mT_X5_byteOf 5 = some (.aload_n 0, 1) := by decide +kernel
theorem a_X5_byteOf_6 : ix_at mT_X5_byteOf 6 = some (.getfield 87, 3) := by decide +kernel
theorem a_X5_byteOf_9 : ix_at mT_X5_byteOf 9 = some (.if_icmp .gt 16, 3) := by decide +kernel
theorem a_X5_byteOf_12 : ix_at mT_X5_byteOf 12 = some (.iload_n 2, 1) := by decide +kernel
theorem a_X5_byteOf_13 : ix_at mT_X5_byteOf 13 = some (.ifCond .lt 12, 3) := by decide +kernel
theorem a_X5_byteOf_16 : ix_at mT_X5_byteOf 16 = some (.iload_n 2, 1) := by decide +kernel
theorem a_X5_byteOf_17 : ix_at mT_X5_byteOf 17 = some (.aload_n 0, 1) := by decide +kernel
theorem a_X5_byteOf_18 : ix_at mT_X5_byteOf 18 = some (.iload_n 1, 1) := by decide +kernel
theorem a_X5_byteOf_19 : ix_at mT_X5_byteOf 19 = some (.invokevirtual 208, 3) := by decide +kernel
theorem a_X5_byteOf_22 : ix_at mT_X5_byteOf 22 = some (.if_icmp .lt 5, 3) := by decide +kernel
theorem a_X5_byteOf_25 : ix_at mT_X5_byteOf 25 = some (.iconst (-1), 1) := by decide +kernel
theorem a_X5_byteOf_26 : ix_at mT_X5_byteOf 26 = some (.ireturn, 1) := by decide +kernel
theorem a_X5_byteOf_27 : ix_at mT_X5_byteOf 27 = some (.iload_n 2, 1) := by decide +kernel
theorem a_X5_byteOf_28 : ix_at mT_X5_byteOf 28 = some (.istore_n 3, 1) := by decide +kernel
theorem a_X5_byteOf_29 : ix_at mT_X5_byteOf 29 = some (.iconst 0, 1) := by decide +kernel
theorem a_X5_byteOf_30 : ix_at mT_X5_byteOf 30 = some (.istore 4, 2) := by decide +kernel
theorem a_X5_byteOf_32 : ix_at mT_X5_byteOf 32 = some (.iload 4, 2) := by decide +kernel
theorem a_X5_byteOf_34 : ix_at mT_X5_byteOf 34 = some (.aload_n 0, 1) := by decide +kernel
theorem a_X5_byteOf_35 : ix_at mT_X5_byteOf 35 = some (.getfield 106, 3) := by decide +kernel
theorem a_X5_byteOf_38 : ix_at mT_X5_byteOf 38 = some (.if_icmp .ge 50, 3) := by decide +kernel
theorem a_X5_byteOf_41 : ix_at mT_X5_byteOf 41 = some (.aload_n 0, 1) := by decide +kernel
theorem a_X5_byteOf_42 : ix_at mT_X5_byteOf 42 = some (.getfield 9, 3) := by decide +kernel
theorem a_X5_byteOf_45 : ix_at mT_X5_byteOf 45 = some (.iload 4, 2) := by decide +kernel
theorem a_X5_byteOf_47 : ix_at mT_X5_byteOf 47 = some (.iaload, 1) := by decide +kernel
theorem a_X5_byteOf_48 : ix_at mT_X5_byteOf 48 = some (.iload_n 1, 1) := by decide +kernel
theorem a_X5_byteOf_49 : ix_at mT_X5_byteOf 49 = some (.if_icmp .eq 6, 3) := by decide +kernel
theorem a_X5_byteOf_52 : ix_at mT_X5_byteOf 52 = some (.goto 30, 3) := by decide +kernel
theorem a_X5_byteOf_55 : ix_at mT_X5_byteOf 55 = some (.iload_n 3, 1) := by decide +kernel
theorem a_X5_byteOf_56 : ix_at mT_X5_byteOf 56 = some (.aload_n 0, 1) := by decide +kernel
theorem a_X5_byteOf_57 : ix_at mT_X5_byteOf 57 = some (.iload 4, 2) := by decide +kernel
theorem a_X5_byteOf_59 : ix_at mT_X5_byteOf 59 = some (.invokevirtual 121, 3) := by decide +kernel
theorem a_X5_byteOf_62 : ix_at mT_X5_byteOf 62 = some (.if_icmp .ge 11, 3) := by decide +kernel
theorem a_X5_byteOf_65 : ix_at mT_X5_byteOf 65 = some (.aload_n 0, 1) := by decide +kernel
theorem a_X5_byteOf_66 : ix_at mT_X5_byteOf 66 = some (.iload 4, 2) := by decide +kernel
theorem a_X5_byteOf_68 : ix_at mT_X5_byteOf 68 = some (.iload_n 3, 1) := by decide +kernel
theorem a_X5_byteOf_69 : ix_at mT_X5_byteOf 69 = some (.invokevirtual 220, 3) := by decide +kernel
theorem a_X5_byteOf_72 : ix_at mT_X5_byteOf 72 = some (.ireturn, 1) := by decide +kernel
theorem a_X5_byteOf_73 : ix_at mT_X5_byteOf 73 = some (.iload_n 3, 1) := by decide +kernel
theorem a_X5_byteOf_74 : ix_at mT_X5_byteOf 74 = some (.aload_n 0, 1) := by decide +kernel
theorem a_X5_byteOf_75 : ix_at mT_X5_byteOf 75 = some (.iload 4, 2) := by decide +kernel
theorem a_X5_byteOf_77 : ix_at mT_X5_byteOf 77 = some (.invokevirtual 121, 3) := by decide +kernel
theorem a_X5_byteOf_80 : ix_at mT_X5_byteOf 80 = some (.isub, 1) := by decide +kernel
theorem a_X5_byteOf_81 : ix_at mT_X5_byteOf 81 = some (.istore_n 3, 1) := by decide +kernel
theorem a_X5_byteOf_82 : ix_at mT_X5_byteOf 82 = some (.iinc 4 1, 3) := by decide +kernel
theorem a_X5_byteOf_85 : ix_at mT_X5_byteOf 85 = some (.goto (-53), 3) := by decide +kernel
theorem a_X5_byteOf_88 : ix_at mT_X5_byteOf 88 = some (.aload_n 0, 1) := by decide +kernel
theorem a_X5_byteOf_89 : ix_at mT_X5_byteOf 89 = some (.aload_n 0, 1) := by decide +kernel
theorem a_X5_byteOf_90 : ix_at mT_X5_byteOf 90 = some (.getfield 106, 3) := by decide +kernel
theorem a_X5_byteOf_93 : ix_at mT_X5_byteOf 93 = some (.iload_n 3, 1) := by decide +kernel
theorem a_X5_byteOf_94 : ix_at mT_X5_byteOf 94 = some (.invokevirtual 220, 3) := by decide +kernel
theorem a_X5_byteOf_97 : ix_at mT_X5_byteOf 97 = some (.ireturn, 1) := by decide +kernel
theorem a_X5_count_0 : ix_at mT_X5_count 0 = some (.iconst 0, 1) := by decide +kernel
theorem a_X5_count_1 : ix_at mT_X5_count 1 = some (.istore_n 2, 1) := by decide +kernel
theorem a_X5_count_2 : ix_at mT_X5_count 2 = some (.iconst 0, 1) := by decide +kernel
theorem a_X5_count_3 : ix_at mT_X5_count 3 = some (.istore_n 3, 1) := by decide +kernel
theorem a_X5_count_4 : ix_at mT_X5_count 4 = some (.iload_n 3, 1) := by decide +kernel
theorem a_X5_count_5 : ix_at mT_X5_count 5 = some (.bipush 32, 2) := by decide +kernel
theorem a_X5_count_7 : ix_at mT_X5_count 7 = some (.if_icmp .ge 26, 3) := by decide +kernel
theorem a_X5_count_10 : ix_at mT_X5_count 10 = some (.iload_n 2, 1) := by decide +kernel
theorem a_X5_count_11 : ix_at mT_X5_count 11 = some (.aload_n 0, 1) := by decide +kernel
theorem a_X5_count_12 : ix_at mT_X5_count 12 = some (.getfield 36, 3) := by decide +kernel
theorem a_X5_count_15 : ix_at mT_X5_count 15 = some (.iload_n 3, 1) := by decide +kernel
theorem a_X5_count_16 : ix_at mT_X5_count 16 = some (.baload, 1) := by decide +kernel
theorem a_X5_count_17 : ix_at mT_X5_count 17 = some (.ifCond .eq 7, 3) := by decide +kernel
theorem a_X5_count_20 : ix_at mT_X5_count 20 = some (.iconst 1, 1) := by decide +kernel
theorem a_X5_count_21 : ix_at mT_X5_count 21 = some (.goto 4, 3) := by decide +kernel
theorem a_X5_count_24 : ix_at mT_X5_count 24 = some (.iconst 0, 1) := by decide +kernel
theorem a_X5_count_25 : ix_at mT_X5_count 25 = some (.iadd, 1) := by decide +kernel
theorem a_X5_count_26 : ix_at mT_X5_count 26 = some (.istore_n 2, 1) := by decide +kernel
theorem a_X5_count_27 : ix_at mT_X5_count 27 = some (.iinc 3 1, 3) := by decide +kernel
theorem a_X5_count_30 : ix_at mT_X5_count 30 = some (.goto (-26), 3) := by decide +kernel
theorem a_X5_count_33 : ix_at mT_X5_count 33 = some (.iload_n 1, 1) := by decide +kernel
theorem a_X5_count_34 : ix_at mT_X5_count 34 = some (.tableswitch 164 0 11 #[62, 67, 72, 77, 82, 87, 96, 101, 114, 119, 132, 148], 62) := by decide +kernel
theorem a_X5_count_96 : ix_at mT_X5_count 96 = some (.aload_n 0, 1) := by decide +kernel
theorem a_X5_count_97 : ix_at mT_X5_count 97 = some (.getfield 87, 3) := by decide +kernel
theorem a_X5_count_100 : ix_at mT_X5_count 100 = some (.ireturn, 1) := by decide +kernel
theorem a_X5_count_101 : ix_at mT_X5_count 101 = some (.aload_n 0, 1) := by decide +kernel
theorem a_X5_count_102 : ix_at mT_X5_count 102 = some (.getfield 90, 3) := by decide +kernel
theorem a_X5_count_105 : ix_at mT_X5_count 105 = some (.ireturn, 1) := by decide +kernel
theorem a_X5_count_106 : ix_at mT_X5_count 106 = some (.aload_n 0, 1) := by decide +kernel
theorem a_X5_count_107 : ix_at mT_X5_count 107 = some (.getfield 93, 3) := by decide +kernel
theorem a_X5_count_110 : ix_at mT_X5_count 110 = some (.ireturn, 1) := by decide +kernel
theorem a_X5_count_111 : ix_at mT_X5_count 111 = some (.aload_n 0, 1) := by decide +kernel
theorem a_X5_count_112 : ix_at mT_X5_count 112 = some (.getfield 96, 3) := by decide +kernel
theorem a_X5_count_115 : ix_at mT_X5_count 115 = some (.ireturn, 1) := by decide +kernel
theorem a_X5_count_116 : ix_at mT_X5_count 116 = some (.aload_n 0, 1) := by decide +kernel
theorem a_X5_count_117 : ix_at mT_X5_count 117 = some (.invokevirtual 199, 3) := by decide +kernel
theorem a_X5_count_120 : ix_at mT_X5_count 120 = some (.ireturn, 1) := by decide +kernel
theorem a_X5_count_121 : ix_at mT_X5_count 121 = some (.aload_n 0, 1) := by decide +kernel
theorem a_X5_count_122 : ix_at mT_X5_count 122 = some (.aload_n 0, 1) := by decide +kernel
theorem a_X5_count_123 : ix_at mT_X5_count 123 = some (.getfield 87, 3) := by decide +kernel
theorem a_X5_count_126 : ix_at mT_X5_count 126 = some (.invokevirtual 208, 3) := by decide +kernel
theorem a_X5_count_129 : ix_at mT_X5_count 129 = some (.ireturn, 1) := by decide +kernel
theorem a_X5_count_130 : ix_at mT_X5_count 130 = some (.aload_n 0, 1) := by decide +kernel
theorem a_X5_count_131 : ix_at mT_X5_count 131 = some (.getfield 168, 3) := by decide +kernel
theorem a_X5_count_134 : ix_at mT_X5_count 134 = some (.ireturn, 1) := by decide +kernel
theorem a_X5_count_135 : ix_at mT_X5_count 135 = some (.aload_n 0, 1) := by decide +kernel
theorem a_X5_count_136 : ix_at mT_X5_count 136 = some (.getfield 99, 3) := by decide +kernel
theorem a_X5_count_139 : ix_at mT_X5_count 139 = some (.ifCond .eq 7, 3) := by decide +kernel
theorem a_X5_count_142 : ix_at mT_X5_count 142 = some (.iconst 1, 1) := by decide +kernel
theorem a_X5_count_143 : ix_at mT_X5_count 143 = some (.goto 4, 3) := by decide +kernel
theorem a_X5_count_146 : ix_at mT_X5_count 146 = some (.iconst 0, 1) := by decide +kernel
theorem a_X5_count_147 : ix_at mT_X5_count 147 = some (.ireturn, 1) := by decide +kernel
theorem a_X5_count_148 : ix_at mT_X5_count 148 = some (.aload_n 0, 1) := by decide +kernel
theorem a_X5_count_149 : ix_at mT_X5_count 149 = some (.getfield 103, 3) := by decide +kernel
theorem a_X5_count_152 : ix_at mT_X5_count 152 = some (.ireturn, 1) := by decide +kernel
theorem a_X5_count_153 : ix_at mT_X5_count 153 = some (.aload_n 0, 1) := by decide +kernel
theorem a_X5_count_154 : ix_at mT_X5_count 154 = some (.getfield 99, 3) := by decide +kernel
theorem a_X5_count_157 : ix_at mT_X5_count 157 = some (.ifCond .eq 7, 3) := by decide +kernel
theorem a_X5_count_160 : ix_at mT_X5_count 160 = some (.iconst (-1), 1) := by decide +kernel
theorem a_X5_count_161 : ix_at mT_X5_count 161 = some (.goto 4, 3) := by decide +kernel
theorem a_X5_count_164 : ix_at mT_X5_count 164 = some (.iload_n 2, 1) := by decide +kernel
theorem a_X5_count_165 : ix_at mT_X5_count 165 = some (.ireturn, 1) := by decide +kernel
theorem a_X5_count_166 : ix_at mT_X5_count 166 = some (.aload_n 0, 1) := by decide +kernel
theorem a_X5_count_167 : ix_at mT_X5_count 167 = some (.getfield 99, 3) := by decide +kernel
theorem a_X5_count_170 : ix_at mT_X5_count 170 = some (.ifCond .eq 7, 3) := by decide +kernel
theorem a_X5_count_173 : ix_at mT_X5_count 173 = some (.iconst (-1), 1) := by decide +kernel
theorem a_X5_count_174 : ix_at mT_X5_count 174 = some (.goto 7, 3) := by decide +kernel
theorem a_X5_count_177 : ix_at mT_X5_count 177 = some (.aload_n 0, 1) := by decide +kernel
theorem a_X5_count_178 : ix_at mT_X5_count 178 = some (.invokevirtual 147, 3) := by decide +kernel
theorem a_X5_count_181 : ix_at mT_X5_count 181 = some (.ireturn, 1) := by decide +kernel
theorem a_X5_count_182 : ix_at mT_X5_count 182 = some (.aload_n 0, 1) := by decide +kernel
theorem a_X5_count_183 : ix_at mT_X5_count 183 = some (.getfield 99, 3) := by decide +kernel
theorem a_X5_count_186 : ix_at mT_X5_count 186 = some (.ifCond .eq 7, 3) := by decide +kernel
theorem a_X5_count_189 : ix_at mT_X5_count 189 = some (.iconst (-1), 1) := by decide +kernel
theorem a_X5_count_190 : ix_at mT_X5_count 190 = some (.goto 7, 3) := by decide +kernel
theorem a_X5_count_193 : ix_at mT_X5_count 193 = some (.aload_n 0, 1) := by decide +kernel
theorem a_X5_count_194 : ix_at mT_X5_count 194 = some (.getfield 80, 3) := by decide +kernel
theorem a_X5_count_197 : ix_at mT_X5_count 197 = some (.ireturn, 1) := by decide +kernel
theorem a_X5_count_198 : ix_at mT_X5_count 198 = some (.iconst (-1), 1) := by decide +kernel
theorem a_X5_count_199 : ix_at mT_X5_count 199 = some (.ireturn, 1) := by decide +kernel
theorem a_J7_fill_53178_0 : ix_at mT_J7_fill_53178 0 = some (.iconst 0, 1) := by decide +kernel
theorem a_J7_fill_53178_1 : ix_at mT_J7_fill_53178 1 = some (.istore_n 2, 1) := by decide +kernel
theorem a_J7_fill_53178_2 : ix_at mT_J7_fill_53178 2 = some (.aload_n 0, 1) := by decide +kernel
theorem a_J7_fill_53178_3 : ix_at mT_J7_fill_53178 3 = some (.arraylength, 1) := by decide +kernel
theorem a_J7_fill_53178_4 : ix_at mT_J7_fill_53178 4 = some (.istore_n 3, 1) := by decide +kernel
theorem a_J7_fill_53178_5 : ix_at mT_J7_fill_53178 5 = some (.iload_n 2, 1) := by decide +kernel
theorem a_J7_fill_53178_6 : ix_at mT_J7_fill_53178 6 = some (.iload_n 3, 1) := by decide +kernel
theorem a_J7_fill_53178_7 : ix_at mT_J7_fill_53178 7 = some (.if_icmp .ge 13, 3) := by decide +kernel
theorem a_J7_fill_53178_10 : ix_at mT_J7_fill_53178 10 = some (.aload_n 0, 1) := by decide +kernel
theorem a_J7_fill_53178_11 : ix_at mT_J7_fill_53178 11 = some (.iload_n 2, 1) := by decide +kernel
theorem a_J7_fill_53178_12 : ix_at mT_J7_fill_53178 12 = some (.iload_n 1, 1) := by decide +kernel
theorem a_J7_fill_53178_13 : ix_at mT_J7_fill_53178 13 = some (.iastore, 1) := by decide +kernel
theorem a_J7_fill_53178_14 : ix_at mT_J7_fill_53178 14 = some (.iinc 2 1, 3) := by decide +kernel
theorem a_J7_fill_53178_17 : ix_at mT_J7_fill_53178 17 = some (.goto (-12), 3) := by decide +kernel
theorem a_J7_fill_53178_20 : ix_at mT_J7_fill_53178 20 = some (.return_, 1) := by decide +kernel
theorem a_L_law_0 : ix_at mT_L_law 0 = some (.new 7, 3) := by decide +kernel
theorem a_L_law_3 : ix_at mT_L_law 3 = some (.dup, 1) := by decide +kernel
theorem a_L_law_4 : ix_at mT_L_law 4 = some (.invokespecial 9, 3) := by decide +kernel
theorem a_L_law_7 : ix_at mT_L_law 7 = some (.astore_n 1, 1) := by decide +kernel
theorem a_L_law_8 : ix_at mT_L_law 8 = some (.new 10, 3) := by decide +kernel
theorem a_L_law_11 : ix_at mT_L_law 11 = some (.dup, 1) := by decide +kernel
theorem a_L_law_12 : ix_at mT_L_law 12 = some (.invokespecial 12, 3) := by decide +kernel
theorem a_L_law_15 : ix_at mT_L_law 15 = some (.astore_n 2, 1) := by decide +kernel
theorem a_L_law_16 : ix_at mT_L_law 16 = some (.iconst 0, 1) := by decide +kernel
theorem a_L_law_17 : ix_at mT_L_law 17 = some (.istore_n 3, 1) := by decide +kernel
theorem a_L_law_18 : ix_at mT_L_law 18 = some (.iload_n 3, 1) := by decide +kernel
theorem a_L_law_19 : ix_at mT_L_law 19 = some (.aload_n 0, 1) := by decide +kernel
theorem a_L_law_20 : ix_at mT_L_law 20 = some (.arraylength, 1) := by decide +kernel
theorem a_L_law_21 : ix_at mT_L_law 21 = some (.bipush 6, 2) := by decide +kernel
theorem a_L_law_23 : ix_at mT_L_law 23 = some (.isub, 1) := by decide +kernel
theorem a_L_law_24 : ix_at mT_L_law 24 = some (.if_icmp .gt 945, 3) := by decide +kernel
theorem a_L_law_27 : ix_at mT_L_law 27 = some (.aload_n 0, 1) := by decide +kernel
theorem a_L_law_28 : ix_at mT_L_law 28 = some (.iload_n 3, 1) := by decide +kernel
theorem a_L_law_29 : ix_at mT_L_law 29 = some (.iaload, 1) := by decide +kernel
theorem a_L_law_30 : ix_at mT_L_law 30 = some (.bipush 31, 2) := by decide +kernel
theorem a_L_law_32 : ix_at mT_L_law 32 = some (.iand, 1) := by decide +kernel
theorem a_L_law_33 : ix_at mT_L_law 33 = some (.tableswitch 930 0 20 #[99, 142, 245, 268, 301, 380, 443, 502, 545, 578, 601, 660, 683, 696, 719, 732, 765, 808, 841, 874, 907], 99) := by decide +kernel
theorem a_L_law_132 : ix_at mT_L_law 132 = some (.aload_n 1, 1) := by decide +kernel
theorem a_L_law_133 : ix_at mT_L_law 133 = some (.aload_n 0, 1) := by decide +kernel
theorem a_L_law_134 : ix_at mT_L_law 134 = some (.iload_n 3, 1) := by decide +kernel
theorem a_L_law_135 : ix_at mT_L_law 135 = some (.iconst 1, 1) := by decide +kernel
theorem a_L_law_136 : ix_at mT_L_law 136 = some (.iadd, 1) := by decide +kernel
theorem a_L_law_137 : ix_at mT_L_law 137 = some (.iaload, 1) := by decide +kernel
theorem a_L_law_138 : ix_at mT_L_law 138 = some (.aload_n 0, 1) := by decide +kernel
theorem a_L_law_139 : ix_at mT_L_law 139 = some (.iload_n 3, 1) := by decide +kernel
theorem a_L_law_140 : ix_at mT_L_law 140 = some (.iconst 2, 1) := by decide +kernel
theorem a_L_law_141 : ix_at mT_L_law 141 = some (.iadd, 1) := by decide +kernel
theorem a_L_law_142 : ix_at mT_L_law 142 = some (.iaload, 1) := by decide +kernel
theorem a_L_law_143 : ix_at mT_L_law 143 = some (.aload_n 0, 1) := by decide +kernel
theorem a_L_law_144 : ix_at mT_L_law 144 = some (.iload_n 3, 1) := by decide +kernel
theorem a_L_law_145 : ix_at mT_L_law 145 = some (.iconst 3, 1) := by decide +kernel
theorem a_L_law_146 : ix_at mT_L_law 146 = some (.iadd, 1) := by decide +kernel
theorem a_L_law_147 : ix_at mT_L_law 147 = some (.iaload, 1) := by decide +kernel
theorem a_L_law_148 : ix_at mT_L_law 148 = some (.invokevirtual 13, 3) := by decide +kernel
theorem a_L_law_151 : ix_at mT_L_law 151 = some (.aload_n 2, 1) := by decide +kernel
theorem a_L_law_152 : ix_at mT_L_law 152 = some (.aload_n 0, 1) := by decide +kernel
theorem a_L_law_153 : ix_at mT_L_law 153 = some (.iload_n 3, 1) := by decide +kernel
theorem a_L_law_154 : ix_at mT_L_law 154 = some (.iconst 1, 1) := by decide +kernel
theorem a_L_law_155 : ix_at mT_L_law 155 = some (.iadd, 1) := by decide +kernel
theorem a_L_law_156 : ix_at mT_L_law 156 = some (.iaload, 1) := by decide +kernel
theorem a_L_law_157 : ix_at mT_L_law 157 = some (.aload_n 0, 1) := by decide +kernel
theorem a_L_law_158 : ix_at mT_L_law 158 = some (.iload_n 3, 1) := by decide +kernel
theorem a_L_law_159 : ix_at mT_L_law 159 = some (.iconst 2, 1) := by decide +kernel
theorem a_L_law_160 : ix_at mT_L_law 160 = some (.iadd, 1) := by decide +kernel
theorem a_L_law_161 : ix_at mT_L_law 161 = some (.iaload, 1) := by decide +kernel
theorem a_L_law_162 : ix_at mT_L_law 162 = some (.aload_n 0, 1) := by decide +kernel
theorem a_L_law_163 : ix_at mT_L_law 163 = some (.iload_n 3, 1) := by decide +kernel
theorem a_L_law_164 : ix_at mT_L_law 164 = some (.iconst 3, 1) := by decide +kernel
theorem a_L_law_165 : ix_at mT_L_law 165 = some (.iadd, 1) := by decide +kernel
theorem a_L_law_166 : ix_at mT_L_law 166 = some (.iaload, 1) := by decide +kernel
theorem a_L_law_167 : ix_at mT_L_law 167 = some (.invokevirtual 17, 3) := by decide +kernel
theorem a_L_law_170 : ix_at mT_L_law 170 = some (.if_icmp .eq 793, 3) := by decide +kernel
theorem a_L_law_173 : ix_at mT_L_law 173 = some (.iconst 0, 1) := by decide +kernel
theorem a_L_law_174 : ix_at mT_L_law 174 = some (.ireturn, 1) := by decide +kernel
theorem a_L_law_175 : ix_at mT_L_law 175 = some (.aload_n 1, 1) := by decide +kernel
theorem a_L_law_176 : ix_at mT_L_law 176 = some (.aload_n 0, 1) := by decide +kernel
theorem a_L_law_177 : ix_at mT_L_law 177 = some (.iload_n 3, 1) := by decide +kernel
theorem a_L_law_178 : ix_at mT_L_law 178 = some (.iconst 1, 1) := by decide +kernel
theorem a_L_law_179 : ix_at mT_L_law 179 = some (.iadd, 1) := by decide +kernel
theorem a_L_law_180 : ix_at mT_L_law 180 = some (.iaload, 1) := by decide +kernel
theorem a_L_law_181 : ix_at mT_L_law 181 = some (.aload_n 0, 1) := by decide +kernel
theorem a_L_law_182 : ix_at mT_L_law 182 = some (.iload_n 3, 1) := by decide +kernel
theorem a_L_law_183 : ix_at mT_L_law 183 = some (.iconst 2, 1) := by decide +kernel
theorem a_L_law_184 : ix_at mT_L_law 184 = some (.iadd, 1) := by decide +kernel
theorem a_L_law_185 : ix_at mT_L_law 185 = some (.iaload, 1) := by decide +kernel
theorem a_L_law_186 : ix_at mT_L_law 186 = some (.i2l, 1) := by decide +kernel
theorem a_L_law_187 : ix_at mT_L_law 187 = some (.bipush 32, 2) := by decide +kernel
theorem a_L_law_189 : ix_at mT_L_law 189 = some (.lshl, 1) := by decide +kernel
theorem a_L_law_190 : ix_at mT_L_law 190 = some (.aload_n 0, 1) := by decide +kernel
theorem a_L_law_191 : ix_at mT_L_law 191 = some (.iload_n 3, 1) := by decide +kernel
theorem a_L_law_192 : ix_at mT_L_law 192 = some (.iconst 3, 1) := by decide +kernel
theorem a_L_law_193 : ix_at mT_L_law 193 = some (.iadd, 1) := by decide +kernel
theorem a_L_law_194 : ix_at mT_L_law 194 = some (.iaload, 1) := by decide +kernel
theorem a_L_law_195 : ix_at mT_L_law 195 = some (.i2l, 1) := by decide +kernel
theorem a_L_law_196 : ix_at mT_L_law 196 = some (.ldc2_w 18, 3) := by decide +kernel
theorem a_L_law_199 : ix_at mT_L_law 199 = some (.land, 1) := by decide +kernel
theorem a_L_law_200 : ix_at mT_L_law 200 = some (.lor, 1) := by decide +kernel
theorem a_L_law_201 : ix_at mT_L_law 201 = some (.aload_n 0, 1) := by decide +kernel
theorem a_L_law_202 : ix_at mT_L_law 202 = some (.iload_n 3, 1) := by decide +kernel
theorem a_L_law_203 : ix_at mT_L_law 203 = some (.iconst 4, 1) := by decide +kernel
theorem a_L_law_204 : ix_at mT_L_law 204 = some (.iadd, 1) := by decide +kernel
theorem a_L_law_205 : ix_at mT_L_law 205 = some (.iaload, 1) := by decide +kernel
theorem a_L_law_206 : ix_at mT_L_law 206 = some (.i2l, 1) := by decide +kernel
theorem a_L_law_207 : ix_at mT_L_law 207 = some (.bipush 32, 2) := by decide +kernel
theorem a_L_law_209 : ix_at mT_L_law 209 = some (.lshl, 1) := by decide +kernel
theorem a_L_law_210 : ix_at mT_L_law 210 = some (.aload_n 0, 1) := by decide +kernel
theorem a_L_law_211 : ix_at mT_L_law 211 = some (.iload_n 3, 1) := by decide +kernel
theorem a_L_law_212 : ix_at mT_L_law 212 = some (.iconst 5, 1) := by decide +kernel
theorem a_L_law_213 : ix_at mT_L_law 213 = some (.iadd, 1) := by decide +kernel
theorem a_L_law_214 : ix_at mT_L_law 214 = some (.iaload, 1) := by decide +kernel
theorem a_L_law_215 : ix_at mT_L_law 215 = some (.i2l, 1) := by decide +kernel
theorem a_L_law_216 : ix_at mT_L_law 216 = some (.ldc2_w 18, 3) := by decide +kernel
theorem a_L_law_219 : ix_at mT_L_law 219 = some (.land, 1) := by decide +kernel
theorem a_L_law_220 : ix_at mT_L_law 220 = some (.lor, 1) := by decide +kernel
theorem a_L_law_221 : ix_at mT_L_law 221 = some (.invokevirtual 20, 3) := by decide +kernel
theorem a_L_law_224 : ix_at mT_L_law 224 = some (.aload_n 2, 1) := by decide +kernel
theorem a_L_law_225 : ix_at mT_L_law 225 = some (.aload_n 0, 1) := by decide +kernel
theorem a_L_law_226 : ix_at mT_L_law 226 = some (.iload_n 3, 1) := by decide +kernel
theorem a_L_law_227 : ix_at mT_L_law 227 = some (.iconst 1, 1) := by decide +kernel
theorem a_L_law_228 : ix_at mT_L_law 228 = some (.iadd, 1) := by decide +kernel
theorem a_L_law_229 : ix_at mT_L_law 229 = some (.iaload, 1) := by decide +kernel
theorem a_L_law_230 : ix_at mT_L_law 230 = some (.aload_n 0, 1) := by decide +kernel
theorem a_L_law_231 : ix_at mT_L_law 231 = some (.iload_n 3, 1) := by decide +kernel
theorem a_L_law_232 : ix_at mT_L_law 232 = some (.iconst 2, 1) := by decide +kernel
theorem a_L_law_233 : ix_at mT_L_law 233 = some (.iadd, 1) := by decide +kernel
theorem a_L_law_234 : ix_at mT_L_law 234 = some (.iaload, 1) := by decide +kernel
theorem a_L_law_235 : ix_at mT_L_law 235 = some (.i2l, 1) := by decide +kernel
theorem a_L_law_236 : ix_at mT_L_law 236 = some (.bipush 32, 2) := by decide +kernel
theorem a_L_law_238 : ix_at mT_L_law 238 = some (.lshl, 1) := by decide +kernel
theorem a_L_law_239 : ix_at mT_L_law 239 = some (.aload_n 0, 1) := by decide +kernel
theorem a_L_law_240 : ix_at mT_L_law 240 = some (.iload_n 3, 1) := by decide +kernel
theorem a_L_law_241 : ix_at mT_L_law 241 = some (.iconst 3, 1) := by decide +kernel
theorem a_L_law_242 : ix_at mT_L_law 242 = some (.iadd, 1) := by decide +kernel
theorem a_L_law_243 : ix_at mT_L_law 243 = some (.iaload, 1) := by decide +kernel
theorem a_L_law_244 : ix_at mT_L_law 244 = some (.i2l, 1) := by decide +kernel
theorem a_L_law_245 : ix_at mT_L_law 245 = some (.ldc2_w 18, 3) := by decide +kernel
theorem a_L_law_248 : ix_at mT_L_law 248 = some (.land, 1) := by decide +kernel
theorem a_L_law_249 : ix_at mT_L_law 249 = some (.lor, 1) := by decide +kernel
theorem a_L_law_250 : ix_at mT_L_law 250 = some (.aload_n 0, 1) := by decide +kernel
theorem a_L_law_251 : ix_at mT_L_law 251 = some (.iload_n 3, 1) := by decide +kernel
theorem a_L_law_252 : ix_at mT_L_law 252 = some (.iconst 4, 1) := by decide +kernel
theorem a_L_law_253 : ix_at mT_L_law 253 = some (.iadd, 1) := by decide +kernel
theorem a_L_law_254 : ix_at mT_L_law 254 = some (.iaload, 1) := by decide +kernel
theorem a_L_law_255 : ix_at mT_L_law 255 = some (.i2l, 1) := by decide +kernel
theorem a_L_law_256 : ix_at mT_L_law 256 = some (.bipush 32, 2) := by decide +kernel
theorem a_L_law_258 : ix_at mT_L_law 258 = some (.lshl, 1) := by decide +kernel
theorem a_L_law_259 : ix_at mT_L_law 259 = some (.aload_n 0, 1) := by decide +kernel
theorem a_L_law_260 : ix_at mT_L_law 260 = some (.iload_n 3, 1) := by decide +kernel
theorem a_L_law_261 : ix_at mT_L_law 261 = some (.iconst 5, 1) := by decide +kernel
theorem a_L_law_262 : ix_at mT_L_law 262 = some (.iadd, 1) := by decide +kernel
theorem a_L_law_263 : ix_at mT_L_law 263 = some (.iaload, 1) := by decide +kernel
theorem a_L_law_264 : ix_at mT_L_law 264 = some (.i2l, 1) := by decide +kernel
theorem a_L_law_265 : ix_at mT_L_law 265 = some (.ldc2_w 18, 3) := by decide +kernel
theorem a_L_law_268 : ix_at mT_L_law 268 = some (.land, 1) := by decide +kernel
theorem a_L_law_269 : ix_at mT_L_law 269 = some (.lor, 1) := by decide +kernel
theorem a_L_law_270 : ix_at mT_L_law 270 = some (.invokevirtual 24, 3) := by decide +kernel
theorem a_L_law_273 : ix_at mT_L_law 273 = some (.if_icmp .eq 690, 3) := by decide +kernel
theorem a_L_law_276 : ix_at mT_L_law 276 = some (.iconst 0, 1) := by decide +kernel
theorem a_L_law_277 : ix_at mT_L_law 277 = some (.ireturn, 1) := by decide +kernel
theorem a_L_law_278 : ix_at mT_L_law 278 = some (.aload_n 1, 1) := by decide +kernel
theorem a_L_law_279 : ix_at mT_L_law 279 = some (.aload_n 0, 1) := by decide +kernel
theorem a_L_law_280 : ix_at mT_L_law 280 = some (.iload_n 3, 1) := by decide +kernel
theorem a_L_law_281 : ix_at mT_L_law 281 = some (.iconst 1, 1) := by decide +kernel
theorem a_L_law_282 : ix_at mT_L_law 282 = some (.iadd, 1) := by decide +kernel
theorem a_L_law_283 : ix_at mT_L_law 283 = some (.iaload, 1) := by decide +kernel
theorem a_L_law_284 : ix_at mT_L_law 284 = some (.invokevirtual 25, 3) := by decide +kernel
theorem a_L_law_287 : ix_at mT_L_law 287 = some (.aload_n 2, 1) := by decide +kernel
theorem a_L_law_288 : ix_at mT_L_law 288 = some (.aload_n 0, 1) := by decide +kernel
theorem a_L_law_289 : ix_at mT_L_law 289 = some (.iload_n 3, 1) := by decide +kernel
theorem a_L_law_290 : ix_at mT_L_law 290 = some (.iconst 1, 1) := by decide +kernel
theorem a_L_law_291 : ix_at mT_L_law 291 = some (.iadd, 1) := by decide +kernel
theorem a_L_law_292 : ix_at mT_L_law 292 = some (.iaload, 1) := by decide +kernel
theorem a_L_law_293 : ix_at mT_L_law 293 = some (.invokevirtual 29, 3) := by decide +kernel
theorem a_L_law_296 : ix_at mT_L_law 296 = some (.if_icmp .eq 667, 3) := by decide +kernel
theorem a_L_law_299 : ix_at mT_L_law 299 = some (.iconst 0, 1) := by decide +kernel
theorem a_L_law_300 : ix_at mT_L_law 300 = some (.ireturn, 1) := by decide +kernel
theorem a_L_law_301 : ix_at mT_L_law 301 = some (.aload_n 1, 1) := by decide +kernel
theorem a_L_law_302 : ix_at mT_L_law 302 = some (.aload_n 0, 1) := by decide +kernel
theorem a_L_law_303 : ix_at mT_L_law 303 = some (.iload_n 3, 1) := by decide +kernel
theorem a_L_law_304 : ix_at mT_L_law 304 = some (.iconst 1, 1) := by decide +kernel
theorem a_L_law_305 : ix_at mT_L_law 305 = some (.iadd, 1) := by decide +kernel
theorem a_L_law_306 : ix_at mT_L_law 306 = some (.iaload, 1) := by decide +kernel
theorem a_L_law_307 : ix_at mT_L_law 307 = some (.aload_n 0, 1) := by decide +kernel
theorem a_L_law_308 : ix_at mT_L_law 308 = some (.iload_n 3, 1) := by decide +kernel
theorem a_L_law_309 : ix_at mT_L_law 309 = some (.iconst 2, 1) := by decide +kernel
theorem a_L_law_310 : ix_at mT_L_law 310 = some (.iadd, 1) := by decide +kernel
theorem a_L_law_311 : ix_at mT_L_law 311 = some (.iaload, 1) := by decide +kernel
theorem a_L_law_312 : ix_at mT_L_law 312 = some (.invokevirtual 30, 3) := by decide +kernel
theorem a_L_law_315 : ix_at mT_L_law 315 = some (.aload_n 2, 1) := by decide +kernel
theorem a_L_law_316 : ix_at mT_L_law 316 = some (.aload_n 0, 1) := by decide +kernel
theorem a_L_law_317 : ix_at mT_L_law 317 = some (.iload_n 3, 1) := by decide +kernel
theorem a_L_law_318 : ix_at mT_L_law 318 = some (.iconst 1, 1) := by decide +kernel
theorem a_L_law_319 : ix_at mT_L_law 319 = some (.iadd, 1) := by decide +kernel
theorem a_L_law_320 : ix_at mT_L_law 320 = some (.iaload, 1) := by decide +kernel
theorem a_L_law_321 : ix_at mT_L_law 321 = some (.aload_n 0, 1) := by decide +kernel
theorem a_L_law_322 : ix_at mT_L_law 322 = some (.iload_n 3, 1) := by decide +kernel
theorem a_L_law_323 : ix_at mT_L_law 323 = some (.iconst 2, 1) := by decide +kernel
theorem a_L_law_324 : ix_at mT_L_law 324 = some (.iadd, 1) := by decide +kernel
theorem a_L_law_325 : ix_at mT_L_law 325 = some (.iaload, 1) := by decide +kernel
theorem a_L_law_326 : ix_at mT_L_law 326 = some (.invokevirtual 34, 3) := by decide +kernel
theorem a_L_law_329 : ix_at mT_L_law 329 = some (.if_icmp .eq 634, 3) := by decide +kernel
theorem a_L_law_332 : ix_at mT_L_law 332 = some (.iconst 0, 1) := by decide +kernel
theorem a_L_law_333 : ix_at mT_L_law 333 = some (.ireturn, 1) := by decide +kernel
theorem a_L_law_334 : ix_at mT_L_law 334 = some (.aload_n 1, 1) := by decide +kernel
theorem a_L_law_335 : ix_at mT_L_law 335 = some (.aload_n 0, 1) := by decide +kernel
theorem a_L_law_336 : ix_at mT_L_law 336 = some (.iload_n 3, 1) := by decide +kernel
theorem a_L_law_337 : ix_at mT_L_law 337 = some (.iconst 1, 1) := by decide +kernel
theorem a_L_law_338 : ix_at mT_L_law 338 = some (.iadd, 1) := by decide +kernel
theorem a_L_law_339 : ix_at mT_L_law 339 = some (.iaload, 1) := by decide +kernel
theorem a_L_law_340 : ix_at mT_L_law 340 = some (.aload_n 0, 1) := by decide +kernel
theorem a_L_law_341 : ix_at mT_L_law 341 = some (.iload_n 3, 1) := by decide +kernel
theorem a_L_law_342 : ix_at mT_L_law 342 = some (.iconst 2, 1) := by decide +kernel
theorem a_L_law_343 : ix_at mT_L_law 343 = some (.iadd, 1) := by decide +kernel
theorem a_L_law_344 : ix_at mT_L_law 344 = some (.iaload, 1) := by decide +kernel
theorem a_L_law_345 : ix_at mT_L_law 345 = some (.aload_n 0, 1) := by decide +kernel
theorem a_L_law_346 : ix_at mT_L_law 346 = some (.iload_n 3, 1) := by decide +kernel
theorem a_L_law_347 : ix_at mT_L_law 347 = some (.iconst 3, 1) := by decide +kernel
theorem a_L_law_348 : ix_at mT_L_law 348 = some (.iadd, 1) := by decide +kernel
theorem a_L_law_349 : ix_at mT_L_law 349 = some (.iaload, 1) := by decide +kernel
theorem a_L_law_350 : ix_at mT_L_law 350 = some (.aload_n 0, 1) := by decide +kernel
theorem a_L_law_351 : ix_at mT_L_law 351 = some (.iload_n 3, 1) := by decide +kernel
theorem a_L_law_352 : ix_at mT_L_law 352 = some (.iconst 4, 1) := by decide +kernel
theorem a_L_law_353 : ix_at mT_L_law 353 = some (.iadd, 1) := by decide +kernel
theorem a_L_law_354 : ix_at mT_L_law 354 = some (.iaload, 1) := by decide +kernel
theorem a_L_law_355 : ix_at mT_L_law 355 = some (.aload_n 0, 1) := by decide +kernel
theorem a_L_law_356 : ix_at mT_L_law 356 = some (.iload_n 3, 1) := by decide +kernel
theorem a_L_law_357 : ix_at mT_L_law 357 = some (.iconst 5, 1) := by decide +kernel
theorem a_L_law_358 : ix_at mT_L_law 358 = some (.iadd, 1) := by decide +kernel
theorem a_L_law_359 : ix_at mT_L_law 359 = some (.iaload, 1) := by decide +kernel
theorem a_L_law_360 : ix_at mT_L_law 360 = some (.ifCond .eq 7, 3) := by decide +kernel
theorem a_L_law_363 : ix_at mT_L_law 363 = some (.iconst 1, 1) := by decide +kernel
theorem a_L_law_364 : ix_at mT_L_law 364 = some (.goto 4, 3) := by decide +kernel
theorem a_L_law_367 : ix_at mT_L_law 367 = some (.iconst 0, 1) := by decide +kernel
theorem a_L_law_368 : ix_at mT_L_law 368 = some (.invokevirtual 35, 3) := by decide +kernel
theorem a_L_law_371 : ix_at mT_L_law 371 = some (.aload_n 2, 1) := by decide +kernel
theorem a_L_law_372 : ix_at mT_L_law 372 = some (.aload_n 0, 1) := by decide +kernel
theorem a_L_law_373 : ix_at mT_L_law 373 = some (.iload_n 3, 1) := by decide +kernel
theorem a_L_law_374 : ix_at mT_L_law 374 = some (.iconst 1, 1) := by decide +kernel
theorem a_L_law_375 : ix_at mT_L_law 375 = some (.iadd, 1) := by decide +kernel
theorem a_L_law_376 : ix_at mT_L_law 376 = some (.iaload, 1) := by decide +kernel
theorem a_L_law_377 : ix_at mT_L_law 377 = some (.aload_n 0, 1) := by decide +kernel
theorem a_L_law_378 : ix_at mT_L_law 378 = some (.iload_n 3, 1) := by decide +kernel
theorem a_L_law_379 : ix_at mT_L_law 379 = some (.iconst 2, 1) := by decide +kernel
theorem a_L_law_380 : ix_at mT_L_law 380 = some (.iadd, 1) := by decide +kernel
theorem a_L_law_381 : ix_at mT_L_law 381 = some (.iaload, 1) := by decide +kernel
theorem a_L_law_382 : ix_at mT_L_law 382 = some (.aload_n 0, 1) := by decide +kernel
theorem a_L_law_383 : ix_at mT_L_law 383 = some (.iload_n 3, 1) := by decide +kernel
theorem a_L_law_384 : ix_at mT_L_law 384 = some (.iconst 3, 1) := by decide +kernel
theorem a_L_law_385 : ix_at mT_L_law 385 = some (.iadd, 1) := by decide +kernel
theorem a_L_law_386 : ix_at mT_L_law 386 = some (.iaload, 1) := by decide +kernel
theorem a_L_law_387 : ix_at mT_L_law 387 = some (.aload_n 0, 1) := by decide +kernel
theorem a_L_law_388 : ix_at mT_L_law 388 = some (.iload_n 3, 1) := by decide +kernel
theorem a_L_law_389 : ix_at mT_L_law 389 = some (.iconst 4, 1) := by decide +kernel
theorem a_L_law_390 : ix_at mT_L_law 390 = some (.iadd, 1) := by decide +kernel
theorem a_L_law_391 : ix_at mT_L_law 391 = some (.iaload, 1) := by decide +kernel
theorem a_L_law_392 : ix_at mT_L_law 392 = some (.aload_n 0, 1) := by decide +kernel
theorem a_L_law_393 : ix_at mT_L_law 393 = some (.iload_n 3, 1) := by decide +kernel
theorem a_L_law_394 : ix_at mT_L_law 394 = some (.iconst 5, 1) := by decide +kernel
theorem a_L_law_395 : ix_at mT_L_law 395 = some (.iadd, 1) := by decide +kernel
theorem a_L_law_396 : ix_at mT_L_law 396 = some (.iaload, 1) := by decide +kernel
theorem a_L_law_397 : ix_at mT_L_law 397 = some (.ifCond .eq 7, 3) := by decide +kernel
theorem a_L_law_400 : ix_at mT_L_law 400 = some (.iconst 1, 1) := by decide +kernel
theorem a_L_law_401 : ix_at mT_L_law 401 = some (.goto 4, 3) := by decide +kernel
theorem a_L_law_404 : ix_at mT_L_law 404 = some (.iconst 0, 1) := by decide +kernel
theorem a_L_law_405 : ix_at mT_L_law 405 = some (.invokevirtual 39, 3) := by decide +kernel
theorem a_L_law_408 : ix_at mT_L_law 408 = some (.if_icmp .eq 555, 3) := by decide +kernel
theorem a_L_law_411 : ix_at mT_L_law 411 = some (.iconst 0, 1) := by decide +kernel
theorem a_L_law_412 : ix_at mT_L_law 412 = some (.ireturn, 1) := by decide +kernel
theorem a_L_law_413 : ix_at mT_L_law 413 = some (.aload_n 1, 1) := by decide +kernel
theorem a_L_law_414 : ix_at mT_L_law 414 = some (.aload_n 0, 1) := by decide +kernel
theorem a_L_law_415 : ix_at mT_L_law 415 = some (.iload_n 3, 1) := by decide +kernel
theorem a_L_law_416 : ix_at mT_L_law 416 = some (.iconst 1, 1) := by decide +kernel
theorem a_L_law_417 : ix_at mT_L_law 417 = some (.iadd, 1) := by decide +kernel
theorem a_L_law_418 : ix_at mT_L_law 418 = some (.iaload, 1) := by decide +kernel
theorem a_L_law_419 : ix_at mT_L_law 419 = some (.aload_n 0, 1) := by decide +kernel
theorem a_L_law_420 : ix_at mT_L_law 420 = some (.iload_n 3, 1) := by decide +kernel
theorem a_L_law_421 : ix_at mT_L_law 421 = some (.iconst 2, 1) := by decide +kernel
theorem a_L_law_422 : ix_at mT_L_law 422 = some (.iadd, 1) := by decide +kernel
theorem a_L_law_423 : ix_at mT_L_law 423 = some (.iaload, 1) := by decide +kernel
theorem a_L_law_424 : ix_at mT_L_law 424 = some (.aload_n 0, 1) := by decide +kernel
theorem a_L_law_425 : ix_at mT_L_law 425 = some (.iload_n 3, 1) := by decide +kernel
theorem a_L_law_426 : ix_at mT_L_law 426 = some (.iconst 3, 1) := by decide +kernel
theorem a_L_law_427 : ix_at mT_L_law 427 = some (.iadd, 1) := by decide +kernel
theorem a_L_law_428 : ix_at mT_L_law 428 = some (.iaload, 1) := by decide +kernel
theorem a_L_law_429 : ix_at mT_L_law 429 = some (.aload_n 0, 1) := by decide +kernel
theorem a_L_law_430 : ix_at mT_L_law 430 = some (.iload_n 3, 1) := by decide +kernel
theorem a_L_law_431 : ix_at mT_L_law 431 = some (.iconst 4, 1) := by decide +kernel
theorem a_L_law_432 : ix_at mT_L_law 432 = some (.iadd, 1) := by decide +kernel
theorem a_L_law_433 : ix_at mT_L_law 433 = some (.iaload, 1) := by decide +kernel
theorem a_L_law_434 : ix_at mT_L_law 434 = some (.aload_n 0, 1) := by decide +kernel
theorem a_L_law_435 : ix_at mT_L_law 435 = some (.iload_n 3, 1) := by decide +kernel
theorem a_L_law_436 : ix_at mT_L_law 436 = some (.iconst 5, 1) := by decide +kernel
theorem a_L_law_437 : ix_at mT_L_law 437 = some (.iadd, 1) := by decide +kernel
theorem a_L_law_438 : ix_at mT_L_law 438 = some (.iaload, 1) := by decide +kernel
theorem a_L_law_439 : ix_at mT_L_law 439 = some (.invokevirtual 40, 3) := by decide +kernel
theorem a_L_law_442 : ix_at mT_L_law 442 = some (.aload_n 2, 1) := by decide +kernel
theorem a_L_law_443 : ix_at mT_L_law 443 = some (.aload_n 0, 1) := by decide +kernel
theorem a_L_law_444 : ix_at mT_L_law 444 = some (.iload_n 3, 1) := by decide +kernel
theorem a_L_law_445 : ix_at mT_L_law 445 = some (.iconst 1, 1) := by decide +kernel
theorem a_L_law_446 : ix_at mT_L_law 446 = some (.iadd, 1) := by decide +kernel
theorem a_L_law_447 : ix_at mT_L_law 447 = some (.iaload, 1) := by decide +kernel
theorem a_L_law_448 : ix_at mT_L_law 448 = some (.aload_n 0, 1) := by decide +kernel
theorem a_L_law_449 : ix_at mT_L_law 449 = some (.iload_n 3, 1) := by decide +kernel
theorem a_L_law_450 : ix_at mT_L_law 450 = some (.iconst 2, 1) := by decide +kernel
theorem a_L_law_451 : ix_at mT_L_law 451 = some (.iadd, 1) := by decide +kernel
theorem a_L_law_452 : ix_at mT_L_law 452 = some (.iaload, 1) := by decide +kernel
theorem a_L_law_453 : ix_at mT_L_law 453 = some (.aload_n 0, 1) := by decide +kernel
theorem a_L_law_454 : ix_at mT_L_law 454 = some (.iload_n 3, 1) := by decide +kernel
theorem a_L_law_455 : ix_at mT_L_law 455 = some (.iconst 3, 1) := by decide +kernel
theorem a_L_law_456 : ix_at mT_L_law 456 = some (.iadd, 1) := by decide +kernel
theorem a_L_law_457 : ix_at mT_L_law 457 = some (.iaload, 1) := by decide +kernel
theorem a_L_law_458 : ix_at mT_L_law 458 = some (.aload_n 0, 1) := by decide +kernel
theorem a_L_law_459 : ix_at mT_L_law 459 = some (.iload_n 3, 1) := by decide +kernel
theorem a_L_law_460 : ix_at mT_L_law 460 = some (.iconst 4, 1) := by decide +kernel
theorem a_L_law_461 : ix_at mT_L_law 461 = some (.iadd, 1) := by decide +kernel
theorem a_L_law_462 : ix_at mT_L_law 462 = some (.iaload, 1) := by decide +kernel
theorem a_L_law_463 : ix_at mT_L_law 463 = some (.aload_n 0, 1) := by decide +kernel
theorem a_L_law_464 : ix_at mT_L_law 464 = some (.iload_n 3, 1) := by decide +kernel
theorem a_L_law_465 : ix_at mT_L_law 465 = some (.iconst 5, 1) := by decide +kernel
theorem a_L_law_466 : ix_at mT_L_law 466 = some (.iadd, 1) := by decide +kernel
theorem a_L_law_467 : ix_at mT_L_law 467 = some (.iaload, 1) := by decide +kernel
theorem a_L_law_468 : ix_at mT_L_law 468 = some (.invokevirtual 44, 3) := by decide +kernel
theorem a_L_law_471 : ix_at mT_L_law 471 = some (.if_icmp .eq 492, 3) := by decide +kernel
theorem a_L_law_474 : ix_at mT_L_law 474 = some (.iconst 0, 1) := by decide +kernel
theorem a_L_law_475 : ix_at mT_L_law 475 = some (.ireturn, 1) := by decide +kernel
theorem a_L_law_476 : ix_at mT_L_law 476 = some (.aload_n 1, 1) := by decide +kernel
theorem a_L_law_477 : ix_at mT_L_law 477 = some (.aload_n 0, 1) := by decide +kernel
theorem a_L_law_478 : ix_at mT_L_law 478 = some (.iload_n 3, 1) := by decide +kernel
theorem a_L_law_479 : ix_at mT_L_law 479 = some (.iconst 1, 1) := by decide +kernel
theorem a_L_law_480 : ix_at mT_L_law 480 = some (.iadd, 1) := by decide +kernel
theorem a_L_law_481 : ix_at mT_L_law 481 = some (.iaload, 1) := by decide +kernel
theorem a_L_law_482 : ix_at mT_L_law 482 = some (.aload_n 0, 1) := by decide +kernel
theorem a_L_law_483 : ix_at mT_L_law 483 = some (.iload_n 3, 1) := by decide +kernel
theorem a_L_law_484 : ix_at mT_L_law 484 = some (.iconst 2, 1) := by decide +kernel
theorem a_L_law_485 : ix_at mT_L_law 485 = some (.iadd, 1) := by decide +kernel
theorem a_L_law_486 : ix_at mT_L_law 486 = some (.iaload, 1) := by decide +kernel
theorem a_L_law_487 : ix_at mT_L_law 487 = some (.aload_n 0, 1) := by decide +kernel
theorem a_L_law_488 : ix_at mT_L_law 488 = some (.iload_n 3, 1) := by decide +kernel
theorem a_L_law_489 : ix_at mT_L_law 489 = some (.iconst 3, 1) := by decide +kernel
theorem a_L_law_490 : ix_at mT_L_law 490 = some (.iadd, 1) := by decide +kernel
theorem a_L_law_491 : ix_at mT_L_law 491 = some (.iaload, 1) := by decide +kernel
theorem a_L_law_492 : ix_at mT_L_law 492 = some (.ifCond .eq 7, 3) := by decide +kernel
theorem a_L_law_495 : ix_at mT_L_law 495 = some (.iconst 1, 1) := by decide +kernel
theorem a_L_law_496 : ix_at mT_L_law 496 = some (.goto 4, 3) := by decide +kernel
theorem a_L_law_499 : ix_at mT_L_law 499 = some (.iconst 0, 1) := by decide +kernel
theorem a_L_law_500 : ix_at mT_L_law 500 = some (.invokevirtual 45, 3) := by decide +kernel
theorem a_L_law_503 : ix_at mT_L_law 503 = some (.aload_n 2, 1) := by decide +kernel
theorem a_L_law_504 : ix_at mT_L_law 504 = some (.aload_n 0, 1) := by decide +kernel
theorem a_L_law_505 : ix_at mT_L_law 505 = some (.iload_n 3, 1) := by decide +kernel
theorem a_L_law_506 : ix_at mT_L_law 506 = some (.iconst 1, 1) := by decide +kernel
theorem a_L_law_507 : ix_at mT_L_law 507 = some (.iadd, 1) := by decide +kernel
theorem a_L_law_508 : ix_at mT_L_law 508 = some (.iaload, 1) := by decide +kernel
theorem a_L_law_509 : ix_at mT_L_law 509 = some (.aload_n 0, 1) := by decide +kernel
theorem a_L_law_510 : ix_at mT_L_law 510 = some (.iload_n 3, 1) := by decide +kernel
theorem a_L_law_511 : ix_at mT_L_law 511 = some (.iconst 2, 1) := by decide +kernel
theorem a_L_law_512 : ix_at mT_L_law 512 = some (.iadd, 1) := by decide +kernel
theorem a_L_law_513 : ix_at mT_L_law 513 = some (.iaload, 1) := by decide +kernel
theorem a_L_law_514 : ix_at mT_L_law 514 = some (.aload_n 0, 1) := by decide +kernel
theorem a_L_law_515 : ix_at mT_L_law 515 = some (.iload_n 3, 1) := by decide +kernel
theorem a_L_law_516 : ix_at mT_L_law 516 = some (.iconst 3, 1) := by decide +kernel
theorem a_L_law_517 : ix_at mT_L_law 517 = some (.iadd, 1) := by decide +kernel
theorem a_L_law_518 : ix_at mT_L_law 518 = some (.iaload, 1) := by decide +kernel
theorem a_L_law_519 : ix_at mT_L_law 519 = some (.ifCond .eq 7, 3) := by decide +kernel
theorem a_L_law_522 : ix_at mT_L_law 522 = some (.iconst 1, 1) := by decide +kernel
theorem a_L_law_523 : ix_at mT_L_law 523 = some (.goto 4, 3) := by decide +kernel
theorem a_L_law_526 : ix_at mT_L_law 526 = some (.iconst 0, 1) := by decide +kernel
theorem a_L_law_527 : ix_at mT_L_law 527 = some (.invokevirtual 49, 3) := by decide +kernel
theorem a_L_law_530 : ix_at mT_L_law 530 = some (.if_icmp .eq 433, 3) := by decide +kernel
theorem a_L_law_533 : ix_at mT_L_law 533 = some (.iconst 0, 1) := by decide +kernel
theorem a_L_law_534 : ix_at mT_L_law 534 = some (.ireturn, 1) := by decide +kernel
theorem a_L_law_535 : ix_at mT_L_law 535 = some (.aload_n 1, 1) := by decide +kernel
theorem a_L_law_536 : ix_at mT_L_law 536 = some (.aload_n 0, 1) := by decide +kernel
theorem a_L_law_537 : ix_at mT_L_law 537 = some (.iload_n 3, 1) := by decide +kernel
theorem a_L_law_538 : ix_at mT_L_law 538 = some (.iconst 1, 1) := by decide +kernel
theorem a_L_law_539 : ix_at mT_L_law 539 = some (.iadd, 1) := by decide +kernel
theorem a_L_law_540 : ix_at mT_L_law 540 = some (.iaload, 1) := by decide +kernel
theorem a_L_law_541 : ix_at mT_L_law 541 = some (.aload_n 0, 1) := by decide +kernel
theorem a_L_law_542 : ix_at mT_L_law 542 = some (.iload_n 3, 1) := by decide +kernel
theorem a_L_law_543 : ix_at mT_L_law 543 = some (.iconst 2, 1) := by decide +kernel
theorem a_L_law_544 : ix_at mT_L_law 544 = some (.iadd, 1) := by decide +kernel
theorem a_L_law_545 : ix_at mT_L_law 545 = some (.iaload, 1) := by decide +kernel
theorem a_L_law_546 : ix_at mT_L_law 546 = some (.aload_n 0, 1) := by decide +kernel
theorem a_L_law_547 : ix_at mT_L_law 547 = some (.iload_n 3, 1) := by decide +kernel
theorem a_L_law_548 : ix_at mT_L_law 548 = some (.iconst 3, 1) := by decide +kernel
theorem a_L_law_549 : ix_at mT_L_law 549 = some (.iadd, 1) := by decide +kernel
theorem a_L_law_550 : ix_at mT_L_law 550 = some (.iaload, 1) := by decide +kernel
theorem a_L_law_551 : ix_at mT_L_law 551 = some (.invokevirtual 50, 3) := by decide +kernel
theorem a_L_law_554 : ix_at mT_L_law 554 = some (.aload_n 2, 1) := by decide +kernel
theorem a_L_law_555 : ix_at mT_L_law 555 = some (.aload_n 0, 1) := by decide +kernel
theorem a_L_law_556 : ix_at mT_L_law 556 = some (.iload_n 3, 1) := by decide +kernel
theorem a_L_law_557 : ix_at mT_L_law 557 = some (.iconst 1, 1) := by decide +kernel
theorem a_L_law_558 : ix_at mT_L_law 558 = some (.iadd, 1) := by decide +kernel
theorem a_L_law_559 : ix_at mT_L_law 559 = some (.iaload, 1) := by decide +kernel
theorem a_L_law_560 : ix_at mT_L_law 560 = some (.aload_n 0, 1) := by decide +kernel
theorem a_L_law_561 : ix_at mT_L_law 561 = some (.iload_n 3, 1) := by decide +kernel
theorem a_L_law_562 : ix_at mT_L_law 562 = some (.iconst 2, 1) := by decide +kernel
theorem a_L_law_563 : ix_at mT_L_law 563 = some (.iadd, 1) := by decide +kernel
theorem a_L_law_564 : ix_at mT_L_law 564 = some (.iaload, 1) := by decide +kernel
theorem a_L_law_565 : ix_at mT_L_law 565 = some (.aload_n 0, 1) := by decide +kernel
theorem a_L_law_566 : ix_at mT_L_law 566 = some (.iload_n 3, 1) := by decide +kernel
theorem a_L_law_567 : ix_at mT_L_law 567 = some (.iconst 3, 1) := by decide +kernel
theorem a_L_law_568 : ix_at mT_L_law 568 = some (.iadd, 1) := by decide +kernel
theorem a_L_law_569 : ix_at mT_L_law 569 = some (.iaload, 1) := by decide +kernel
theorem a_L_law_570 : ix_at mT_L_law 570 = some (.invokevirtual 54, 3) := by decide +kernel
theorem a_L_law_573 : ix_at mT_L_law 573 = some (.if_icmp .eq 390, 3) := by decide +kernel
theorem a_L_law_576 : ix_at mT_L_law 576 = some (.iconst 0, 1) := by decide +kernel
theorem a_L_law_577 : ix_at mT_L_law 577 = some (.ireturn, 1) := by decide +kernel
theorem a_L_law_578 : ix_at mT_L_law 578 = some (.aload_n 1, 1) := by decide +kernel
theorem a_L_law_579 : ix_at mT_L_law 579 = some (.aload_n 0, 1) := by decide +kernel
theorem a_L_law_580 : ix_at mT_L_law 580 = some (.iload_n 3, 1) := by decide +kernel
theorem a_L_law_581 : ix_at mT_L_law 581 = some (.iconst 1, 1) := by decide +kernel
theorem a_L_law_582 : ix_at mT_L_law 582 = some (.iadd, 1) := by decide +kernel
theorem a_L_law_583 : ix_at mT_L_law 583 = some (.iaload, 1) := by decide +kernel
theorem a_L_law_584 : ix_at mT_L_law 584 = some (.aload_n 0, 1) := by decide +kernel
theorem a_L_law_585 : ix_at mT_L_law 585 = some (.iload_n 3, 1) := by decide +kernel
theorem a_L_law_586 : ix_at mT_L_law 586 = some (.iconst 2, 1) := by decide +kernel
theorem a_L_law_587 : ix_at mT_L_law 587 = some (.iadd, 1) := by decide +kernel
theorem a_L_law_588 : ix_at mT_L_law 588 = some (.iaload, 1) := by decide +kernel
theorem a_L_law_589 : ix_at mT_L_law 589 = some (.invokevirtual 55, 3) := by decide +kernel
theorem a_L_law_592 : ix_at mT_L_law 592 = some (.aload_n 2, 1) := by decide +kernel
theorem a_L_law_593 : ix_at mT_L_law 593 = some (.aload_n 0, 1) := by decide +kernel
theorem a_L_law_594 : ix_at mT_L_law 594 = some (.iload_n 3, 1) := by decide +kernel
theorem a_L_law_595 : ix_at mT_L_law 595 = some (.iconst 1, 1) := by decide +kernel
theorem a_L_law_596 : ix_at mT_L_law 596 = some (.iadd, 1) := by decide +kernel
theorem a_L_law_597 : ix_at mT_L_law 597 = some (.iaload, 1) := by decide +kernel
theorem a_L_law_598 : ix_at mT_L_law 598 = some (.aload_n 0, 1) := by decide +kernel
theorem a_L_law_599 : ix_at mT_L_law 599 = some (.iload_n 3, 1) := by decide +kernel
theorem a_L_law_600 : ix_at mT_L_law 600 = some (.iconst 2, 1) := by decide +kernel
theorem a_L_law_601 : ix_at mT_L_law 601 = some (.iadd, 1) := by decide +kernel
theorem a_L_law_602 : ix_at mT_L_law 602 = some (.iaload, 1) := by decide +kernel
theorem a_L_law_603 : ix_at mT_L_law 603 = some (.invokevirtual 58, 3) := by decide +kernel
theorem a_L_law_606 : ix_at mT_L_law 606 = some (.if_icmp .eq 357, 3) := by decide +kernel
theorem a_L_law_609 : ix_at mT_L_law 609 = some (.iconst 0, 1) := by decide +kernel
theorem a_L_law_610 : ix_at mT_L_law 610 = some (.ireturn, 1) := by decide +kernel
theorem a_L_law_611 : ix_at mT_L_law 611 = some (.aload_n 1, 1) := by decide +kernel
theorem a_L_law_612 : ix_at mT_L_law 612 = some (.aload_n 0, 1) := by decide +kernel
theorem a_L_law_613 : ix_at mT_L_law 613 = some (.iload_n 3, 1) := by decide +kernel
theorem a_L_law_614 : ix_at mT_L_law 614 = some (.iconst 1, 1) := by decide +kernel
theorem a_L_law_615 : ix_at mT_L_law 615 = some (.iadd, 1) := by decide +kernel
theorem a_L_law_616 : ix_at mT_L_law 616 = some (.iaload, 1) := by decide +kernel
theorem a_L_law_617 : ix_at mT_L_law 617 = some (.invokevirtual 59, 3) := by decide +kernel
theorem a_L_law_620 : ix_at mT_L_law 620 = some (.aload_n 2, 1) := by decide +kernel
theorem a_L_law_621 : ix_at mT_L_law 621 = some (.aload_n 0, 1) := by decide +kernel
theorem a_L_law_622 : ix_at mT_L_law 622 = some (.iload_n 3, 1) := by decide +kernel
theorem a_L_law_623 : ix_at mT_L_law 623 = some (.iconst 1, 1) := by decide +kernel
theorem a_L_law_624 : ix_at mT_L_law 624 = some (.iadd, 1) := by decide +kernel
theorem a_L_law_625 : ix_at mT_L_law 625 = some (.iaload, 1) := by decide +kernel
theorem a_L_law_626 : ix_at mT_L_law 626 = some (.invokevirtual 62, 3) := by decide +kernel
theorem a_L_law_629 : ix_at mT_L_law 629 = some (.if_icmp .eq 334, 3) := by decide +kernel
theorem a_L_law_632 : ix_at mT_L_law 632 = some (.iconst 0, 1) := by decide +kernel
theorem a_L_law_633 : ix_at mT_L_law 633 = some (.ireturn, 1) := by decide +kernel
theorem a_L_law_634 : ix_at mT_L_law 634 = some (.aload_n 1, 1) := by decide +kernel
theorem a_L_law_635 : ix_at mT_L_law 635 = some (.aload_n 0, 1) := by decide +kernel
theorem a_L_law_636 : ix_at mT_L_law 636 = some (.iload_n 3, 1) := by decide +kernel
theorem a_L_law_637 : ix_at mT_L_law 637 = some (.iconst 1, 1) := by decide +kernel
theorem a_L_law_638 : ix_at mT_L_law 638 = some (.iadd, 1) := by decide +kernel
theorem a_L_law_639 : ix_at mT_L_law 639 = some (.iaload, 1) := by decide +kernel
theorem a_L_law_640 : ix_at mT_L_law 640 = some (.aload_n 0, 1) := by decide +kernel
theorem a_L_law_641 : ix_at mT_L_law 641 = some (.iload_n 3, 1) := by decide +kernel
theorem a_L_law_642 : ix_at mT_L_law 642 = some (.iconst 2, 1) := by decide +kernel
theorem a_L_law_643 : ix_at mT_L_law 643 = some (.iadd, 1) := by decide +kernel
theorem a_L_law_644 : ix_at mT_L_law 644 = some (.iaload, 1) := by decide +kernel
theorem a_L_law_645 : ix_at mT_L_law 645 = some (.aload_n 0, 1) := by decide +kernel
theorem a_L_law_646 : ix_at mT_L_law 646 = some (.iload_n 3, 1) := by decide +kernel
theorem a_L_law_647 : ix_at mT_L_law 647 = some (.iconst 3, 1) := by decide +kernel
theorem a_L_law_648 : ix_at mT_L_law 648 = some (.iadd, 1) := by decide +kernel
theorem a_L_law_649 : ix_at mT_L_law 649 = some (.iaload, 1) := by decide +kernel
theorem a_L_law_650 : ix_at mT_L_law 650 = some (.ifCond .eq 7, 3) := by decide +kernel
theorem a_L_law_653 : ix_at mT_L_law 653 = some (.iconst 1, 1) := by decide +kernel
theorem a_L_law_654 : ix_at mT_L_law 654 = some (.goto 4, 3) := by decide +kernel
theorem a_L_law_657 : ix_at mT_L_law 657 = some (.iconst 0, 1) := by decide +kernel
theorem a_L_law_658 : ix_at mT_L_law 658 = some (.invokevirtual 63, 3) := by decide +kernel
theorem a_L_law_661 : ix_at mT_L_law 661 = some (.aload_n 2, 1) := by decide +kernel
theorem a_L_law_662 : ix_at mT_L_law 662 = some (.aload_n 0, 1) := by decide +kernel
theorem a_L_law_663 : ix_at mT_L_law 663 = some (.iload_n 3, 1) := by decide +kernel
theorem a_L_law_664 : ix_at mT_L_law 664 = some (.iconst 1, 1) := by decide +kernel
theorem a_L_law_665 : ix_at mT_L_law 665 = some (.iadd, 1) := by decide +kernel
theorem a_L_law_666 : ix_at mT_L_law 666 = some (.iaload, 1) := by decide +kernel
theorem a_L_law_667 : ix_at mT_L_law 667 = some (.aload_n 0, 1) := by decide +kernel
theorem a_L_law_668 : ix_at mT_L_law 668 = some (.iload_n 3, 1) := by decide +kernel
theorem a_L_law_669 : ix_at mT_L_law 669 = some (.iconst 2, 1) := by decide +kernel
theorem a_L_law_670 : ix_at mT_L_law 670 = some (.iadd, 1) := by decide +kernel
theorem a_L_law_671 : ix_at mT_L_law 671 = some (.iaload, 1) := by decide +kernel
theorem a_L_law_672 : ix_at mT_L_law 672 = some (.aload_n 0, 1) := by decide +kernel
theorem a_L_law_673 : ix_at mT_L_law 673 = some (.iload_n 3, 1) := by decide +kernel
theorem a_L_law_674 : ix_at mT_L_law 674 = some (.iconst 3, 1) := by decide +kernel
theorem a_L_law_675 : ix_at mT_L_law 675 = some (.iadd, 1) := by decide +kernel
theorem a_L_law_676 : ix_at mT_L_law 676 = some (.iaload, 1) := by decide +kernel
theorem a_L_law_677 : ix_at mT_L_law 677 = some (.ifCond .eq 7, 3) := by decide +kernel
theorem a_L_law_680 : ix_at mT_L_law 680 = some (.iconst 1, 1) := by decide +kernel
theorem a_L_law_681 : ix_at mT_L_law 681 = some (.goto 4, 3) := by decide +kernel
theorem a_L_law_684 : ix_at mT_L_law 684 = some (.iconst 0, 1) := by decide +kernel
theorem a_L_law_685 : ix_at mT_L_law 685 = some (.invokevirtual 66, 3) := by decide +kernel
theorem a_L_law_688 : ix_at mT_L_law 688 = some (.if_icmp .eq 275, 3) := by decide +kernel
theorem a_L_law_691 : ix_at mT_L_law 691 = some (.iconst 0, 1) := by decide +kernel
theorem a_L_law_692 : ix_at mT_L_law 692 = some (.ireturn, 1) := by decide +kernel
theorem a_L_law_693 : ix_at mT_L_law 693 = some (.aload_n 1, 1) := by decide +kernel
theorem a_L_law_694 : ix_at mT_L_law 694 = some (.aload_n 0, 1) := by decide +kernel
theorem a_L_law_695 : ix_at mT_L_law 695 = some (.iload_n 3, 1) := by decide +kernel
theorem a_L_law_696 : ix_at mT_L_law 696 = some (.iconst 1, 1) := by decide +kernel
theorem a_L_law_697 : ix_at mT_L_law 697 = some (.iadd, 1) := by decide +kernel
theorem a_L_law_698 : ix_at mT_L_law 698 = some (.iaload, 1) := by decide +kernel
theorem a_L_law_699 : ix_at mT_L_law 699 = some (.invokevirtual 67, 3) := by decide +kernel
theorem a_L_law_702 : ix_at mT_L_law 702 = some (.aload_n 2, 1) := by decide +kernel
theorem a_L_law_703 : ix_at mT_L_law 703 = some (.aload_n 0, 1) := by decide +kernel
theorem a_L_law_704 : ix_at mT_L_law 704 = some (.iload_n 3, 1) := by decide +kernel
theorem a_L_law_705 : ix_at mT_L_law 705 = some (.iconst 1, 1) := by decide +kernel
theorem a_L_law_706 : ix_at mT_L_law 706 = some (.iadd, 1) := by decide +kernel
theorem a_L_law_707 : ix_at mT_L_law 707 = some (.iaload, 1) := by decide +kernel
theorem a_L_law_708 : ix_at mT_L_law 708 = some (.invokevirtual 70, 3) := by decide +kernel
theorem a_L_law_711 : ix_at mT_L_law 711 = some (.if_icmp .eq 252, 3) := by decide +kernel
theorem a_L_law_714 : ix_at mT_L_law 714 = some (.iconst 0, 1) := by decide +kernel
theorem a_L_law_715 : ix_at mT_L_law 715 = some (.ireturn, 1) := by decide +kernel
theorem a_L_law_716 : ix_at mT_L_law 716 = some (.aload_n 1, 1) := by decide +kernel
theorem a_L_law_717 : ix_at mT_L_law 717 = some (.invokevirtual 71, 3) := by decide +kernel
theorem a_L_law_720 : ix_at mT_L_law 720 = some (.aload_n 2, 1) := by decide +kernel
theorem a_L_law_721 : ix_at mT_L_law 721 = some (.invokevirtual 75, 3) := by decide +kernel
theorem a_L_law_724 : ix_at mT_L_law 724 = some (.if_icmp .eq 239, 3) := by decide +kernel
theorem a_L_law_727 : ix_at mT_L_law 727 = some (.iconst 0, 1) := by decide +kernel
theorem a_L_law_728 : ix_at mT_L_law 728 = some (.ireturn, 1) := by decide +kernel
theorem a_L_law_729 : ix_at mT_L_law 729 = some (.aload_n 1, 1) := by decide +kernel
theorem a_L_law_730 : ix_at mT_L_law 730 = some (.aload_n 0, 1) := by decide +kernel
theorem a_L_law_731 : ix_at mT_L_law 731 = some (.iload_n 3, 1) := by decide +kernel
theorem a_L_law_732 : ix_at mT_L_law 732 = some (.iconst 1, 1) := by decide +kernel
theorem a_L_law_733 : ix_at mT_L_law 733 = some (.iadd, 1) := by decide +kernel
theorem a_L_law_734 : ix_at mT_L_law 734 = some (.iaload, 1) := by decide +kernel
theorem a_L_law_735 : ix_at mT_L_law 735 = some (.invokevirtual 76, 3) := by decide +kernel
theorem a_L_law_738 : ix_at mT_L_law 738 = some (.aload_n 2, 1) := by decide +kernel
theorem a_L_law_739 : ix_at mT_L_law 739 = some (.aload_n 0, 1) := by decide +kernel
theorem a_L_law_740 : ix_at mT_L_law 740 = some (.iload_n 3, 1) := by decide +kernel
theorem a_L_law_741 : ix_at mT_L_law 741 = some (.iconst 1, 1) := by decide +kernel
theorem a_L_law_742 : ix_at mT_L_law 742 = some (.iadd, 1) := by decide +kernel
theorem a_L_law_743 : ix_at mT_L_law 743 = some (.iaload, 1) := by decide +kernel
theorem a_L_law_744 : ix_at mT_L_law 744 = some (.invokevirtual 79, 3) := by decide +kernel
theorem a_L_law_747 : ix_at mT_L_law 747 = some (.if_icmp .eq 216, 3) := by decide +kernel
theorem a_L_law_750 : ix_at mT_L_law 750 = some (.iconst 0, 1) := by decide +kernel
theorem a_L_law_751 : ix_at mT_L_law 751 = some (.ireturn, 1) := by decide +kernel
theorem a_L_law_752 : ix_at mT_L_law 752 = some (.aload_n 1, 1) := by decide +kernel
theorem a_L_law_753 : ix_at mT_L_law 753 = some (.invokevirtual 80, 3) := by decide +kernel
theorem a_L_law_756 : ix_at mT_L_law 756 = some (.aload_n 2, 1) := by decide +kernel
theorem a_L_law_757 : ix_at mT_L_law 757 = some (.invokevirtual 83, 3) := by decide +kernel
theorem a_L_law_760 : ix_at mT_L_law 760 = some (.if_icmp .eq 203, 3) := by decide +kernel
theorem a_L_law_763 : ix_at mT_L_law 763 = some (.iconst 0, 1) := by decide +kernel
theorem a_L_law_764 : ix_at mT_L_law 764 = some (.ireturn, 1) := by decide +kernel
theorem a_L_law_765 : ix_at mT_L_law 765 = some (.aload_n 1, 1) := by decide +kernel
theorem a_L_law_766 : ix_at mT_L_law 766 = some (.aload_n 0, 1) := by decide +kernel
theorem a_L_law_767 : ix_at mT_L_law 767 = some (.iload_n 3, 1) := by decide +kernel
theorem a_L_law_768 : ix_at mT_L_law 768 = some (.iconst 1, 1) := by decide +kernel
theorem a_L_law_769 : ix_at mT_L_law 769 = some (.iadd, 1) := by decide +kernel
theorem a_L_law_770 : ix_at mT_L_law 770 = some (.iaload, 1) := by decide +kernel
theorem a_L_law_771 : ix_at mT_L_law 771 = some (.aload_n 0, 1) := by decide +kernel
theorem a_L_law_772 : ix_at mT_L_law 772 = some (.iload_n 3, 1) := by decide +kernel
theorem a_L_law_773 : ix_at mT_L_law 773 = some (.iconst 2, 1) := by decide +kernel
theorem a_L_law_774 : ix_at mT_L_law 774 = some (.iadd, 1) := by decide +kernel
theorem a_L_law_775 : ix_at mT_L_law 775 = some (.iaload, 1) := by decide +kernel
theorem a_L_law_776 : ix_at mT_L_law 776 = some (.invokevirtual 84, 3) := by decide +kernel
theorem a_L_law_779 : ix_at mT_L_law 779 = some (.aload_n 2, 1) := by decide +kernel
theorem a_L_law_780 : ix_at mT_L_law 780 = some (.aload_n 0, 1) := by decide +kernel
theorem a_L_law_781 : ix_at mT_L_law 781 = some (.iload_n 3, 1) := by decide +kernel
theorem a_L_law_782 : ix_at mT_L_law 782 = some (.iconst 1, 1) := by decide +kernel
theorem a_L_law_783 : ix_at mT_L_law 783 = some (.iadd, 1) := by decide +kernel
theorem a_L_law_784 : ix_at mT_L_law 784 = some (.iaload, 1) := by decide +kernel
theorem a_L_law_785 : ix_at mT_L_law 785 = some (.aload_n 0, 1) := by decide +kernel
theorem a_L_law_786 : ix_at mT_L_law 786 = some (.iload_n 3, 1) := by decide +kernel
theorem a_L_law_787 : ix_at mT_L_law 787 = some (.iconst 2, 1) := by decide +kernel
theorem a_L_law_788 : ix_at mT_L_law 788 = some (.iadd, 1) := by decide +kernel
theorem a_L_law_789 : ix_at mT_L_law 789 = some (.iaload, 1) := by decide +kernel
theorem a_L_law_790 : ix_at mT_L_law 790 = some (.invokevirtual 87, 3) := by decide +kernel
theorem a_L_law_793 : ix_at mT_L_law 793 = some (.if_icmp .eq 170, 3) := by decide +kernel
theorem a_L_law_796 : ix_at mT_L_law 796 = some (.iconst 0, 1) := by decide +kernel
theorem a_L_law_797 : ix_at mT_L_law 797 = some (.ireturn, 1) := by decide +kernel
theorem a_L_law_798 : ix_at mT_L_law 798 = some (.aload_n 1, 1) := by decide +kernel
theorem a_L_law_799 : ix_at mT_L_law 799 = some (.aload_n 0, 1) := by decide +kernel
theorem a_L_law_800 : ix_at mT_L_law 800 = some (.iload_n 3, 1) := by decide +kernel
theorem a_L_law_801 : ix_at mT_L_law 801 = some (.iconst 1, 1) := by decide +kernel
theorem a_L_law_802 : ix_at mT_L_law 802 = some (.iadd, 1) := by decide +kernel
theorem a_L_law_803 : ix_at mT_L_law 803 = some (.iaload, 1) := by decide +kernel
theorem a_L_law_804 : ix_at mT_L_law 804 = some (.aload_n 0, 1) := by decide +kernel
theorem a_L_law_805 : ix_at mT_L_law 805 = some (.iload_n 3, 1) := by decide +kernel
theorem a_L_law_806 : ix_at mT_L_law 806 = some (.iconst 2, 1) := by decide +kernel
theorem a_L_law_807 : ix_at mT_L_law 807 = some (.iadd, 1) := by decide +kernel
theorem a_L_law_808 : ix_at mT_L_law 808 = some (.iaload, 1) := by decide +kernel
theorem a_L_law_809 : ix_at mT_L_law 809 = some (.aload_n 0, 1) := by decide +kernel
theorem a_L_law_810 : ix_at mT_L_law 810 = some (.iload_n 3, 1) := by decide +kernel
theorem a_L_law_811 : ix_at mT_L_law 811 = some (.iconst 3, 1) := by decide +kernel
theorem a_L_law_812 : ix_at mT_L_law 812 = some (.iadd, 1) := by decide +kernel
theorem a_L_law_813 : ix_at mT_L_law 813 = some (.iaload, 1) := by decide +kernel
theorem a_L_law_814 : ix_at mT_L_law 814 = some (.invokevirtual 88, 3) := by decide +kernel
theorem a_L_law_817 : ix_at mT_L_law 817 = some (.aload_n 2, 1) := by decide +kernel
theorem a_L_law_818 : ix_at mT_L_law 818 = some (.aload_n 0, 1) := by decide +kernel
theorem a_L_law_819 : ix_at mT_L_law 819 = some (.iload_n 3, 1) := by decide +kernel
theorem a_L_law_820 : ix_at mT_L_law 820 = some (.iconst 1, 1) := by decide +kernel
theorem a_L_law_821 : ix_at mT_L_law 821 = some (.iadd, 1) := by decide +kernel
theorem a_L_law_822 : ix_at mT_L_law 822 = some (.iaload, 1) := by decide +kernel
theorem a_L_law_823 : ix_at mT_L_law 823 = some (.aload_n 0, 1) := by decide +kernel
theorem a_L_law_824 : ix_at mT_L_law 824 = some (.iload_n 3, 1) := by decide +kernel
theorem a_L_law_825 : ix_at mT_L_law 825 = some (.iconst 2, 1) := by decide +kernel
theorem a_L_law_826 : ix_at mT_L_law 826 = some (.iadd, 1) := by decide +kernel
theorem a_L_law_827 : ix_at mT_L_law 827 = some (.iaload, 1) := by decide +kernel
theorem a_L_law_828 : ix_at mT_L_law 828 = some (.aload_n 0, 1) := by decide +kernel
theorem a_L_law_829 : ix_at mT_L_law 829 = some (.iload_n 3, 1) := by decide +kernel
theorem a_L_law_830 : ix_at mT_L_law 830 = some (.iconst 3, 1) := by decide +kernel
theorem a_L_law_831 : ix_at mT_L_law 831 = some (.iadd, 1) := by decide +kernel
theorem a_L_law_832 : ix_at mT_L_law 832 = some (.iaload, 1) := by decide +kernel
theorem a_L_law_833 : ix_at mT_L_law 833 = some (.invokevirtual 91, 3) := by decide +kernel
theorem a_L_law_836 : ix_at mT_L_law 836 = some (.if_icmp .eq 127, 3) := by decide +kernel
theorem a_L_law_839 : ix_at mT_L_law 839 = some (.iconst 0, 1) := by decide +kernel
theorem a_L_law_840 : ix_at mT_L_law 840 = some (.ireturn, 1) := by decide +kernel
theorem a_L_law_841 : ix_at mT_L_law 841 = some (.aload_n 1, 1) := by decide +kernel
theorem a_L_law_842 : ix_at mT_L_law 842 = some (.aload_n 0, 1) := by decide +kernel
theorem a_L_law_843 : ix_at mT_L_law 843 = some (.iload_n 3, 1) := by decide +kernel
theorem a_L_law_844 : ix_at mT_L_law 844 = some (.iconst 1, 1) := by decide +kernel
theorem a_L_law_845 : ix_at mT_L_law 845 = some (.iadd, 1) := by decide +kernel
theorem a_L_law_846 : ix_at mT_L_law 846 = some (.iaload, 1) := by decide +kernel
theorem a_L_law_847 : ix_at mT_L_law 847 = some (.aload_n 0, 1) := by decide +kernel
theorem a_L_law_848 : ix_at mT_L_law 848 = some (.iload_n 3, 1) := by decide +kernel
theorem a_L_law_849 : ix_at mT_L_law 849 = some (.iconst 2, 1) := by decide +kernel
theorem a_L_law_850 : ix_at mT_L_law 850 = some (.iadd, 1) := by decide +kernel
theorem a_L_law_851 : ix_at mT_L_law 851 = some (.iaload, 1) := by decide +kernel
theorem a_L_law_852 : ix_at mT_L_law 852 = some (.invokevirtual 92, 3) := by decide +kernel
theorem a_L_law_855 : ix_at mT_L_law 855 = some (.aload_n 2, 1) := by decide +kernel
theorem a_L_law_856 : ix_at mT_L_law 856 = some (.aload_n 0, 1) := by decide +kernel
theorem a_L_law_857 : ix_at mT_L_law 857 = some (.iload_n 3, 1) := by decide +kernel
theorem a_L_law_858 : ix_at mT_L_law 858 = some (.iconst 1, 1) := by decide +kernel
theorem a_L_law_859 : ix_at mT_L_law 859 = some (.iadd, 1) := by decide +kernel
theorem a_L_law_860 : ix_at mT_L_law 860 = some (.iaload, 1) := by decide +kernel
theorem a_L_law_861 : ix_at mT_L_law 861 = some (.aload_n 0, 1) := by decide +kernel
theorem a_L_law_862 : ix_at mT_L_law 862 = some (.iload_n 3, 1) := by decide +kernel
theorem a_L_law_863 : ix_at mT_L_law 863 = some (.iconst 2, 1) := by decide +kernel
theorem a_L_law_864 : ix_at mT_L_law 864 = some (.iadd, 1) := by decide +kernel
theorem a_L_law_865 : ix_at mT_L_law 865 = some (.iaload, 1) := by decide +kernel
theorem a_L_law_866 : ix_at mT_L_law 866 = some (.invokevirtual 95, 3) := by decide +kernel
theorem a_L_law_869 : ix_at mT_L_law 869 = some (.if_icmp .eq 94, 3) := by decide +kernel
theorem a_L_law_872 : ix_at mT_L_law 872 = some (.iconst 0, 1) := by decide +kernel
theorem a_L_law_873 : ix_at mT_L_law 873 = some (.ireturn, 1) := by decide +kernel
theorem a_L_law_874 : ix_at mT_L_law 874 = some (.aload_n 1, 1) := by decide +kernel
theorem a_L_law_875 : ix_at mT_L_law 875 = some (.aload_n 0, 1) := by decide +kernel
theorem a_L_law_876 : ix_at mT_L_law 876 = some (.iload_n 3, 1) := by decide +kernel
theorem a_L_law_877 : ix_at mT_L_law 877 = some (.iconst 1, 1) := by decide +kernel
theorem a_L_law_878 : ix_at mT_L_law 878 = some (.iadd, 1) := by decide +kernel
theorem a_L_law_879 : ix_at mT_L_law 879 = some (.iaload, 1) := by decide +kernel
theorem a_L_law_880 : ix_at mT_L_law 880 = some (.aload_n 0, 1) := by decide +kernel
theorem a_L_law_881 : ix_at mT_L_law 881 = some (.iload_n 3, 1) := by decide +kernel
theorem a_L_law_882 : ix_at mT_L_law 882 = some (.iconst 2, 1) := by decide +kernel
theorem a_L_law_883 : ix_at mT_L_law 883 = some (.iadd, 1) := by decide +kernel
theorem a_L_law_884 : ix_at mT_L_law 884 = some (.iaload, 1) := by decide +kernel
theorem a_L_law_885 : ix_at mT_L_law 885 = some (.invokevirtual 96, 3) := by decide +kernel
theorem a_L_law_888 : ix_at mT_L_law 888 = some (.aload_n 2, 1) := by decide +kernel
theorem a_L_law_889 : ix_at mT_L_law 889 = some (.aload_n 0, 1) := by decide +kernel
theorem a_L_law_890 : ix_at mT_L_law 890 = some (.iload_n 3, 1) := by decide +kernel
theorem a_L_law_891 : ix_at mT_L_law 891 = some (.iconst 1, 1) := by decide +kernel
theorem a_L_law_892 : ix_at mT_L_law 892 = some (.iadd, 1) := by decide +kernel
theorem a_L_law_893 : ix_at mT_L_law 893 = some (.iaload, 1) := by decide +kernel
theorem a_L_law_894 : ix_at mT_L_law 894 = some (.aload_n 0, 1) := by decide +kernel
theorem a_L_law_895 : ix_at mT_L_law 895 = some (.iload_n 3, 1) := by decide +kernel
theorem a_L_law_896 : ix_at mT_L_law 896 = some (.iconst 2, 1) := by decide +kernel
theorem a_L_law_897 : ix_at mT_L_law 897 = some (.iadd, 1) := by decide +kernel
theorem a_L_law_898 : ix_at mT_L_law 898 = some (.iaload, 1) := by decide +kernel
theorem a_L_law_899 : ix_at mT_L_law 899 = some (.invokevirtual 99, 3) := by decide +kernel
theorem a_L_law_902 : ix_at mT_L_law 902 = some (.if_icmp .eq 61, 3) := by decide +kernel
theorem a_L_law_905 : ix_at mT_L_law 905 = some (.iconst 0, 1) := by decide +kernel
theorem a_L_law_906 : ix_at mT_L_law 906 = some (.ireturn, 1) := by decide +kernel
theorem a_L_law_907 : ix_at mT_L_law 907 = some (.aload_n 1, 1) := by decide +kernel
theorem a_L_law_908 : ix_at mT_L_law 908 = some (.aload_n 0, 1) := by decide +kernel
theorem a_L_law_909 : ix_at mT_L_law 909 = some (.iload_n 3, 1) := by decide +kernel
theorem a_L_law_910 : ix_at mT_L_law 910 = some (.iconst 1, 1) := by decide +kernel
theorem a_L_law_911 : ix_at mT_L_law 911 = some (.iadd, 1) := by decide +kernel
theorem a_L_law_912 : ix_at mT_L_law 912 = some (.iaload, 1) := by decide +kernel
theorem a_L_law_913 : ix_at mT_L_law 913 = some (.aload_n 0, 1) := by decide +kernel
theorem a_L_law_914 : ix_at mT_L_law 914 = some (.iload_n 3, 1) := by decide +kernel
theorem a_L_law_915 : ix_at mT_L_law 915 = some (.iconst 2, 1) := by decide +kernel
theorem a_L_law_916 : ix_at mT_L_law 916 = some (.iadd, 1) := by decide +kernel
theorem a_L_law_917 : ix_at mT_L_law 917 = some (.iaload, 1) := by decide +kernel
theorem a_L_law_918 : ix_at mT_L_law 918 = some (.invokevirtual 100, 3) := by decide +kernel
theorem a_L_law_921 : ix_at mT_L_law 921 = some (.aload_n 2, 1) := by decide +kernel
theorem a_L_law_922 : ix_at mT_L_law 922 = some (.aload_n 0, 1) := by decide +kernel
theorem a_L_law_923 : ix_at mT_L_law 923 = some (.iload_n 3, 1) := by decide +kernel
theorem a_L_law_924 : ix_at mT_L_law 924 = some (.iconst 1, 1) := by decide +kernel
theorem a_L_law_925 : ix_at mT_L_law 925 = some (.iadd, 1) := by decide +kernel
theorem a_L_law_926 : ix_at mT_L_law 926 = some (.iaload, 1) := by decide +kernel
theorem a_L_law_927 : ix_at mT_L_law 927 = some (.aload_n 0, 1) := by decide +kernel
theorem a_L_law_928 : ix_at mT_L_law 928 = some (.iload_n 3, 1) := by decide +kernel
theorem a_L_law_929 : ix_at mT_L_law 929 = some (.iconst 2, 1) := by decide +kernel
theorem a_L_law_930 : ix_at mT_L_law 930 = some (.iadd, 1) := by decide +kernel
theorem a_L_law_931 : ix_at mT_L_law 931 = some (.iaload, 1) := by decide +kernel
theorem a_L_law_932 : ix_at mT_L_law 932 = some (.invokevirtual 103, 3) := by decide +kernel
theorem a_L_law_935 : ix_at mT_L_law 935 = some (.if_icmp .eq 28, 3) := by decide +kernel
theorem a_L_law_938 : ix_at mT_L_law 938 = some (.iconst 0, 1) := by decide +kernel
theorem a_L_law_939 : ix_at mT_L_law 939 = some (.ireturn, 1) := by decide +kernel
theorem a_L_law_940 : ix_at mT_L_law 940 = some (.aload_n 1, 1) := by decide +kernel
theorem a_L_law_941 : ix_at mT_L_law 941 = some (.aload_n 0, 1) := by decide +kernel
theorem a_L_law_942 : ix_at mT_L_law 942 = some (.iload_n 3, 1) := by decide +kernel
theorem a_L_law_943 : ix_at mT_L_law 943 = some (.iconst 1, 1) := by decide +kernel
theorem a_L_law_944 : ix_at mT_L_law 944 = some (.iadd, 1) := by decide +kernel
theorem a_L_law_945 : ix_at mT_L_law 945 = some (.iaload, 1) := by decide +kernel
theorem a_L_law_946 : ix_at mT_L_law 946 = some (.invokevirtual 104, 3) := by decide +kernel
theorem a_L_law_949 : ix_at mT_L_law 949 = some (.aload_n 2, 1) := by decide +kernel
theorem a_L_law_950 : ix_at mT_L_law 950 = some (.aload_n 0, 1) := by decide +kernel
theorem a_L_law_951 : ix_at mT_L_law 951 = some (.iload_n 3, 1) := by decide +kernel
theorem a_L_law_952 : ix_at mT_L_law 952 = some (.iconst 1, 1) := by decide +kernel
theorem a_L_law_953 : ix_at mT_L_law 953 = some (.iadd, 1) := by decide +kernel
theorem a_L_law_954 : ix_at mT_L_law 954 = some (.iaload, 1) := by decide +kernel
theorem a_L_law_955 : ix_at mT_L_law 955 = some (.invokevirtual 107, 3) := by decide +kernel
theorem a_L_law_958 : ix_at mT_L_law 958 = some (.if_icmp .eq 5, 3) := by decide +kernel
theorem a_L_law_961 : ix_at mT_L_law 961 = some (.iconst 0, 1) := by decide +kernel
theorem a_L_law_962 : ix_at mT_L_law 962 = some (.ireturn, 1) := by decide +kernel
theorem a_L_law_963 : ix_at mT_L_law 963 = some (.iinc 3 6, 3) := by decide +kernel
theorem a_L_law_966 : ix_at mT_L_law 966 = some (.goto (-948), 3) := by decide +kernel
theorem a_L_law_969 : ix_at mT_L_law 969 = some (.iconst 1, 1) := by decide +kernel
theorem a_L_law_970 : ix_at mT_L_law 970 = some (.ireturn, 1) := by decide +kernel
theorem f_0_15 : ix_fld 0 15 = some (0, 0, 0, 80) := by decide +kernel
theorem f_0_21 : ix_fld 0 21 = some (0, 0, 1, 81) := by decide +kernel
theorem f_4_56 : ix_fld 4 56 = some (1, 0, 1, 82) := by decide +kernel
theorem f_1_38 : ix_fld 1 38 = some (1, 0, 1, 83) := by decide +kernel
theorem f_3_9 : ix_fld 3 9 = some (0, 3, 0, 98) := by decide +kernel
theorem f_3_15 : ix_fld 3 15 = some (0, 3, 1, 99) := by decide +kernel
theorem f_3_18 : ix_fld 3 18 = some (0, 3, 2, 100) := by decide +kernel
theorem f_3_21 : ix_fld 3 21 = some (0, 3, 3, 101) := by decide +kernel
theorem f_3_25 : ix_fld 3 25 = some (0, 3, 4, 102) := by decide +kernel
theorem f_4_142 : ix_fld 4 142 = some (1, 3, 4, 103) := by decide +kernel
theorem f_1_14 : ix_fld 1 14 = some (0, 1, 0, 125) := by decide +kernel
theorem f_4_186 : ix_fld 4 186 = some (1, 1, 0, 126) := by decide +kernel
theorem f_1_20 : ix_fld 1 20 = some (0, 1, 1, 127) := by decide +kernel
theorem f_1_24 : ix_fld 1 24 = some (0, 1, 2, 128) := by decide +kernel
theorem f_1_28 : ix_fld 1 28 = some (0, 1, 3, 129) := by decide +kernel
theorem f_1_34 : ix_fld 1 34 = some (0, 1, 4, 130) := by decide +kernel
theorem f_4_180 : ix_fld 4 180 = some (1, 1, 4, 131) := by decide +kernel
theorem f_2_9 : ix_fld 2 9 = some (0, 2, 0, 149) := by decide +kernel
theorem f_4_88 : ix_fld 4 88 = some (1, 2, 0, 150) := by decide +kernel
theorem f_2_18 : ix_fld 2 18 = some (0, 2, 1, 151) := by decide +kernel
theorem f_4_205 : ix_fld 4 205 = some (1, 2, 1, 152) := by decide +kernel
theorem f_2_21 : ix_fld 2 21 = some (0, 2, 2, 153) := by decide +kernel
theorem f_4_208 : ix_fld 4 208 = some (1, 2, 2, 154) := by decide +kernel
theorem f_2_24 : ix_fld 2 24 = some (0, 2, 3, 155) := by decide +kernel
theorem f_4_277 : ix_fld 4 277 = some (1, 2, 3, 156) := by decide +kernel
theorem f_2_27 : ix_fld 2 27 = some (0, 2, 4, 157) := by decide +kernel
theorem f_4_211 : ix_fld 4 211 = some (1, 2, 4, 158) := by decide +kernel
theorem f_2_30 : ix_fld 2 30 = some (0, 2, 5, 159) := by decide +kernel
theorem f_4_214 : ix_fld 4 214 = some (1, 2, 5, 160) := by decide +kernel
theorem f_2_33 : ix_fld 2 33 = some (0, 2, 6, 161) := by decide +kernel
theorem f_4_274 : ix_fld 4 274 = some (1, 2, 6, 162) := by decide +kernel
theorem f_4_14 : ix_fld 4 14 = some (0, 4, 0, 211) := by decide +kernel
theorem f_4_18 : ix_fld 4 18 = some (0, 4, 1, 212) := by decide +kernel
theorem f_4_21 : ix_fld 4 21 = some (0, 4, 2, 213) := by decide +kernel
theorem f_4_26 : ix_fld 4 26 = some (0, 4, 3, 214) := by decide +kernel
theorem f_4_30 : ix_fld 4 30 = some (0, 4, 4, 215) := by decide +kernel
theorem f_4_36 : ix_fld 4 36 = some (0, 4, 5, 216) := by decide +kernel
theorem f_4_42 : ix_fld 4 42 = some (0, 4, 6, 217) := by decide +kernel
theorem f_4_46 : ix_fld 4 46 = some (0, 4, 7, 218) := by decide +kernel
theorem f_4_146 : ix_fld 4 146 = some (0, 4, 8, 219) := by decide +kernel
theorem f_4_220 : ix_fld 4 220 = some (0, 4, 9, 220) := by decide +kernel
theorem f_4_223 : ix_fld 4 223 = some (0, 4, 10, 221) := by decide +kernel
theorem f_4_98 : ix_fld 4 98 = some (0, 4, 11, 222) := by decide +kernel
theorem f_4_63 : ix_fld 4 63 = some (0, 4, 12, 223) := by decide +kernel
theorem f_4_168 : ix_fld 4 168 = some (0, 4, 13, 224) := by decide +kernel
theorem f_4_95 : ix_fld 4 95 = some (0, 4, 14, 225) := by decide +kernel
theorem f_5_87 : ix_fld 5 87 = some (0, 5, 0, 585) := by decide +kernel
theorem f_5_90 : ix_fld 5 90 = some (0, 5, 1, 586) := by decide +kernel
theorem f_5_93 : ix_fld 5 93 = some (0, 5, 2, 587) := by decide +kernel
theorem f_5_96 : ix_fld 5 96 = some (0, 5, 3, 588) := by decide +kernel
theorem f_5_99 : ix_fld 5 99 = some (0, 5, 4, 589) := by decide +kernel
theorem f_5_103 : ix_fld 5 103 = some (0, 5, 5, 590) := by decide +kernel
theorem f_5_106 : ix_fld 5 106 = some (0, 5, 6, 591) := by decide +kernel
theorem f_5_109 : ix_fld 5 109 = some (0, 5, 7, 592) := by decide +kernel
theorem f_5_9 : ix_fld 5 9 = some (0, 5, 8, 593) := by decide +kernel
theorem f_5_13 : ix_fld 5 13 = some (0, 5, 9, 594) := by decide +kernel
theorem f_5_16 : ix_fld 5 16 = some (0, 5, 10, 595) := by decide +kernel
theorem f_5_19 : ix_fld 5 19 = some (0, 5, 11, 596) := by decide +kernel
theorem f_5_22 : ix_fld 5 22 = some (0, 5, 12, 597) := by decide +kernel
theorem f_5_25 : ix_fld 5 25 = some (0, 5, 13, 598) := by decide +kernel
theorem f_5_28 : ix_fld 5 28 = some (0, 5, 14, 599) := by decide +kernel
theorem f_5_32 : ix_fld 5 32 = some (0, 5, 15, 600) := by decide +kernel
theorem f_5_112 : ix_fld 5 112 = some (0, 5, 16, 601) := by decide +kernel
theorem f_5_36 : ix_fld 5 36 = some (0, 5, 17, 602) := by decide +kernel
theorem f_5_40 : ix_fld 5 40 = some (0, 5, 18, 603) := by decide +kernel
theorem f_5_43 : ix_fld 5 43 = some (0, 5, 19, 604) := by decide +kernel
theorem f_5_46 : ix_fld 5 46 = some (0, 5, 20, 605) := by decide +kernel
theorem f_5_49 : ix_fld 5 49 = some (0, 5, 21, 606) := by decide +kernel
theorem f_5_80 : ix_fld 5 80 = some (0, 5, 22, 607) := by decide +kernel
theorem f_5_52 : ix_fld 5 52 = some (0, 5, 23, 608) := by decide +kernel
theorem f_5_55 : ix_fld 5 55 = some (0, 5, 24, 609) := by decide +kernel
theorem f_5_84 : ix_fld 5 84 = some (0, 5, 25, 610) := by decide +kernel
theorem f_5_58 : ix_fld 5 58 = some (0, 5, 26, 611) := by decide +kernel
theorem f_5_61 : ix_fld 5 61 = some (0, 5, 27, 612) := by decide +kernel
theorem f_5_64 : ix_fld 5 64 = some (0, 5, 28, 613) := by decide +kernel
theorem f_5_67 : ix_fld 5 67 = some (0, 5, 29, 614) := by decide +kernel
theorem f_5_168 : ix_fld 5 168 = some (0, 5, 30, 615) := by decide +kernel
theorem f_5_70 : ix_fld 5 70 = some (0, 5, 31, 616) := by decide +kernel
theorem f_5_115 : ix_fld 5 115 = some (0, 5, 32, 617) := by decide +kernel
theorem f_5_73 : ix_fld 5 73 = some (0, 5, 33, 618) := by decide +kernel
theorem k_6_9 : ix_mth 6 9 = some (0, 38, 65) := by decide +kernel
theorem k_4_3 : ix_mth 4 3 = some (2, 0, 68) := by decide +kernel
theorem k_4_11 : ix_mth 4 11 = some (0, 0, 73) := by decide +kernel
theorem k_0_3 : ix_mth 0 3 = some (2, 0, 76) := by decide +kernel
theorem k_0_9 : ix_mth 0 9 = some (3, 0, 77) := by decide +kernel
theorem k_4_35 : ix_mth 4 35 = some (1, 33, 94) := by decide +kernel
theorem k_3_3 : ix_mth 3 3 = some (2, 0, 97) := by decide +kernel
theorem k_4_50 : ix_mth 4 50 = some (1, 8, 119) := by decide +kernel
theorem k_1_3 : ix_mth 1 3 = some (2, 0, 122) := by decide +kernel
theorem k_1_11 : ix_mth 1 11 = some (0, 0, 124) := by decide +kernel
theorem k_4_51 : ix_mth 4 51 = some (1, 27, 145) := by decide +kernel
theorem k_2_3 : ix_mth 2 3 = some (2, 0, 148) := by decide +kernel
theorem k_4_52 : ix_mth 4 52 = some (0, 60, 178) := by decide +kernel
theorem k_4_232 : ix_mth 4 232 = some (0, 9, 182) := by decide +kernel
theorem k_1_31 : ix_mth 1 31 = some (0, 1, 186) := by decide +kernel
theorem k_4_109 : ix_mth 4 109 = some (0, 1, 190) := by decide +kernel
theorem k_4_145 : ix_mth 4 145 = some (0, 34, 191) := by decide +kernel
theorem k_3_28 : ix_mth 3 28 = some (0, 138, 195) := by decide +kernel
theorem k_4_165 : ix_mth 4 165 = some (0, 61, 198) := by decide +kernel
theorem k_4_233 : ix_mth 4 233 = some (0, 28, 202) := by decide +kernel
theorem k_2_15 : ix_mth 2 15 = some (0, 30, 206) := by decide +kernel
theorem k_4_234 : ix_mth 4 234 = some (0, 138, 210) := by decide +kernel
theorem k_6_13 : ix_mth 6 13 = some (0, 39, 257) := by decide +kernel
theorem k_6_20 : ix_mth 6 20 = some (0, 40, 261) := by decide +kernel
theorem k_4_60 : ix_mth 4 60 = some (0, 4, 265) := by decide +kernel
theorem k_6_25 : ix_mth 6 25 = some (0, 41, 269) := by decide +kernel
theorem k_4_67 : ix_mth 4 67 = some (0, 62, 273) := by decide +kernel
theorem k_4_71 : ix_mth 4 71 = some (0, 31, 277) := by decide +kernel
theorem k_4_75 : ix_mth 4 75 = some (0, 81, 281) := by decide +kernel
theorem k_4_101 : ix_mth 4 101 = some (0, 76, 285) := by decide +kernel
theorem k_4_262 : ix_mth 4 262 = some (0, 5, 289) := by decide +kernel
theorem k_0_25 : ix_mth 0 25 = some (0, 4, 293) := by decide +kernel
theorem k_4_265 : ix_mth 4 265 = some (0, 7, 294) := by decide +kernel
theorem k_4_258 : ix_mth 4 258 = some (0, 35, 298) := by decide +kernel
theorem k_4_174 : ix_mth 4 174 = some (0, 77, 302) := by decide +kernel
theorem k_4_268 : ix_mth 4 268 = some (0, 6, 306) := by decide +kernel
theorem k_4_271 : ix_mth 4 271 = some (0, 29, 310) := by decide +kernel
theorem k_4_280 : ix_mth 4 280 = some (0, 78, 314) := by decide +kernel
theorem k_4_286 : ix_mth 4 286 = some (0, 79, 318) := by decide +kernel
theorem k_4_283 : ix_mth 4 283 = some (0, 30, 322) := by decide +kernel
theorem k_4_79 : ix_mth 4 79 = some (0, 82, 323) := by decide +kernel
theorem k_4_243 : ix_mth 4 243 = some (0, 32, 327) := by decide +kernel
theorem k_4_289 : ix_mth 4 289 = some (0, 21, 331) := by decide +kernel
theorem k_1_68 : ix_mth 1 68 = some (0, 15, 335) := by decide +kernel
theorem k_1_62 : ix_mth 1 62 = some (0, 14, 339) := by decide +kernel
theorem k_1_55 : ix_mth 1 55 = some (0, 12, 343) := by decide +kernel
theorem k_1_58 : ix_mth 1 58 = some (0, 6, 347) := by decide +kernel
theorem k_1_72 : ix_mth 1 72 = some (0, 13, 348) := by decide +kernel
theorem k_4_250 : ix_mth 4 250 = some (0, 75, 352) := by decide +kernel
theorem k_4_254 : ix_mth 4 254 = some (0, 10, 356) := by decide +kernel
theorem k_1_41 : ix_mth 1 41 = some (0, 5, 360) := by decide +kernel
theorem k_1_45 : ix_mth 1 45 = some (0, 3, 361) := by decide +kernel
theorem k_1_49 : ix_mth 1 49 = some (0, 4, 365) := by decide +kernel
theorem k_1_52 : ix_mth 1 52 = some (0, 7, 366) := by decide +kernel
theorem k_4_82 : ix_mth 4 82 = some (0, 71, 367) := by decide +kernel
theorem k_4_229 : ix_mth 4 229 = some (0, 73, 371) := by decide +kernel
theorem k_4_85 : ix_mth 4 85 = some (0, 80, 375) := by decide +kernel
theorem k_6_30 : ix_mth 6 30 = some (0, 42, 379) := by decide +kernel
theorem k_4_91 : ix_mth 4 91 = some (0, 68, 383) := by decide +kernel
theorem k_4_202 : ix_mth 4 202 = some (0, 63, 387) := by decide +kernel
theorem k_6_35 : ix_mth 6 35 = some (0, 43, 391) := by decide +kernel
theorem k_4_105 : ix_mth 4 105 = some (0, 69, 395) := by decide +kernel
theorem k_4_125 : ix_mth 4 125 = some (0, 64, 399) := by decide +kernel
theorem k_4_240 : ix_mth 4 240 = some (0, 20, 403) := by decide +kernel
theorem k_1_76 : ix_mth 1 76 = some (0, 18, 407) := by decide +kernel
theorem k_4_217 : ix_mth 4 217 = some (0, 19, 411) := by decide +kernel
theorem k_4_246 : ix_mth 4 246 = some (0, 70, 415) := by decide +kernel
theorem k_4_192 : ix_mth 4 192 = some (0, 74, 419) := by decide +kernel
theorem k_6_40 : ix_mth 6 40 = some (0, 44, 423) := by decide +kernel
theorem k_4_112 : ix_mth 4 112 = some (0, 65, 427) := by decide +kernel
theorem k_4_116 : ix_mth 4 116 = some (0, 66, 431) := by decide +kernel
theorem k_6_45 : ix_mth 6 45 = some (0, 45, 435) := by decide +kernel
theorem k_6_50 : ix_mth 6 50 = some (0, 46, 439) := by decide +kernel
theorem k_6_55 : ix_mth 6 55 = some (0, 47, 443) := by decide +kernel
theorem k_6_59 : ix_mth 6 59 = some (0, 48, 447) := by decide +kernel
theorem k_4_121 : ix_mth 4 121 = some (0, 83, 452) := by decide +kernel
theorem k_4_292 : ix_mth 4 292 = some (0, 85, 456) := by decide +kernel
theorem k_6_63 : ix_mth 6 63 = some (0, 49, 460) := by decide +kernel
theorem k_4_128 : ix_mth 4 128 = some (0, 24, 464) := by decide +kernel
theorem k_1_91 : ix_mth 1 91 = some (0, 22, 468) := by decide +kernel
theorem k_1_80 : ix_mth 1 80 = some (0, 138, 472) := by decide +kernel
theorem k_1_86 : ix_mth 1 86 = some (4, 0, 473) := by decide +kernel
theorem k_1_95 : ix_mth 1 95 = some (3, 0, 476) := by decide +kernel
theorem k_4_132 : ix_mth 4 132 = some (0, 25, 477) := by decide +kernel
theorem k_4_135 : ix_mth 4 135 = some (0, 26, 481) := by decide +kernel
theorem k_6_67 : ix_mth 6 67 = some (0, 50, 485) := by decide +kernel
theorem k_4_139 : ix_mth 4 139 = some (0, 3, 489) := by decide +kernel
theorem k_6_71 : ix_mth 6 71 = some (0, 51, 490) := by decide +kernel
theorem k_6_76 : ix_mth 6 76 = some (0, 52, 494) := by decide +kernel
theorem k_4_149 : ix_mth 4 149 = some (0, 67, 498) := by decide +kernel
theorem k_4_153 : ix_mth 4 153 = some (0, 36, 502) := by decide +kernel
theorem k_4_156 : ix_mth 4 156 = some (0, 37, 506) := by decide +kernel
theorem k_3_34 : ix_mth 3 34 = some (4, 0, 510) := by decide +kernel
theorem k_4_159 : ix_mth 4 159 = some (0, 2, 511) := by decide +kernel
theorem k_4_162 : ix_mth 4 162 = some (0, 16, 515) := by decide +kernel
theorem k_6_80 : ix_mth 6 80 = some (0, 53, 519) := by decide +kernel
theorem k_4_171 : ix_mth 4 171 = some (0, 17, 523) := by decide +kernel
theorem k_1_65 : ix_mth 1 65 = some (0, 2, 527) := by decide +kernel
theorem k_4_177 : ix_mth 4 177 = some (0, 84, 528) := by decide +kernel
theorem k_6_84 : ix_mth 6 84 = some (0, 54, 532) := by decide +kernel
theorem k_4_183 : ix_mth 4 183 = some (0, 22, 536) := by decide +kernel
theorem k_4_189 : ix_mth 4 189 = some (0, 23, 537) := by decide +kernel
theorem k_6_88 : ix_mth 6 88 = some (0, 55, 541) := by decide +kernel
theorem k_4_195 : ix_mth 4 195 = some (0, 11, 545) := by decide +kernel
theorem k_4_198 : ix_mth 4 198 = some (0, 13, 549) := by decide +kernel
theorem k_6_92 : ix_mth 6 92 = some (0, 56, 550) := by decide +kernel
theorem k_6_96 : ix_mth 6 96 = some (0, 57, 554) := by decide +kernel
theorem k_6_100 : ix_mth 6 100 = some (0, 58, 558) := by decide +kernel
theorem k_6_104 : ix_mth 6 104 = some (0, 59, 562) := by decide +kernel
theorem k_4_226 : ix_mth 4 226 = some (0, 72, 566) := by decide +kernel
theorem k_6_12 : ix_mth 6 12 = some (0, 86, 572) := by decide +kernel
theorem k_5_1 : ix_mth 5 1 = some (2, 0, 575) := by decide +kernel
theorem k_5_76 : ix_mth 5 76 = some (0, 88, 577) := by decide +kernel
theorem k_5_118 : ix_mth 5 118 = some (0, 87, 581) := by decide +kernel
theorem k_6_17 : ix_mth 6 17 = some (0, 88, 688) := by decide +kernel
theorem k_6_29 : ix_mth 6 29 = some (0, 102, 689) := by decide +kernel
theorem k_5_144 : ix_mth 5 144 = some (0, 101, 693) := by decide +kernel
theorem k_5_129 : ix_mth 5 129 = some (0, 92, 697) := by decide +kernel
theorem k_5_141 : ix_mth 5 141 = some (0, 99, 701) := by decide +kernel
theorem k_5_133 : ix_mth 5 133 = some (0, 100, 705) := by decide +kernel
theorem k_5_137 : ix_mth 5 137 = some (0, 98, 709) := by decide +kernel
theorem k_5_147 : ix_mth 5 147 = some (0, 93, 713) := by decide +kernel
theorem k_5_151 : ix_mth 5 151 = some (0, 95, 717) := by decide +kernel
theorem k_5_125 : ix_mth 5 125 = some (0, 90, 721) := by decide +kernel
theorem k_5_121 : ix_mth 5 121 = some (0, 89, 725) := by decide +kernel
theorem k_5_155 : ix_mth 5 155 = some (0, 97, 729) := by decide +kernel
theorem k_6_34 : ix_mth 6 34 = some (0, 104, 733) := by decide +kernel
theorem k_5_158 : ix_mth 5 158 = some (0, 96, 737) := by decide +kernel
theorem k_5_161 : ix_mth 5 161 = some (0, 103, 741) := by decide +kernel
theorem k_6_39 : ix_mth 6 39 = some (0, 108, 745) := by decide +kernel
theorem k_5_171 : ix_mth 5 171 = some (0, 107, 749) := by decide +kernel
theorem k_5_165 : ix_mth 5 165 = some (0, 105, 753) := by decide +kernel
theorem k_5_175 : ix_mth 5 175 = some (0, 106, 757) := by decide +kernel
theorem k_5_178 : ix_mth 5 178 = some (0, 94, 761) := by decide +kernel
theorem k_6_44 : ix_mth 6 44 = some (0, 112, 765) := by decide +kernel
theorem k_5_181 : ix_mth 5 181 = some (0, 109, 769) := by decide +kernel
theorem k_5_185 : ix_mth 5 185 = some (0, 110, 772) := by decide +kernel
theorem k_5_188 : ix_mth 5 188 = some (0, 111, 776) := by decide +kernel
theorem k_6_49 : ix_mth 6 49 = some (0, 113, 780) := by decide +kernel
theorem k_6_54 : ix_mth 6 54 = some (0, 114, 784) := by decide +kernel
theorem k_6_58 : ix_mth 6 58 = some (0, 115, 788) := by decide +kernel
theorem k_6_62 : ix_mth 6 62 = some (0, 116, 792) := by decide +kernel
theorem k_6_66 : ix_mth 6 66 = some (0, 120, 797) := by decide +kernel
theorem k_5_192 : ix_mth 5 192 = some (0, 118, 801) := by decide +kernel
theorem k_5_195 : ix_mth 5 195 = some (0, 119, 805) := by decide +kernel
theorem k_6_70 : ix_mth 6 70 = some (0, 121, 809) := by decide +kernel
theorem k_6_24 : ix_mth 6 24 = some (0, 122, 813) := by decide +kernel
theorem k_6_75 : ix_mth 6 75 = some (0, 123, 817) := by decide +kernel
theorem k_5_199 : ix_mth 5 199 = some (0, 91, 821) := by decide +kernel
theorem k_6_79 : ix_mth 6 79 = some (0, 124, 825) := by decide +kernel
theorem k_6_83 : ix_mth 6 83 = some (0, 126, 829) := by decide +kernel
theorem k_5_202 : ix_mth 5 202 = some (0, 125, 833) := by decide +kernel
theorem k_6_87 : ix_mth 6 87 = some (0, 127, 837) := by decide +kernel
theorem k_5_205 : ix_mth 5 205 = some (0, 117, 841) := by decide +kernel
theorem k_5_208 : ix_mth 5 208 = some (0, 128, 845) := by decide +kernel
theorem k_5_211 : ix_mth 5 211 = some (0, 129, 849) := by decide +kernel
theorem k_6_91 : ix_mth 6 91 = some (0, 130, 853) := by decide +kernel
theorem k_6_95 : ix_mth 6 95 = some (0, 131, 857) := by decide +kernel
theorem k_6_99 : ix_mth 6 99 = some (0, 132, 861) := by decide +kernel
theorem k_6_103 : ix_mth 6 103 = some (0, 136, 865) := by decide +kernel
theorem k_5_220 : ix_mth 5 220 = some (0, 135, 869) := by decide +kernel
theorem k_5_217 : ix_mth 5 217 = some (0, 134, 873) := by decide +kernel
theorem k_5_214 : ix_mth 5 214 = some (0, 133, 877) := by decide +kernel
theorem k_6_107 : ix_mth 6 107 = some (0, 137, 880) := by decide +kernel
theorem c_6_7 : ix_cls 6 7 = some (4, 63) := by decide +kernel
theorem c_4_9 : ix_cls 4 9 = some (0, 71) := by decide +kernel
theorem c_4_24 : ix_cls 4 24 = some (1, 90) := by decide +kernel
theorem c_4_33 : ix_cls 4 33 = some (3, 92) := by decide +kernel
theorem c_4_40 : ix_cls 4 40 = some (2, 116) := by decide +kernel
theorem c_1_9 : ix_cls 1 9 = some (0, 123) := by decide +kernel
theorem c_6_10 : ix_cls 6 10 = some (5, 570) := by decide +kernel
theorem v_4_120 : ix_con 4 120 = some (1000000, 451) := by decide +kernel
theorem v_5_31 : ix_con 5 31 = some (168000, 576) := by decide +kernel
theorem v_5_191 : ix_con 5 191 = some (1000000, 796) := by decide +kernel
theorem v_6_18 : ix_cnl 6 18 = some (4294967295, 884) := by decide +kernel
abbrev n_X0_init : Nat := 0
theorem q_X0_init : mNs[n_X0_init]? = some mD_X0_init := rfl
abbrev n_X0_clear : Nat := 1
theorem q_X0_clear : mNs[n_X0_clear]? = some mD_X0_clear := rfl
abbrev n_X0_cutTo : Nat := 2
theorem q_X0_cutTo : mNs[n_X0_cutTo]? = some mD_X0_cutTo := rfl
abbrev n_X0_at : Nat := 3
theorem q_X0_at : mNs[n_X0_at]? = some mD_X0_at := rfl
abbrev n_X0_add : Nat := 4
theorem q_X0_add : mNs[n_X0_add]? = some mD_X0_add := rfl
abbrev n_X0_addNumber : Nat := 5
theorem q_X0_addNumber : mNs[n_X0_addNumber]? = some mD_X0_addNumber := rfl
abbrev n_X0_number : Nat := 6
theorem q_X0_number : mNs[n_X0_number]? = some mD_X0_number := rfl
abbrev n_X0_seal : Nat := 7
theorem q_X0_seal : mNs[n_X0_seal]? = some mD_X0_seal := rfl
abbrev n_X1_init : Nat := 8
theorem q_X1_init : mNs[n_X1_init]? = some mD_X1_init := rfl
abbrev n_X1_clear : Nat := 9
theorem q_X1_clear : mNs[n_X1_clear]? = some mD_X1_clear := rfl
abbrev n_X1_append : Nat := 10
theorem q_X1_append : mNs[n_X1_append]? = some mD_X1_append := rfl
abbrev n_X1_has : Nat := 11
theorem q_X1_has : mNs[n_X1_has]? = some mD_X1_has := rfl
abbrev n_X1_startOf : Nat := 12
theorem q_X1_startOf : mNs[n_X1_startOf]? = some mD_X1_startOf := rfl
abbrev n_X1_field : Nat := 13
theorem q_X1_field : mNs[n_X1_field]? = some mD_X1_field := rfl
abbrev n_X1_kindOf : Nat := 14
theorem q_X1_kindOf : mNs[n_X1_kindOf]? = some mD_X1_kindOf := rfl
abbrev n_X1_isSeen : Nat := 15
theorem q_X1_isSeen : mNs[n_X1_isSeen]? = some mD_X1_isSeen := rfl
abbrev n_X1_dropBroken : Nat := 16
theorem q_X1_dropBroken : mNs[n_X1_dropBroken]? = some mD_X1_dropBroken := rfl
abbrev n_X1_cutBroken : Nat := 17
theorem q_X1_cutBroken : mNs[n_X1_cutBroken]? = some mD_X1_cutBroken := rfl
abbrev n_X1_isSentBy : Nat := 18
theorem q_X1_isSentBy : mNs[n_X1_isSentBy]? = some mD_X1_isSentBy := rfl
abbrev n_X1_nextOf : Nat := 19
theorem q_X1_nextOf : mNs[n_X1_nextOf]? = some mD_X1_nextOf := rfl
abbrev n_X1_offsetOfRecent : Nat := 20
theorem q_X1_offsetOfRecent : mNs[n_X1_offsetOfRecent]? = some mD_X1_offsetOfRecent := rfl
abbrev n_X1_hasEndOf : Nat := 21
theorem q_X1_hasEndOf : mNs[n_X1_hasEndOf]? = some mD_X1_hasEndOf := rfl
abbrev n_X1_stable : Nat := 22
theorem q_X1_stable : mNs[n_X1_stable]? = some mD_X1_stable := rfl
abbrev n_X1_committedEntries : Nat := 23
theorem q_X1_committedEntries : mNs[n_X1_committedEntries]? = some mD_X1_committedEntries := rfl
abbrev n_X1_firstCommitted : Nat := 24
theorem q_X1_firstCommitted : mNs[n_X1_firstCommitted]? = some mD_X1_firstCommitted := rfl
abbrev n_X1_firstSeen : Nat := 25
theorem q_X1_firstSeen : mNs[n_X1_firstSeen]? = some mD_X1_firstSeen := rfl
abbrev n_X1_copyPayload : Nat := 26
theorem q_X1_copyPayload : mNs[n_X1_copyPayload]? = some mD_X1_copyPayload := rfl
abbrev n_X2_init : Nat := 27
theorem q_X2_init : mNs[n_X2_init]? = some mD_X2_init := rfl
abbrev n_X2_forget : Nat := 28
theorem q_X2_forget : mNs[n_X2_forget]? = some mD_X2_forget := rfl
abbrev n_X2_openTransaction : Nat := 29
theorem q_X2_openTransaction : mNs[n_X2_openTransaction]? = some mD_X2_openTransaction := rfl
abbrev n_X2_closeTransaction : Nat := 30
theorem q_X2_closeTransaction : mNs[n_X2_closeTransaction]? = some mD_X2_closeTransaction := rfl
abbrev n_X2_isOpen : Nat := 31
theorem q_X2_isOpen : mNs[n_X2_isOpen]? = some mD_X2_isOpen := rfl
abbrev n_X2_hasAdded : Nat := 32
theorem q_X2_hasAdded : mNs[n_X2_hasAdded]? = some mD_X2_hasAdded := rfl
abbrev n_X3_init : Nat := 33
theorem q_X3_init : mNs[n_X3_init]? = some mD_X3_init := rfl
abbrev n_X3_clear : Nat := 34
theorem q_X3_clear : mNs[n_X3_clear]? = some mD_X3_clear := rfl
abbrev n_X3_note : Nat := 35
theorem q_X3_note : mNs[n_X3_note]? = some mD_X3_note := rfl
abbrev n_X3_bytesOf : Nat := 36
theorem q_X3_bytesOf : mNs[n_X3_bytesOf]? = some mD_X3_bytesOf := rfl
abbrev n_X3_keptOf : Nat := 37
theorem q_X3_keptOf : mNs[n_X3_keptOf]? = some mD_X3_keptOf := rfl
abbrev n_X4_init : Nat := 38
theorem q_X4_init : mNs[n_X4_init]? = some mD_X4_init := rfl
abbrev n_X4_format : Nat := 39
theorem q_X4_format : mNs[n_X4_format]? = some mD_X4_format := rfl
abbrev n_X4_feed : Nat := 40
theorem q_X4_feed : mNs[n_X4_feed]? = some mD_X4_feed := rfl
abbrev n_X4_register : Nat := 41
theorem q_X4_register : mNs[n_X4_register]? = some mD_X4_register := rfl
abbrev n_X4_begin : Nat := 42
theorem q_X4_begin : mNs[n_X4_begin]? = some mD_X4_begin := rfl
abbrev n_X4_send : Nat := 43
theorem q_X4_send : mNs[n_X4_send]? = some mD_X4_send := rfl
abbrev n_X4_later : Nat := 44
theorem q_X4_later : mNs[n_X4_later]? = some mD_X4_later := rfl
abbrev n_X4_end : Nat := 45
theorem q_X4_end : mNs[n_X4_end]? = some mD_X4_end := rfl
abbrev n_X4_mark : Nat := 46
theorem q_X4_mark : mNs[n_X4_mark]? = some mD_X4_mark := rfl
abbrev n_X4_marked : Nat := 47
theorem q_X4_marked : mNs[n_X4_marked]? = some mD_X4_marked := rfl
abbrev n_X4_tick : Nat := 48
theorem q_X4_tick : mNs[n_X4_tick]? = some mD_X4_tick := rfl
abbrev n_X4_fetch : Nat := 49
theorem q_X4_fetch : mNs[n_X4_fetch]? = some mD_X4_fetch := rfl
abbrev n_X4_answer : Nat := 50
theorem q_X4_answer : mNs[n_X4_answer]? = some mD_X4_answer := rfl
abbrev n_X4_sync : Nat := 51
theorem q_X4_sync : mNs[n_X4_sync]? = some mD_X4_sync := rfl
abbrev n_X4_crash : Nat := 52
theorem q_X4_crash : mNs[n_X4_crash]? = some mD_X4_crash := rfl
abbrev n_X4_open : Nat := 53
theorem q_X4_open : mNs[n_X4_open]? = some mD_X4_open := rfl
abbrev n_X4_partition : Nat := 54
theorem q_X4_partition : mNs[n_X4_partition]? = some mD_X4_partition := rfl
abbrev n_X4_entry : Nat := 55
theorem q_X4_entry : mNs[n_X4_entry]? = some mD_X4_entry := rfl
abbrev n_X4_producer : Nat := 56
theorem q_X4_producer : mNs[n_X4_producer]? = some mD_X4_producer := rfl
abbrev n_X4_next : Nat := 57
theorem q_X4_next : mNs[n_X4_next]? = some mD_X4_next := rfl
abbrev n_X4_byteOf : Nat := 58
theorem q_X4_byteOf : mNs[n_X4_byteOf]? = some mD_X4_byteOf := rfl
abbrev n_X4_count : Nat := 59
theorem q_X4_count : mNs[n_X4_count]? = some mD_X4_count := rfl
abbrev n_X4_build : Nat := 60
theorem q_X4_build : mNs[n_X4_build]? = some mD_X4_build := rfl
abbrev n_X4_forget : Nat := 61
theorem q_X4_forget : mNs[n_X4_forget]? = some mD_X4_forget := rfl
abbrev n_X4_isKey : Nat := 62
theorem q_X4_isKey : mNs[n_X4_isKey]? = some mD_X4_isKey := rfl
abbrev n_X4_isRegistered : Nat := 63
theorem q_X4_isRegistered : mNs[n_X4_isRegistered]? = some mD_X4_isRegistered := rfl
abbrev n_X4_isPartition : Nat := 64
theorem q_X4_isPartition : mNs[n_X4_isPartition]? = some mD_X4_isPartition := rfl
abbrev n_X4_isPlace : Nat := 65
theorem q_X4_isPlace : mNs[n_X4_isPlace]? = some mD_X4_isPlace := rfl
abbrev n_X4_placeOf : Nat := 66
theorem q_X4_placeOf : mNs[n_X4_placeOf]? = some mD_X4_placeOf := rfl
abbrev n_X4_rowOf : Nat := 67
theorem q_X4_rowOf : mNs[n_X4_rowOf]? = some mD_X4_rowOf := rfl
abbrev n_X4_refusalOf : Nat := 68
theorem q_X4_refusalOf : mNs[n_X4_refusalOf]? = some mD_X4_refusalOf := rfl
abbrev n_X4_takeSent : Nat := 69
theorem q_X4_takeSent : mNs[n_X4_takeSent]? = some mD_X4_takeSent := rfl
abbrev n_X4_logHasRoom : Nat := 70
theorem q_X4_logHasRoom : mNs[n_X4_logHasRoom]? = some mD_X4_logHasRoom := rfl
abbrev n_X4_bookHasRoom : Nat := 71
theorem q_X4_bookHasRoom : mNs[n_X4_bookHasRoom]? = some mD_X4_bookHasRoom := rfl
abbrev n_X4_registeredProducers : Nat := 72
theorem q_X4_registeredProducers : mNs[n_X4_registeredProducers]? = some mD_X4_registeredProducers := rfl
abbrev n_X4_openTransactions : Nat := 73
theorem q_X4_openTransactions : mNs[n_X4_openTransactions]? = some mD_X4_openTransactions := rfl
abbrev n_X4_openThatAdded : Nat := 74
theorem q_X4_openThatAdded : mNs[n_X4_openThatAdded]? = some mD_X4_openThatAdded := rfl
abbrev n_X4_writeToLog : Nat := 75
theorem q_X4_writeToLog : mNs[n_X4_writeToLog]? = some mD_X4_writeToLog := rfl
abbrev n_X4_writeToBook : Nat := 76
theorem q_X4_writeToBook : mNs[n_X4_writeToBook]? = some mD_X4_writeToBook := rfl
abbrev n_X4_learn : Nat := 77
theorem q_X4_learn : mNs[n_X4_learn]? = some mD_X4_learn := rfl
abbrev n_X4_markLaters : Nat := 78
theorem q_X4_markLaters : mNs[n_X4_markLaters]? = some mD_X4_markLaters := rfl
abbrev n_X4_setMark : Nat := 79
theorem q_X4_setMark : mNs[n_X4_setMark]? = some mD_X4_setMark := rfl
abbrev n_X4_raiseEpoch : Nat := 80
theorem q_X4_raiseEpoch : mNs[n_X4_raiseEpoch]? = some mD_X4_raiseEpoch := rfl
abbrev n_X4_decide : Nat := 81
theorem q_X4_decide : mNs[n_X4_decide]? = some mD_X4_decide := rfl
abbrev n_X4_finish : Nat := 82
theorem q_X4_finish : mNs[n_X4_finish]? = some mD_X4_finish := rfl
abbrev n_X4_endOverdue : Nat := 83
theorem q_X4_endOverdue : mNs[n_X4_endOverdue]? = some mD_X4_endOverdue := rfl
abbrev n_X4_finishDecided : Nat := 84
theorem q_X4_finishDecided : mNs[n_X4_finishDecided]? = some mD_X4_finishDecided := rfl
abbrev n_X4_firstToEnd : Nat := 85
theorem q_X4_firstToEnd : mNs[n_X4_firstToEnd]? = some mD_X4_firstToEnd := rfl
abbrev n_X5_init : Nat := 86
theorem q_X5_init : mNs[n_X5_init]? = some mD_X5_init := rfl
abbrev n_X5_forgets : Nat := 87
theorem q_X5_forgets : mNs[n_X5_forgets]? = some mD_X5_forgets := rfl
abbrev n_X5_format : Nat := 88
theorem q_X5_format : mNs[n_X5_format]? = some mD_X5_format := rfl
abbrev n_X5_sizeOf : Nat := 89
theorem q_X5_sizeOf : mNs[n_X5_sizeOf]? = some mD_X5_sizeOf := rfl
abbrev n_X5_bytesFrom : Nat := 90
theorem q_X5_bytesFrom : mNs[n_X5_bytesFrom]? = some mD_X5_bytesFrom := rfl
abbrev n_X5_unsynced : Nat := 91
theorem q_X5_unsynced : mNs[n_X5_unsynced]? = some mD_X5_unsynced := rfl
abbrev n_X5_add : Nat := 92
theorem q_X5_add : mNs[n_X5_add]? = some mD_X5_add := rfl
abbrev n_X5_opened : Nat := 93
theorem q_X5_opened : mNs[n_X5_opened]? = some mD_X5_opened := rfl
abbrev n_X5_openedAt : Nat := 94
theorem q_X5_openedAt : mNs[n_X5_openedAt]? = some mD_X5_openedAt := rfl
abbrev n_X5_bookHas : Nat := 95
theorem q_X5_bookHas : mNs[n_X5_bookHas]? = some mD_X5_bookHas := rfl
abbrev n_X5_refused : Nat := 96
theorem q_X5_refused : mNs[n_X5_refused]? = some mD_X5_refused := rfl
abbrev n_X5_registers : Nat := 97
theorem q_X5_registers : mNs[n_X5_registers]? = some mD_X5_registers := rfl
abbrev n_X5_marksOf : Nat := 98
theorem q_X5_marksOf : mNs[n_X5_marksOf]? = some mD_X5_marksOf := rfl
abbrev n_X5_finishes : Nat := 99
theorem q_X5_finishes : mNs[n_X5_finishes]? = some mD_X5_finishes := rfl
abbrev n_X5_closes : Nat := 100
theorem q_X5_closes : mNs[n_X5_closes]? = some mD_X5_closes := rfl
abbrev n_X5_ends : Nat := 101
theorem q_X5_ends : mNs[n_X5_ends]? = some mD_X5_ends := rfl
abbrev n_X5_register : Nat := 102
theorem q_X5_register : mNs[n_X5_register]? = some mD_X5_register := rfl
abbrev n_X5_begins : Nat := 103
theorem q_X5_begins : mNs[n_X5_begins]? = some mD_X5_begins := rfl
abbrev n_X5_begin : Nat := 104
theorem q_X5_begin : mNs[n_X5_begin]? = some mD_X5_begin := rfl
abbrev n_X5_offsetOf : Nat := 105
theorem q_X5_offsetOf : mNs[n_X5_offsetOf]? = some mD_X5_offsetOf := rfl
abbrev n_X5_nextOf : Nat := 106
theorem q_X5_nextOf : mNs[n_X5_nextOf]? = some mD_X5_nextOf := rfl
abbrev n_X5_again : Nat := 107
theorem q_X5_again : mNs[n_X5_again]? = some mD_X5_again := rfl
abbrev n_X5_send : Nat := 108
theorem q_X5_send : mNs[n_X5_send]? = some mD_X5_send := rfl
abbrev n_X5_isGroup : Nat := 109
theorem q_X5_isGroup : mNs[n_X5_isGroup]? = some mD_X5_isGroup := rfl
abbrev n_X5_isPartition : Nat := 110
theorem q_X5_isPartition : mNs[n_X5_isPartition]? = some mD_X5_isPartition := rfl
abbrev n_X5_later : Nat := 111
theorem q_X5_later : mNs[n_X5_later]? = some mD_X5_later := rfl
abbrev n_X5_later_ : Nat := 112
theorem q_X5_later_ : mNs[n_X5_later_]? = some mD_X5_later_ := rfl
abbrev n_X5_end : Nat := 113
theorem q_X5_end : mNs[n_X5_end]? = some mD_X5_end := rfl
abbrev n_X5_mark : Nat := 114
theorem q_X5_mark : mNs[n_X5_mark]? = some mD_X5_mark := rfl
abbrev n_X5_marked : Nat := 115
theorem q_X5_marked : mNs[n_X5_marked]? = some mD_X5_marked := rfl
abbrev n_X5_tick : Nat := 116
theorem q_X5_tick : mNs[n_X5_tick]? = some mD_X5_tick := rfl
abbrev n_X5_manyOf : Nat := 117
theorem q_X5_manyOf : mNs[n_X5_manyOf]? = some mD_X5_manyOf := rfl
abbrev n_X5_stable : Nat := 118
theorem q_X5_stable : mNs[n_X5_stable]? = some mD_X5_stable := rfl
abbrev n_X5_isSeen : Nat := 119
theorem q_X5_isSeen : mNs[n_X5_isSeen]? = some mD_X5_isSeen := rfl
abbrev n_X5_fetch : Nat := 120
theorem q_X5_fetch : mNs[n_X5_fetch]? = some mD_X5_fetch := rfl
abbrev n_X5_answer : Nat := 121
theorem q_X5_answer : mNs[n_X5_answer]? = some mD_X5_answer := rfl
abbrev n_X5_feed : Nat := 122
theorem q_X5_feed : mNs[n_X5_feed]? = some mD_X5_feed := rfl
abbrev n_X5_sync : Nat := 123
theorem q_X5_sync : mNs[n_X5_sync]? = some mD_X5_sync := rfl
abbrev n_X5_crash : Nat := 124
theorem q_X5_crash : mNs[n_X5_crash]? = some mD_X5_crash := rfl
abbrev n_X5_tells : Nat := 125
theorem q_X5_tells : mNs[n_X5_tells]? = some mD_X5_tells := rfl
abbrev n_X5_open : Nat := 126
theorem q_X5_open : mNs[n_X5_open]? = some mD_X5_open := rfl
abbrev n_X5_partition : Nat := 127
theorem q_X5_partition : mNs[n_X5_partition]? = some mD_X5_partition := rfl
abbrev n_X5_bytesOf : Nat := 128
theorem q_X5_bytesOf : mNs[n_X5_bytesOf]? = some mD_X5_bytesOf := rfl
abbrev n_X5_seenOf : Nat := 129
theorem q_X5_seenOf : mNs[n_X5_seenOf]? = some mD_X5_seenOf := rfl
abbrev n_X5_entry : Nat := 130
theorem q_X5_entry : mNs[n_X5_entry]? = some mD_X5_entry := rfl
abbrev n_X5_producer : Nat := 131
theorem q_X5_producer : mNs[n_X5_producer]? = some mD_X5_producer := rfl
abbrev n_X5_next : Nat := 132
theorem q_X5_next : mNs[n_X5_next]? = some mD_X5_next := rfl
abbrev n_X5_byteIn : Nat := 133
theorem q_X5_byteIn : mNs[n_X5_byteIn]? = some mD_X5_byteIn := rfl
abbrev n_X5_behind : Nat := 134
theorem q_X5_behind : mNs[n_X5_behind]? = some mD_X5_behind := rfl
abbrev n_X5_byteAt : Nat := 135
theorem q_X5_byteAt : mNs[n_X5_byteAt]? = some mD_X5_byteAt := rfl
abbrev n_X5_byteOf : Nat := 136
theorem q_X5_byteOf : mNs[n_X5_byteOf]? = some mD_X5_byteOf := rfl
abbrev n_X5_count : Nat := 137
theorem q_X5_count : mNs[n_X5_count]? = some mD_X5_count := rfl
abbrev n_J7_fill_53178 : Nat := 138
theorem q_J7_fill_53178 : mNs[n_J7_fill_53178]? = some mD_J7_fill_53178 := rfl
