theorem d_Mo_init_0 : decode b_Mo_init 0 = .ok (.aload_n 0, 1) := by decide +kernel
theorem d_Mo_init_1 : decode b_Mo_init 1 = .ok (.invokespecial 1, 3) := by decide +kernel
theorem d_Mo_init_4 : decode b_Mo_init 4 = .ok (.aload_n 0, 1) := by decide +kernel
theorem d_Mo_init_5 : decode b_Mo_init 5 = .ok (.sipush 256, 3) := by decide +kernel
theorem d_Mo_init_8 : decode b_Mo_init 8 = .ok (.newarray .long, 2) := by decide +kernel
theorem d_Mo_init_10 : decode b_Mo_init 10 = .ok (.putfield 7, 3) := by decide +kernel
theorem d_Mo_init_13 : decode b_Mo_init 13 = .ok (.aload_n 0, 1) := by decide +kernel
theorem d_Mo_init_14 : decode b_Mo_init 14 = .ok (.sipush 256, 3) := by decide +kernel
theorem d_Mo_init_17 : decode b_Mo_init 17 = .ok (.newarray .long, 2) := by decide +kernel
theorem d_Mo_init_19 : decode b_Mo_init 19 = .ok (.putfield 13, 3) := by decide +kernel
theorem d_Mo_init_22 : decode b_Mo_init 22 = .ok (.aload_n 0, 1) := by decide +kernel
theorem d_Mo_init_23 : decode b_Mo_init 23 = .ok (.sipush 256, 3) := by decide +kernel
theorem d_Mo_init_26 : decode b_Mo_init 26 = .ok (.newarray .boolean, 2) := by decide +kernel
theorem d_Mo_init_28 : decode b_Mo_init 28 = .ok (.putfield 16, 3) := by decide +kernel
theorem d_Mo_init_31 : decode b_Mo_init 31 = .ok (.aload_n 0, 1) := by decide +kernel
theorem d_Mo_init_32 : decode b_Mo_init 32 = .ok (.bipush 64, 2) := by decide +kernel
theorem d_Mo_init_34 : decode b_Mo_init 34 = .ok (.newarray .int, 2) := by decide +kernel
theorem d_Mo_init_36 : decode b_Mo_init 36 = .ok (.putfield 20, 3) := by decide +kernel
theorem d_Mo_init_39 : decode b_Mo_init 39 = .ok (.aload_n 0, 1) := by decide +kernel
theorem d_Mo_init_40 : decode b_Mo_init 40 = .ok (.sipush 2048, 3) := by decide +kernel
theorem d_Mo_init_43 : decode b_Mo_init 43 = .ok (.newarray .byte, 2) := by decide +kernel
theorem d_Mo_init_45 : decode b_Mo_init 45 = .ok (.putfield 24, 3) := by decide +kernel
theorem d_Mo_init_48 : decode b_Mo_init 48 = .ok (.aload_n 0, 1) := by decide +kernel
theorem d_Mo_init_49 : decode b_Mo_init 49 = .ok (.sipush 2048, 3) := by decide +kernel
theorem d_Mo_init_52 : decode b_Mo_init 52 = .ok (.newarray .int, 2) := by decide +kernel
theorem d_Mo_init_54 : decode b_Mo_init 54 = .ok (.putfield 28, 3) := by decide +kernel
theorem d_Mo_init_57 : decode b_Mo_init 57 = .ok (.aload_n 0, 1) := by decide +kernel
theorem d_Mo_init_58 : decode b_Mo_init 58 = .ok (.sipush 2048, 3) := by decide +kernel
theorem d_Mo_init_61 : decode b_Mo_init 61 = .ok (.newarray .long, 2) := by decide +kernel
theorem d_Mo_init_63 : decode b_Mo_init 63 = .ok (.putfield 31, 3) := by decide +kernel
theorem d_Mo_init_66 : decode b_Mo_init 66 = .ok (.aload_n 0, 1) := by decide +kernel
theorem d_Mo_init_67 : decode b_Mo_init 67 = .ok (.bipush 8, 2) := by decide +kernel
theorem d_Mo_init_69 : decode b_Mo_init 69 = .ok (.newarray .long, 2) := by decide +kernel
theorem d_Mo_init_71 : decode b_Mo_init 71 = .ok (.putfield 34, 3) := by decide +kernel
theorem d_Mo_init_74 : decode b_Mo_init 74 = .ok (.aload_n 0, 1) := by decide +kernel
theorem d_Mo_init_75 : decode b_Mo_init 75 = .ok (.bipush 64, 2) := by decide +kernel
theorem d_Mo_init_77 : decode b_Mo_init 77 = .ok (.newarray .boolean, 2) := by decide +kernel
theorem d_Mo_init_79 : decode b_Mo_init 79 = .ok (.putfield 37, 3) := by decide +kernel
theorem d_Mo_init_82 : decode b_Mo_init 82 = .ok (.aload_n 0, 1) := by decide +kernel
theorem d_Mo_init_83 : decode b_Mo_init 83 = .ok (.sipush 256, 3) := by decide +kernel
theorem d_Mo_init_86 : decode b_Mo_init 86 = .ok (.newarray .int, 2) := by decide +kernel
theorem d_Mo_init_88 : decode b_Mo_init 88 = .ok (.putfield 40, 3) := by decide +kernel
theorem d_Mo_init_91 : decode b_Mo_init 91 = .ok (.aload_n 0, 1) := by decide +kernel
theorem d_Mo_init_92 : decode b_Mo_init 92 = .ok (.bipush 64, 2) := by decide +kernel
theorem d_Mo_init_94 : decode b_Mo_init 94 = .ok (.newarray .long, 2) := by decide +kernel
theorem d_Mo_init_96 : decode b_Mo_init 96 = .ok (.putfield 43, 3) := by decide +kernel
theorem d_Mo_init_99 : decode b_Mo_init 99 = .ok (.return_, 1) := by decide +kernel
theorem d_Mo_put_0 : decode b_Mo_put 0 = .ok (.iload_n 1, 1) := by decide +kernel
theorem d_Mo_put_1 : decode b_Mo_put 1 = .ok (.invokestatic 46, 3) := by decide +kernel
theorem d_Mo_put_4 : decode b_Mo_put 4 = .ok (.ifCond .ne 5, 3) := by decide +kernel
theorem d_Mo_put_7 : decode b_Mo_put 7 = .ok (.iconst 0, 1) := by decide +kernel
theorem d_Mo_put_8 : decode b_Mo_put 8 = .ok (.ireturn, 1) := by decide +kernel
theorem d_Mo_put_9 : decode b_Mo_put 9 = .ok (.aload_n 0, 1) := by decide +kernel
theorem d_Mo_put_10 : decode b_Mo_put 10 = .ok (.getfield 7, 3) := by decide +kernel
theorem d_Mo_put_13 : decode b_Mo_put 13 = .ok (.iload_n 1, 1) := by decide +kernel
theorem d_Mo_put_14 : decode b_Mo_put 14 = .ok (.lload_n 2, 1) := by decide +kernel
theorem d_Mo_put_15 : decode b_Mo_put 15 = .ok (.lastore, 1) := by decide +kernel
theorem d_Mo_put_16 : decode b_Mo_put 16 = .ok (.iconst 1, 1) := by decide +kernel
theorem d_Mo_put_17 : decode b_Mo_put 17 = .ok (.ireturn, 1) := by decide +kernel
theorem d_Mo_isPlace_0 : decode b_Mo_isPlace 0 = .ok (.iload_n 0, 1) := by decide +kernel
theorem d_Mo_isPlace_1 : decode b_Mo_isPlace 1 = .ok (.ifCond .lt 14, 3) := by decide +kernel
theorem d_Mo_isPlace_4 : decode b_Mo_isPlace 4 = .ok (.iload_n 0, 1) := by decide +kernel
theorem d_Mo_isPlace_5 : decode b_Mo_isPlace 5 = .ok (.sipush 256, 3) := by decide +kernel
theorem d_Mo_isPlace_8 : decode b_Mo_isPlace 8 = .ok (.if_icmp .ge 7, 3) := by decide +kernel
theorem d_Mo_isPlace_11 : decode b_Mo_isPlace 11 = .ok (.iconst 1, 1) := by decide +kernel
theorem d_Mo_isPlace_12 : decode b_Mo_isPlace 12 = .ok (.goto 4, 3) := by decide +kernel
theorem d_Mo_isPlace_15 : decode b_Mo_isPlace 15 = .ok (.iconst 0, 1) := by decide +kernel
theorem d_Mo_isPlace_16 : decode b_Mo_isPlace 16 = .ok (.ireturn, 1) := by decide +kernel
theorem d_Mo_get_0 : decode b_Mo_get 0 = .ok (.iload_n 1, 1) := by decide +kernel
theorem d_Mo_get_1 : decode b_Mo_get 1 = .ok (.invokestatic 46, 3) := by decide +kernel
theorem d_Mo_get_4 : decode b_Mo_get 4 = .ok (.ifCond .eq 12, 3) := by decide +kernel
theorem d_Mo_get_7 : decode b_Mo_get 7 = .ok (.aload_n 0, 1) := by decide +kernel
theorem d_Mo_get_8 : decode b_Mo_get 8 = .ok (.getfield 7, 3) := by decide +kernel
theorem d_Mo_get_11 : decode b_Mo_get 11 = .ok (.iload_n 1, 1) := by decide +kernel
theorem d_Mo_get_12 : decode b_Mo_get 12 = .ok (.laload, 1) := by decide +kernel
theorem d_Mo_get_13 : decode b_Mo_get 13 = .ok (.goto 4, 3) := by decide +kernel
theorem d_Mo_get_16 : decode b_Mo_get 16 = .ok (.lconst 0, 1) := by decide +kernel
theorem d_Mo_get_17 : decode b_Mo_get 17 = .ok (.lreturn, 1) := by decide +kernel
theorem d_Mo_begin_0 : decode b_Mo_begin 0 = .ok (.aload_n 0, 1) := by decide +kernel
theorem d_Mo_begin_1 : decode b_Mo_begin 1 = .ok (.getfield 50, 3) := by decide +kernel
theorem d_Mo_begin_4 : decode b_Mo_begin 4 = .ok (.istore_n 1, 1) := by decide +kernel
theorem d_Mo_begin_5 : decode b_Mo_begin 5 = .ok (.aload_n 0, 1) := by decide +kernel
theorem d_Mo_begin_6 : decode b_Mo_begin 6 = .ok (.iconst 0, 1) := by decide +kernel
theorem d_Mo_begin_7 : decode b_Mo_begin 7 = .ok (.putfield 50, 3) := by decide +kernel
theorem d_Mo_begin_10 : decode b_Mo_begin 10 = .ok (.iload_n 1, 1) := by decide +kernel
theorem d_Mo_begin_11 : decode b_Mo_begin 11 = .ok (.ireturn, 1) := by decide +kernel
theorem d_Mo_transaction_0 : decode b_Mo_transaction 0 = .ok (.aload_n 0, 1) := by decide +kernel
theorem d_Mo_transaction_1 : decode b_Mo_transaction 1 = .ok (.getfield 50, 3) := by decide +kernel
theorem d_Mo_transaction_4 : decode b_Mo_transaction 4 = .ok (.bipush 64, 2) := by decide +kernel
theorem d_Mo_transaction_6 : decode b_Mo_transaction 6 = .ok (.if_icmp .ne 6, 3) := by decide +kernel
theorem d_Mo_transaction_9 : decode b_Mo_transaction 9 = .ok (.bipush (-3), 2) := by decide +kernel
theorem d_Mo_transaction_11 : decode b_Mo_transaction 11 = .ok (.ireturn, 1) := by decide +kernel
theorem d_Mo_transaction_12 : decode b_Mo_transaction 12 = .ok (.aload_n 0, 1) := by decide +kernel
theorem d_Mo_transaction_13 : decode b_Mo_transaction 13 = .ok (.getfield 20, 3) := by decide +kernel
theorem d_Mo_transaction_16 : decode b_Mo_transaction 16 = .ok (.aload_n 0, 1) := by decide +kernel
theorem d_Mo_transaction_17 : decode b_Mo_transaction 17 = .ok (.getfield 50, 3) := by decide +kernel
theorem d_Mo_transaction_20 : decode b_Mo_transaction 20 = .ok (.iconst 0, 1) := by decide +kernel
theorem d_Mo_transaction_21 : decode b_Mo_transaction 21 = .ok (.iastore, 1) := by decide +kernel
theorem d_Mo_transaction_22 : decode b_Mo_transaction 22 = .ok (.aload_n 0, 1) := by decide +kernel
theorem d_Mo_transaction_23 : decode b_Mo_transaction 23 = .ok (.getfield 37, 3) := by decide +kernel
theorem d_Mo_transaction_26 : decode b_Mo_transaction 26 = .ok (.aload_n 0, 1) := by decide +kernel
theorem d_Mo_transaction_27 : decode b_Mo_transaction 27 = .ok (.getfield 50, 3) := by decide +kernel
theorem d_Mo_transaction_30 : decode b_Mo_transaction 30 = .ok (.iconst 0, 1) := by decide +kernel
theorem d_Mo_transaction_31 : decode b_Mo_transaction 31 = .ok (.bastore, 1) := by decide +kernel
theorem d_Mo_transaction_32 : decode b_Mo_transaction 32 = .ok (.aload_n 0, 1) := by decide +kernel
theorem d_Mo_transaction_33 : decode b_Mo_transaction 33 = .ok (.dup, 1) := by decide +kernel
theorem d_Mo_transaction_34 : decode b_Mo_transaction 34 = .ok (.getfield 50, 3) := by decide +kernel
theorem d_Mo_transaction_37 : decode b_Mo_transaction 37 = .ok (.iconst 1, 1) := by decide +kernel
theorem d_Mo_transaction_38 : decode b_Mo_transaction 38 = .ok (.iadd, 1) := by decide +kernel
theorem d_Mo_transaction_39 : decode b_Mo_transaction 39 = .ok (.putfield 50, 3) := by decide +kernel
theorem d_Mo_transaction_42 : decode b_Mo_transaction 42 = .ok (.aload_n 0, 1) := by decide +kernel
theorem d_Mo_transaction_43 : decode b_Mo_transaction 43 = .ok (.getfield 50, 3) := by decide +kernel
theorem d_Mo_transaction_46 : decode b_Mo_transaction 46 = .ok (.iconst 1, 1) := by decide +kernel
theorem d_Mo_transaction_47 : decode b_Mo_transaction 47 = .ok (.isub, 1) := by decide +kernel
theorem d_Mo_transaction_48 : decode b_Mo_transaction 48 = .ok (.ireturn, 1) := by decide +kernel
theorem d_Mo_instruction_0 : decode b_Mo_instruction 0 = .ok (.iload_n 1, 1) := by decide +kernel
theorem d_Mo_instruction_1 : decode b_Mo_instruction 1 = .ok (.ifCond .lt 9, 3) := by decide +kernel
theorem d_Mo_instruction_4 : decode b_Mo_instruction 4 = .ok (.iload_n 1, 1) := by decide +kernel
theorem d_Mo_instruction_5 : decode b_Mo_instruction 5 = .ok (.bipush 10, 2) := by decide +kernel
theorem d_Mo_instruction_7 : decode b_Mo_instruction 7 = .ok (.if_icmp .le 5, 3) := by decide +kernel
theorem d_Mo_instruction_10 : decode b_Mo_instruction 10 = .ok (.iconst (-1), 1) := by decide +kernel
theorem d_Mo_instruction_11 : decode b_Mo_instruction 11 = .ok (.ireturn, 1) := by decide +kernel
theorem d_Mo_instruction_12 : decode b_Mo_instruction 12 = .ok (.aload_n 0, 1) := by decide +kernel
theorem d_Mo_instruction_13 : decode b_Mo_instruction 13 = .ok (.getfield 50, 3) := by decide +kernel
theorem d_Mo_instruction_16 : decode b_Mo_instruction 16 = .ok (.ifCond .ne 6, 3) := by decide +kernel
theorem d_Mo_instruction_19 : decode b_Mo_instruction 19 = .ok (.bipush (-2), 2) := by decide +kernel
theorem d_Mo_instruction_21 : decode b_Mo_instruction 21 = .ok (.ireturn, 1) := by decide +kernel
theorem d_Mo_instruction_22 : decode b_Mo_instruction 22 = .ok (.aload_n 0, 1) := by decide +kernel
theorem d_Mo_instruction_23 : decode b_Mo_instruction 23 = .ok (.getfield 50, 3) := by decide +kernel
theorem d_Mo_instruction_26 : decode b_Mo_instruction 26 = .ok (.iconst 1, 1) := by decide +kernel
theorem d_Mo_instruction_27 : decode b_Mo_instruction 27 = .ok (.isub, 1) := by decide +kernel
theorem d_Mo_instruction_28 : decode b_Mo_instruction 28 = .ok (.istore 5, 2) := by decide +kernel
theorem d_Mo_instruction_30 : decode b_Mo_instruction 30 = .ok (.aload_n 0, 1) := by decide +kernel
theorem d_Mo_instruction_31 : decode b_Mo_instruction 31 = .ok (.getfield 20, 3) := by decide +kernel
theorem d_Mo_instruction_34 : decode b_Mo_instruction 34 = .ok (.iload 5, 2) := by decide +kernel
theorem d_Mo_instruction_36 : decode b_Mo_instruction 36 = .ok (.iaload, 1) := by decide +kernel
theorem d_Mo_instruction_37 : decode b_Mo_instruction 37 = .ok (.bipush 32, 2) := by decide +kernel
theorem d_Mo_instruction_39 : decode b_Mo_instruction 39 = .ok (.if_icmp .ne 6, 3) := by decide +kernel
theorem d_Mo_instruction_42 : decode b_Mo_instruction 42 = .ok (.bipush (-3), 2) := by decide +kernel
theorem d_Mo_instruction_44 : decode b_Mo_instruction 44 = .ok (.ireturn, 1) := by decide +kernel
theorem d_Mo_instruction_45 : decode b_Mo_instruction 45 = .ok (.bipush 32, 2) := by decide +kernel
theorem d_Mo_instruction_47 : decode b_Mo_instruction 47 = .ok (.iload 5, 2) := by decide +kernel
theorem d_Mo_instruction_49 : decode b_Mo_instruction 49 = .ok (.imul, 1) := by decide +kernel
theorem d_Mo_instruction_50 : decode b_Mo_instruction 50 = .ok (.aload_n 0, 1) := by decide +kernel
theorem d_Mo_instruction_51 : decode b_Mo_instruction 51 = .ok (.getfield 20, 3) := by decide +kernel
theorem d_Mo_instruction_54 : decode b_Mo_instruction 54 = .ok (.iload 5, 2) := by decide +kernel
theorem d_Mo_instruction_56 : decode b_Mo_instruction 56 = .ok (.iaload, 1) := by decide +kernel
theorem d_Mo_instruction_57 : decode b_Mo_instruction 57 = .ok (.iadd, 1) := by decide +kernel
theorem d_Mo_instruction_58 : decode b_Mo_instruction 58 = .ok (.istore 6, 2) := by decide +kernel
theorem d_Mo_instruction_60 : decode b_Mo_instruction 60 = .ok (.aload_n 0, 1) := by decide +kernel
theorem d_Mo_instruction_61 : decode b_Mo_instruction 61 = .ok (.getfield 24, 3) := by decide +kernel
theorem d_Mo_instruction_64 : decode b_Mo_instruction 64 = .ok (.iload 6, 2) := by decide +kernel
theorem d_Mo_instruction_66 : decode b_Mo_instruction 66 = .ok (.iload_n 1, 1) := by decide +kernel
theorem d_Mo_instruction_67 : decode b_Mo_instruction 67 = .ok (.i2b, 1) := by decide +kernel
theorem d_Mo_instruction_68 : decode b_Mo_instruction 68 = .ok (.bastore, 1) := by decide +kernel
theorem d_Mo_instruction_69 : decode b_Mo_instruction 69 = .ok (.aload_n 0, 1) := by decide +kernel
theorem d_Mo_instruction_70 : decode b_Mo_instruction 70 = .ok (.getfield 28, 3) := by decide +kernel
theorem d_Mo_instruction_73 : decode b_Mo_instruction 73 = .ok (.iload 6, 2) := by decide +kernel
theorem d_Mo_instruction_75 : decode b_Mo_instruction 75 = .ok (.iload_n 2, 1) := by decide +kernel
theorem d_Mo_instruction_76 : decode b_Mo_instruction 76 = .ok (.bipush 8, 2) := by decide +kernel
theorem d_Mo_instruction_78 : decode b_Mo_instruction 78 = .ok (.invokestatic 54, 3) := by decide +kernel
theorem d_Mo_instruction_81 : decode b_Mo_instruction 81 = .ok (.iastore, 1) := by decide +kernel
theorem d_Mo_instruction_82 : decode b_Mo_instruction 82 = .ok (.aload_n 0, 1) := by decide +kernel
theorem d_Mo_instruction_83 : decode b_Mo_instruction 83 = .ok (.getfield 31, 3) := by decide +kernel
theorem d_Mo_instruction_86 : decode b_Mo_instruction 86 = .ok (.iload 6, 2) := by decide +kernel
theorem d_Mo_instruction_88 : decode b_Mo_instruction 88 = .ok (.lload_n 3, 1) := by decide +kernel
theorem d_Mo_instruction_89 : decode b_Mo_instruction 89 = .ok (.lastore, 1) := by decide +kernel
theorem d_Mo_instruction_90 : decode b_Mo_instruction 90 = .ok (.aload_n 0, 1) := by decide +kernel
theorem d_Mo_instruction_91 : decode b_Mo_instruction 91 = .ok (.getfield 20, 3) := by decide +kernel
theorem d_Mo_instruction_94 : decode b_Mo_instruction 94 = .ok (.iload 5, 2) := by decide +kernel
theorem d_Mo_instruction_96 : decode b_Mo_instruction 96 = .ok (.dup2, 1) := by decide +kernel
theorem d_Mo_instruction_97 : decode b_Mo_instruction 97 = .ok (.iaload, 1) := by decide +kernel
theorem d_Mo_instruction_98 : decode b_Mo_instruction 98 = .ok (.iconst 1, 1) := by decide +kernel
theorem d_Mo_instruction_99 : decode b_Mo_instruction 99 = .ok (.iadd, 1) := by decide +kernel
theorem d_Mo_instruction_100 : decode b_Mo_instruction 100 = .ok (.iastore, 1) := by decide +kernel
theorem d_Mo_instruction_101 : decode b_Mo_instruction 101 = .ok (.aload_n 0, 1) := by decide +kernel
theorem d_Mo_instruction_102 : decode b_Mo_instruction 102 = .ok (.getfield 37, 3) := by decide +kernel
theorem d_Mo_instruction_105 : decode b_Mo_instruction 105 = .ok (.iload 5, 2) := by decide +kernel
theorem d_Mo_instruction_107 : decode b_Mo_instruction 107 = .ok (.iconst 0, 1) := by decide +kernel
theorem d_Mo_instruction_108 : decode b_Mo_instruction 108 = .ok (.bastore, 1) := by decide +kernel
theorem d_Mo_instruction_109 : decode b_Mo_instruction 109 = .ok (.aload_n 0, 1) := by decide +kernel
theorem d_Mo_instruction_110 : decode b_Mo_instruction 110 = .ok (.getfield 20, 3) := by decide +kernel
theorem d_Mo_instruction_113 : decode b_Mo_instruction 113 = .ok (.iload 5, 2) := by decide +kernel
theorem d_Mo_instruction_115 : decode b_Mo_instruction 115 = .ok (.iaload, 1) := by decide +kernel
theorem d_Mo_instruction_116 : decode b_Mo_instruction 116 = .ok (.ireturn, 1) := by decide +kernel
theorem d_Mo_weave_0 : decode b_Mo_weave 0 = .ok (.aload_n 0, 1) := by decide +kernel
theorem d_Mo_weave_1 : decode b_Mo_weave 1 = .ok (.getfield 60, 3) := by decide +kernel
theorem d_Mo_weave_4 : decode b_Mo_weave 4 = .ok (.bipush 16, 2) := by decide +kernel
theorem d_Mo_weave_6 : decode b_Mo_weave 6 = .ok (.iadd, 1) := by decide +kernel
theorem d_Mo_weave_7 : decode b_Mo_weave 7 = .ok (.ldc 63, 2) := by decide +kernel
theorem d_Mo_weave_9 : decode b_Mo_weave 9 = .ok (.if_icmp .le 6, 3) := by decide +kernel
theorem d_Mo_weave_12 : decode b_Mo_weave 12 = .ok (.bipush (-3), 2) := by decide +kernel
theorem d_Mo_weave_14 : decode b_Mo_weave 14 = .ok (.ireturn, 1) := by decide +kernel
theorem d_Mo_weave_15 : decode b_Mo_weave 15 = .ok (.aload_n 0, 1) := by decide +kernel
theorem d_Mo_weave_16 : decode b_Mo_weave 16 = .ok (.dup, 1) := by decide +kernel
theorem d_Mo_weave_17 : decode b_Mo_weave 17 = .ok (.getfield 60, 3) := by decide +kernel
theorem d_Mo_weave_20 : decode b_Mo_weave 20 = .ok (.bipush 16, 2) := by decide +kernel
theorem d_Mo_weave_22 : decode b_Mo_weave 22 = .ok (.iadd, 1) := by decide +kernel
theorem d_Mo_weave_23 : decode b_Mo_weave 23 = .ok (.putfield 60, 3) := by decide +kernel
theorem d_Mo_weave_26 : decode b_Mo_weave 26 = .ok (.aload_n 0, 1) := by decide +kernel
theorem d_Mo_weave_27 : decode b_Mo_weave 27 = .ok (.getfield 60, 3) := by decide +kernel
theorem d_Mo_weave_30 : decode b_Mo_weave 30 = .ok (.ireturn, 1) := by decide +kernel
theorem d_Mo_unweave_0 : decode b_Mo_unweave 0 = .ok (.aload_n 0, 1) := by decide +kernel
theorem d_Mo_unweave_1 : decode b_Mo_unweave 1 = .ok (.getfield 60, 3) := by decide +kernel
theorem d_Mo_unweave_4 : decode b_Mo_unweave 4 = .ok (.istore_n 1, 1) := by decide +kernel
theorem d_Mo_unweave_5 : decode b_Mo_unweave 5 = .ok (.aload_n 0, 1) := by decide +kernel
theorem d_Mo_unweave_6 : decode b_Mo_unweave 6 = .ok (.iconst 0, 1) := by decide +kernel
theorem d_Mo_unweave_7 : decode b_Mo_unweave 7 = .ok (.putfield 60, 3) := by decide +kernel
theorem d_Mo_unweave_10 : decode b_Mo_unweave 10 = .ok (.iload_n 1, 1) := by decide +kernel
theorem d_Mo_unweave_11 : decode b_Mo_unweave 11 = .ok (.ireturn, 1) := by decide +kernel
theorem d_Mo_execute_0 : decode b_Mo_execute 0 = .ok (.iconst 0, 1) := by decide +kernel
theorem d_Mo_execute_1 : decode b_Mo_execute 1 = .ok (.istore_n 1, 1) := by decide +kernel
theorem d_Mo_execute_2 : decode b_Mo_execute 2 = .ok (.iconst 0, 1) := by decide +kernel
theorem d_Mo_execute_3 : decode b_Mo_execute 3 = .ok (.istore_n 2, 1) := by decide +kernel
theorem d_Mo_execute_4 : decode b_Mo_execute 4 = .ok (.iload_n 2, 1) := by decide +kernel
theorem d_Mo_execute_5 : decode b_Mo_execute 5 = .ok (.aload_n 0, 1) := by decide +kernel
theorem d_Mo_execute_6 : decode b_Mo_execute 6 = .ok (.getfield 50, 3) := by decide +kernel
theorem d_Mo_execute_9 : decode b_Mo_execute 9 = .ok (.if_icmp .ge 26, 3) := by decide +kernel
theorem d_Mo_execute_12 : decode b_Mo_execute 12 = .ok (.iload_n 1, 1) := by decide +kernel
theorem d_Mo_execute_13 : decode b_Mo_execute 13 = .ok (.aload_n 0, 1) := by decide +kernel
theorem d_Mo_execute_14 : decode b_Mo_execute 14 = .ok (.iload_n 2, 1) := by decide +kernel
theorem d_Mo_execute_15 : decode b_Mo_execute 15 = .ok (.invokevirtual 87, 3) := by decide +kernel
theorem d_Mo_execute_18 : decode b_Mo_execute 18 = .ok (.iconst 1, 1) := by decide +kernel
theorem d_Mo_execute_19 : decode b_Mo_execute 19 = .ok (.if_icmp .ne 7, 3) := by decide +kernel
theorem d_Mo_execute_22 : decode b_Mo_execute 22 = .ok (.iconst 1, 1) := by decide +kernel
theorem d_Mo_execute_23 : decode b_Mo_execute 23 = .ok (.goto 4, 3) := by decide +kernel
theorem d_Mo_execute_26 : decode b_Mo_execute 26 = .ok (.iconst 0, 1) := by decide +kernel
theorem d_Mo_execute_27 : decode b_Mo_execute 27 = .ok (.iadd, 1) := by decide +kernel
theorem d_Mo_execute_28 : decode b_Mo_execute 28 = .ok (.istore_n 1, 1) := by decide +kernel
theorem d_Mo_execute_29 : decode b_Mo_execute 29 = .ok (.iinc 2 1, 3) := by decide +kernel
theorem d_Mo_execute_32 : decode b_Mo_execute 32 = .ok (.goto (-28), 3) := by decide +kernel
theorem d_Mo_execute_35 : decode b_Mo_execute 35 = .ok (.iload_n 1, 1) := by decide +kernel
theorem d_Mo_execute_36 : decode b_Mo_execute 36 = .ok (.ireturn, 1) := by decide +kernel
theorem d_Mo_all_0 : decode b_Mo_all 0 = .ok (.iconst 0, 1) := by decide +kernel
theorem d_Mo_all_1 : decode b_Mo_all 1 = .ok (.istore_n 2, 1) := by decide +kernel
theorem d_Mo_all_2 : decode b_Mo_all 2 = .ok (.iload_n 2, 1) := by decide +kernel
theorem d_Mo_all_3 : decode b_Mo_all 3 = .ok (.bipush 8, 2) := by decide +kernel
theorem d_Mo_all_5 : decode b_Mo_all 5 = .ok (.if_icmp .ge 16, 3) := by decide +kernel
theorem d_Mo_all_8 : decode b_Mo_all 8 = .ok (.aload_n 0, 1) := by decide +kernel
theorem d_Mo_all_9 : decode b_Mo_all 9 = .ok (.getfield 34, 3) := by decide +kernel
theorem d_Mo_all_12 : decode b_Mo_all 12 = .ok (.iload_n 2, 1) := by decide +kernel
theorem d_Mo_all_13 : decode b_Mo_all 13 = .ok (.lconst 0, 1) := by decide +kernel
theorem d_Mo_all_14 : decode b_Mo_all 14 = .ok (.lastore, 1) := by decide +kernel
theorem d_Mo_all_15 : decode b_Mo_all 15 = .ok (.iinc 2 1, 3) := by decide +kernel
theorem d_Mo_all_18 : decode b_Mo_all 18 = .ok (.goto (-16), 3) := by decide +kernel
theorem d_Mo_all_21 : decode b_Mo_all 21 = .ok (.iconst 0, 1) := by decide +kernel
theorem d_Mo_all_22 : decode b_Mo_all 22 = .ok (.istore_n 2, 1) := by decide +kernel
theorem d_Mo_all_23 : decode b_Mo_all 23 = .ok (.iload_n 2, 1) := by decide +kernel
theorem d_Mo_all_24 : decode b_Mo_all 24 = .ok (.sipush 256, 3) := by decide +kernel
theorem d_Mo_all_27 : decode b_Mo_all 27 = .ok (.if_icmp .ge 16, 3) := by decide +kernel
theorem d_Mo_all_30 : decode b_Mo_all 30 = .ok (.aload_n 0, 1) := by decide +kernel
theorem d_Mo_all_31 : decode b_Mo_all 31 = .ok (.getfield 16, 3) := by decide +kernel
theorem d_Mo_all_34 : decode b_Mo_all 34 = .ok (.iload_n 2, 1) := by decide +kernel
theorem d_Mo_all_35 : decode b_Mo_all 35 = .ok (.iconst 0, 1) := by decide +kernel
theorem d_Mo_all_36 : decode b_Mo_all 36 = .ok (.bastore, 1) := by decide +kernel
theorem d_Mo_all_37 : decode b_Mo_all 37 = .ok (.iinc 2 1, 3) := by decide +kernel
theorem d_Mo_all_40 : decode b_Mo_all 40 = .ok (.goto (-17), 3) := by decide +kernel
theorem d_Mo_all_43 : decode b_Mo_all 43 = .ok (.aload_n 0, 1) := by decide +kernel
theorem d_Mo_all_44 : decode b_Mo_all 44 = .ok (.iconst 0, 1) := by decide +kernel
theorem d_Mo_all_45 : decode b_Mo_all 45 = .ok (.putfield 71, 3) := by decide +kernel
theorem d_Mo_all_48 : decode b_Mo_all 48 = .ok (.aload_n 0, 1) := by decide +kernel
theorem d_Mo_all_49 : decode b_Mo_all 49 = .ok (.iconst 0, 1) := by decide +kernel
theorem d_Mo_all_50 : decode b_Mo_all 50 = .ok (.putfield 78, 3) := by decide +kernel
theorem d_Mo_all_53 : decode b_Mo_all 53 = .ok (.iconst 0, 1) := by decide +kernel
theorem d_Mo_all_54 : decode b_Mo_all 54 = .ok (.istore_n 2, 1) := by decide +kernel
theorem d_Mo_all_55 : decode b_Mo_all 55 = .ok (.iconst 0, 1) := by decide +kernel
theorem d_Mo_all_56 : decode b_Mo_all 56 = .ok (.istore_n 3, 1) := by decide +kernel
theorem d_Mo_all_57 : decode b_Mo_all 57 = .ok (.iload_n 3, 1) := by decide +kernel
theorem d_Mo_all_58 : decode b_Mo_all 58 = .ok (.ifCond .ne 53, 3) := by decide +kernel
theorem d_Mo_all_61 : decode b_Mo_all 61 = .ok (.aload_n 0, 1) := by decide +kernel
theorem d_Mo_all_62 : decode b_Mo_all 62 = .ok (.getfield 71, 3) := by decide +kernel
theorem d_Mo_all_65 : decode b_Mo_all 65 = .ok (.aload_n 0, 1) := by decide +kernel
theorem d_Mo_all_66 : decode b_Mo_all 66 = .ok (.getfield 20, 3) := by decide +kernel
theorem d_Mo_all_69 : decode b_Mo_all 69 = .ok (.iload_n 1, 1) := by decide +kernel
theorem d_Mo_all_70 : decode b_Mo_all 70 = .ok (.iaload, 1) := by decide +kernel
theorem d_Mo_all_71 : decode b_Mo_all 71 = .ok (.if_icmp .lt 8, 3) := by decide +kernel
theorem d_Mo_all_74 : decode b_Mo_all 74 = .ok (.iconst 1, 1) := by decide +kernel
theorem d_Mo_all_75 : decode b_Mo_all 75 = .ok (.istore_n 3, 1) := by decide +kernel
theorem d_Mo_all_76 : decode b_Mo_all 76 = .ok (.goto (-19), 3) := by decide +kernel
theorem d_Mo_all_79 : decode b_Mo_all 79 = .ok (.iload_n 2, 1) := by decide +kernel
theorem d_Mo_all_80 : decode b_Mo_all 80 = .ok (.sipush 300, 3) := by decide +kernel
theorem d_Mo_all_83 : decode b_Mo_all 83 = .ok (.if_icmp .ne 8, 3) := by decide +kernel
theorem d_Mo_all_86 : decode b_Mo_all 86 = .ok (.iconst 3, 1) := by decide +kernel
theorem d_Mo_all_87 : decode b_Mo_all 87 = .ok (.istore_n 3, 1) := by decide +kernel
theorem d_Mo_all_88 : decode b_Mo_all 88 = .ok (.goto (-31), 3) := by decide +kernel
theorem d_Mo_all_91 : decode b_Mo_all 91 = .ok (.iinc 2 1, 3) := by decide +kernel
theorem d_Mo_all_94 : decode b_Mo_all 94 = .ok (.aload_n 0, 1) := by decide +kernel
theorem d_Mo_all_95 : decode b_Mo_all 95 = .ok (.bipush 32, 2) := by decide +kernel
theorem d_Mo_all_97 : decode b_Mo_all 97 = .ok (.iload_n 1, 1) := by decide +kernel
theorem d_Mo_all_98 : decode b_Mo_all 98 = .ok (.imul, 1) := by decide +kernel
theorem d_Mo_all_99 : decode b_Mo_all 99 = .ok (.aload_n 0, 1) := by decide +kernel
theorem d_Mo_all_100 : decode b_Mo_all 100 = .ok (.getfield 71, 3) := by decide +kernel
theorem d_Mo_all_103 : decode b_Mo_all 103 = .ok (.iadd, 1) := by decide +kernel
theorem d_Mo_all_104 : decode b_Mo_all 104 = .ok (.invokevirtual 83, 3) := by decide +kernel
theorem d_Mo_all_107 : decode b_Mo_all 107 = .ok (.istore_n 3, 1) := by decide +kernel
theorem d_Mo_all_108 : decode b_Mo_all 108 = .ok (.goto (-51), 3) := by decide +kernel
theorem d_Mo_all_111 : decode b_Mo_all 111 = .ok (.iconst 0, 1) := by decide +kernel
theorem d_Mo_all_112 : decode b_Mo_all 112 = .ok (.istore 4, 2) := by decide +kernel
theorem d_Mo_all_114 : decode b_Mo_all 114 = .ok (.iconst 0, 1) := by decide +kernel
theorem d_Mo_all_115 : decode b_Mo_all 115 = .ok (.istore 5, 2) := by decide +kernel
theorem d_Mo_all_117 : decode b_Mo_all 117 = .ok (.iload 5, 2) := by decide +kernel
theorem d_Mo_all_119 : decode b_Mo_all 119 = .ok (.sipush 256, 3) := by decide +kernel
theorem d_Mo_all_122 : decode b_Mo_all 122 = .ok (.if_icmp .ge 44, 3) := by decide +kernel
theorem d_Mo_all_125 : decode b_Mo_all 125 = .ok (.iload_n 3, 1) := by decide +kernel
theorem d_Mo_all_126 : decode b_Mo_all 126 = .ok (.iconst 1, 1) := by decide +kernel
theorem d_Mo_all_127 : decode b_Mo_all 127 = .ok (.if_icmp .ne 39, 3) := by decide +kernel
theorem d_Mo_all_130 : decode b_Mo_all 130 = .ok (.aload_n 0, 1) := by decide +kernel
theorem d_Mo_all_131 : decode b_Mo_all 131 = .ok (.getfield 16, 3) := by decide +kernel
theorem d_Mo_all_134 : decode b_Mo_all 134 = .ok (.iload 5, 2) := by decide +kernel
theorem d_Mo_all_136 : decode b_Mo_all 136 = .ok (.baload, 1) := by decide +kernel
theorem d_Mo_all_137 : decode b_Mo_all 137 = .ok (.ifCond .ne 6, 3) := by decide +kernel
theorem d_Mo_all_140 : decode b_Mo_all 140 = .ok (.goto 20, 3) := by decide +kernel
theorem d_Mo_all_143 : decode b_Mo_all 143 = .ok (.aload_n 0, 1) := by decide +kernel
theorem d_Mo_all_144 : decode b_Mo_all 144 = .ok (.getfield 7, 3) := by decide +kernel
theorem d_Mo_all_147 : decode b_Mo_all 147 = .ok (.iload 5, 2) := by decide +kernel
theorem d_Mo_all_149 : decode b_Mo_all 149 = .ok (.aload_n 0, 1) := by decide +kernel
theorem d_Mo_all_150 : decode b_Mo_all 150 = .ok (.getfield 13, 3) := by decide +kernel
theorem d_Mo_all_153 : decode b_Mo_all 153 = .ok (.iload 5, 2) := by decide +kernel
theorem d_Mo_all_155 : decode b_Mo_all 155 = .ok (.laload, 1) := by decide +kernel
theorem d_Mo_all_156 : decode b_Mo_all 156 = .ok (.lastore, 1) := by decide +kernel
theorem d_Mo_all_157 : decode b_Mo_all 157 = .ok (.iinc 4 1, 3) := by decide +kernel
theorem d_Mo_all_160 : decode b_Mo_all 160 = .ok (.iinc 5 1, 3) := by decide +kernel
theorem d_Mo_all_163 : decode b_Mo_all 163 = .ok (.goto (-46), 3) := by decide +kernel
theorem d_Mo_all_166 : decode b_Mo_all 166 = .ok (.aload_n 0, 1) := by decide +kernel
theorem d_Mo_all_167 : decode b_Mo_all 167 = .ok (.getfield 40, 3) := by decide +kernel
theorem d_Mo_all_170 : decode b_Mo_all 170 = .ok (.iconst 4, 1) := by decide +kernel
theorem d_Mo_all_171 : decode b_Mo_all 171 = .ok (.iload_n 1, 1) := by decide +kernel
theorem d_Mo_all_172 : decode b_Mo_all 172 = .ok (.imul, 1) := by decide +kernel
theorem d_Mo_all_173 : decode b_Mo_all 173 = .ok (.iload_n 3, 1) := by decide +kernel
theorem d_Mo_all_174 : decode b_Mo_all 174 = .ok (.iastore, 1) := by decide +kernel
theorem d_Mo_all_175 : decode b_Mo_all 175 = .ok (.aload_n 0, 1) := by decide +kernel
theorem d_Mo_all_176 : decode b_Mo_all 176 = .ok (.getfield 40, 3) := by decide +kernel
theorem d_Mo_all_179 : decode b_Mo_all 179 = .ok (.iconst 4, 1) := by decide +kernel
theorem d_Mo_all_180 : decode b_Mo_all 180 = .ok (.iload_n 1, 1) := by decide +kernel
theorem d_Mo_all_181 : decode b_Mo_all 181 = .ok (.imul, 1) := by decide +kernel
theorem d_Mo_all_182 : decode b_Mo_all 182 = .ok (.iconst 1, 1) := by decide +kernel
theorem d_Mo_all_183 : decode b_Mo_all 183 = .ok (.iadd, 1) := by decide +kernel
theorem d_Mo_all_184 : decode b_Mo_all 184 = .ok (.iload_n 2, 1) := by decide +kernel
theorem d_Mo_all_185 : decode b_Mo_all 185 = .ok (.iastore, 1) := by decide +kernel
theorem d_Mo_all_186 : decode b_Mo_all 186 = .ok (.aload_n 0, 1) := by decide +kernel
theorem d_Mo_all_187 : decode b_Mo_all 187 = .ok (.getfield 40, 3) := by decide +kernel
theorem d_Mo_all_190 : decode b_Mo_all 190 = .ok (.iconst 4, 1) := by decide +kernel
theorem d_Mo_all_191 : decode b_Mo_all 191 = .ok (.iload_n 1, 1) := by decide +kernel
theorem d_Mo_all_192 : decode b_Mo_all 192 = .ok (.imul, 1) := by decide +kernel
theorem d_Mo_all_193 : decode b_Mo_all 193 = .ok (.iconst 2, 1) := by decide +kernel
theorem d_Mo_all_194 : decode b_Mo_all 194 = .ok (.iadd, 1) := by decide +kernel
theorem d_Mo_all_195 : decode b_Mo_all 195 = .ok (.aload_n 0, 1) := by decide +kernel
theorem d_Mo_all_196 : decode b_Mo_all 196 = .ok (.getfield 78, 3) := by decide +kernel
theorem d_Mo_all_199 : decode b_Mo_all 199 = .ok (.iastore, 1) := by decide +kernel
theorem d_Mo_all_200 : decode b_Mo_all 200 = .ok (.aload_n 0, 1) := by decide +kernel
theorem d_Mo_all_201 : decode b_Mo_all 201 = .ok (.getfield 40, 3) := by decide +kernel
theorem d_Mo_all_204 : decode b_Mo_all 204 = .ok (.iconst 4, 1) := by decide +kernel
theorem d_Mo_all_205 : decode b_Mo_all 205 = .ok (.iload_n 1, 1) := by decide +kernel
theorem d_Mo_all_206 : decode b_Mo_all 206 = .ok (.imul, 1) := by decide +kernel
theorem d_Mo_all_207 : decode b_Mo_all 207 = .ok (.iconst 3, 1) := by decide +kernel
theorem d_Mo_all_208 : decode b_Mo_all 208 = .ok (.iadd, 1) := by decide +kernel
theorem d_Mo_all_209 : decode b_Mo_all 209 = .ok (.iload 4, 2) := by decide +kernel
theorem d_Mo_all_211 : decode b_Mo_all 211 = .ok (.iastore, 1) := by decide +kernel
theorem d_Mo_all_212 : decode b_Mo_all 212 = .ok (.aload_n 0, 1) := by decide +kernel
theorem d_Mo_all_213 : decode b_Mo_all 213 = .ok (.getfield 43, 3) := by decide +kernel
theorem d_Mo_all_216 : decode b_Mo_all 216 = .ok (.iload_n 1, 1) := by decide +kernel
theorem d_Mo_all_217 : decode b_Mo_all 217 = .ok (.iload_n 3, 1) := by decide +kernel
theorem d_Mo_all_218 : decode b_Mo_all 218 = .ok (.iconst 3, 1) := by decide +kernel
theorem d_Mo_all_219 : decode b_Mo_all 219 = .ok (.if_icmp .ne 7, 3) := by decide +kernel
theorem d_Mo_all_222 : decode b_Mo_all 222 = .ok (.lconst 0, 1) := by decide +kernel
theorem d_Mo_all_223 : decode b_Mo_all 223 = .ok (.goto 9, 3) := by decide +kernel
theorem d_Mo_all_226 : decode b_Mo_all 226 = .ok (.aload_n 0, 1) := by decide +kernel
theorem d_Mo_all_227 : decode b_Mo_all 227 = .ok (.getfield 34, 3) := by decide +kernel
theorem d_Mo_all_230 : decode b_Mo_all 230 = .ok (.iconst 0, 1) := by decide +kernel
theorem d_Mo_all_231 : decode b_Mo_all 231 = .ok (.laload, 1) := by decide +kernel
theorem d_Mo_all_232 : decode b_Mo_all 232 = .ok (.lastore, 1) := by decide +kernel
theorem d_Mo_all_233 : decode b_Mo_all 233 = .ok (.aload_n 0, 1) := by decide +kernel
theorem d_Mo_all_234 : decode b_Mo_all 234 = .ok (.getfield 37, 3) := by decide +kernel
theorem d_Mo_all_237 : decode b_Mo_all 237 = .ok (.iload_n 1, 1) := by decide +kernel
theorem d_Mo_all_238 : decode b_Mo_all 238 = .ok (.iconst 1, 1) := by decide +kernel
theorem d_Mo_all_239 : decode b_Mo_all 239 = .ok (.bastore, 1) := by decide +kernel
theorem d_Mo_all_240 : decode b_Mo_all 240 = .ok (.iload_n 3, 1) := by decide +kernel
theorem d_Mo_all_241 : decode b_Mo_all 241 = .ok (.ireturn, 1) := by decide +kernel
theorem d_Mo_one_0 : decode b_Mo_one 0 = .ok (.aload_n 0, 1) := by decide +kernel
theorem d_Mo_one_1 : decode b_Mo_one 1 = .ok (.getfield 28, 3) := by decide +kernel
theorem d_Mo_one_4 : decode b_Mo_one 4 = .ok (.iload_n 1, 1) := by decide +kernel
theorem d_Mo_one_5 : decode b_Mo_one 5 = .ok (.iaload, 1) := by decide +kernel
theorem d_Mo_one_6 : decode b_Mo_one 6 = .ok (.istore_n 2, 1) := by decide +kernel
theorem d_Mo_one_7 : decode b_Mo_one 7 = .ok (.aload_n 0, 1) := by decide +kernel
theorem d_Mo_one_8 : decode b_Mo_one 8 = .ok (.getfield 31, 3) := by decide +kernel
theorem d_Mo_one_11 : decode b_Mo_one 11 = .ok (.iload_n 1, 1) := by decide +kernel
theorem d_Mo_one_12 : decode b_Mo_one 12 = .ok (.laload, 1) := by decide +kernel
theorem d_Mo_one_13 : decode b_Mo_one 13 = .ok (.ldc2_w 69, 3) := by decide +kernel
theorem d_Mo_one_16 : decode b_Mo_one 16 = .ok (.invokestatic 66, 3) := by decide +kernel
theorem d_Mo_one_19 : decode b_Mo_one 19 = .ok (.l2i, 1) := by decide +kernel
theorem d_Mo_one_20 : decode b_Mo_one 20 = .ok (.istore_n 3, 1) := by decide +kernel
theorem d_Mo_one_21 : decode b_Mo_one 21 = .ok (.aload_n 0, 1) := by decide +kernel
theorem d_Mo_one_22 : decode b_Mo_one 22 = .ok (.dup, 1) := by decide +kernel
theorem d_Mo_one_23 : decode b_Mo_one 23 = .ok (.getfield 71, 3) := by decide +kernel
theorem d_Mo_one_26 : decode b_Mo_one 26 = .ok (.iconst 1, 1) := by decide +kernel
theorem d_Mo_one_27 : decode b_Mo_one 27 = .ok (.iadd, 1) := by decide +kernel
theorem d_Mo_one_28 : decode b_Mo_one 28 = .ok (.putfield 71, 3) := by decide +kernel
theorem d_Mo_one_31 : decode b_Mo_one 31 = .ok (.aload_n 0, 1) := by decide +kernel
theorem d_Mo_one_32 : decode b_Mo_one 32 = .ok (.getfield 24, 3) := by decide +kernel
theorem d_Mo_one_35 : decode b_Mo_one 35 = .ok (.iload_n 1, 1) := by decide +kernel
theorem d_Mo_one_36 : decode b_Mo_one 36 = .ok (.baload, 1) := by decide +kernel
theorem d_Mo_one_37 : decode b_Mo_one 37 = .ok (.tableswitch 308 0 9 #[55, 57, 71, 127, 161, 182, 203, 224, 277, 306], 55) := by decide +kernel
theorem d_Mo_one_92 : decode b_Mo_one 92 = .ok (.iconst 1, 1) := by decide +kernel
theorem d_Mo_one_93 : decode b_Mo_one 93 = .ok (.ireturn, 1) := by decide +kernel
theorem d_Mo_one_94 : decode b_Mo_one 94 = .ok (.aload_n 0, 1) := by decide +kernel
theorem d_Mo_one_95 : decode b_Mo_one 95 = .ok (.getfield 34, 3) := by decide +kernel
theorem d_Mo_one_98 : decode b_Mo_one 98 = .ok (.iload_n 2, 1) := by decide +kernel
theorem d_Mo_one_99 : decode b_Mo_one 99 = .ok (.aload_n 0, 1) := by decide +kernel
theorem d_Mo_one_100 : decode b_Mo_one 100 = .ok (.getfield 31, 3) := by decide +kernel
theorem d_Mo_one_103 : decode b_Mo_one 103 = .ok (.iload_n 1, 1) := by decide +kernel
theorem d_Mo_one_104 : decode b_Mo_one 104 = .ok (.laload, 1) := by decide +kernel
theorem d_Mo_one_105 : decode b_Mo_one 105 = .ok (.lastore, 1) := by decide +kernel
theorem d_Mo_one_106 : decode b_Mo_one 106 = .ok (.iconst 0, 1) := by decide +kernel
theorem d_Mo_one_107 : decode b_Mo_one 107 = .ok (.ireturn, 1) := by decide +kernel
theorem d_Mo_one_108 : decode b_Mo_one 108 = .ok (.aload_n 0, 1) := by decide +kernel
theorem d_Mo_one_109 : decode b_Mo_one 109 = .ok (.getfield 34, 3) := by decide +kernel
theorem d_Mo_one_112 : decode b_Mo_one 112 = .ok (.iload_n 3, 1) := by decide +kernel
theorem d_Mo_one_113 : decode b_Mo_one 113 = .ok (.laload, 1) := by decide +kernel
theorem d_Mo_one_114 : decode b_Mo_one 114 = .ok (.invokestatic 74, 3) := by decide +kernel
theorem d_Mo_one_117 : decode b_Mo_one 117 = .ok (.istore 4, 2) := by decide +kernel
theorem d_Mo_one_119 : decode b_Mo_one 119 = .ok (.aload_n 0, 1) := by decide +kernel
theorem d_Mo_one_120 : decode b_Mo_one 120 = .ok (.getfield 34, 3) := by decide +kernel
theorem d_Mo_one_123 : decode b_Mo_one 123 = .ok (.iload_n 2, 1) := by decide +kernel
theorem d_Mo_one_124 : decode b_Mo_one 124 = .ok (.aload_n 0, 1) := by decide +kernel
theorem d_Mo_one_125 : decode b_Mo_one 125 = .ok (.getfield 16, 3) := by decide +kernel
theorem d_Mo_one_128 : decode b_Mo_one 128 = .ok (.iload 4, 2) := by decide +kernel
theorem d_Mo_one_130 : decode b_Mo_one 130 = .ok (.baload, 1) := by decide +kernel
theorem d_Mo_one_131 : decode b_Mo_one 131 = .ok (.ifCond .eq 13, 3) := by decide +kernel
theorem d_Mo_one_134 : decode b_Mo_one 134 = .ok (.aload_n 0, 1) := by decide +kernel
theorem d_Mo_one_135 : decode b_Mo_one 135 = .ok (.getfield 13, 3) := by decide +kernel
theorem d_Mo_one_138 : decode b_Mo_one 138 = .ok (.iload 4, 2) := by decide +kernel
theorem d_Mo_one_140 : decode b_Mo_one 140 = .ok (.laload, 1) := by decide +kernel
theorem d_Mo_one_141 : decode b_Mo_one 141 = .ok (.goto 10, 3) := by decide +kernel
theorem d_Mo_one_144 : decode b_Mo_one 144 = .ok (.aload_n 0, 1) := by decide +kernel
theorem d_Mo_one_145 : decode b_Mo_one 145 = .ok (.getfield 7, 3) := by decide +kernel
theorem d_Mo_one_148 : decode b_Mo_one 148 = .ok (.iload 4, 2) := by decide +kernel
theorem d_Mo_one_150 : decode b_Mo_one 150 = .ok (.laload, 1) := by decide +kernel
theorem d_Mo_one_151 : decode b_Mo_one 151 = .ok (.lastore, 1) := by decide +kernel
theorem d_Mo_one_152 : decode b_Mo_one 152 = .ok (.aload_n 0, 1) := by decide +kernel
theorem d_Mo_one_153 : decode b_Mo_one 153 = .ok (.dup, 1) := by decide +kernel
theorem d_Mo_one_154 : decode b_Mo_one 154 = .ok (.getfield 78, 3) := by decide +kernel
theorem d_Mo_one_157 : decode b_Mo_one 157 = .ok (.iconst 1, 1) := by decide +kernel
theorem d_Mo_one_158 : decode b_Mo_one 158 = .ok (.iadd, 1) := by decide +kernel
theorem d_Mo_one_159 : decode b_Mo_one 159 = .ok (.putfield 78, 3) := by decide +kernel
theorem d_Mo_one_162 : decode b_Mo_one 162 = .ok (.iconst 0, 1) := by decide +kernel
theorem d_Mo_one_163 : decode b_Mo_one 163 = .ok (.ireturn, 1) := by decide +kernel
theorem d_Mo_one_164 : decode b_Mo_one 164 = .ok (.aload_n 0, 1) := by decide +kernel
theorem d_Mo_one_165 : decode b_Mo_one 165 = .ok (.getfield 34, 3) := by decide +kernel
theorem d_Mo_one_168 : decode b_Mo_one 168 = .ok (.iload_n 3, 1) := by decide +kernel
theorem d_Mo_one_169 : decode b_Mo_one 169 = .ok (.laload, 1) := by decide +kernel
theorem d_Mo_one_170 : decode b_Mo_one 170 = .ok (.invokestatic 74, 3) := by decide +kernel
theorem d_Mo_one_173 : decode b_Mo_one 173 = .ok (.istore 5, 2) := by decide +kernel
theorem d_Mo_one_175 : decode b_Mo_one 175 = .ok (.aload_n 0, 1) := by decide +kernel
theorem d_Mo_one_176 : decode b_Mo_one 176 = .ok (.getfield 13, 3) := by decide +kernel
theorem d_Mo_one_179 : decode b_Mo_one 179 = .ok (.iload 5, 2) := by decide +kernel
theorem d_Mo_one_181 : decode b_Mo_one 181 = .ok (.aload_n 0, 1) := by decide +kernel
theorem d_Mo_one_182 : decode b_Mo_one 182 = .ok (.getfield 34, 3) := by decide +kernel
theorem d_Mo_one_185 : decode b_Mo_one 185 = .ok (.iload_n 2, 1) := by decide +kernel
theorem d_Mo_one_186 : decode b_Mo_one 186 = .ok (.laload, 1) := by decide +kernel
theorem d_Mo_one_187 : decode b_Mo_one 187 = .ok (.lastore, 1) := by decide +kernel
theorem d_Mo_one_188 : decode b_Mo_one 188 = .ok (.aload_n 0, 1) := by decide +kernel
theorem d_Mo_one_189 : decode b_Mo_one 189 = .ok (.getfield 16, 3) := by decide +kernel
theorem d_Mo_one_192 : decode b_Mo_one 192 = .ok (.iload 5, 2) := by decide +kernel
theorem d_Mo_one_194 : decode b_Mo_one 194 = .ok (.iconst 1, 1) := by decide +kernel
theorem d_Mo_one_195 : decode b_Mo_one 195 = .ok (.bastore, 1) := by decide +kernel
theorem d_Mo_one_196 : decode b_Mo_one 196 = .ok (.iconst 0, 1) := by decide +kernel
theorem d_Mo_one_197 : decode b_Mo_one 197 = .ok (.ireturn, 1) := by decide +kernel
theorem d_Mo_one_198 : decode b_Mo_one 198 = .ok (.aload_n 0, 1) := by decide +kernel
theorem d_Mo_one_199 : decode b_Mo_one 199 = .ok (.getfield 34, 3) := by decide +kernel
theorem d_Mo_one_202 : decode b_Mo_one 202 = .ok (.iload_n 2, 1) := by decide +kernel
theorem d_Mo_one_203 : decode b_Mo_one 203 = .ok (.aload_n 0, 1) := by decide +kernel
theorem d_Mo_one_204 : decode b_Mo_one 204 = .ok (.getfield 34, 3) := by decide +kernel
theorem d_Mo_one_207 : decode b_Mo_one 207 = .ok (.iload_n 2, 1) := by decide +kernel
theorem d_Mo_one_208 : decode b_Mo_one 208 = .ok (.laload, 1) := by decide +kernel
theorem d_Mo_one_209 : decode b_Mo_one 209 = .ok (.aload_n 0, 1) := by decide +kernel
theorem d_Mo_one_210 : decode b_Mo_one 210 = .ok (.getfield 34, 3) := by decide +kernel
theorem d_Mo_one_213 : decode b_Mo_one 213 = .ok (.iload_n 3, 1) := by decide +kernel
theorem d_Mo_one_214 : decode b_Mo_one 214 = .ok (.laload, 1) := by decide +kernel
theorem d_Mo_one_215 : decode b_Mo_one 215 = .ok (.ladd, 1) := by decide +kernel
theorem d_Mo_one_216 : decode b_Mo_one 216 = .ok (.lastore, 1) := by decide +kernel
theorem d_Mo_one_217 : decode b_Mo_one 217 = .ok (.iconst 0, 1) := by decide +kernel
theorem d_Mo_one_218 : decode b_Mo_one 218 = .ok (.ireturn, 1) := by decide +kernel
theorem d_Mo_one_219 : decode b_Mo_one 219 = .ok (.aload_n 0, 1) := by decide +kernel
theorem d_Mo_one_220 : decode b_Mo_one 220 = .ok (.getfield 34, 3) := by decide +kernel
theorem d_Mo_one_223 : decode b_Mo_one 223 = .ok (.iload_n 2, 1) := by decide +kernel
theorem d_Mo_one_224 : decode b_Mo_one 224 = .ok (.aload_n 0, 1) := by decide +kernel
theorem d_Mo_one_225 : decode b_Mo_one 225 = .ok (.getfield 34, 3) := by decide +kernel
theorem d_Mo_one_228 : decode b_Mo_one 228 = .ok (.iload_n 2, 1) := by decide +kernel
theorem d_Mo_one_229 : decode b_Mo_one 229 = .ok (.laload, 1) := by decide +kernel
theorem d_Mo_one_230 : decode b_Mo_one 230 = .ok (.aload_n 0, 1) := by decide +kernel
theorem d_Mo_one_231 : decode b_Mo_one 231 = .ok (.getfield 34, 3) := by decide +kernel
theorem d_Mo_one_234 : decode b_Mo_one 234 = .ok (.iload_n 3, 1) := by decide +kernel
theorem d_Mo_one_235 : decode b_Mo_one 235 = .ok (.laload, 1) := by decide +kernel
theorem d_Mo_one_236 : decode b_Mo_one 236 = .ok (.lsub, 1) := by decide +kernel
theorem d_Mo_one_237 : decode b_Mo_one 237 = .ok (.lastore, 1) := by decide +kernel
theorem d_Mo_one_238 : decode b_Mo_one 238 = .ok (.iconst 0, 1) := by decide +kernel
theorem d_Mo_one_239 : decode b_Mo_one 239 = .ok (.ireturn, 1) := by decide +kernel
theorem d_Mo_one_240 : decode b_Mo_one 240 = .ok (.aload_n 0, 1) := by decide +kernel
theorem d_Mo_one_241 : decode b_Mo_one 241 = .ok (.getfield 34, 3) := by decide +kernel
theorem d_Mo_one_244 : decode b_Mo_one 244 = .ok (.iload_n 2, 1) := by decide +kernel
theorem d_Mo_one_245 : decode b_Mo_one 245 = .ok (.aload_n 0, 1) := by decide +kernel
theorem d_Mo_one_246 : decode b_Mo_one 246 = .ok (.getfield 34, 3) := by decide +kernel
theorem d_Mo_one_249 : decode b_Mo_one 249 = .ok (.iload_n 2, 1) := by decide +kernel
theorem d_Mo_one_250 : decode b_Mo_one 250 = .ok (.laload, 1) := by decide +kernel
theorem d_Mo_one_251 : decode b_Mo_one 251 = .ok (.aload_n 0, 1) := by decide +kernel
theorem d_Mo_one_252 : decode b_Mo_one 252 = .ok (.getfield 34, 3) := by decide +kernel
theorem d_Mo_one_255 : decode b_Mo_one 255 = .ok (.iload_n 3, 1) := by decide +kernel
theorem d_Mo_one_256 : decode b_Mo_one 256 = .ok (.laload, 1) := by decide +kernel
theorem d_Mo_one_257 : decode b_Mo_one 257 = .ok (.lmul, 1) := by decide +kernel
theorem d_Mo_one_258 : decode b_Mo_one 258 = .ok (.lastore, 1) := by decide +kernel
theorem d_Mo_one_259 : decode b_Mo_one 259 = .ok (.iconst 0, 1) := by decide +kernel
theorem d_Mo_one_260 : decode b_Mo_one 260 = .ok (.ireturn, 1) := by decide +kernel
theorem d_Mo_one_261 : decode b_Mo_one 261 = .ok (.aload_n 0, 1) := by decide +kernel
theorem d_Mo_one_262 : decode b_Mo_one 262 = .ok (.getfield 34, 3) := by decide +kernel
theorem d_Mo_one_265 : decode b_Mo_one 265 = .ok (.iload_n 2, 1) := by decide +kernel
theorem d_Mo_one_266 : decode b_Mo_one 266 = .ok (.laload, 1) := by decide +kernel
theorem d_Mo_one_267 : decode b_Mo_one 267 = .ok (.lconst 0, 1) := by decide +kernel
theorem d_Mo_one_268 : decode b_Mo_one 268 = .ok (.lcmp, 1) := by decide +kernel
theorem d_Mo_one_269 : decode b_Mo_one 269 = .ok (.ifCond .eq 43, 3) := by decide +kernel
theorem d_Mo_one_272 : decode b_Mo_one 272 = .ok (.aload_n 0, 1) := by decide +kernel
theorem d_Mo_one_273 : decode b_Mo_one 273 = .ok (.aload_n 0, 1) := by decide +kernel
theorem d_Mo_one_274 : decode b_Mo_one 274 = .ok (.getfield 31, 3) := by decide +kernel
theorem d_Mo_one_277 : decode b_Mo_one 277 = .ok (.iload_n 1, 1) := by decide +kernel
theorem d_Mo_one_278 : decode b_Mo_one 278 = .ok (.laload, 1) := by decide +kernel
theorem d_Mo_one_279 : decode b_Mo_one 279 = .ok (.lconst 0, 1) := by decide +kernel
theorem d_Mo_one_280 : decode b_Mo_one 280 = .ok (.lcmp, 1) := by decide +kernel
theorem d_Mo_one_281 : decode b_Mo_one 281 = .ok (.ifCond .lt 16, 3) := by decide +kernel
theorem d_Mo_one_284 : decode b_Mo_one 284 = .ok (.aload_n 0, 1) := by decide +kernel
theorem d_Mo_one_285 : decode b_Mo_one 285 = .ok (.getfield 31, 3) := by decide +kernel
theorem d_Mo_one_288 : decode b_Mo_one 288 = .ok (.iload_n 1, 1) := by decide +kernel
theorem d_Mo_one_289 : decode b_Mo_one 289 = .ok (.laload, 1) := by decide +kernel
theorem d_Mo_one_290 : decode b_Mo_one 290 = .ok (.ldc2_w 81, 3) := by decide +kernel
theorem d_Mo_one_293 : decode b_Mo_one 293 = .ok (.lcmp, 1) := by decide +kernel
theorem d_Mo_one_294 : decode b_Mo_one 294 = .ok (.ifCond .le 8, 3) := by decide +kernel
theorem d_Mo_one_297 : decode b_Mo_one 297 = .ok (.bipush 32, 2) := by decide +kernel
theorem d_Mo_one_299 : decode b_Mo_one 299 = .ok (.goto 10, 3) := by decide +kernel
theorem d_Mo_one_302 : decode b_Mo_one 302 = .ok (.aload_n 0, 1) := by decide +kernel
theorem d_Mo_one_303 : decode b_Mo_one 303 = .ok (.getfield 31, 3) := by decide +kernel
theorem d_Mo_one_306 : decode b_Mo_one 306 = .ok (.iload_n 1, 1) := by decide +kernel
theorem d_Mo_one_307 : decode b_Mo_one 307 = .ok (.laload, 1) := by decide +kernel
theorem d_Mo_one_308 : decode b_Mo_one 308 = .ok (.l2i, 1) := by decide +kernel
theorem d_Mo_one_309 : decode b_Mo_one 309 = .ok (.putfield 71, 3) := by decide +kernel
theorem d_Mo_one_312 : decode b_Mo_one 312 = .ok (.iconst 0, 1) := by decide +kernel
theorem d_Mo_one_313 : decode b_Mo_one 313 = .ok (.ireturn, 1) := by decide +kernel
theorem d_Mo_one_314 : decode b_Mo_one 314 = .ok (.aload_n 0, 1) := by decide +kernel
theorem d_Mo_one_315 : decode b_Mo_one 315 = .ok (.getfield 34, 3) := by decide +kernel
theorem d_Mo_one_318 : decode b_Mo_one 318 = .ok (.iload_n 2, 1) := by decide +kernel
theorem d_Mo_one_319 : decode b_Mo_one 319 = .ok (.aload_n 0, 1) := by decide +kernel
theorem d_Mo_one_320 : decode b_Mo_one 320 = .ok (.getfield 34, 3) := by decide +kernel
theorem d_Mo_one_323 : decode b_Mo_one 323 = .ok (.iload_n 2, 1) := by decide +kernel
theorem d_Mo_one_324 : decode b_Mo_one 324 = .ok (.laload, 1) := by decide +kernel
theorem d_Mo_one_325 : decode b_Mo_one 325 = .ok (.aload_n 0, 1) := by decide +kernel
theorem d_Mo_one_326 : decode b_Mo_one 326 = .ok (.getfield 34, 3) := by decide +kernel
theorem d_Mo_one_329 : decode b_Mo_one 329 = .ok (.iload_n 3, 1) := by decide +kernel
theorem d_Mo_one_330 : decode b_Mo_one 330 = .ok (.laload, 1) := by decide +kernel
theorem d_Mo_one_331 : decode b_Mo_one 331 = .ok (.lcmp, 1) := by decide +kernel
theorem d_Mo_one_332 : decode b_Mo_one 332 = .ok (.ifCond .ge 7, 3) := by decide +kernel
theorem d_Mo_one_335 : decode b_Mo_one 335 = .ok (.lconst 1, 1) := by decide +kernel
theorem d_Mo_one_336 : decode b_Mo_one 336 = .ok (.goto 4, 3) := by decide +kernel
theorem d_Mo_one_339 : decode b_Mo_one 339 = .ok (.lconst 0, 1) := by decide +kernel
theorem d_Mo_one_340 : decode b_Mo_one 340 = .ok (.lastore, 1) := by decide +kernel
theorem d_Mo_one_341 : decode b_Mo_one 341 = .ok (.iconst 0, 1) := by decide +kernel
theorem d_Mo_one_342 : decode b_Mo_one 342 = .ok (.ireturn, 1) := by decide +kernel
theorem d_Mo_one_343 : decode b_Mo_one 343 = .ok (.iconst 2, 1) := by decide +kernel
theorem d_Mo_one_344 : decode b_Mo_one 344 = .ok (.ireturn, 1) := by decide +kernel
theorem d_Mo_one_345 : decode b_Mo_one 345 = .ok (.aload_n 0, 1) := by decide +kernel
theorem d_Mo_one_346 : decode b_Mo_one 346 = .ok (.getfield 34, 3) := by decide +kernel
theorem d_Mo_one_349 : decode b_Mo_one 349 = .ok (.iload_n 2, 1) := by decide +kernel
theorem d_Mo_one_350 : decode b_Mo_one 350 = .ok (.aload_n 0, 1) := by decide +kernel
theorem d_Mo_one_351 : decode b_Mo_one 351 = .ok (.getfield 34, 3) := by decide +kernel
theorem d_Mo_one_354 : decode b_Mo_one 354 = .ok (.iload_n 3, 1) := by decide +kernel
theorem d_Mo_one_355 : decode b_Mo_one 355 = .ok (.laload, 1) := by decide +kernel
theorem d_Mo_one_356 : decode b_Mo_one 356 = .ok (.lastore, 1) := by decide +kernel
theorem d_Mo_one_357 : decode b_Mo_one 357 = .ok (.iconst 0, 1) := by decide +kernel
theorem d_Mo_one_358 : decode b_Mo_one 358 = .ok (.ireturn, 1) := by decide +kernel
theorem d_Mo_placeOf_0 : decode b_Mo_placeOf 0 = .ok (.lload_n 0, 1) := by decide +kernel
theorem d_Mo_placeOf_1 : decode b_Mo_placeOf 1 = .ok (.ldc2_w 64, 3) := by decide +kernel
theorem d_Mo_placeOf_4 : decode b_Mo_placeOf 4 = .ok (.invokestatic 66, 3) := by decide +kernel
theorem d_Mo_placeOf_7 : decode b_Mo_placeOf 7 = .ok (.l2i, 1) := by decide +kernel
theorem d_Mo_placeOf_8 : decode b_Mo_placeOf 8 = .ok (.ireturn, 1) := by decide +kernel
theorem d_Mo_count_0 : decode b_Mo_count 0 = .ok (.aload_n 0, 1) := by decide +kernel
theorem d_Mo_count_1 : decode b_Mo_count 1 = .ok (.getfield 50, 3) := by decide +kernel
theorem d_Mo_count_4 : decode b_Mo_count 4 = .ok (.ireturn, 1) := by decide +kernel
theorem d_Mo_told_0 : decode b_Mo_told 0 = .ok (.iload_n 1, 1) := by decide +kernel
theorem d_Mo_told_1 : decode b_Mo_told 1 = .ok (.ifCond .lt 20, 3) := by decide +kernel
theorem d_Mo_told_4 : decode b_Mo_told 4 = .ok (.iload_n 1, 1) := by decide +kernel
theorem d_Mo_told_5 : decode b_Mo_told 5 = .ok (.aload_n 0, 1) := by decide +kernel
theorem d_Mo_told_6 : decode b_Mo_told 6 = .ok (.getfield 50, 3) := by decide +kernel
theorem d_Mo_told_9 : decode b_Mo_told 9 = .ok (.if_icmp .ge 12, 3) := by decide +kernel
theorem d_Mo_told_12 : decode b_Mo_told 12 = .ok (.iload_n 2, 1) := by decide +kernel
theorem d_Mo_told_13 : decode b_Mo_told 13 = .ok (.ifCond .lt 8, 3) := by decide +kernel
theorem d_Mo_told_16 : decode b_Mo_told 16 = .ok (.iload_n 2, 1) := by decide +kernel
theorem d_Mo_told_17 : decode b_Mo_told 17 = .ok (.iconst 3, 1) := by decide +kernel
theorem d_Mo_told_18 : decode b_Mo_told 18 = .ok (.if_icmp .le 5, 3) := by decide +kernel
theorem d_Mo_told_21 : decode b_Mo_told 21 = .ok (.iconst (-1), 1) := by decide +kernel
theorem d_Mo_told_22 : decode b_Mo_told 22 = .ok (.ireturn, 1) := by decide +kernel
theorem d_Mo_told_23 : decode b_Mo_told 23 = .ok (.aload_n 0, 1) := by decide +kernel
theorem d_Mo_told_24 : decode b_Mo_told 24 = .ok (.getfield 37, 3) := by decide +kernel
theorem d_Mo_told_27 : decode b_Mo_told 27 = .ok (.iload_n 1, 1) := by decide +kernel
theorem d_Mo_told_28 : decode b_Mo_told 28 = .ok (.baload, 1) := by decide +kernel
theorem d_Mo_told_29 : decode b_Mo_told 29 = .ok (.ifCond .eq 16, 3) := by decide +kernel
theorem d_Mo_told_32 : decode b_Mo_told 32 = .ok (.aload_n 0, 1) := by decide +kernel
theorem d_Mo_told_33 : decode b_Mo_told 33 = .ok (.getfield 40, 3) := by decide +kernel
theorem d_Mo_told_36 : decode b_Mo_told 36 = .ok (.iconst 4, 1) := by decide +kernel
theorem d_Mo_told_37 : decode b_Mo_told 37 = .ok (.iload_n 1, 1) := by decide +kernel
theorem d_Mo_told_38 : decode b_Mo_told 38 = .ok (.imul, 1) := by decide +kernel
theorem d_Mo_told_39 : decode b_Mo_told 39 = .ok (.iload_n 2, 1) := by decide +kernel
theorem d_Mo_told_40 : decode b_Mo_told 40 = .ok (.iadd, 1) := by decide +kernel
theorem d_Mo_told_41 : decode b_Mo_told 41 = .ok (.iaload, 1) := by decide +kernel
theorem d_Mo_told_42 : decode b_Mo_told 42 = .ok (.goto 5, 3) := by decide +kernel
theorem d_Mo_told_45 : decode b_Mo_told 45 = .ok (.bipush (-2), 2) := by decide +kernel
theorem d_Mo_told_47 : decode b_Mo_told 47 = .ok (.ireturn, 1) := by decide +kernel
theorem d_Mo_result_0 : decode b_Mo_result 0 = .ok (.iload_n 1, 1) := by decide +kernel
theorem d_Mo_result_1 : decode b_Mo_result 1 = .ok (.ifCond .lt 29, 3) := by decide +kernel
theorem d_Mo_result_4 : decode b_Mo_result 4 = .ok (.iload_n 1, 1) := by decide +kernel
theorem d_Mo_result_5 : decode b_Mo_result 5 = .ok (.aload_n 0, 1) := by decide +kernel
theorem d_Mo_result_6 : decode b_Mo_result 6 = .ok (.getfield 50, 3) := by decide +kernel
theorem d_Mo_result_9 : decode b_Mo_result 9 = .ok (.if_icmp .ge 21, 3) := by decide +kernel
theorem d_Mo_result_12 : decode b_Mo_result 12 = .ok (.aload_n 0, 1) := by decide +kernel
theorem d_Mo_result_13 : decode b_Mo_result 13 = .ok (.getfield 37, 3) := by decide +kernel
theorem d_Mo_result_16 : decode b_Mo_result 16 = .ok (.iload_n 1, 1) := by decide +kernel
theorem d_Mo_result_17 : decode b_Mo_result 17 = .ok (.baload, 1) := by decide +kernel
theorem d_Mo_result_18 : decode b_Mo_result 18 = .ok (.ifCond .eq 12, 3) := by decide +kernel
theorem d_Mo_result_21 : decode b_Mo_result 21 = .ok (.aload_n 0, 1) := by decide +kernel
theorem d_Mo_result_22 : decode b_Mo_result 22 = .ok (.getfield 43, 3) := by decide +kernel
theorem d_Mo_result_25 : decode b_Mo_result 25 = .ok (.iload_n 1, 1) := by decide +kernel
theorem d_Mo_result_26 : decode b_Mo_result 26 = .ok (.laload, 1) := by decide +kernel
theorem d_Mo_result_27 : decode b_Mo_result 27 = .ok (.goto 4, 3) := by decide +kernel
theorem d_Mo_result_30 : decode b_Mo_result 30 = .ok (.lconst 0, 1) := by decide +kernel
theorem d_Mo_result_31 : decode b_Mo_result 31 = .ok (.lreturn, 1) := by decide +kernel
