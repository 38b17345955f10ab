theorem d_Vb_init_0 : decode b_Vb_init 0 = .ok (.aload_n 0, 1) := by decide +kernel
theorem d_Vb_init_1 : decode b_Vb_init 1 = .ok (.invokespecial 1, 3) := by decide +kernel
theorem d_Vb_init_4 : decode b_Vb_init 4 = .ok (.aload_n 0, 1) := by decide +kernel
theorem d_Vb_init_5 : decode b_Vb_init 5 = .ok (.sipush 256, 3) := by decide +kernel
theorem d_Vb_init_8 : decode b_Vb_init 8 = .ok (.newarray .long, 2) := by decide +kernel
theorem d_Vb_init_10 : decode b_Vb_init 10 = .ok (.putfield 9, 3) := by decide +kernel
theorem d_Vb_init_13 : decode b_Vb_init 13 = .ok (.aload_n 0, 1) := by decide +kernel
theorem d_Vb_init_14 : decode b_Vb_init 14 = .ok (.bipush 64, 2) := by decide +kernel
theorem d_Vb_init_16 : decode b_Vb_init 16 = .ok (.anewarray 13, 3) := by decide +kernel
theorem d_Vb_init_19 : decode b_Vb_init 19 = .ok (.putfield 15, 3) := by decide +kernel
theorem d_Vb_init_22 : decode b_Vb_init 22 = .ok (.aload_n 0, 1) := by decide +kernel
theorem d_Vb_init_23 : decode b_Vb_init 23 = .ok (.new 19, 3) := by decide +kernel
theorem d_Vb_init_26 : decode b_Vb_init 26 = .ok (.dup, 1) := by decide +kernel
theorem d_Vb_init_27 : decode b_Vb_init 27 = .ok (.invokespecial 21, 3) := by decide +kernel
theorem d_Vb_init_30 : decode b_Vb_init 30 = .ok (.putfield 22, 3) := by decide +kernel
theorem d_Vb_init_33 : decode b_Vb_init 33 = .ok (.aload_n 0, 1) := by decide +kernel
theorem d_Vb_init_34 : decode b_Vb_init 34 = .ok (.iconst 1, 1) := by decide +kernel
theorem d_Vb_init_35 : decode b_Vb_init 35 = .ok (.bipush 16, 2) := by decide +kernel
theorem d_Vb_init_37 : decode b_Vb_init 37 = .ok (.iload_n 1, 1) := by decide +kernel
theorem d_Vb_init_38 : decode b_Vb_init 38 = .ok (.invokestatic 26, 3) := by decide +kernel
theorem d_Vb_init_41 : decode b_Vb_init 41 = .ok (.invokestatic 32, 3) := by decide +kernel
theorem d_Vb_init_44 : decode b_Vb_init 44 = .ok (.anewarray 35, 3) := by decide +kernel
theorem d_Vb_init_47 : decode b_Vb_init 47 = .ok (.putfield 37, 3) := by decide +kernel
theorem d_Vb_init_50 : decode b_Vb_init 50 = .ok (.return_, 1) := by decide +kernel
theorem d_Vb_put_0 : decode b_Vb_put 0 = .ok (.iload_n 1, 1) := by decide +kernel
theorem d_Vb_put_1 : decode b_Vb_put 1 = .ok (.invokestatic 41, 3) := by decide +kernel
theorem d_Vb_put_4 : decode b_Vb_put 4 = .ok (.ifCond .ne 5, 3) := by decide +kernel
theorem d_Vb_put_7 : decode b_Vb_put 7 = .ok (.iconst 0, 1) := by decide +kernel
theorem d_Vb_put_8 : decode b_Vb_put 8 = .ok (.ireturn, 1) := by decide +kernel
theorem d_Vb_put_9 : decode b_Vb_put 9 = .ok (.aload_n 0, 1) := by decide +kernel
theorem d_Vb_put_10 : decode b_Vb_put 10 = .ok (.getfield 9, 3) := by decide +kernel
theorem d_Vb_put_13 : decode b_Vb_put 13 = .ok (.iload_n 1, 1) := by decide +kernel
theorem d_Vb_put_14 : decode b_Vb_put 14 = .ok (.lload_n 2, 1) := by decide +kernel
theorem d_Vb_put_15 : decode b_Vb_put 15 = .ok (.lastore, 1) := by decide +kernel
theorem d_Vb_put_16 : decode b_Vb_put 16 = .ok (.iconst 1, 1) := by decide +kernel
theorem d_Vb_put_17 : decode b_Vb_put 17 = .ok (.ireturn, 1) := by decide +kernel
theorem d_Vb_isPlace_0 : decode b_Vb_isPlace 0 = .ok (.iload_n 0, 1) := by decide +kernel
theorem d_Vb_isPlace_1 : decode b_Vb_isPlace 1 = .ok (.ifCond .lt 14, 3) := by decide +kernel
theorem d_Vb_isPlace_4 : decode b_Vb_isPlace 4 = .ok (.iload_n 0, 1) := by decide +kernel
theorem d_Vb_isPlace_5 : decode b_Vb_isPlace 5 = .ok (.sipush 256, 3) := by decide +kernel
theorem d_Vb_isPlace_8 : decode b_Vb_isPlace 8 = .ok (.if_icmp .ge 7, 3) := by decide +kernel
theorem d_Vb_isPlace_11 : decode b_Vb_isPlace 11 = .ok (.iconst 1, 1) := by decide +kernel
theorem d_Vb_isPlace_12 : decode b_Vb_isPlace 12 = .ok (.goto 4, 3) := by decide +kernel
theorem d_Vb_isPlace_15 : decode b_Vb_isPlace 15 = .ok (.iconst 0, 1) := by decide +kernel
theorem d_Vb_isPlace_16 : decode b_Vb_isPlace 16 = .ok (.ireturn, 1) := by decide +kernel
theorem d_Vb_get_0 : decode b_Vb_get 0 = .ok (.iload_n 1, 1) := by decide +kernel
theorem d_Vb_get_1 : decode b_Vb_get 1 = .ok (.invokestatic 41, 3) := by decide +kernel
theorem d_Vb_get_4 : decode b_Vb_get 4 = .ok (.ifCond .eq 12, 3) := by decide +kernel
theorem d_Vb_get_7 : decode b_Vb_get 7 = .ok (.aload_n 0, 1) := by decide +kernel
theorem d_Vb_get_8 : decode b_Vb_get 8 = .ok (.getfield 9, 3) := by decide +kernel
theorem d_Vb_get_11 : decode b_Vb_get 11 = .ok (.iload_n 1, 1) := by decide +kernel
theorem d_Vb_get_12 : decode b_Vb_get 12 = .ok (.laload, 1) := by decide +kernel
theorem d_Vb_get_13 : decode b_Vb_get 13 = .ok (.goto 4, 3) := by decide +kernel
theorem d_Vb_get_16 : decode b_Vb_get 16 = .ok (.lconst 0, 1) := by decide +kernel
theorem d_Vb_get_17 : decode b_Vb_get 17 = .ok (.lreturn, 1) := by decide +kernel
theorem d_Vb_begin_0 : decode b_Vb_begin 0 = .ok (.aload_n 0, 1) := by decide +kernel
theorem d_Vb_begin_1 : decode b_Vb_begin 1 = .ok (.getfield 45, 3) := by decide +kernel
theorem d_Vb_begin_4 : decode b_Vb_begin 4 = .ok (.istore_n 1, 1) := by decide +kernel
theorem d_Vb_begin_5 : decode b_Vb_begin 5 = .ok (.aload_n 0, 1) := by decide +kernel
theorem d_Vb_begin_6 : decode b_Vb_begin 6 = .ok (.iconst 0, 1) := by decide +kernel
theorem d_Vb_begin_7 : decode b_Vb_begin 7 = .ok (.putfield 45, 3) := by decide +kernel
theorem d_Vb_begin_10 : decode b_Vb_begin 10 = .ok (.iload_n 1, 1) := by decide +kernel
theorem d_Vb_begin_11 : decode b_Vb_begin 11 = .ok (.ireturn, 1) := by decide +kernel
theorem d_Vb_transaction_0 : decode b_Vb_transaction 0 = .ok (.aload_n 0, 1) := by decide +kernel
theorem d_Vb_transaction_1 : decode b_Vb_transaction 1 = .ok (.getfield 45, 3) := by decide +kernel
theorem d_Vb_transaction_4 : decode b_Vb_transaction 4 = .ok (.bipush 64, 2) := by decide +kernel
theorem d_Vb_transaction_6 : decode b_Vb_transaction 6 = .ok (.if_icmp .lt 6, 3) := by decide +kernel
theorem d_Vb_transaction_9 : decode b_Vb_transaction 9 = .ok (.bipush (-3), 2) := by decide +kernel
theorem d_Vb_transaction_11 : decode b_Vb_transaction 11 = .ok (.ireturn, 1) := by decide +kernel
theorem d_Vb_transaction_12 : decode b_Vb_transaction 12 = .ok (.aload_n 0, 1) := by decide +kernel
theorem d_Vb_transaction_13 : decode b_Vb_transaction 13 = .ok (.getfield 15, 3) := by decide +kernel
theorem d_Vb_transaction_16 : decode b_Vb_transaction 16 = .ok (.aload_n 0, 1) := by decide +kernel
theorem d_Vb_transaction_17 : decode b_Vb_transaction 17 = .ok (.getfield 45, 3) := by decide +kernel
theorem d_Vb_transaction_20 : decode b_Vb_transaction 20 = .ok (.aaload, 1) := by decide +kernel
theorem d_Vb_transaction_21 : decode b_Vb_transaction 21 = .ok (.astore_n 1, 1) := by decide +kernel
theorem d_Vb_transaction_22 : decode b_Vb_transaction 22 = .ok (.aload_n 1, 1) := by decide +kernel
theorem d_Vb_transaction_23 : decode b_Vb_transaction 23 = .ok (.ifnonnull 22, 3) := by decide +kernel
theorem d_Vb_transaction_26 : decode b_Vb_transaction 26 = .ok (.aload_n 0, 1) := by decide +kernel
theorem d_Vb_transaction_27 : decode b_Vb_transaction 27 = .ok (.getfield 15, 3) := by decide +kernel
theorem d_Vb_transaction_30 : decode b_Vb_transaction 30 = .ok (.aload_n 0, 1) := by decide +kernel
theorem d_Vb_transaction_31 : decode b_Vb_transaction 31 = .ok (.getfield 45, 3) := by decide +kernel
theorem d_Vb_transaction_34 : decode b_Vb_transaction 34 = .ok (.new 13, 3) := by decide +kernel
theorem d_Vb_transaction_37 : decode b_Vb_transaction 37 = .ok (.dup, 1) := by decide +kernel
theorem d_Vb_transaction_38 : decode b_Vb_transaction 38 = .ok (.invokespecial 49, 3) := by decide +kernel
theorem d_Vb_transaction_41 : decode b_Vb_transaction 41 = .ok (.aastore, 1) := by decide +kernel
theorem d_Vb_transaction_42 : decode b_Vb_transaction 42 = .ok (.goto 7, 3) := by decide +kernel
theorem d_Vb_transaction_45 : decode b_Vb_transaction 45 = .ok (.aload_n 1, 1) := by decide +kernel
theorem d_Vb_transaction_46 : decode b_Vb_transaction 46 = .ok (.invokevirtual 50, 3) := by decide +kernel
theorem d_Vb_transaction_49 : decode b_Vb_transaction 49 = .ok (.aload_n 0, 1) := by decide +kernel
theorem d_Vb_transaction_50 : decode b_Vb_transaction 50 = .ok (.dup, 1) := by decide +kernel
theorem d_Vb_transaction_51 : decode b_Vb_transaction 51 = .ok (.getfield 45, 3) := by decide +kernel
theorem d_Vb_transaction_54 : decode b_Vb_transaction 54 = .ok (.iconst 1, 1) := by decide +kernel
theorem d_Vb_transaction_55 : decode b_Vb_transaction 55 = .ok (.iadd, 1) := by decide +kernel
theorem d_Vb_transaction_56 : decode b_Vb_transaction 56 = .ok (.putfield 45, 3) := by decide +kernel
theorem d_Vb_transaction_59 : decode b_Vb_transaction 59 = .ok (.aload_n 0, 1) := by decide +kernel
theorem d_Vb_transaction_60 : decode b_Vb_transaction 60 = .ok (.getfield 45, 3) := by decide +kernel
theorem d_Vb_transaction_63 : decode b_Vb_transaction 63 = .ok (.iconst 1, 1) := by decide +kernel
theorem d_Vb_transaction_64 : decode b_Vb_transaction 64 = .ok (.isub, 1) := by decide +kernel
theorem d_Vb_transaction_65 : decode b_Vb_transaction 65 = .ok (.ireturn, 1) := by decide +kernel
theorem d_Vb_instruction_0 : decode b_Vb_instruction 0 = .ok (.iload_n 1, 1) := by decide +kernel
theorem d_Vb_instruction_1 : decode b_Vb_instruction 1 = .ok (.ifCond .lt 9, 3) := by decide +kernel
theorem d_Vb_instruction_4 : decode b_Vb_instruction 4 = .ok (.iload_n 1, 1) := by decide +kernel
theorem d_Vb_instruction_5 : decode b_Vb_instruction 5 = .ok (.bipush 10, 2) := by decide +kernel
theorem d_Vb_instruction_7 : decode b_Vb_instruction 7 = .ok (.if_icmp .le 5, 3) := by decide +kernel
theorem d_Vb_instruction_10 : decode b_Vb_instruction 10 = .ok (.iconst (-1), 1) := by decide +kernel
theorem d_Vb_instruction_11 : decode b_Vb_instruction 11 = .ok (.ireturn, 1) := by decide +kernel
theorem d_Vb_instruction_12 : decode b_Vb_instruction 12 = .ok (.aload_n 0, 1) := by decide +kernel
theorem d_Vb_instruction_13 : decode b_Vb_instruction 13 = .ok (.aload_n 0, 1) := by decide +kernel
theorem d_Vb_instruction_14 : decode b_Vb_instruction 14 = .ok (.getfield 45, 3) := by decide +kernel
theorem d_Vb_instruction_17 : decode b_Vb_instruction 17 = .ok (.iconst 1, 1) := by decide +kernel
theorem d_Vb_instruction_18 : decode b_Vb_instruction 18 = .ok (.isub, 1) := by decide +kernel
theorem d_Vb_instruction_19 : decode b_Vb_instruction 19 = .ok (.invokevirtual 53, 3) := by decide +kernel
theorem d_Vb_instruction_22 : decode b_Vb_instruction 22 = .ok (.astore 5, 2) := by decide +kernel
theorem d_Vb_instruction_24 : decode b_Vb_instruction 24 = .ok (.aload 5, 2) := by decide +kernel
theorem d_Vb_instruction_26 : decode b_Vb_instruction 26 = .ok (.ifnonnull 8, 3) := by decide +kernel
theorem d_Vb_instruction_29 : decode b_Vb_instruction 29 = .ok (.bipush (-2), 2) := by decide +kernel
theorem d_Vb_instruction_31 : decode b_Vb_instruction 31 = .ok (.goto 11, 3) := by decide +kernel
theorem d_Vb_instruction_34 : decode b_Vb_instruction 34 = .ok (.aload 5, 2) := by decide +kernel
theorem d_Vb_instruction_36 : decode b_Vb_instruction 36 = .ok (.iload_n 1, 1) := by decide +kernel
theorem d_Vb_instruction_37 : decode b_Vb_instruction 37 = .ok (.iload_n 2, 1) := by decide +kernel
theorem d_Vb_instruction_38 : decode b_Vb_instruction 38 = .ok (.lload_n 3, 1) := by decide +kernel
theorem d_Vb_instruction_39 : decode b_Vb_instruction 39 = .ok (.invokevirtual 57, 3) := by decide +kernel
theorem d_Vb_instruction_42 : decode b_Vb_instruction 42 = .ok (.ireturn, 1) := by decide +kernel
theorem d_Vb_transactionAt_0 : decode b_Vb_transactionAt 0 = .ok (.iload_n 1, 1) := by decide +kernel
theorem d_Vb_transactionAt_1 : decode b_Vb_transactionAt 1 = .ok (.ifCond .lt 26, 3) := by decide +kernel
theorem d_Vb_transactionAt_4 : decode b_Vb_transactionAt 4 = .ok (.iload_n 1, 1) := by decide +kernel
theorem d_Vb_transactionAt_5 : decode b_Vb_transactionAt 5 = .ok (.aload_n 0, 1) := by decide +kernel
theorem d_Vb_transactionAt_6 : decode b_Vb_transactionAt 6 = .ok (.getfield 45, 3) := by decide +kernel
theorem d_Vb_transactionAt_9 : decode b_Vb_transactionAt 9 = .ok (.if_icmp .ge 18, 3) := by decide +kernel
theorem d_Vb_transactionAt_12 : decode b_Vb_transactionAt 12 = .ok (.iload_n 1, 1) := by decide +kernel
theorem d_Vb_transactionAt_13 : decode b_Vb_transactionAt 13 = .ok (.bipush 64, 2) := by decide +kernel
theorem d_Vb_transactionAt_15 : decode b_Vb_transactionAt 15 = .ok (.if_icmp .ge 12, 3) := by decide +kernel
theorem d_Vb_transactionAt_18 : decode b_Vb_transactionAt 18 = .ok (.aload_n 0, 1) := by decide +kernel
theorem d_Vb_transactionAt_19 : decode b_Vb_transactionAt 19 = .ok (.getfield 15, 3) := by decide +kernel
theorem d_Vb_transactionAt_22 : decode b_Vb_transactionAt 22 = .ok (.iload_n 1, 1) := by decide +kernel
theorem d_Vb_transactionAt_23 : decode b_Vb_transactionAt 23 = .ok (.aaload, 1) := by decide +kernel
theorem d_Vb_transactionAt_24 : decode b_Vb_transactionAt 24 = .ok (.goto 4, 3) := by decide +kernel
theorem d_Vb_transactionAt_27 : decode b_Vb_transactionAt 27 = .ok (.aconst_null, 1) := by decide +kernel
theorem d_Vb_transactionAt_28 : decode b_Vb_transactionAt 28 = .ok (.areturn, 1) := by decide +kernel
theorem d_Vb_weave_0 : decode b_Vb_weave 0 = .ok (.aload_n 0, 1) := by decide +kernel
theorem d_Vb_weave_1 : decode b_Vb_weave 1 = .ok (.getfield 22, 3) := by decide +kernel
theorem d_Vb_weave_4 : decode b_Vb_weave 4 = .ok (.lload_n 1, 1) := by decide +kernel
theorem d_Vb_weave_5 : decode b_Vb_weave 5 = .ok (.invokevirtual 61, 3) := by decide +kernel
theorem d_Vb_weave_8 : decode b_Vb_weave 8 = .ok (.ireturn, 1) := by decide +kernel
theorem d_Vb_unweave_0 : decode b_Vb_unweave 0 = .ok (.aload_n 0, 1) := by decide +kernel
theorem d_Vb_unweave_1 : decode b_Vb_unweave 1 = .ok (.getfield 22, 3) := by decide +kernel
theorem d_Vb_unweave_4 : decode b_Vb_unweave 4 = .ok (.invokevirtual 64, 3) := by decide +kernel
theorem d_Vb_unweave_7 : decode b_Vb_unweave 7 = .ok (.ireturn, 1) := by decide +kernel
theorem d_Vb_execute_0 : decode b_Vb_execute 0 = .ok (.aload_n 0, 1) := by decide +kernel
theorem d_Vb_execute_1 : decode b_Vb_execute 1 = .ok (.iconst 0, 1) := by decide +kernel
theorem d_Vb_execute_2 : decode b_Vb_execute 2 = .ok (.putfield 67, 3) := by decide +kernel
theorem d_Vb_execute_5 : decode b_Vb_execute 5 = .ok (.aload_n 0, 1) := by decide +kernel
theorem d_Vb_execute_6 : decode b_Vb_execute 6 = .ok (.iconst 0, 1) := by decide +kernel
theorem d_Vb_execute_7 : decode b_Vb_execute 7 = .ok (.putfield 70, 3) := by decide +kernel
theorem d_Vb_execute_10 : decode b_Vb_execute 10 = .ok (.aload_n 0, 1) := by decide +kernel
theorem d_Vb_execute_11 : decode b_Vb_execute 11 = .ok (.iconst 0, 1) := by decide +kernel
theorem d_Vb_execute_12 : decode b_Vb_execute 12 = .ok (.putfield 73, 3) := by decide +kernel
theorem d_Vb_execute_15 : decode b_Vb_execute 15 = .ok (.iconst 0, 1) := by decide +kernel
theorem d_Vb_execute_16 : decode b_Vb_execute 16 = .ok (.istore_n 1, 1) := by decide +kernel
theorem d_Vb_execute_17 : decode b_Vb_execute 17 = .ok (.iload_n 1, 1) := by decide +kernel
theorem d_Vb_execute_18 : decode b_Vb_execute 18 = .ok (.aload_n 0, 1) := by decide +kernel
theorem d_Vb_execute_19 : decode b_Vb_execute 19 = .ok (.getfield 22, 3) := by decide +kernel
theorem d_Vb_execute_22 : decode b_Vb_execute 22 = .ok (.invokevirtual 76, 3) := by decide +kernel
theorem d_Vb_execute_25 : decode b_Vb_execute 25 = .ok (.if_icmp .ge 41, 3) := by decide +kernel
theorem d_Vb_execute_28 : decode b_Vb_execute 28 = .ok (.aload_n 0, 1) := by decide +kernel
theorem d_Vb_execute_29 : decode b_Vb_execute 29 = .ok (.getfield 70, 3) := by decide +kernel
theorem d_Vb_execute_32 : decode b_Vb_execute 32 = .ok (.aload_n 0, 1) := by decide +kernel
theorem d_Vb_execute_33 : decode b_Vb_execute 33 = .ok (.getfield 45, 3) := by decide +kernel
theorem d_Vb_execute_36 : decode b_Vb_execute 36 = .ok (.if_icmp .ge 30, 3) := by decide +kernel
theorem d_Vb_execute_39 : decode b_Vb_execute 39 = .ok (.aload_n 0, 1) := by decide +kernel
theorem d_Vb_execute_40 : decode b_Vb_execute 40 = .ok (.aload_n 0, 1) := by decide +kernel
theorem d_Vb_execute_41 : decode b_Vb_execute 41 = .ok (.getfield 22, 3) := by decide +kernel
theorem d_Vb_execute_44 : decode b_Vb_execute 44 = .ok (.iload_n 1, 1) := by decide +kernel
theorem d_Vb_execute_45 : decode b_Vb_execute 45 = .ok (.invokevirtual 79, 3) := by decide +kernel
theorem d_Vb_execute_48 : decode b_Vb_execute 48 = .ok (.aload_n 0, 1) := by decide +kernel
theorem d_Vb_execute_49 : decode b_Vb_execute 49 = .ok (.getfield 37, 3) := by decide +kernel
theorem d_Vb_execute_52 : decode b_Vb_execute 52 = .ok (.arraylength, 1) := by decide +kernel
theorem d_Vb_execute_53 : decode b_Vb_execute 53 = .ok (.invokestatic 83, 3) := by decide +kernel
theorem d_Vb_execute_56 : decode b_Vb_execute 56 = .ok (.invokevirtual 86, 3) := by decide +kernel
theorem d_Vb_execute_59 : decode b_Vb_execute 59 = .ok (.pop, 1) := by decide +kernel
theorem d_Vb_execute_60 : decode b_Vb_execute 60 = .ok (.iinc 1 1, 3) := by decide +kernel
theorem d_Vb_execute_63 : decode b_Vb_execute 63 = .ok (.goto (-46), 3) := by decide +kernel
theorem d_Vb_execute_66 : decode b_Vb_execute 66 = .ok (.iconst 0, 1) := by decide +kernel
theorem d_Vb_execute_67 : decode b_Vb_execute 67 = .ok (.istore_n 1, 1) := by decide +kernel
theorem d_Vb_execute_68 : decode b_Vb_execute 68 = .ok (.iload_n 1, 1) := by decide +kernel
theorem d_Vb_execute_69 : decode b_Vb_execute 69 = .ok (.sipush 10000, 3) := by decide +kernel
theorem d_Vb_execute_72 : decode b_Vb_execute 72 = .ok (.if_icmp .ge 33, 3) := by decide +kernel
theorem d_Vb_execute_75 : decode b_Vb_execute 75 = .ok (.aload_n 0, 1) := by decide +kernel
theorem d_Vb_execute_76 : decode b_Vb_execute 76 = .ok (.getfield 70, 3) := by decide +kernel
theorem d_Vb_execute_79 : decode b_Vb_execute 79 = .ok (.aload_n 0, 1) := by decide +kernel
theorem d_Vb_execute_80 : decode b_Vb_execute 80 = .ok (.getfield 45, 3) := by decide +kernel
theorem d_Vb_execute_83 : decode b_Vb_execute 83 = .ok (.if_icmp .ge 22, 3) := by decide +kernel
theorem d_Vb_execute_86 : decode b_Vb_execute 86 = .ok (.aload_n 0, 1) := by decide +kernel
theorem d_Vb_execute_87 : decode b_Vb_execute 87 = .ok (.iload_n 1, 1) := by decide +kernel
theorem d_Vb_execute_88 : decode b_Vb_execute 88 = .ok (.aload_n 0, 1) := by decide +kernel
theorem d_Vb_execute_89 : decode b_Vb_execute 89 = .ok (.getfield 37, 3) := by decide +kernel
theorem d_Vb_execute_92 : decode b_Vb_execute 92 = .ok (.arraylength, 1) := by decide +kernel
theorem d_Vb_execute_93 : decode b_Vb_execute 93 = .ok (.invokestatic 83, 3) := by decide +kernel
theorem d_Vb_execute_96 : decode b_Vb_execute 96 = .ok (.invokevirtual 89, 3) := by decide +kernel
theorem d_Vb_execute_99 : decode b_Vb_execute 99 = .ok (.iinc 1 1, 3) := by decide +kernel
theorem d_Vb_execute_102 : decode b_Vb_execute 102 = .ok (.goto (-34), 3) := by decide +kernel
theorem d_Vb_execute_105 : decode b_Vb_execute 105 = .ok (.aload_n 0, 1) := by decide +kernel
theorem d_Vb_execute_106 : decode b_Vb_execute 106 = .ok (.getfield 73, 3) := by decide +kernel
theorem d_Vb_execute_109 : decode b_Vb_execute 109 = .ok (.ireturn, 1) := by decide +kernel
theorem d_Vb_goOn_0 : decode b_Vb_goOn 0 = .ok (.aload_n 0, 1) := by decide +kernel
theorem d_Vb_goOn_1 : decode b_Vb_goOn 1 = .ok (.getfield 37, 3) := by decide +kernel
theorem d_Vb_goOn_4 : decode b_Vb_goOn 4 = .ok (.iload_n 1, 1) := by decide +kernel
theorem d_Vb_goOn_5 : decode b_Vb_goOn 5 = .ok (.aaload, 1) := by decide +kernel
theorem d_Vb_goOn_6 : decode b_Vb_goOn 6 = .ok (.astore_n 2, 1) := by decide +kernel
theorem d_Vb_goOn_7 : decode b_Vb_goOn 7 = .ok (.aload_n 2, 1) := by decide +kernel
theorem d_Vb_goOn_8 : decode b_Vb_goOn 8 = .ok (.ifnull 10, 3) := by decide +kernel
theorem d_Vb_goOn_11 : decode b_Vb_goOn 11 = .ok (.aload_n 2, 1) := by decide +kernel
theorem d_Vb_goOn_12 : decode b_Vb_goOn 12 = .ok (.invokevirtual 104, 3) := by decide +kernel
theorem d_Vb_goOn_15 : decode b_Vb_goOn 15 = .ok (.ifCond .eq 9, 3) := by decide +kernel
theorem d_Vb_goOn_18 : decode b_Vb_goOn 18 = .ok (.aload_n 0, 1) := by decide +kernel
theorem d_Vb_goOn_19 : decode b_Vb_goOn 19 = .ok (.iload_n 1, 1) := by decide +kernel
theorem d_Vb_goOn_20 : decode b_Vb_goOn 20 = .ok (.invokevirtual 108, 3) := by decide +kernel
theorem d_Vb_goOn_23 : decode b_Vb_goOn 23 = .ok (.ireturn, 1) := by decide +kernel
theorem d_Vb_goOn_24 : decode b_Vb_goOn 24 = .ok (.aload_n 2, 1) := by decide +kernel
theorem d_Vb_goOn_25 : decode b_Vb_goOn 25 = .ok (.invokevirtual 111, 3) := by decide +kernel
theorem d_Vb_goOn_28 : decode b_Vb_goOn 28 = .ok (.ifCond .ne 13, 3) := by decide +kernel
theorem d_Vb_goOn_31 : decode b_Vb_goOn 31 = .ok (.aload_n 2, 1) := by decide +kernel
theorem d_Vb_goOn_32 : decode b_Vb_goOn 32 = .ok (.aload_n 0, 1) := by decide +kernel
theorem d_Vb_goOn_33 : decode b_Vb_goOn 33 = .ok (.getfield 9, 3) := by decide +kernel
theorem d_Vb_goOn_36 : decode b_Vb_goOn 36 = .ok (.invokevirtual 114, 3) := by decide +kernel
theorem d_Vb_goOn_39 : decode b_Vb_goOn 39 = .ok (.iconst 1, 1) := by decide +kernel
theorem d_Vb_goOn_40 : decode b_Vb_goOn 40 = .ok (.ireturn, 1) := by decide +kernel
theorem d_Vb_goOn_41 : decode b_Vb_goOn 41 = .ok (.aload_n 2, 1) := by decide +kernel
theorem d_Vb_goOn_42 : decode b_Vb_goOn 42 = .ok (.invokevirtual 118, 3) := by decide +kernel
theorem d_Vb_goOn_45 : decode b_Vb_goOn 45 = .ok (.aload_n 0, 1) := by decide +kernel
theorem d_Vb_goOn_46 : decode b_Vb_goOn 46 = .ok (.getfield 70, 3) := by decide +kernel
theorem d_Vb_goOn_49 : decode b_Vb_goOn 49 = .ok (.if_icmp .eq 5, 3) := by decide +kernel
theorem d_Vb_goOn_52 : decode b_Vb_goOn 52 = .ok (.iconst 0, 1) := by decide +kernel
theorem d_Vb_goOn_53 : decode b_Vb_goOn 53 = .ok (.ireturn, 1) := by decide +kernel
theorem d_Vb_goOn_54 : decode b_Vb_goOn 54 = .ok (.aload_n 0, 1) := by decide +kernel
theorem d_Vb_goOn_55 : decode b_Vb_goOn 55 = .ok (.aload_n 2, 1) := by decide +kernel
theorem d_Vb_goOn_56 : decode b_Vb_goOn 56 = .ok (.invokevirtual 121, 3) := by decide +kernel
theorem d_Vb_goOn_59 : decode b_Vb_goOn 59 = .ok (.iconst 1, 1) := by decide +kernel
theorem d_Vb_goOn_60 : decode b_Vb_goOn 60 = .ok (.ireturn, 1) := by decide +kernel
theorem d_Vb_takeNext_0 : decode b_Vb_takeNext 0 = .ok (.aload_n 0, 1) := by decide +kernel
theorem d_Vb_takeNext_1 : decode b_Vb_takeNext 1 = .ok (.aload_n 0, 1) := by decide +kernel
theorem d_Vb_takeNext_2 : decode b_Vb_takeNext 2 = .ok (.getfield 67, 3) := by decide +kernel
theorem d_Vb_takeNext_5 : decode b_Vb_takeNext 5 = .ok (.invokevirtual 53, 3) := by decide +kernel
theorem d_Vb_takeNext_8 : decode b_Vb_takeNext 8 = .ok (.astore_n 2, 1) := by decide +kernel
theorem d_Vb_takeNext_9 : decode b_Vb_takeNext 9 = .ok (.aload_n 2, 1) := by decide +kernel
theorem d_Vb_takeNext_10 : decode b_Vb_takeNext 10 = .ok (.ifnonnull 5, 3) := by decide +kernel
theorem d_Vb_takeNext_13 : decode b_Vb_takeNext 13 = .ok (.iconst 0, 1) := by decide +kernel
theorem d_Vb_takeNext_14 : decode b_Vb_takeNext 14 = .ok (.ireturn, 1) := by decide +kernel
theorem d_Vb_takeNext_15 : decode b_Vb_takeNext 15 = .ok (.aload_n 0, 1) := by decide +kernel
theorem d_Vb_takeNext_16 : decode b_Vb_takeNext 16 = .ok (.getfield 37, 3) := by decide +kernel
theorem d_Vb_takeNext_19 : decode b_Vb_takeNext 19 = .ok (.iload_n 1, 1) := by decide +kernel
theorem d_Vb_takeNext_20 : decode b_Vb_takeNext 20 = .ok (.aaload, 1) := by decide +kernel
theorem d_Vb_takeNext_21 : decode b_Vb_takeNext 21 = .ok (.astore_n 3, 1) := by decide +kernel
theorem d_Vb_takeNext_22 : decode b_Vb_takeNext 22 = .ok (.aload_n 3, 1) := by decide +kernel
theorem d_Vb_takeNext_23 : decode b_Vb_takeNext 23 = .ok (.ifnonnull 18, 3) := by decide +kernel
theorem d_Vb_takeNext_26 : decode b_Vb_takeNext 26 = .ok (.new 35, 3) := by decide +kernel
theorem d_Vb_takeNext_29 : decode b_Vb_takeNext 29 = .ok (.dup, 1) := by decide +kernel
theorem d_Vb_takeNext_30 : decode b_Vb_takeNext 30 = .ok (.invokespecial 125, 3) := by decide +kernel
theorem d_Vb_takeNext_33 : decode b_Vb_takeNext 33 = .ok (.astore_n 3, 1) := by decide +kernel
theorem d_Vb_takeNext_34 : decode b_Vb_takeNext 34 = .ok (.aload_n 0, 1) := by decide +kernel
theorem d_Vb_takeNext_35 : decode b_Vb_takeNext 35 = .ok (.getfield 37, 3) := by decide +kernel
theorem d_Vb_takeNext_38 : decode b_Vb_takeNext 38 = .ok (.iload_n 1, 1) := by decide +kernel
theorem d_Vb_takeNext_39 : decode b_Vb_takeNext 39 = .ok (.aload_n 3, 1) := by decide +kernel
theorem d_Vb_takeNext_40 : decode b_Vb_takeNext 40 = .ok (.aastore, 1) := by decide +kernel
theorem d_Vb_takeNext_41 : decode b_Vb_takeNext 41 = .ok (.aload_n 3, 1) := by decide +kernel
theorem d_Vb_takeNext_42 : decode b_Vb_takeNext 42 = .ok (.aload_n 2, 1) := by decide +kernel
theorem d_Vb_takeNext_43 : decode b_Vb_takeNext 43 = .ok (.aload_n 0, 1) := by decide +kernel
theorem d_Vb_takeNext_44 : decode b_Vb_takeNext 44 = .ok (.getfield 67, 3) := by decide +kernel
theorem d_Vb_takeNext_47 : decode b_Vb_takeNext 47 = .ok (.invokevirtual 126, 3) := by decide +kernel
theorem d_Vb_takeNext_50 : decode b_Vb_takeNext 50 = .ok (.aload_n 0, 1) := by decide +kernel
theorem d_Vb_takeNext_51 : decode b_Vb_takeNext 51 = .ok (.dup, 1) := by decide +kernel
theorem d_Vb_takeNext_52 : decode b_Vb_takeNext 52 = .ok (.getfield 67, 3) := by decide +kernel
theorem d_Vb_takeNext_55 : decode b_Vb_takeNext 55 = .ok (.iconst 1, 1) := by decide +kernel
theorem d_Vb_takeNext_56 : decode b_Vb_takeNext 56 = .ok (.iadd, 1) := by decide +kernel
theorem d_Vb_takeNext_57 : decode b_Vb_takeNext 57 = .ok (.putfield 67, 3) := by decide +kernel
theorem d_Vb_takeNext_60 : decode b_Vb_takeNext 60 = .ok (.iconst 1, 1) := by decide +kernel
theorem d_Vb_takeNext_61 : decode b_Vb_takeNext 61 = .ok (.ireturn, 1) := by decide +kernel
theorem d_Vb_registerOf_0 : decode b_Vb_registerOf 0 = .ok (.lload_n 0, 1) := by decide +kernel
theorem d_Vb_registerOf_1 : decode b_Vb_registerOf 1 = .ok (.ldc2_w 102, 3) := by decide +kernel
theorem d_Vb_registerOf_4 : decode b_Vb_registerOf 4 = .ok (.land, 1) := by decide +kernel
theorem d_Vb_registerOf_5 : decode b_Vb_registerOf 5 = .ok (.l2i, 1) := by decide +kernel
theorem d_Vb_registerOf_6 : decode b_Vb_registerOf 6 = .ok (.ireturn, 1) := by decide +kernel
theorem d_Vb_placeOf_0 : decode b_Vb_placeOf 0 = .ok (.lload_n 0, 1) := by decide +kernel
theorem d_Vb_placeOf_1 : decode b_Vb_placeOf 1 = .ok (.ldc2_w 100, 3) := by decide +kernel
theorem d_Vb_placeOf_4 : decode b_Vb_placeOf 4 = .ok (.land, 1) := by decide +kernel
theorem d_Vb_placeOf_5 : decode b_Vb_placeOf 5 = .ok (.l2i, 1) := by decide +kernel
theorem d_Vb_placeOf_6 : decode b_Vb_placeOf 6 = .ok (.ireturn, 1) := by decide +kernel
theorem d_Vb_settle_0 : decode b_Vb_settle 0 = .ok (.aload_n 1, 1) := by decide +kernel
theorem d_Vb_settle_1 : decode b_Vb_settle 1 = .ok (.aload_n 0, 1) := by decide +kernel
theorem d_Vb_settle_2 : decode b_Vb_settle 2 = .ok (.getfield 9, 3) := by decide +kernel
theorem d_Vb_settle_5 : decode b_Vb_settle 5 = .ok (.invokevirtual 130, 3) := by decide +kernel
theorem d_Vb_settle_8 : decode b_Vb_settle 8 = .ok (.ifCond .ne 8, 3) := by decide +kernel
theorem d_Vb_settle_11 : decode b_Vb_settle 11 = .ok (.aload_n 1, 1) := by decide +kernel
theorem d_Vb_settle_12 : decode b_Vb_settle 12 = .ok (.invokevirtual 134, 3) := by decide +kernel
theorem d_Vb_settle_15 : decode b_Vb_settle 15 = .ok (.return_, 1) := by decide +kernel
theorem d_Vb_settle_16 : decode b_Vb_settle 16 = .ok (.aload_n 1, 1) := by decide +kernel
theorem d_Vb_settle_17 : decode b_Vb_settle 17 = .ok (.aload_n 0, 1) := by decide +kernel
theorem d_Vb_settle_18 : decode b_Vb_settle 18 = .ok (.getfield 9, 3) := by decide +kernel
theorem d_Vb_settle_21 : decode b_Vb_settle 21 = .ok (.invokevirtual 137, 3) := by decide +kernel
theorem d_Vb_settle_24 : decode b_Vb_settle 24 = .ok (.ifCond .eq 13, 3) := by decide +kernel
theorem d_Vb_settle_27 : decode b_Vb_settle 27 = .ok (.aload_n 0, 1) := by decide +kernel
theorem d_Vb_settle_28 : decode b_Vb_settle 28 = .ok (.dup, 1) := by decide +kernel
theorem d_Vb_settle_29 : decode b_Vb_settle 29 = .ok (.getfield 73, 3) := by decide +kernel
theorem d_Vb_settle_32 : decode b_Vb_settle 32 = .ok (.iconst 1, 1) := by decide +kernel
theorem d_Vb_settle_33 : decode b_Vb_settle 33 = .ok (.iadd, 1) := by decide +kernel
theorem d_Vb_settle_34 : decode b_Vb_settle 34 = .ok (.putfield 73, 3) := by decide +kernel
theorem d_Vb_settle_37 : decode b_Vb_settle 37 = .ok (.aload_n 0, 1) := by decide +kernel
theorem d_Vb_settle_38 : decode b_Vb_settle 38 = .ok (.dup, 1) := by decide +kernel
theorem d_Vb_settle_39 : decode b_Vb_settle 39 = .ok (.getfield 70, 3) := by decide +kernel
theorem d_Vb_settle_42 : decode b_Vb_settle 42 = .ok (.iconst 1, 1) := by decide +kernel
theorem d_Vb_settle_43 : decode b_Vb_settle 43 = .ok (.iadd, 1) := by decide +kernel
theorem d_Vb_settle_44 : decode b_Vb_settle 44 = .ok (.putfield 70, 3) := by decide +kernel
theorem d_Vb_settle_47 : decode b_Vb_settle 47 = .ok (.return_, 1) := by decide +kernel
theorem d_Vb_goOnAsFarAsItCan_0 : decode b_Vb_goOnAsFarAsItCan 0 = .ok (.aload_n 0, 1) := by decide +kernel
theorem d_Vb_goOnAsFarAsItCan_1 : decode b_Vb_goOnAsFarAsItCan 1 = .ok (.getfield 70, 3) := by decide +kernel
theorem d_Vb_goOnAsFarAsItCan_4 : decode b_Vb_goOnAsFarAsItCan 4 = .ok (.istore_n 2, 1) := by decide +kernel
theorem d_Vb_goOnAsFarAsItCan_5 : decode b_Vb_goOnAsFarAsItCan 5 = .ok (.iconst 1, 1) := by decide +kernel
theorem d_Vb_goOnAsFarAsItCan_6 : decode b_Vb_goOnAsFarAsItCan 6 = .ok (.istore_n 3, 1) := by decide +kernel
theorem d_Vb_goOnAsFarAsItCan_7 : decode b_Vb_goOnAsFarAsItCan 7 = .ok (.iconst 0, 1) := by decide +kernel
theorem d_Vb_goOnAsFarAsItCan_8 : decode b_Vb_goOnAsFarAsItCan 8 = .ok (.istore 4, 2) := by decide +kernel
theorem d_Vb_goOnAsFarAsItCan_10 : decode b_Vb_goOnAsFarAsItCan 10 = .ok (.iload 4, 2) := by decide +kernel
theorem d_Vb_goOnAsFarAsItCan_12 : decode b_Vb_goOnAsFarAsItCan 12 = .ok (.sipush 1000, 3) := by decide +kernel
theorem d_Vb_goOnAsFarAsItCan_15 : decode b_Vb_goOnAsFarAsItCan 15 = .ok (.if_icmp .ge 27, 3) := by decide +kernel
theorem d_Vb_goOnAsFarAsItCan_18 : decode b_Vb_goOnAsFarAsItCan 18 = .ok (.iload_n 3, 1) := by decide +kernel
theorem d_Vb_goOnAsFarAsItCan_19 : decode b_Vb_goOnAsFarAsItCan 19 = .ok (.ifCond .eq 23, 3) := by decide +kernel
theorem d_Vb_goOnAsFarAsItCan_22 : decode b_Vb_goOnAsFarAsItCan 22 = .ok (.aload_n 0, 1) := by decide +kernel
theorem d_Vb_goOnAsFarAsItCan_23 : decode b_Vb_goOnAsFarAsItCan 23 = .ok (.getfield 70, 3) := by decide +kernel
theorem d_Vb_goOnAsFarAsItCan_26 : decode b_Vb_goOnAsFarAsItCan 26 = .ok (.iload_n 2, 1) := by decide +kernel
theorem d_Vb_goOnAsFarAsItCan_27 : decode b_Vb_goOnAsFarAsItCan 27 = .ok (.if_icmp .ne 15, 3) := by decide +kernel
theorem d_Vb_goOnAsFarAsItCan_30 : decode b_Vb_goOnAsFarAsItCan 30 = .ok (.aload_n 0, 1) := by decide +kernel
theorem d_Vb_goOnAsFarAsItCan_31 : decode b_Vb_goOnAsFarAsItCan 31 = .ok (.iload_n 1, 1) := by decide +kernel
theorem d_Vb_goOnAsFarAsItCan_32 : decode b_Vb_goOnAsFarAsItCan 32 = .ok (.invokevirtual 86, 3) := by decide +kernel
theorem d_Vb_goOnAsFarAsItCan_35 : decode b_Vb_goOnAsFarAsItCan 35 = .ok (.istore_n 3, 1) := by decide +kernel
theorem d_Vb_goOnAsFarAsItCan_36 : decode b_Vb_goOnAsFarAsItCan 36 = .ok (.iinc 4 1, 3) := by decide +kernel
theorem d_Vb_goOnAsFarAsItCan_39 : decode b_Vb_goOnAsFarAsItCan 39 = .ok (.goto (-29), 3) := by decide +kernel
theorem d_Vb_goOnAsFarAsItCan_42 : decode b_Vb_goOnAsFarAsItCan 42 = .ok (.return_, 1) := by decide +kernel
theorem d_Vb_count_0 : decode b_Vb_count 0 = .ok (.aload_n 0, 1) := by decide +kernel
theorem d_Vb_count_1 : decode b_Vb_count 1 = .ok (.getfield 45, 3) := by decide +kernel
theorem d_Vb_count_4 : decode b_Vb_count 4 = .ok (.ireturn, 1) := by decide +kernel
theorem d_Vb_told_0 : decode b_Vb_told 0 = .ok (.aload_n 0, 1) := by decide +kernel
theorem d_Vb_told_1 : decode b_Vb_told 1 = .ok (.iload_n 1, 1) := by decide +kernel
theorem d_Vb_told_2 : decode b_Vb_told 2 = .ok (.invokevirtual 53, 3) := by decide +kernel
theorem d_Vb_told_5 : decode b_Vb_told 5 = .ok (.astore_n 3, 1) := by decide +kernel
theorem d_Vb_told_6 : decode b_Vb_told 6 = .ok (.aload_n 3, 1) := by decide +kernel
theorem d_Vb_told_7 : decode b_Vb_told 7 = .ok (.ifnonnull 7, 3) := by decide +kernel
theorem d_Vb_told_10 : decode b_Vb_told 10 = .ok (.iconst (-1), 1) := by decide +kernel
theorem d_Vb_told_11 : decode b_Vb_told 11 = .ok (.goto 8, 3) := by decide +kernel
theorem d_Vb_told_14 : decode b_Vb_told 14 = .ok (.aload_n 3, 1) := by decide +kernel
theorem d_Vb_told_15 : decode b_Vb_told 15 = .ok (.iload_n 2, 1) := by decide +kernel
theorem d_Vb_told_16 : decode b_Vb_told 16 = .ok (.invokevirtual 93, 3) := by decide +kernel
theorem d_Vb_told_19 : decode b_Vb_told 19 = .ok (.ireturn, 1) := by decide +kernel
theorem d_Vb_result_0 : decode b_Vb_result 0 = .ok (.aload_n 0, 1) := by decide +kernel
theorem d_Vb_result_1 : decode b_Vb_result 1 = .ok (.iload_n 1, 1) := by decide +kernel
theorem d_Vb_result_2 : decode b_Vb_result 2 = .ok (.invokevirtual 53, 3) := by decide +kernel
theorem d_Vb_result_5 : decode b_Vb_result 5 = .ok (.astore_n 2, 1) := by decide +kernel
theorem d_Vb_result_6 : decode b_Vb_result 6 = .ok (.aload_n 2, 1) := by decide +kernel
theorem d_Vb_result_7 : decode b_Vb_result 7 = .ok (.ifnonnull 7, 3) := by decide +kernel
theorem d_Vb_result_10 : decode b_Vb_result 10 = .ok (.lconst 0, 1) := by decide +kernel
theorem d_Vb_result_11 : decode b_Vb_result 11 = .ok (.goto 7, 3) := by decide +kernel
theorem d_Vb_result_14 : decode b_Vb_result 14 = .ok (.aload_n 2, 1) := by decide +kernel
theorem d_Vb_result_15 : decode b_Vb_result 15 = .ok (.invokevirtual 96, 3) := by decide +kernel
theorem d_Vb_result_18 : decode b_Vb_result 18 = .ok (.lreturn, 1) := by decide +kernel
