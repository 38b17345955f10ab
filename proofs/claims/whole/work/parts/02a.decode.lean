theorem d_We_init_0 : decode b_We_init 0 = .ok (.aload_n 0, 1) := by decide +kernel
theorem d_We_init_1 : decode b_We_init 1 = .ok (.invokespecial 3, 3) := by decide +kernel
theorem d_We_init_4 : decode b_We_init 4 = .ok (.aload_n 0, 1) := by decide +kernel
theorem d_We_init_5 : decode b_We_init 5 = .ok (.bipush 8, 2) := by decide +kernel
theorem d_We_init_7 : decode b_We_init 7 = .ok (.newarray .long, 2) := by decide +kernel
theorem d_We_init_9 : decode b_We_init 9 = .ok (.putfield 11, 3) := by decide +kernel
theorem d_We_init_12 : decode b_We_init 12 = .ok (.return_, 1) := by decide +kernel
theorem d_Ma_min_0 : decode b_Ma_min 0 = .ok (.iload_n 0, 1) := by decide +kernel
theorem d_Ma_min_1 : decode b_Ma_min 1 = .ok (.iload_n 1, 1) := by decide +kernel
theorem d_Ma_min_2 : decode b_Ma_min 2 = .ok (.if_icmp .gt 7, 3) := by decide +kernel
theorem d_Ma_min_5 : decode b_Ma_min 5 = .ok (.iload_n 0, 1) := by decide +kernel
theorem d_Ma_min_6 : decode b_Ma_min 6 = .ok (.goto 4, 3) := by decide +kernel
theorem d_Ma_min_9 : decode b_Ma_min 9 = .ok (.iload_n 1, 1) := by decide +kernel
theorem d_Ma_min_10 : decode b_Ma_min 10 = .ok (.ireturn, 1) := by decide +kernel
theorem d_Ma_max_0 : decode b_Ma_max 0 = .ok (.iload_n 0, 1) := by decide +kernel
theorem d_Ma_max_1 : decode b_Ma_max 1 = .ok (.iload_n 1, 1) := by decide +kernel
theorem d_Ma_max_2 : decode b_Ma_max 2 = .ok (.if_icmp .lt 7, 3) := by decide +kernel
theorem d_Ma_max_5 : decode b_Ma_max 5 = .ok (.iload_n 0, 1) := by decide +kernel
theorem d_Ma_max_6 : decode b_Ma_max 6 = .ok (.goto 4, 3) := by decide +kernel
theorem d_Ma_max_9 : decode b_Ma_max 9 = .ok (.iload_n 1, 1) := by decide +kernel
theorem d_Ma_max_10 : decode b_Ma_max 10 = .ok (.ireturn, 1) := by decide +kernel
theorem d_Tr_init_0 : decode b_Tr_init 0 = .ok (.aload_n 0, 1) := by decide +kernel
theorem d_Tr_init_1 : decode b_Tr_init 1 = .ok (.invokespecial 3, 3) := by decide +kernel
theorem d_Tr_init_4 : decode b_Tr_init 4 = .ok (.aload_n 0, 1) := by decide +kernel
theorem d_Tr_init_5 : decode b_Tr_init 5 = .ok (.bipush 32, 2) := by decide +kernel
theorem d_Tr_init_7 : decode b_Tr_init 7 = .ok (.newarray .int, 2) := by decide +kernel
theorem d_Tr_init_9 : decode b_Tr_init 9 = .ok (.putfield 9, 3) := by decide +kernel
theorem d_Tr_init_12 : decode b_Tr_init 12 = .ok (.aload_n 0, 1) := by decide +kernel
theorem d_Tr_init_13 : decode b_Tr_init 13 = .ok (.bipush 32, 2) := by decide +kernel
theorem d_Tr_init_15 : decode b_Tr_init 15 = .ok (.newarray .int, 2) := by decide +kernel
theorem d_Tr_init_17 : decode b_Tr_init 17 = .ok (.putfield 15, 3) := by decide +kernel
theorem d_Tr_init_20 : decode b_Tr_init 20 = .ok (.aload_n 0, 1) := by decide +kernel
theorem d_Tr_init_21 : decode b_Tr_init 21 = .ok (.bipush 32, 2) := by decide +kernel
theorem d_Tr_init_23 : decode b_Tr_init 23 = .ok (.newarray .long, 2) := by decide +kernel
theorem d_Tr_init_25 : decode b_Tr_init 25 = .ok (.putfield 18, 3) := by decide +kernel
theorem d_Tr_init_28 : decode b_Tr_init 28 = .ok (.return_, 1) := by decide +kernel
theorem d_Tr_clear_0 : decode b_Tr_clear 0 = .ok (.aload_n 0, 1) := by decide +kernel
theorem d_Tr_clear_1 : decode b_Tr_clear 1 = .ok (.iconst 0, 1) := by decide +kernel
theorem d_Tr_clear_2 : decode b_Tr_clear 2 = .ok (.putfield 22, 3) := by decide +kernel
theorem d_Tr_clear_5 : decode b_Tr_clear 5 = .ok (.aload_n 0, 1) := by decide +kernel
theorem d_Tr_clear_6 : decode b_Tr_clear 6 = .ok (.iconst 0, 1) := by decide +kernel
theorem d_Tr_clear_7 : decode b_Tr_clear 7 = .ok (.putfield 26, 3) := by decide +kernel
theorem d_Tr_clear_10 : decode b_Tr_clear 10 = .ok (.return_, 1) := by decide +kernel
theorem d_Tr_append_0 : decode b_Tr_append 0 = .ok (.aload_n 0, 1) := by decide +kernel
theorem d_Tr_append_1 : decode b_Tr_append 1 = .ok (.getfield 22, 3) := by decide +kernel
theorem d_Tr_append_4 : decode b_Tr_append 4 = .ok (.bipush 32, 2) := by decide +kernel
theorem d_Tr_append_6 : decode b_Tr_append 6 = .ok (.if_icmp .lt 6, 3) := by decide +kernel
theorem d_Tr_append_9 : decode b_Tr_append 9 = .ok (.bipush (-3), 2) := by decide +kernel
theorem d_Tr_append_11 : decode b_Tr_append 11 = .ok (.ireturn, 1) := by decide +kernel
theorem d_Tr_append_12 : decode b_Tr_append 12 = .ok (.aload_n 0, 1) := by decide +kernel
theorem d_Tr_append_13 : decode b_Tr_append 13 = .ok (.getfield 9, 3) := by decide +kernel
theorem d_Tr_append_16 : decode b_Tr_append 16 = .ok (.aload_n 0, 1) := by decide +kernel
theorem d_Tr_append_17 : decode b_Tr_append 17 = .ok (.getfield 22, 3) := by decide +kernel
theorem d_Tr_append_20 : decode b_Tr_append 20 = .ok (.iload_n 1, 1) := by decide +kernel
theorem d_Tr_append_21 : decode b_Tr_append 21 = .ok (.iastore, 1) := by decide +kernel
theorem d_Tr_append_22 : decode b_Tr_append 22 = .ok (.aload_n 0, 1) := by decide +kernel
theorem d_Tr_append_23 : decode b_Tr_append 23 = .ok (.getfield 15, 3) := by decide +kernel
theorem d_Tr_append_26 : decode b_Tr_append 26 = .ok (.aload_n 0, 1) := by decide +kernel
theorem d_Tr_append_27 : decode b_Tr_append 27 = .ok (.getfield 22, 3) := by decide +kernel
theorem d_Tr_append_30 : decode b_Tr_append 30 = .ok (.iload_n 2, 1) := by decide +kernel
theorem d_Tr_append_31 : decode b_Tr_append 31 = .ok (.iastore, 1) := by decide +kernel
theorem d_Tr_append_32 : decode b_Tr_append 32 = .ok (.aload_n 0, 1) := by decide +kernel
theorem d_Tr_append_33 : decode b_Tr_append 33 = .ok (.getfield 18, 3) := by decide +kernel
theorem d_Tr_append_36 : decode b_Tr_append 36 = .ok (.aload_n 0, 1) := by decide +kernel
theorem d_Tr_append_37 : decode b_Tr_append 37 = .ok (.getfield 22, 3) := by decide +kernel
theorem d_Tr_append_40 : decode b_Tr_append 40 = .ok (.lload_n 3, 1) := by decide +kernel
theorem d_Tr_append_41 : decode b_Tr_append 41 = .ok (.lastore, 1) := by decide +kernel
theorem d_Tr_append_42 : decode b_Tr_append 42 = .ok (.aload_n 0, 1) := by decide +kernel
theorem d_Tr_append_43 : decode b_Tr_append 43 = .ok (.dup, 1) := by decide +kernel
theorem d_Tr_append_44 : decode b_Tr_append 44 = .ok (.getfield 22, 3) := by decide +kernel
theorem d_Tr_append_47 : decode b_Tr_append 47 = .ok (.iconst 1, 1) := by decide +kernel
theorem d_Tr_append_48 : decode b_Tr_append 48 = .ok (.iadd, 1) := by decide +kernel
theorem d_Tr_append_49 : decode b_Tr_append 49 = .ok (.putfield 22, 3) := by decide +kernel
theorem d_Tr_append_52 : decode b_Tr_append 52 = .ok (.aload_n 0, 1) := by decide +kernel
theorem d_Tr_append_53 : decode b_Tr_append 53 = .ok (.iconst 0, 1) := by decide +kernel
theorem d_Tr_append_54 : decode b_Tr_append 54 = .ok (.putfield 26, 3) := by decide +kernel
theorem d_Tr_append_57 : decode b_Tr_append 57 = .ok (.aload_n 0, 1) := by decide +kernel
theorem d_Tr_append_58 : decode b_Tr_append 58 = .ok (.getfield 22, 3) := by decide +kernel
theorem d_Tr_append_61 : decode b_Tr_append 61 = .ok (.ireturn, 1) := by decide +kernel
theorem d_We_append_0 : decode b_We_append 0 = .ok (.aload_n 0, 1) := by decide +kernel
theorem d_We_append_1 : decode b_We_append 1 = .ok (.getfield 15, 3) := by decide +kernel
theorem d_We_append_4 : decode b_We_append 4 = .ok (.bipush 16, 2) := by decide +kernel
theorem d_We_append_6 : decode b_We_append 6 = .ok (.iadd, 1) := by decide +kernel
theorem d_We_append_7 : decode b_We_append 7 = .ok (.ldc 19, 2) := by decide +kernel
theorem d_We_append_9 : decode b_We_append 9 = .ok (.if_icmp .le 6, 3) := by decide +kernel
theorem d_We_append_12 : decode b_We_append 12 = .ok (.bipush (-3), 2) := by decide +kernel
theorem d_We_append_14 : decode b_We_append 14 = .ok (.ireturn, 1) := by decide +kernel
theorem d_We_append_15 : decode b_We_append 15 = .ok (.aload_n 0, 1) := by decide +kernel
theorem d_We_append_16 : decode b_We_append 16 = .ok (.getfield 15, 3) := by decide +kernel
theorem d_We_append_19 : decode b_We_append 19 = .ok (.bipush 16, 2) := by decide +kernel
theorem d_We_append_21 : decode b_We_append 21 = .ok (.idiv, 1) := by decide +kernel
theorem d_We_append_22 : decode b_We_append 22 = .ok (.istore_n 3, 1) := by decide +kernel
theorem d_We_append_23 : decode b_We_append 23 = .ok (.iload_n 3, 1) := by decide +kernel
theorem d_We_append_24 : decode b_We_append 24 = .ok (.aload_n 0, 1) := by decide +kernel
theorem d_We_append_25 : decode b_We_append 25 = .ok (.getfield 11, 3) := by decide +kernel
theorem d_We_append_28 : decode b_We_append 28 = .ok (.arraylength, 1) := by decide +kernel
theorem d_We_append_29 : decode b_We_append 29 = .ok (.if_icmp .lt 21, 3) := by decide +kernel
theorem d_We_append_32 : decode b_We_append 32 = .ok (.aload_n 0, 1) := by decide +kernel
theorem d_We_append_33 : decode b_We_append 33 = .ok (.aload_n 0, 1) := by decide +kernel
theorem d_We_append_34 : decode b_We_append 34 = .ok (.getfield 11, 3) := by decide +kernel
theorem d_We_append_37 : decode b_We_append 37 = .ok (.iconst 2, 1) := by decide +kernel
theorem d_We_append_38 : decode b_We_append 38 = .ok (.aload_n 0, 1) := by decide +kernel
theorem d_We_append_39 : decode b_We_append 39 = .ok (.getfield 11, 3) := by decide +kernel
theorem d_We_append_42 : decode b_We_append 42 = .ok (.arraylength, 1) := by decide +kernel
theorem d_We_append_43 : decode b_We_append 43 = .ok (.imul, 1) := by decide +kernel
theorem d_We_append_44 : decode b_We_append 44 = .ok (.invokestatic 20, 3) := by decide +kernel
theorem d_We_append_47 : decode b_We_append 47 = .ok (.putfield 11, 3) := by decide +kernel
theorem d_We_append_50 : decode b_We_append 50 = .ok (.aload_n 0, 1) := by decide +kernel
theorem d_We_append_51 : decode b_We_append 51 = .ok (.getfield 11, 3) := by decide +kernel
theorem d_We_append_54 : decode b_We_append 54 = .ok (.iload_n 3, 1) := by decide +kernel
theorem d_We_append_55 : decode b_We_append 55 = .ok (.lload_n 1, 1) := by decide +kernel
theorem d_We_append_56 : decode b_We_append 56 = .ok (.lastore, 1) := by decide +kernel
theorem d_We_append_57 : decode b_We_append 57 = .ok (.aload_n 0, 1) := by decide +kernel
theorem d_We_append_58 : decode b_We_append 58 = .ok (.dup, 1) := by decide +kernel
theorem d_We_append_59 : decode b_We_append 59 = .ok (.getfield 15, 3) := by decide +kernel
theorem d_We_append_62 : decode b_We_append 62 = .ok (.bipush 16, 2) := by decide +kernel
theorem d_We_append_64 : decode b_We_append 64 = .ok (.iadd, 1) := by decide +kernel
theorem d_We_append_65 : decode b_We_append 65 = .ok (.putfield 15, 3) := by decide +kernel
theorem d_We_append_68 : decode b_We_append 68 = .ok (.aload_n 0, 1) := by decide +kernel
theorem d_We_append_69 : decode b_We_append 69 = .ok (.getfield 15, 3) := by decide +kernel
theorem d_We_append_72 : decode b_We_append 72 = .ok (.ireturn, 1) := by decide +kernel
theorem d_Ar_copyOf_0 : decode b_Ar_copyOf 0 = .ok (.iload_n 1, 1) := by decide +kernel
theorem d_Ar_copyOf_1 : decode b_Ar_copyOf 1 = .ok (.aload_n 0, 1) := by decide +kernel
theorem d_Ar_copyOf_2 : decode b_Ar_copyOf 2 = .ok (.arraylength, 1) := by decide +kernel
theorem d_Ar_copyOf_3 : decode b_Ar_copyOf 3 = .ok (.if_icmp .ne 11, 3) := by decide +kernel
theorem d_Ar_copyOf_6 : decode b_Ar_copyOf 6 = .ok (.aload_n 0, 1) := by decide +kernel
theorem d_Ar_copyOf_7 : decode b_Ar_copyOf 7 = .ok (.invokevirtual 319, 3) := by decide +kernel
theorem d_Ar_copyOf_10 : decode b_Ar_copyOf 10 = .ok (.checkcast 320, 3) := by decide +kernel
theorem d_Ar_copyOf_13 : decode b_Ar_copyOf 13 = .ok (.areturn, 1) := by decide +kernel
theorem d_Ar_copyOf_14 : decode b_Ar_copyOf 14 = .ok (.iload_n 1, 1) := by decide +kernel
theorem d_Ar_copyOf_15 : decode b_Ar_copyOf 15 = .ok (.newarray .long, 2) := by decide +kernel
theorem d_Ar_copyOf_17 : decode b_Ar_copyOf 17 = .ok (.astore_n 2, 1) := by decide +kernel
theorem d_Ar_copyOf_18 : decode b_Ar_copyOf 18 = .ok (.aload_n 0, 1) := by decide +kernel
theorem d_Ar_copyOf_19 : decode b_Ar_copyOf 19 = .ok (.iconst 0, 1) := by decide +kernel
theorem d_Ar_copyOf_20 : decode b_Ar_copyOf 20 = .ok (.aload_n 2, 1) := by decide +kernel
theorem d_Ar_copyOf_21 : decode b_Ar_copyOf 21 = .ok (.iconst 0, 1) := by decide +kernel
theorem d_Ar_copyOf_22 : decode b_Ar_copyOf 22 = .ok (.aload_n 0, 1) := by decide +kernel
theorem d_Ar_copyOf_23 : decode b_Ar_copyOf 23 = .ok (.arraylength, 1) := by decide +kernel
theorem d_Ar_copyOf_24 : decode b_Ar_copyOf 24 = .ok (.iload_n 1, 1) := by decide +kernel
theorem d_Ar_copyOf_25 : decode b_Ar_copyOf 25 = .ok (.invokestatic 304, 3) := by decide +kernel
theorem d_Ar_copyOf_28 : decode b_Ar_copyOf 28 = .ok (.invokestatic 150, 3) := by decide +kernel
theorem d_Ar_copyOf_31 : decode b_Ar_copyOf 31 = .ok (.aload_n 2, 1) := by decide +kernel
theorem d_Ar_copyOf_32 : decode b_Ar_copyOf 32 = .ok (.areturn, 1) := by decide +kernel
theorem d_We_clear_0 : decode b_We_clear 0 = .ok (.aload_n 0, 1) := by decide +kernel
theorem d_We_clear_1 : decode b_We_clear 1 = .ok (.getfield 15, 3) := by decide +kernel
theorem d_We_clear_4 : decode b_We_clear 4 = .ok (.istore_n 1, 1) := by decide +kernel
theorem d_We_clear_5 : decode b_We_clear 5 = .ok (.aload_n 0, 1) := by decide +kernel
theorem d_We_clear_6 : decode b_We_clear 6 = .ok (.iconst 0, 1) := by decide +kernel
theorem d_We_clear_7 : decode b_We_clear 7 = .ok (.putfield 15, 3) := by decide +kernel
theorem d_We_clear_10 : decode b_We_clear 10 = .ok (.iload_n 1, 1) := by decide +kernel
theorem d_We_clear_11 : decode b_We_clear 11 = .ok (.ireturn, 1) := by decide +kernel
theorem d_We_length_0 : decode b_We_length 0 = .ok (.aload_n 0, 1) := by decide +kernel
theorem d_We_length_1 : decode b_We_length 1 = .ok (.getfield 15, 3) := by decide +kernel
theorem d_We_length_4 : decode b_We_length 4 = .ok (.ireturn, 1) := by decide +kernel
theorem d_We_numberAt_0 : decode b_We_numberAt 0 = .ok (.iload_n 1, 1) := by decide +kernel
theorem d_We_numberAt_1 : decode b_We_numberAt 1 = .ok (.ifCond .lt 11, 3) := by decide +kernel
theorem d_We_numberAt_4 : decode b_We_numberAt 4 = .ok (.iload_n 1, 1) := by decide +kernel
theorem d_We_numberAt_5 : decode b_We_numberAt 5 = .ok (.aload_n 0, 1) := by decide +kernel
theorem d_We_numberAt_6 : decode b_We_numberAt 6 = .ok (.getfield 15, 3) := by decide +kernel
theorem d_We_numberAt_9 : decode b_We_numberAt 9 = .ok (.if_icmp .lt 5, 3) := by decide +kernel
theorem d_We_numberAt_12 : decode b_We_numberAt 12 = .ok (.iconst 0, 1) := by decide +kernel
theorem d_We_numberAt_13 : decode b_We_numberAt 13 = .ok (.ireturn, 1) := by decide +kernel
theorem d_We_numberAt_14 : decode b_We_numberAt 14 = .ok (.bipush 15, 2) := by decide +kernel
theorem d_We_numberAt_16 : decode b_We_numberAt 16 = .ok (.iload_n 1, 1) := by decide +kernel
theorem d_We_numberAt_17 : decode b_We_numberAt 17 = .ok (.bipush 16, 2) := by decide +kernel
theorem d_We_numberAt_19 : decode b_We_numberAt 19 = .ok (.irem, 1) := by decide +kernel
theorem d_We_numberAt_20 : decode b_We_numberAt 20 = .ok (.isub, 1) := by decide +kernel
theorem d_We_numberAt_21 : decode b_We_numberAt 21 = .ok (.istore_n 2, 1) := by decide +kernel
theorem d_We_numberAt_22 : decode b_We_numberAt 22 = .ok (.aload_n 0, 1) := by decide +kernel
theorem d_We_numberAt_23 : decode b_We_numberAt 23 = .ok (.getfield 11, 3) := by decide +kernel
theorem d_We_numberAt_26 : decode b_We_numberAt 26 = .ok (.iload_n 1, 1) := by decide +kernel
theorem d_We_numberAt_27 : decode b_We_numberAt 27 = .ok (.bipush 16, 2) := by decide +kernel
theorem d_We_numberAt_29 : decode b_We_numberAt 29 = .ok (.idiv, 1) := by decide +kernel
theorem d_We_numberAt_30 : decode b_We_numberAt 30 = .ok (.laload, 1) := by decide +kernel
theorem d_We_numberAt_31 : decode b_We_numberAt 31 = .ok (.iload_n 2, 1) := by decide +kernel
theorem d_We_numberAt_32 : decode b_We_numberAt 32 = .ok (.iconst 4, 1) := by decide +kernel
theorem d_We_numberAt_33 : decode b_We_numberAt 33 = .ok (.imul, 1) := by decide +kernel
theorem d_We_numberAt_34 : decode b_We_numberAt 34 = .ok (.lushr, 1) := by decide +kernel
theorem d_We_numberAt_35 : decode b_We_numberAt 35 = .ok (.l2i, 1) := by decide +kernel
theorem d_We_numberAt_36 : decode b_We_numberAt 36 = .ok (.bipush 15, 2) := by decide +kernel
theorem d_We_numberAt_38 : decode b_We_numberAt 38 = .ok (.iand, 1) := by decide +kernel
theorem d_We_numberAt_39 : decode b_We_numberAt 39 = .ok (.ireturn, 1) := by decide +kernel
theorem d_Ma_floorMod_II_0 : decode b_Ma_floorMod_II 0 = .ok (.iload_n 0, 1) := by decide +kernel
theorem d_Ma_floorMod_II_1 : decode b_Ma_floorMod_II 1 = .ok (.iload_n 1, 1) := by decide +kernel
theorem d_Ma_floorMod_II_2 : decode b_Ma_floorMod_II 2 = .ok (.irem, 1) := by decide +kernel
theorem d_Ma_floorMod_II_3 : decode b_Ma_floorMod_II 3 = .ok (.istore_n 2, 1) := by decide +kernel
theorem d_Ma_floorMod_II_4 : decode b_Ma_floorMod_II 4 = .ok (.iload_n 0, 1) := by decide +kernel
theorem d_Ma_floorMod_II_5 : decode b_Ma_floorMod_II 5 = .ok (.iload_n 1, 1) := by decide +kernel
theorem d_Ma_floorMod_II_6 : decode b_Ma_floorMod_II 6 = .ok (.ixor, 1) := by decide +kernel
theorem d_Ma_floorMod_II_7 : decode b_Ma_floorMod_II 7 = .ok (.ifCond .ge 11, 3) := by decide +kernel
theorem d_Ma_floorMod_II_10 : decode b_Ma_floorMod_II 10 = .ok (.iload_n 2, 1) := by decide +kernel
theorem d_Ma_floorMod_II_11 : decode b_Ma_floorMod_II 11 = .ok (.ifCond .eq 7, 3) := by decide +kernel
theorem d_Ma_floorMod_II_14 : decode b_Ma_floorMod_II 14 = .ok (.iload_n 2, 1) := by decide +kernel
theorem d_Ma_floorMod_II_15 : decode b_Ma_floorMod_II 15 = .ok (.iload_n 1, 1) := by decide +kernel
theorem d_Ma_floorMod_II_16 : decode b_Ma_floorMod_II 16 = .ok (.iadd, 1) := by decide +kernel
theorem d_Ma_floorMod_II_17 : decode b_Ma_floorMod_II 17 = .ok (.ireturn, 1) := by decide +kernel
theorem d_Ma_floorMod_II_18 : decode b_Ma_floorMod_II 18 = .ok (.iload_n 2, 1) := by decide +kernel
theorem d_Ma_floorMod_II_19 : decode b_Ma_floorMod_II 19 = .ok (.ireturn, 1) := by decide +kernel
theorem d_Dr_init_0 : decode b_Dr_init 0 = .ok (.aload_n 0, 1) := by decide +kernel
theorem d_Dr_init_1 : decode b_Dr_init 1 = .ok (.invokespecial 3, 3) := by decide +kernel
theorem d_Dr_init_4 : decode b_Dr_init 4 = .ok (.aload_n 0, 1) := by decide +kernel
theorem d_Dr_init_5 : decode b_Dr_init 5 = .ok (.sipush 256, 3) := by decide +kernel
theorem d_Dr_init_8 : decode b_Dr_init 8 = .ok (.newarray .long, 2) := by decide +kernel
theorem d_Dr_init_10 : decode b_Dr_init 10 = .ok (.putfield 9, 3) := by decide +kernel
theorem d_Dr_init_13 : decode b_Dr_init 13 = .ok (.aload_n 0, 1) := by decide +kernel
theorem d_Dr_init_14 : decode b_Dr_init 14 = .ok (.sipush 256, 3) := by decide +kernel
theorem d_Dr_init_17 : decode b_Dr_init 17 = .ok (.newarray .boolean, 2) := by decide +kernel
theorem d_Dr_init_19 : decode b_Dr_init 19 = .ok (.putfield 15, 3) := by decide +kernel
theorem d_Dr_init_22 : decode b_Dr_init 22 = .ok (.aload_n 0, 1) := by decide +kernel
theorem d_Dr_init_23 : decode b_Dr_init 23 = .ok (.sipush 256, 3) := by decide +kernel
theorem d_Dr_init_26 : decode b_Dr_init 26 = .ok (.newarray .int, 2) := by decide +kernel
theorem d_Dr_init_28 : decode b_Dr_init 28 = .ok (.putfield 19, 3) := by decide +kernel
theorem d_Dr_init_31 : decode b_Dr_init 31 = .ok (.return_, 1) := by decide +kernel
theorem d_Ar_fill_0 : decode b_Ar_fill 0 = .ok (.iconst 0, 1) := by decide +kernel
theorem d_Ar_fill_1 : decode b_Ar_fill 1 = .ok (.istore_n 3, 1) := by decide +kernel
theorem d_Ar_fill_2 : decode b_Ar_fill 2 = .ok (.aload_n 0, 1) := by decide +kernel
theorem d_Ar_fill_3 : decode b_Ar_fill 3 = .ok (.arraylength, 1) := by decide +kernel
theorem d_Ar_fill_4 : decode b_Ar_fill 4 = .ok (.istore 4, 2) := by decide +kernel
theorem d_Ar_fill_6 : decode b_Ar_fill 6 = .ok (.iload_n 3, 1) := by decide +kernel
theorem d_Ar_fill_7 : decode b_Ar_fill 7 = .ok (.iload 4, 2) := by decide +kernel
theorem d_Ar_fill_9 : decode b_Ar_fill 9 = .ok (.if_icmp .ge 13, 3) := by decide +kernel
theorem d_Ar_fill_12 : decode b_Ar_fill 12 = .ok (.aload_n 0, 1) := by decide +kernel
theorem d_Ar_fill_13 : decode b_Ar_fill 13 = .ok (.iload_n 3, 1) := by decide +kernel
theorem d_Ar_fill_14 : decode b_Ar_fill 14 = .ok (.lload_n 1, 1) := by decide +kernel
theorem d_Ar_fill_15 : decode b_Ar_fill 15 = .ok (.lastore, 1) := by decide +kernel
theorem d_Ar_fill_16 : decode b_Ar_fill 16 = .ok (.iinc 3 1, 3) := by decide +kernel
theorem d_Ar_fill_19 : decode b_Ar_fill 19 = .ok (.goto (-13), 3) := by decide +kernel
theorem d_Ar_fill_22 : decode b_Ar_fill 22 = .ok (.return_, 1) := by decide +kernel
theorem d_Dr_clear_0 : decode b_Dr_clear 0 = .ok (.iconst 0, 1) := by decide +kernel
theorem d_Dr_clear_1 : decode b_Dr_clear 1 = .ok (.istore_n 1, 1) := by decide +kernel
theorem d_Dr_clear_2 : decode b_Dr_clear 2 = .ok (.iload_n 1, 1) := by decide +kernel
theorem d_Dr_clear_3 : decode b_Dr_clear 3 = .ok (.aload_n 0, 1) := by decide +kernel
theorem d_Dr_clear_4 : decode b_Dr_clear 4 = .ok (.getfield 23, 3) := by decide +kernel
theorem d_Dr_clear_7 : decode b_Dr_clear 7 = .ok (.if_icmp .ge 21, 3) := by decide +kernel
theorem d_Dr_clear_10 : decode b_Dr_clear 10 = .ok (.aload_n 0, 1) := by decide +kernel
theorem d_Dr_clear_11 : decode b_Dr_clear 11 = .ok (.getfield 15, 3) := by decide +kernel
theorem d_Dr_clear_14 : decode b_Dr_clear 14 = .ok (.aload_n 0, 1) := by decide +kernel
theorem d_Dr_clear_15 : decode b_Dr_clear 15 = .ok (.getfield 19, 3) := by decide +kernel
theorem d_Dr_clear_18 : decode b_Dr_clear 18 = .ok (.iload_n 1, 1) := by decide +kernel
theorem d_Dr_clear_19 : decode b_Dr_clear 19 = .ok (.iaload, 1) := by decide +kernel
theorem d_Dr_clear_20 : decode b_Dr_clear 20 = .ok (.iconst 0, 1) := by decide +kernel
theorem d_Dr_clear_21 : decode b_Dr_clear 21 = .ok (.bastore, 1) := by decide +kernel
theorem d_Dr_clear_22 : decode b_Dr_clear 22 = .ok (.iinc 1 1, 3) := by decide +kernel
theorem d_Dr_clear_25 : decode b_Dr_clear 25 = .ok (.goto (-23), 3) := by decide +kernel
theorem d_Dr_clear_28 : decode b_Dr_clear 28 = .ok (.aload_n 0, 1) := by decide +kernel
theorem d_Dr_clear_29 : decode b_Dr_clear 29 = .ok (.iconst 0, 1) := by decide +kernel
theorem d_Dr_clear_30 : decode b_Dr_clear 30 = .ok (.putfield 23, 3) := by decide +kernel
theorem d_Dr_clear_33 : decode b_Dr_clear 33 = .ok (.return_, 1) := by decide +kernel
theorem d_Tr_has_0 : decode b_Tr_has 0 = .ok (.lload_n 1, 1) := by decide +kernel
theorem d_Tr_has_1 : decode b_Tr_has 1 = .ok (.lconst 0, 1) := by decide +kernel
theorem d_Tr_has_2 : decode b_Tr_has 2 = .ok (.lcmp, 1) := by decide +kernel
theorem d_Tr_has_3 : decode b_Tr_has 3 = .ok (.ifCond .lt 25, 3) := by decide +kernel
theorem d_Tr_has_6 : decode b_Tr_has 6 = .ok (.lload_n 1, 1) := by decide +kernel
theorem d_Tr_has_7 : decode b_Tr_has 7 = .ok (.aload_n 0, 1) := by decide +kernel
theorem d_Tr_has_8 : decode b_Tr_has 8 = .ok (.getfield 22, 3) := by decide +kernel
theorem d_Tr_has_11 : decode b_Tr_has 11 = .ok (.i2l, 1) := by decide +kernel
theorem d_Tr_has_12 : decode b_Tr_has 12 = .ok (.lcmp, 1) := by decide +kernel
theorem d_Tr_has_13 : decode b_Tr_has 13 = .ok (.ifCond .ge 15, 3) := by decide +kernel
theorem d_Tr_has_16 : decode b_Tr_has 16 = .ok (.lload_n 1, 1) := by decide +kernel
theorem d_Tr_has_17 : decode b_Tr_has 17 = .ok (.ldc2_w 30, 3) := by decide +kernel
theorem d_Tr_has_20 : decode b_Tr_has 20 = .ok (.lcmp, 1) := by decide +kernel
theorem d_Tr_has_21 : decode b_Tr_has 21 = .ok (.ifCond .ge 7, 3) := by decide +kernel
theorem d_Tr_has_24 : decode b_Tr_has 24 = .ok (.iconst 1, 1) := by decide +kernel
theorem d_Tr_has_25 : decode b_Tr_has 25 = .ok (.goto 4, 3) := by decide +kernel
theorem d_Tr_has_28 : decode b_Tr_has 28 = .ok (.iconst 0, 1) := by decide +kernel
theorem d_Tr_has_29 : decode b_Tr_has 29 = .ok (.ireturn, 1) := by decide +kernel
theorem d_Tr_secondAt_0 : decode b_Tr_secondAt 0 = .ok (.aload_n 0, 1) := by decide +kernel
theorem d_Tr_secondAt_1 : decode b_Tr_secondAt 1 = .ok (.iload_n 1, 1) := by decide +kernel
theorem d_Tr_secondAt_2 : decode b_Tr_secondAt 2 = .ok (.i2l, 1) := by decide +kernel
theorem d_Tr_secondAt_3 : decode b_Tr_secondAt 3 = .ok (.invokevirtual 32, 3) := by decide +kernel
theorem d_Tr_secondAt_6 : decode b_Tr_secondAt 6 = .ok (.ifCond .eq 12, 3) := by decide +kernel
theorem d_Tr_secondAt_9 : decode b_Tr_secondAt 9 = .ok (.aload_n 0, 1) := by decide +kernel
theorem d_Tr_secondAt_10 : decode b_Tr_secondAt 10 = .ok (.getfield 18, 3) := by decide +kernel
theorem d_Tr_secondAt_13 : decode b_Tr_secondAt 13 = .ok (.iload_n 1, 1) := by decide +kernel
theorem d_Tr_secondAt_14 : decode b_Tr_secondAt 14 = .ok (.laload, 1) := by decide +kernel
theorem d_Tr_secondAt_15 : decode b_Tr_secondAt 15 = .ok (.goto 4, 3) := by decide +kernel
theorem d_Tr_secondAt_18 : decode b_Tr_secondAt 18 = .ok (.lconst 0, 1) := by decide +kernel
theorem d_Tr_secondAt_19 : decode b_Tr_secondAt 19 = .ok (.lreturn, 1) := by decide +kernel
theorem d_Tr_firstAt_0 : decode b_Tr_firstAt 0 = .ok (.aload_n 0, 1) := by decide +kernel
theorem d_Tr_firstAt_1 : decode b_Tr_firstAt 1 = .ok (.iload_n 1, 1) := by decide +kernel
theorem d_Tr_firstAt_2 : decode b_Tr_firstAt 2 = .ok (.i2l, 1) := by decide +kernel
theorem d_Tr_firstAt_3 : decode b_Tr_firstAt 3 = .ok (.invokevirtual 32, 3) := by decide +kernel
theorem d_Tr_firstAt_6 : decode b_Tr_firstAt 6 = .ok (.ifCond .eq 12, 3) := by decide +kernel
theorem d_Tr_firstAt_9 : decode b_Tr_firstAt 9 = .ok (.aload_n 0, 1) := by decide +kernel
theorem d_Tr_firstAt_10 : decode b_Tr_firstAt 10 = .ok (.getfield 15, 3) := by decide +kernel
theorem d_Tr_firstAt_13 : decode b_Tr_firstAt 13 = .ok (.iload_n 1, 1) := by decide +kernel
theorem d_Tr_firstAt_14 : decode b_Tr_firstAt 14 = .ok (.iaload, 1) := by decide +kernel
theorem d_Tr_firstAt_15 : decode b_Tr_firstAt 15 = .ok (.goto 4, 3) := by decide +kernel
theorem d_Tr_firstAt_18 : decode b_Tr_firstAt 18 = .ok (.iconst 0, 1) := by decide +kernel
theorem d_Tr_firstAt_19 : decode b_Tr_firstAt 19 = .ok (.ireturn, 1) := by decide +kernel
theorem d_Tr_operationAt_0 : decode b_Tr_operationAt 0 = .ok (.aload_n 0, 1) := by decide +kernel
theorem d_Tr_operationAt_1 : decode b_Tr_operationAt 1 = .ok (.iload_n 1, 1) := by decide +kernel
theorem d_Tr_operationAt_2 : decode b_Tr_operationAt 2 = .ok (.i2l, 1) := by decide +kernel
theorem d_Tr_operationAt_3 : decode b_Tr_operationAt 3 = .ok (.invokevirtual 32, 3) := by decide +kernel
theorem d_Tr_operationAt_6 : decode b_Tr_operationAt 6 = .ok (.ifCond .eq 12, 3) := by decide +kernel
theorem d_Tr_operationAt_9 : decode b_Tr_operationAt 9 = .ok (.aload_n 0, 1) := by decide +kernel
theorem d_Tr_operationAt_10 : decode b_Tr_operationAt 10 = .ok (.getfield 9, 3) := by decide +kernel
theorem d_Tr_operationAt_13 : decode b_Tr_operationAt 13 = .ok (.iload_n 1, 1) := by decide +kernel
theorem d_Tr_operationAt_14 : decode b_Tr_operationAt 14 = .ok (.iaload, 1) := by decide +kernel
theorem d_Tr_operationAt_15 : decode b_Tr_operationAt 15 = .ok (.goto 4, 3) := by decide +kernel
theorem d_Tr_operationAt_18 : decode b_Tr_operationAt 18 = .ok (.iconst 0, 1) := by decide +kernel
theorem d_Tr_operationAt_19 : decode b_Tr_operationAt 19 = .ok (.ireturn, 1) := by decide +kernel
theorem d_Dr_has_0 : decode b_Dr_has 0 = .ok (.iload_n 1, 1) := by decide +kernel
theorem d_Dr_has_1 : decode b_Dr_has 1 = .ok (.ifCond .lt 23, 3) := by decide +kernel
theorem d_Dr_has_4 : decode b_Dr_has 4 = .ok (.iload_n 1, 1) := by decide +kernel
theorem d_Dr_has_5 : decode b_Dr_has 5 = .ok (.sipush 256, 3) := by decide +kernel
theorem d_Dr_has_8 : decode b_Dr_has 8 = .ok (.if_icmp .ge 16, 3) := by decide +kernel
theorem d_Dr_has_11 : decode b_Dr_has 11 = .ok (.aload_n 0, 1) := by decide +kernel
theorem d_Dr_has_12 : decode b_Dr_has 12 = .ok (.getfield 15, 3) := by decide +kernel
theorem d_Dr_has_15 : decode b_Dr_has 15 = .ok (.iload_n 1, 1) := by decide +kernel
theorem d_Dr_has_16 : decode b_Dr_has 16 = .ok (.baload, 1) := by decide +kernel
theorem d_Dr_has_17 : decode b_Dr_has 17 = .ok (.ifCond .eq 7, 3) := by decide +kernel
theorem d_Dr_has_20 : decode b_Dr_has 20 = .ok (.iconst 1, 1) := by decide +kernel
theorem d_Dr_has_21 : decode b_Dr_has 21 = .ok (.goto 4, 3) := by decide +kernel
theorem d_Dr_has_24 : decode b_Dr_has 24 = .ok (.iconst 0, 1) := by decide +kernel
theorem d_Dr_has_25 : decode b_Dr_has 25 = .ok (.ireturn, 1) := by decide +kernel
theorem d_Dr_numberIn_0 : decode b_Dr_numberIn 0 = .ok (.iload_n 1, 1) := by decide +kernel
theorem d_Dr_numberIn_1 : decode b_Dr_numberIn 1 = .ok (.ifCond .lt 19, 3) := by decide +kernel
theorem d_Dr_numberIn_4 : decode b_Dr_numberIn 4 = .ok (.iload_n 1, 1) := by decide +kernel
theorem d_Dr_numberIn_5 : decode b_Dr_numberIn 5 = .ok (.sipush 256, 3) := by decide +kernel
theorem d_Dr_numberIn_8 : decode b_Dr_numberIn 8 = .ok (.if_icmp .ge 12, 3) := by decide +kernel
theorem d_Dr_numberIn_11 : decode b_Dr_numberIn 11 = .ok (.aload_n 0, 1) := by decide +kernel
theorem d_Dr_numberIn_12 : decode b_Dr_numberIn 12 = .ok (.getfield 9, 3) := by decide +kernel
theorem d_Dr_numberIn_15 : decode b_Dr_numberIn 15 = .ok (.iload_n 1, 1) := by decide +kernel
theorem d_Dr_numberIn_16 : decode b_Dr_numberIn 16 = .ok (.laload, 1) := by decide +kernel
theorem d_Dr_numberIn_17 : decode b_Dr_numberIn 17 = .ok (.goto 4, 3) := by decide +kernel
theorem d_Dr_numberIn_20 : decode b_Dr_numberIn 20 = .ok (.lconst 0, 1) := by decide +kernel
theorem d_Dr_numberIn_21 : decode b_Dr_numberIn 21 = .ok (.lreturn, 1) := by decide +kernel
theorem d_Dr_keep_0 : decode b_Dr_keep 0 = .ok (.iload_n 1, 1) := by decide +kernel
theorem d_Dr_keep_1 : decode b_Dr_keep 1 = .ok (.ifCond .lt 10, 3) := by decide +kernel
theorem d_Dr_keep_4 : decode b_Dr_keep 4 = .ok (.iload_n 1, 1) := by decide +kernel
theorem d_Dr_keep_5 : decode b_Dr_keep 5 = .ok (.sipush 256, 3) := by decide +kernel
theorem d_Dr_keep_8 : decode b_Dr_keep 8 = .ok (.if_icmp .lt 4, 3) := by decide +kernel
theorem d_Dr_keep_11 : decode b_Dr_keep 11 = .ok (.return_, 1) := by decide +kernel
theorem d_Dr_keep_12 : decode b_Dr_keep 12 = .ok (.aload_n 0, 1) := by decide +kernel
theorem d_Dr_keep_13 : decode b_Dr_keep 13 = .ok (.getfield 15, 3) := by decide +kernel
theorem d_Dr_keep_16 : decode b_Dr_keep 16 = .ok (.iload_n 1, 1) := by decide +kernel
theorem d_Dr_keep_17 : decode b_Dr_keep 17 = .ok (.baload, 1) := by decide +kernel
theorem d_Dr_keep_18 : decode b_Dr_keep 18 = .ok (.ifCond .ne 40, 3) := by decide +kernel
theorem d_Dr_keep_21 : decode b_Dr_keep 21 = .ok (.aload_n 0, 1) := by decide +kernel
theorem d_Dr_keep_22 : decode b_Dr_keep 22 = .ok (.getfield 23, 3) := by decide +kernel
theorem d_Dr_keep_25 : decode b_Dr_keep 25 = .ok (.sipush 256, 3) := by decide +kernel
theorem d_Dr_keep_28 : decode b_Dr_keep 28 = .ok (.if_icmp .ge 30, 3) := by decide +kernel
theorem d_Dr_keep_31 : decode b_Dr_keep 31 = .ok (.aload_n 0, 1) := by decide +kernel
theorem d_Dr_keep_32 : decode b_Dr_keep 32 = .ok (.getfield 15, 3) := by decide +kernel
theorem d_Dr_keep_35 : decode b_Dr_keep 35 = .ok (.iload_n 1, 1) := by decide +kernel
theorem d_Dr_keep_36 : decode b_Dr_keep 36 = .ok (.iconst 1, 1) := by decide +kernel
theorem d_Dr_keep_37 : decode b_Dr_keep 37 = .ok (.bastore, 1) := by decide +kernel
theorem d_Dr_keep_38 : decode b_Dr_keep 38 = .ok (.aload_n 0, 1) := by decide +kernel
theorem d_Dr_keep_39 : decode b_Dr_keep 39 = .ok (.getfield 19, 3) := by decide +kernel
theorem d_Dr_keep_42 : decode b_Dr_keep 42 = .ok (.aload_n 0, 1) := by decide +kernel
theorem d_Dr_keep_43 : decode b_Dr_keep 43 = .ok (.getfield 23, 3) := by decide +kernel
theorem d_Dr_keep_46 : decode b_Dr_keep 46 = .ok (.iload_n 1, 1) := by decide +kernel
theorem d_Dr_keep_47 : decode b_Dr_keep 47 = .ok (.iastore, 1) := by decide +kernel
theorem d_Dr_keep_48 : decode b_Dr_keep 48 = .ok (.aload_n 0, 1) := by decide +kernel
theorem d_Dr_keep_49 : decode b_Dr_keep 49 = .ok (.dup, 1) := by decide +kernel
theorem d_Dr_keep_50 : decode b_Dr_keep 50 = .ok (.getfield 23, 3) := by decide +kernel
theorem d_Dr_keep_53 : decode b_Dr_keep 53 = .ok (.iconst 1, 1) := by decide +kernel
theorem d_Dr_keep_54 : decode b_Dr_keep 54 = .ok (.iadd, 1) := by decide +kernel
theorem d_Dr_keep_55 : decode b_Dr_keep 55 = .ok (.putfield 23, 3) := by decide +kernel
theorem d_Dr_keep_58 : decode b_Dr_keep 58 = .ok (.aload_n 0, 1) := by decide +kernel
theorem d_Dr_keep_59 : decode b_Dr_keep 59 = .ok (.getfield 9, 3) := by decide +kernel
theorem d_Dr_keep_62 : decode b_Dr_keep 62 = .ok (.iload_n 1, 1) := by decide +kernel
theorem d_Dr_keep_63 : decode b_Dr_keep 63 = .ok (.lload_n 2, 1) := by decide +kernel
theorem d_Dr_keep_64 : decode b_Dr_keep 64 = .ok (.lastore, 1) := by decide +kernel
theorem d_Dr_keep_65 : decode b_Dr_keep 65 = .ok (.return_, 1) := by decide +kernel
theorem d_Dr_size_0 : decode b_Dr_size 0 = .ok (.aload_n 0, 1) := by decide +kernel
theorem d_Dr_size_1 : decode b_Dr_size 1 = .ok (.getfield 23, 3) := by decide +kernel
theorem d_Dr_size_4 : decode b_Dr_size 4 = .ok (.ireturn, 1) := by decide +kernel
theorem d_Dr_placeAt_0 : decode b_Dr_placeAt 0 = .ok (.iload_n 1, 1) := by decide +kernel
theorem d_Dr_placeAt_1 : decode b_Dr_placeAt 1 = .ok (.ifCond .lt 20, 3) := by decide +kernel
theorem d_Dr_placeAt_4 : decode b_Dr_placeAt 4 = .ok (.iload_n 1, 1) := by decide +kernel
theorem d_Dr_placeAt_5 : decode b_Dr_placeAt 5 = .ok (.aload_n 0, 1) := by decide +kernel
theorem d_Dr_placeAt_6 : decode b_Dr_placeAt 6 = .ok (.getfield 23, 3) := by decide +kernel
theorem d_Dr_placeAt_9 : decode b_Dr_placeAt 9 = .ok (.if_icmp .ge 12, 3) := by decide +kernel
theorem d_Dr_placeAt_12 : decode b_Dr_placeAt 12 = .ok (.aload_n 0, 1) := by decide +kernel
theorem d_Dr_placeAt_13 : decode b_Dr_placeAt 13 = .ok (.getfield 19, 3) := by decide +kernel
theorem d_Dr_placeAt_16 : decode b_Dr_placeAt 16 = .ok (.iload_n 1, 1) := by decide +kernel
theorem d_Dr_placeAt_17 : decode b_Dr_placeAt 17 = .ok (.iaload, 1) := by decide +kernel
theorem d_Dr_placeAt_18 : decode b_Dr_placeAt 18 = .ok (.goto 4, 3) := by decide +kernel
theorem d_Dr_placeAt_21 : decode b_Dr_placeAt 21 = .ok (.iconst 0, 1) := by decide +kernel
theorem d_Dr_placeAt_22 : decode b_Dr_placeAt 22 = .ok (.ireturn, 1) := by decide +kernel
theorem d_Tr_note_0 : decode b_Tr_note 0 = .ok (.aload_n 0, 1) := by decide +kernel
theorem d_Tr_note_1 : decode b_Tr_note 1 = .ok (.iconst 1, 1) := by decide +kernel
theorem d_Tr_note_2 : decode b_Tr_note 2 = .ok (.putfield 26, 3) := by decide +kernel
theorem d_Tr_note_5 : decode b_Tr_note 5 = .ok (.aload_n 0, 1) := by decide +kernel
theorem d_Tr_note_6 : decode b_Tr_note 6 = .ok (.iload_n 1, 1) := by decide +kernel
theorem d_Tr_note_7 : decode b_Tr_note 7 = .ok (.putfield 36, 3) := by decide +kernel
theorem d_Tr_note_10 : decode b_Tr_note 10 = .ok (.aload_n 0, 1) := by decide +kernel
theorem d_Tr_note_11 : decode b_Tr_note 11 = .ok (.iload_n 2, 1) := by decide +kernel
theorem d_Tr_note_12 : decode b_Tr_note 12 = .ok (.putfield 39, 3) := by decide +kernel
theorem d_Tr_note_15 : decode b_Tr_note 15 = .ok (.aload_n 0, 1) := by decide +kernel
theorem d_Tr_note_16 : decode b_Tr_note 16 = .ok (.iload_n 3, 1) := by decide +kernel
theorem d_Tr_note_17 : decode b_Tr_note 17 = .ok (.putfield 42, 3) := by decide +kernel
theorem d_Tr_note_20 : decode b_Tr_note 20 = .ok (.aload_n 0, 1) := by decide +kernel
theorem d_Tr_note_21 : decode b_Tr_note 21 = .ok (.iload 4, 2) := by decide +kernel
theorem d_Tr_note_23 : decode b_Tr_note 23 = .ok (.putfield 45, 3) := by decide +kernel
theorem d_Tr_note_26 : decode b_Tr_note 26 = .ok (.aload_n 0, 1) := by decide +kernel
theorem d_Tr_note_27 : decode b_Tr_note 27 = .ok (.lload 5, 2) := by decide +kernel
theorem d_Tr_note_29 : decode b_Tr_note 29 = .ok (.putfield 48, 3) := by decide +kernel
theorem d_Tr_note_32 : decode b_Tr_note 32 = .ok (.return_, 1) := by decide +kernel
theorem d_Tr_tell_0 : decode b_Tr_tell 0 = .ok (.iload_n 1, 1) := by decide +kernel
theorem d_Tr_tell_1 : decode b_Tr_tell 1 = .ok (.ifCond .lt 8, 3) := by decide +kernel
theorem d_Tr_tell_4 : decode b_Tr_tell 4 = .ok (.iload_n 1, 1) := by decide +kernel
theorem d_Tr_tell_5 : decode b_Tr_tell 5 = .ok (.iconst 3, 1) := by decide +kernel
theorem d_Tr_tell_6 : decode b_Tr_tell 6 = .ok (.if_icmp .le 5, 3) := by decide +kernel
theorem d_Tr_tell_9 : decode b_Tr_tell 9 = .ok (.iconst (-1), 1) := by decide +kernel
theorem d_Tr_tell_10 : decode b_Tr_tell 10 = .ok (.ireturn, 1) := by decide +kernel
theorem d_Tr_tell_11 : decode b_Tr_tell 11 = .ok (.aload_n 0, 1) := by decide +kernel
theorem d_Tr_tell_12 : decode b_Tr_tell 12 = .ok (.getfield 26, 3) := by decide +kernel
theorem d_Tr_tell_15 : decode b_Tr_tell 15 = .ok (.ifCond .ne 6, 3) := by decide +kernel
theorem d_Tr_tell_18 : decode b_Tr_tell 18 = .ok (.bipush (-2), 2) := by decide +kernel
theorem d_Tr_tell_20 : decode b_Tr_tell 20 = .ok (.ireturn, 1) := by decide +kernel
theorem d_Tr_tell_21 : decode b_Tr_tell 21 = .ok (.iload_n 1, 1) := by decide +kernel
theorem d_Tr_tell_22 : decode b_Tr_tell 22 = .ok (.tableswitch 41 0 2 #[26, 31, 36], 26) := by decide +kernel
theorem d_Tr_tell_48 : decode b_Tr_tell 48 = .ok (.aload_n 0, 1) := by decide +kernel
theorem d_Tr_tell_49 : decode b_Tr_tell 49 = .ok (.getfield 36, 3) := by decide +kernel
theorem d_Tr_tell_52 : decode b_Tr_tell 52 = .ok (.ireturn, 1) := by decide +kernel
theorem d_Tr_tell_53 : decode b_Tr_tell 53 = .ok (.aload_n 0, 1) := by decide +kernel
theorem d_Tr_tell_54 : decode b_Tr_tell 54 = .ok (.getfield 39, 3) := by decide +kernel
theorem d_Tr_tell_57 : decode b_Tr_tell 57 = .ok (.ireturn, 1) := by decide +kernel
theorem d_Tr_tell_58 : decode b_Tr_tell 58 = .ok (.aload_n 0, 1) := by decide +kernel
theorem d_Tr_tell_59 : decode b_Tr_tell 59 = .ok (.getfield 42, 3) := by decide +kernel
theorem d_Tr_tell_62 : decode b_Tr_tell 62 = .ok (.ireturn, 1) := by decide +kernel
theorem d_Tr_tell_63 : decode b_Tr_tell 63 = .ok (.aload_n 0, 1) := by decide +kernel
theorem d_Tr_tell_64 : decode b_Tr_tell 64 = .ok (.getfield 45, 3) := by decide +kernel
theorem d_Tr_tell_67 : decode b_Tr_tell 67 = .ok (.ireturn, 1) := by decide +kernel
theorem d_Tr_tellResult_0 : decode b_Tr_tellResult 0 = .ok (.aload_n 0, 1) := by decide +kernel
theorem d_Tr_tellResult_1 : decode b_Tr_tellResult 1 = .ok (.getfield 26, 3) := by decide +kernel
theorem d_Tr_tellResult_4 : decode b_Tr_tellResult 4 = .ok (.ifCond .eq 10, 3) := by decide +kernel
theorem d_Tr_tellResult_7 : decode b_Tr_tellResult 7 = .ok (.aload_n 0, 1) := by decide +kernel
theorem d_Tr_tellResult_8 : decode b_Tr_tellResult 8 = .ok (.getfield 48, 3) := by decide +kernel
theorem d_Tr_tellResult_11 : decode b_Tr_tellResult 11 = .ok (.goto 4, 3) := by decide +kernel
theorem d_Tr_tellResult_14 : decode b_Tr_tellResult 14 = .ok (.lconst 0, 1) := by decide +kernel
theorem d_Tr_tellResult_15 : decode b_Tr_tellResult 15 = .ok (.lreturn, 1) := by decide +kernel
theorem d_Ma_floorMod_JJ_0 : decode b_Ma_floorMod_JJ 0 = .ok (.lload_n 0, 1) := by decide +kernel
theorem d_Ma_floorMod_JJ_1 : decode b_Ma_floorMod_JJ 1 = .ok (.lload_n 2, 1) := by decide +kernel
theorem d_Ma_floorMod_JJ_2 : decode b_Ma_floorMod_JJ 2 = .ok (.lrem, 1) := by decide +kernel
theorem d_Ma_floorMod_JJ_3 : decode b_Ma_floorMod_JJ 3 = .ok (.lstore 4, 2) := by decide +kernel
theorem d_Ma_floorMod_JJ_5 : decode b_Ma_floorMod_JJ 5 = .ok (.lload_n 0, 1) := by decide +kernel
theorem d_Ma_floorMod_JJ_6 : decode b_Ma_floorMod_JJ 6 = .ok (.lload_n 2, 1) := by decide +kernel
theorem d_Ma_floorMod_JJ_7 : decode b_Ma_floorMod_JJ 7 = .ok (.lxor, 1) := by decide +kernel
theorem d_Ma_floorMod_JJ_8 : decode b_Ma_floorMod_JJ 8 = .ok (.lconst 0, 1) := by decide +kernel
theorem d_Ma_floorMod_JJ_9 : decode b_Ma_floorMod_JJ 9 = .ok (.lcmp, 1) := by decide +kernel
theorem d_Ma_floorMod_JJ_10 : decode b_Ma_floorMod_JJ 10 = .ok (.ifCond .ge 15, 3) := by decide +kernel
theorem d_Ma_floorMod_JJ_13 : decode b_Ma_floorMod_JJ 13 = .ok (.lload 4, 2) := by decide +kernel
theorem d_Ma_floorMod_JJ_15 : decode b_Ma_floorMod_JJ 15 = .ok (.lconst 0, 1) := by decide +kernel
theorem d_Ma_floorMod_JJ_16 : decode b_Ma_floorMod_JJ 16 = .ok (.lcmp, 1) := by decide +kernel
theorem d_Ma_floorMod_JJ_17 : decode b_Ma_floorMod_JJ 17 = .ok (.ifCond .eq 8, 3) := by decide +kernel
theorem d_Ma_floorMod_JJ_20 : decode b_Ma_floorMod_JJ 20 = .ok (.lload 4, 2) := by decide +kernel
theorem d_Ma_floorMod_JJ_22 : decode b_Ma_floorMod_JJ 22 = .ok (.lload_n 2, 1) := by decide +kernel
theorem d_Ma_floorMod_JJ_23 : decode b_Ma_floorMod_JJ 23 = .ok (.ladd, 1) := by decide +kernel
theorem d_Ma_floorMod_JJ_24 : decode b_Ma_floorMod_JJ 24 = .ok (.lreturn, 1) := by decide +kernel
theorem d_Ma_floorMod_JJ_25 : decode b_Ma_floorMod_JJ 25 = .ok (.lload 4, 2) := by decide +kernel
theorem d_Ma_floorMod_JJ_27 : decode b_Ma_floorMod_JJ 27 = .ok (.lreturn, 1) := by decide +kernel
