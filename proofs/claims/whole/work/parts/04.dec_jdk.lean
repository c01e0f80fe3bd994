theorem d_AL_init_0 : decode c_AL_init 0 = .ok (.aload_n 0, 1) := by decide +kernel
theorem d_AL_init_1 : decode c_AL_init 1 = .ok (.invokespecial 1, 3) := by decide +kernel
theorem d_AL_init_4 : decode c_AL_init 4 = .ok (.aload_n 0, 1) := by decide +kernel
theorem d_AL_init_5 : decode c_AL_init 5 = .ok (.getstatic 39, 3) := by decide +kernel
theorem d_AL_init_8 : decode c_AL_init 8 = .ok (.putfield 9, 3) := by decide +kernel
theorem d_AL_init_11 : decode c_AL_init 11 = .ok (.return_, 1) := by decide +kernel
theorem d_AL_size_0 : decode c_AL_size 0 = .ok (.aload_n 0, 1) := by decide +kernel
theorem d_AL_size_1 : decode c_AL_size 1 = .ok (.getfield 48, 3) := by decide +kernel
theorem d_AL_size_4 : decode c_AL_size 4 = .ok (.ireturn, 1) := by decide +kernel
theorem d_AL_add1_0 : decode c_AL_add1 0 = .ok (.aload_n 0, 1) := by decide +kernel
theorem d_AL_add1_1 : decode c_AL_add1 1 = .ok (.dup, 1) := by decide +kernel
theorem d_AL_add1_2 : decode c_AL_add1 2 = .ok (.getfield 63, 3) := by decide +kernel
theorem d_AL_add1_5 : decode c_AL_add1 5 = .ok (.iconst 1, 1) := by decide +kernel
theorem d_AL_add1_6 : decode c_AL_add1 6 = .ok (.iadd, 1) := by decide +kernel
theorem d_AL_add1_7 : decode c_AL_add1 7 = .ok (.putfield 63, 3) := by decide +kernel
theorem d_AL_add1_10 : decode c_AL_add1 10 = .ok (.aload_n 0, 1) := by decide +kernel
theorem d_AL_add1_11 : decode c_AL_add1 11 = .ok (.aload_n 1, 1) := by decide +kernel
theorem d_AL_add1_12 : decode c_AL_add1 12 = .ok (.aload_n 0, 1) := by decide +kernel
theorem d_AL_add1_13 : decode c_AL_add1 13 = .ok (.getfield 9, 3) := by decide +kernel
theorem d_AL_add1_16 : decode c_AL_add1 16 = .ok (.aload_n 0, 1) := by decide +kernel
theorem d_AL_add1_17 : decode c_AL_add1 17 = .ok (.getfield 48, 3) := by decide +kernel
theorem d_AL_add1_20 : decode c_AL_add1 20 = .ok (.invokevirtual 131, 3) := by decide +kernel
theorem d_AL_add1_23 : decode c_AL_add1 23 = .ok (.iconst 1, 1) := by decide +kernel
theorem d_AL_add1_24 : decode c_AL_add1 24 = .ok (.ireturn, 1) := by decide +kernel
theorem d_AL_addA_0 : decode c_AL_addA 0 = .ok (.iload_n 3, 1) := by decide +kernel
theorem d_AL_addA_1 : decode c_AL_addA 1 = .ok (.aload_n 2, 1) := by decide +kernel
theorem d_AL_addA_2 : decode c_AL_addA 2 = .ok (.arraylength, 1) := by decide +kernel
theorem d_AL_addA_3 : decode c_AL_addA 3 = .ok (.if_icmp .ne 8, 3) := by decide +kernel
theorem d_AL_addA_6 : decode c_AL_addA 6 = .ok (.aload_n 0, 1) := by decide +kernel
theorem d_AL_addA_7 : decode c_AL_addA 7 = .ok (.invokevirtual 129, 3) := by decide +kernel
theorem d_AL_addA_10 : decode c_AL_addA 10 = .ok (.astore_n 2, 1) := by decide +kernel
theorem d_AL_addA_11 : decode c_AL_addA 11 = .ok (.aload_n 2, 1) := by decide +kernel
theorem d_AL_addA_12 : decode c_AL_addA 12 = .ok (.iload_n 3, 1) := by decide +kernel
theorem d_AL_addA_13 : decode c_AL_addA 13 = .ok (.aload_n 1, 1) := by decide +kernel
theorem d_AL_addA_14 : decode c_AL_addA 14 = .ok (.aastore, 1) := by decide +kernel
theorem d_AL_addA_15 : decode c_AL_addA 15 = .ok (.aload_n 0, 1) := by decide +kernel
theorem d_AL_addA_16 : decode c_AL_addA 16 = .ok (.iload_n 3, 1) := by decide +kernel
theorem d_AL_addA_17 : decode c_AL_addA 17 = .ok (.iconst 1, 1) := by decide +kernel
theorem d_AL_addA_18 : decode c_AL_addA 18 = .ok (.iadd, 1) := by decide +kernel
theorem d_AL_addA_19 : decode c_AL_addA 19 = .ok (.putfield 48, 3) := by decide +kernel
theorem d_AL_addA_22 : decode c_AL_addA 22 = .ok (.return_, 1) := by decide +kernel
theorem d_AL_grow0_0 : decode c_AL_grow0 0 = .ok (.aload_n 0, 1) := by decide +kernel
theorem d_AL_grow0_1 : decode c_AL_grow0 1 = .ok (.aload_n 0, 1) := by decide +kernel
theorem d_AL_grow0_2 : decode c_AL_grow0 2 = .ok (.getfield 48, 3) := by decide +kernel
theorem d_AL_grow0_5 : decode c_AL_grow0 5 = .ok (.iconst 1, 1) := by decide +kernel
theorem d_AL_grow0_6 : decode c_AL_grow0 6 = .ok (.iadd, 1) := by decide +kernel
theorem d_AL_grow0_7 : decode c_AL_grow0 7 = .ok (.invokevirtual 69, 3) := by decide +kernel
theorem d_AL_grow0_10 : decode c_AL_grow0 10 = .ok (.areturn, 1) := by decide +kernel
theorem d_AL_growI_0 : decode c_AL_growI 0 = .ok (.aload_n 0, 1) := by decide +kernel
theorem d_AL_growI_1 : decode c_AL_growI 1 = .ok (.getfield 9, 3) := by decide +kernel
theorem d_AL_growI_4 : decode c_AL_growI 4 = .ok (.arraylength, 1) := by decide +kernel
theorem d_AL_growI_5 : decode c_AL_growI 5 = .ok (.istore_n 2, 1) := by decide +kernel
theorem d_AL_growI_6 : decode c_AL_growI 6 = .ok (.iload_n 2, 1) := by decide +kernel
theorem d_AL_growI_7 : decode c_AL_growI 7 = .ok (.ifCond .gt 13, 3) := by decide +kernel
theorem d_AL_growI_10 : decode c_AL_growI 10 = .ok (.aload_n 0, 1) := by decide +kernel
theorem d_AL_growI_11 : decode c_AL_growI 11 = .ok (.getfield 9, 3) := by decide +kernel
theorem d_AL_growI_14 : decode c_AL_growI 14 = .ok (.getstatic 39, 3) := by decide +kernel
theorem d_AL_growI_17 : decode c_AL_growI 17 = .ok (.if_acmp .eq 28, 3) := by decide +kernel
theorem d_AL_growI_20 : decode c_AL_growI 20 = .ok (.iload_n 2, 1) := by decide +kernel
theorem d_AL_growI_21 : decode c_AL_growI 21 = .ok (.iload_n 1, 1) := by decide +kernel
theorem d_AL_growI_22 : decode c_AL_growI 22 = .ok (.iload_n 2, 1) := by decide +kernel
theorem d_AL_growI_23 : decode c_AL_growI 23 = .ok (.isub, 1) := by decide +kernel
theorem d_AL_growI_24 : decode c_AL_growI 24 = .ok (.iload_n 2, 1) := by decide +kernel
theorem d_AL_growI_25 : decode c_AL_growI 25 = .ok (.iconst 1, 1) := by decide +kernel
theorem d_AL_growI_26 : decode c_AL_growI 26 = .ok (.ishr, 1) := by decide +kernel
theorem d_AL_growI_27 : decode c_AL_growI 27 = .ok (.invokestatic 73, 3) := by decide +kernel
theorem d_AL_growI_30 : decode c_AL_growI 30 = .ok (.istore_n 3, 1) := by decide +kernel
theorem d_AL_growI_31 : decode c_AL_growI 31 = .ok (.aload_n 0, 1) := by decide +kernel
theorem d_AL_growI_32 : decode c_AL_growI 32 = .ok (.aload_n 0, 1) := by decide +kernel
theorem d_AL_growI_33 : decode c_AL_growI 33 = .ok (.getfield 9, 3) := by decide +kernel
theorem d_AL_growI_36 : decode c_AL_growI 36 = .ok (.iload_n 3, 1) := by decide +kernel
theorem d_AL_growI_37 : decode c_AL_growI 37 = .ok (.invokestatic 66, 3) := by decide +kernel
theorem d_AL_growI_40 : decode c_AL_growI 40 = .ok (.dup_x1, 1) := by decide +kernel
theorem d_AL_growI_41 : decode c_AL_growI 41 = .ok (.putfield 9, 3) := by decide +kernel
theorem d_AL_growI_44 : decode c_AL_growI 44 = .ok (.areturn, 1) := by decide +kernel
theorem d_AL_growI_45 : decode c_AL_growI 45 = .ok (.aload_n 0, 1) := by decide +kernel
theorem d_AL_growI_46 : decode c_AL_growI 46 = .ok (.bipush 10, 2) := by decide +kernel
theorem d_AL_growI_48 : decode c_AL_growI 48 = .ok (.iload_n 1, 1) := by decide +kernel
theorem d_AL_growI_49 : decode c_AL_growI 49 = .ok (.invokestatic 79, 3) := by decide +kernel
theorem d_AL_growI_52 : decode c_AL_growI 52 = .ok (.anewarray 7, 3) := by decide +kernel
theorem d_AL_growI_55 : decode c_AL_growI 55 = .ok (.dup_x1, 1) := by decide +kernel
theorem d_AL_growI_56 : decode c_AL_growI 56 = .ok (.putfield 9, 3) := by decide +kernel
theorem d_AL_growI_59 : decode c_AL_growI 59 = .ok (.areturn, 1) := by decide +kernel
theorem d_AL_get_0 : decode c_AL_get 0 = .ok (.iload_n 1, 1) := by decide +kernel
theorem d_AL_get_1 : decode c_AL_get 1 = .ok (.aload_n 0, 1) := by decide +kernel
theorem d_AL_get_2 : decode c_AL_get 2 = .ok (.getfield 48, 3) := by decide +kernel
theorem d_AL_get_5 : decode c_AL_get 5 = .ok (.invokestatic 118, 3) := by decide +kernel
theorem d_AL_get_8 : decode c_AL_get 8 = .ok (.pop, 1) := by decide +kernel
theorem d_AL_get_9 : decode c_AL_get 9 = .ok (.aload_n 0, 1) := by decide +kernel
theorem d_AL_get_10 : decode c_AL_get 10 = .ok (.iload_n 1, 1) := by decide +kernel
theorem d_AL_get_11 : decode c_AL_get 11 = .ok (.invokevirtual 123, 3) := by decide +kernel
theorem d_AL_get_14 : decode c_AL_get 14 = .ok (.areturn, 1) := by decide +kernel
theorem d_AL_elementData_0 : decode c_AL_elementData 0 = .ok (.aload_n 0, 1) := by decide +kernel
theorem d_AL_elementData_1 : decode c_AL_elementData 1 = .ok (.getfield 9, 3) := by decide +kernel
theorem d_AL_elementData_4 : decode c_AL_elementData 4 = .ok (.iload_n 1, 1) := by decide +kernel
theorem d_AL_elementData_5 : decode c_AL_elementData 5 = .ok (.aaload, 1) := by decide +kernel
theorem d_AL_elementData_6 : decode c_AL_elementData 6 = .ok (.areturn, 1) := by decide +kernel
theorem d_AL_isEmpty_0 : decode c_AL_isEmpty 0 = .ok (.aload_n 0, 1) := by decide +kernel
theorem d_AL_isEmpty_1 : decode c_AL_isEmpty 1 = .ok (.getfield 48, 3) := by decide +kernel
theorem d_AL_isEmpty_4 : decode c_AL_isEmpty 4 = .ok (.ifCond .ne 7, 3) := by decide +kernel
theorem d_AL_isEmpty_7 : decode c_AL_isEmpty 7 = .ok (.iconst 1, 1) := by decide +kernel
theorem d_AL_isEmpty_8 : decode c_AL_isEmpty 8 = .ok (.goto 4, 3) := by decide +kernel
theorem d_AL_isEmpty_11 : decode c_AL_isEmpty 11 = .ok (.iconst 0, 1) := by decide +kernel
theorem d_AL_isEmpty_12 : decode c_AL_isEmpty 12 = .ok (.ireturn, 1) := by decide +kernel
theorem d_AL_clear_0 : decode c_AL_clear 0 = .ok (.aload_n 0, 1) := by decide +kernel
theorem d_AL_clear_1 : decode c_AL_clear 1 = .ok (.dup, 1) := by decide +kernel
theorem d_AL_clear_2 : decode c_AL_clear 2 = .ok (.getfield 63, 3) := by decide +kernel
theorem d_AL_clear_5 : decode c_AL_clear 5 = .ok (.iconst 1, 1) := by decide +kernel
theorem d_AL_clear_6 : decode c_AL_clear 6 = .ok (.iadd, 1) := by decide +kernel
theorem d_AL_clear_7 : decode c_AL_clear 7 = .ok (.putfield 63, 3) := by decide +kernel
theorem d_AL_clear_10 : decode c_AL_clear 10 = .ok (.aload_n 0, 1) := by decide +kernel
theorem d_AL_clear_11 : decode c_AL_clear 11 = .ok (.getfield 9, 3) := by decide +kernel
theorem d_AL_clear_14 : decode c_AL_clear 14 = .ok (.astore_n 1, 1) := by decide +kernel
theorem d_AL_clear_15 : decode c_AL_clear 15 = .ok (.aload_n 0, 1) := by decide +kernel
theorem d_AL_clear_16 : decode c_AL_clear 16 = .ok (.getfield 48, 3) := by decide +kernel
theorem d_AL_clear_19 : decode c_AL_clear 19 = .ok (.istore_n 2, 1) := by decide +kernel
theorem d_AL_clear_20 : decode c_AL_clear 20 = .ok (.aload_n 0, 1) := by decide +kernel
theorem d_AL_clear_21 : decode c_AL_clear 21 = .ok (.iconst 0, 1) := by decide +kernel
theorem d_AL_clear_22 : decode c_AL_clear 22 = .ok (.dup_x1, 1) := by decide +kernel
theorem d_AL_clear_23 : decode c_AL_clear 23 = .ok (.putfield 48, 3) := by decide +kernel
theorem d_AL_clear_26 : decode c_AL_clear 26 = .ok (.istore_n 3, 1) := by decide +kernel
theorem d_AL_clear_27 : decode c_AL_clear 27 = .ok (.iload_n 3, 1) := by decide +kernel
theorem d_AL_clear_28 : decode c_AL_clear 28 = .ok (.iload_n 2, 1) := by decide +kernel
theorem d_AL_clear_29 : decode c_AL_clear 29 = .ok (.if_icmp .ge 13, 3) := by decide +kernel
theorem d_AL_clear_32 : decode c_AL_clear 32 = .ok (.aload_n 1, 1) := by decide +kernel
theorem d_AL_clear_33 : decode c_AL_clear 33 = .ok (.iload_n 3, 1) := by decide +kernel
theorem d_AL_clear_34 : decode c_AL_clear 34 = .ok (.aconst_null, 1) := by decide +kernel
theorem d_AL_clear_35 : decode c_AL_clear 35 = .ok (.aastore, 1) := by decide +kernel
theorem d_AL_clear_36 : decode c_AL_clear 36 = .ok (.iinc 3 1, 3) := by decide +kernel
theorem d_AL_clear_39 : decode c_AL_clear 39 = .ok (.goto (-12), 3) := by decide +kernel
theorem d_AL_clear_42 : decode c_AL_clear 42 = .ok (.return_, 1) := by decide +kernel
theorem d_AL_addI_0 : decode c_AL_addI 0 = .ok (.aload_n 0, 1) := by decide +kernel
theorem d_AL_addI_1 : decode c_AL_addI 1 = .ok (.iload_n 1, 1) := by decide +kernel
theorem d_AL_addI_2 : decode c_AL_addI 2 = .ok (.invokevirtual 135, 3) := by decide +kernel
theorem d_AL_addI_5 : decode c_AL_addI 5 = .ok (.aload_n 0, 1) := by decide +kernel
theorem d_AL_addI_6 : decode c_AL_addI 6 = .ok (.dup, 1) := by decide +kernel
theorem d_AL_addI_7 : decode c_AL_addI 7 = .ok (.getfield 63, 3) := by decide +kernel
theorem d_AL_addI_10 : decode c_AL_addI 10 = .ok (.iconst 1, 1) := by decide +kernel
theorem d_AL_addI_11 : decode c_AL_addI 11 = .ok (.iadd, 1) := by decide +kernel
theorem d_AL_addI_12 : decode c_AL_addI 12 = .ok (.putfield 63, 3) := by decide +kernel
theorem d_AL_addI_15 : decode c_AL_addI 15 = .ok (.aload_n 0, 1) := by decide +kernel
theorem d_AL_addI_16 : decode c_AL_addI 16 = .ok (.getfield 48, 3) := by decide +kernel
theorem d_AL_addI_19 : decode c_AL_addI 19 = .ok (.dup, 1) := by decide +kernel
theorem d_AL_addI_20 : decode c_AL_addI 20 = .ok (.istore_n 3, 1) := by decide +kernel
theorem d_AL_addI_21 : decode c_AL_addI 21 = .ok (.aload_n 0, 1) := by decide +kernel
theorem d_AL_addI_22 : decode c_AL_addI 22 = .ok (.getfield 9, 3) := by decide +kernel
theorem d_AL_addI_25 : decode c_AL_addI 25 = .ok (.dup, 1) := by decide +kernel
theorem d_AL_addI_26 : decode c_AL_addI 26 = .ok (.astore 4, 2) := by decide +kernel
theorem d_AL_addI_28 : decode c_AL_addI 28 = .ok (.arraylength, 1) := by decide +kernel
theorem d_AL_addI_29 : decode c_AL_addI 29 = .ok (.if_icmp .ne 9, 3) := by decide +kernel
theorem d_AL_addI_32 : decode c_AL_addI 32 = .ok (.aload_n 0, 1) := by decide +kernel
theorem d_AL_addI_33 : decode c_AL_addI 33 = .ok (.invokevirtual 129, 3) := by decide +kernel
theorem d_AL_addI_36 : decode c_AL_addI 36 = .ok (.astore 4, 2) := by decide +kernel
theorem d_AL_addI_38 : decode c_AL_addI 38 = .ok (.aload 4, 2) := by decide +kernel
theorem d_AL_addI_40 : decode c_AL_addI 40 = .ok (.iload_n 1, 1) := by decide +kernel
theorem d_AL_addI_41 : decode c_AL_addI 41 = .ok (.aload 4, 2) := by decide +kernel
theorem d_AL_addI_43 : decode c_AL_addI 43 = .ok (.iload_n 1, 1) := by decide +kernel
theorem d_AL_addI_44 : decode c_AL_addI 44 = .ok (.iconst 1, 1) := by decide +kernel
theorem d_AL_addI_45 : decode c_AL_addI 45 = .ok (.iadd, 1) := by decide +kernel
theorem d_AL_addI_46 : decode c_AL_addI 46 = .ok (.iload_n 3, 1) := by decide +kernel
theorem d_AL_addI_47 : decode c_AL_addI 47 = .ok (.iload_n 1, 1) := by decide +kernel
theorem d_AL_addI_48 : decode c_AL_addI 48 = .ok (.isub, 1) := by decide +kernel
theorem d_AL_addI_49 : decode c_AL_addI 49 = .ok (.invokestatic 112, 3) := by decide +kernel
theorem d_AL_addI_52 : decode c_AL_addI 52 = .ok (.aload 4, 2) := by decide +kernel
theorem d_AL_addI_54 : decode c_AL_addI 54 = .ok (.iload_n 1, 1) := by decide +kernel
theorem d_AL_addI_55 : decode c_AL_addI 55 = .ok (.aload_n 2, 1) := by decide +kernel
theorem d_AL_addI_56 : decode c_AL_addI 56 = .ok (.aastore, 1) := by decide +kernel
theorem d_AL_addI_57 : decode c_AL_addI 57 = .ok (.aload_n 0, 1) := by decide +kernel
theorem d_AL_addI_58 : decode c_AL_addI 58 = .ok (.iload_n 3, 1) := by decide +kernel
theorem d_AL_addI_59 : decode c_AL_addI 59 = .ok (.iconst 1, 1) := by decide +kernel
theorem d_AL_addI_60 : decode c_AL_addI 60 = .ok (.iadd, 1) := by decide +kernel
theorem d_AL_addI_61 : decode c_AL_addI 61 = .ok (.putfield 48, 3) := by decide +kernel
theorem d_AL_addI_64 : decode c_AL_addI 64 = .ok (.return_, 1) := by decide +kernel
theorem d_AL_rangeCheckForAdd_0 : decode c_AL_rangeCheckForAdd 0 = .ok (.iload_n 1, 1) := by decide +kernel
theorem d_AL_rangeCheckForAdd_1 : decode c_AL_rangeCheckForAdd 1 = .ok (.aload_n 0, 1) := by decide +kernel
theorem d_AL_rangeCheckForAdd_2 : decode c_AL_rangeCheckForAdd 2 = .ok (.getfield 48, 3) := by decide +kernel
theorem d_AL_rangeCheckForAdd_5 : decode c_AL_rangeCheckForAdd 5 = .ok (.if_icmp .gt 7, 3) := by decide +kernel
theorem d_AL_rangeCheckForAdd_8 : decode c_AL_rangeCheckForAdd 8 = .ok (.iload_n 1, 1) := by decide +kernel
theorem d_AL_rangeCheckForAdd_9 : decode c_AL_rangeCheckForAdd 9 = .ok (.ifCond .ge 16, 3) := by decide +kernel
theorem d_AL_rangeCheckForAdd_12 : decode c_AL_rangeCheckForAdd 12 = .ok (.new 187, 3) := by decide +kernel
theorem d_AL_rangeCheckForAdd_15 : decode c_AL_rangeCheckForAdd 15 = .ok (.dup, 1) := by decide +kernel
theorem d_AL_rangeCheckForAdd_16 : decode c_AL_rangeCheckForAdd 16 = .ok (.aload_n 0, 1) := by decide +kernel
theorem d_AL_rangeCheckForAdd_17 : decode c_AL_rangeCheckForAdd 17 = .ok (.iload_n 1, 1) := by decide +kernel
theorem d_AL_rangeCheckForAdd_18 : decode c_AL_rangeCheckForAdd 18 = .ok (.invokevirtual 198, 3) := by decide +kernel
theorem d_AL_rangeCheckForAdd_21 : decode c_AL_rangeCheckForAdd 21 = .ok (.invokespecial 193, 3) := by decide +kernel
theorem d_AL_rangeCheckForAdd_24 : decode c_AL_rangeCheckForAdd 24 = .ok (.athrow, 1) := by decide +kernel
theorem d_AL_rangeCheckForAdd_25 : decode c_AL_rangeCheckForAdd 25 = .ok (.return_, 1) := by decide +kernel
theorem d_AL_remove_0 : decode c_AL_remove 0 = .ok (.iload_n 1, 1) := by decide +kernel
theorem d_AL_remove_1 : decode c_AL_remove 1 = .ok (.aload_n 0, 1) := by decide +kernel
theorem d_AL_remove_2 : decode c_AL_remove 2 = .ok (.getfield 48, 3) := by decide +kernel
theorem d_AL_remove_5 : decode c_AL_remove 5 = .ok (.invokestatic 118, 3) := by decide +kernel
theorem d_AL_remove_8 : decode c_AL_remove 8 = .ok (.pop, 1) := by decide +kernel
theorem d_AL_remove_9 : decode c_AL_remove 9 = .ok (.aload_n 0, 1) := by decide +kernel
theorem d_AL_remove_10 : decode c_AL_remove 10 = .ok (.getfield 9, 3) := by decide +kernel
theorem d_AL_remove_13 : decode c_AL_remove 13 = .ok (.astore_n 2, 1) := by decide +kernel
theorem d_AL_remove_14 : decode c_AL_remove 14 = .ok (.aload_n 2, 1) := by decide +kernel
theorem d_AL_remove_15 : decode c_AL_remove 15 = .ok (.iload_n 1, 1) := by decide +kernel
theorem d_AL_remove_16 : decode c_AL_remove 16 = .ok (.aaload, 1) := by decide +kernel
theorem d_AL_remove_17 : decode c_AL_remove 17 = .ok (.astore_n 3, 1) := by decide +kernel
theorem d_AL_remove_18 : decode c_AL_remove 18 = .ok (.aload_n 0, 1) := by decide +kernel
theorem d_AL_remove_19 : decode c_AL_remove 19 = .ok (.aload_n 2, 1) := by decide +kernel
theorem d_AL_remove_20 : decode c_AL_remove 20 = .ok (.iload_n 1, 1) := by decide +kernel
theorem d_AL_remove_21 : decode c_AL_remove 21 = .ok (.invokevirtual 144, 3) := by decide +kernel
theorem d_AL_remove_24 : decode c_AL_remove 24 = .ok (.aload_n 3, 1) := by decide +kernel
theorem d_AL_remove_25 : decode c_AL_remove 25 = .ok (.areturn, 1) := by decide +kernel
theorem d_AL_fastRemove_0 : decode c_AL_fastRemove 0 = .ok (.aload_n 0, 1) := by decide +kernel
theorem d_AL_fastRemove_1 : decode c_AL_fastRemove 1 = .ok (.dup, 1) := by decide +kernel
theorem d_AL_fastRemove_2 : decode c_AL_fastRemove 2 = .ok (.getfield 63, 3) := by decide +kernel
theorem d_AL_fastRemove_5 : decode c_AL_fastRemove 5 = .ok (.iconst 1, 1) := by decide +kernel
theorem d_AL_fastRemove_6 : decode c_AL_fastRemove 6 = .ok (.iadd, 1) := by decide +kernel
theorem d_AL_fastRemove_7 : decode c_AL_fastRemove 7 = .ok (.putfield 63, 3) := by decide +kernel
theorem d_AL_fastRemove_10 : decode c_AL_fastRemove 10 = .ok (.aload_n 0, 1) := by decide +kernel
theorem d_AL_fastRemove_11 : decode c_AL_fastRemove 11 = .ok (.getfield 48, 3) := by decide +kernel
theorem d_AL_fastRemove_14 : decode c_AL_fastRemove 14 = .ok (.iconst 1, 1) := by decide +kernel
theorem d_AL_fastRemove_15 : decode c_AL_fastRemove 15 = .ok (.isub, 1) := by decide +kernel
theorem d_AL_fastRemove_16 : decode c_AL_fastRemove 16 = .ok (.dup, 1) := by decide +kernel
theorem d_AL_fastRemove_17 : decode c_AL_fastRemove 17 = .ok (.istore_n 3, 1) := by decide +kernel
theorem d_AL_fastRemove_18 : decode c_AL_fastRemove 18 = .ok (.iload_n 2, 1) := by decide +kernel
theorem d_AL_fastRemove_19 : decode c_AL_fastRemove 19 = .ok (.if_icmp .le 15, 3) := by decide +kernel
theorem d_AL_fastRemove_22 : decode c_AL_fastRemove 22 = .ok (.aload_n 1, 1) := by decide +kernel
theorem d_AL_fastRemove_23 : decode c_AL_fastRemove 23 = .ok (.iload_n 2, 1) := by decide +kernel
theorem d_AL_fastRemove_24 : decode c_AL_fastRemove 24 = .ok (.iconst 1, 1) := by decide +kernel
theorem d_AL_fastRemove_25 : decode c_AL_fastRemove 25 = .ok (.iadd, 1) := by decide +kernel
theorem d_AL_fastRemove_26 : decode c_AL_fastRemove 26 = .ok (.aload_n 1, 1) := by decide +kernel
theorem d_AL_fastRemove_27 : decode c_AL_fastRemove 27 = .ok (.iload_n 2, 1) := by decide +kernel
theorem d_AL_fastRemove_28 : decode c_AL_fastRemove 28 = .ok (.iload_n 3, 1) := by decide +kernel
theorem d_AL_fastRemove_29 : decode c_AL_fastRemove 29 = .ok (.iload_n 2, 1) := by decide +kernel
theorem d_AL_fastRemove_30 : decode c_AL_fastRemove 30 = .ok (.isub, 1) := by decide +kernel
theorem d_AL_fastRemove_31 : decode c_AL_fastRemove 31 = .ok (.invokestatic 112, 3) := by decide +kernel
theorem d_AL_fastRemove_34 : decode c_AL_fastRemove 34 = .ok (.aload_n 1, 1) := by decide +kernel
theorem d_AL_fastRemove_35 : decode c_AL_fastRemove 35 = .ok (.aload_n 0, 1) := by decide +kernel
theorem d_AL_fastRemove_36 : decode c_AL_fastRemove 36 = .ok (.iload_n 3, 1) := by decide +kernel
theorem d_AL_fastRemove_37 : decode c_AL_fastRemove 37 = .ok (.dup_x1, 1) := by decide +kernel
theorem d_AL_fastRemove_38 : decode c_AL_fastRemove 38 = .ok (.putfield 48, 3) := by decide +kernel
theorem d_AL_fastRemove_41 : decode c_AL_fastRemove 41 = .ok (.aconst_null, 1) := by decide +kernel
theorem d_AL_fastRemove_42 : decode c_AL_fastRemove 42 = .ok (.aastore, 1) := by decide +kernel
theorem d_AL_fastRemove_43 : decode c_AL_fastRemove 43 = .ok (.return_, 1) := by decide +kernel
theorem d_AB_init_0 : decode c_AB_init 0 = .ok (.aload_n 0, 1) := by decide +kernel
theorem d_AB_init_1 : decode c_AB_init 1 = .ok (.invokespecial 1, 3) := by decide +kernel
theorem d_AB_init_4 : decode c_AB_init 4 = .ok (.aload_n 0, 1) := by decide +kernel
theorem d_AB_init_5 : decode c_AB_init 5 = .ok (.iconst 0, 1) := by decide +kernel
theorem d_AB_init_6 : decode c_AB_init 6 = .ok (.putfield 7, 3) := by decide +kernel
theorem d_AB_init_9 : decode c_AB_init 9 = .ok (.return_, 1) := by decide +kernel
theorem d_AC_init_0 : decode c_AC_init 0 = .ok (.aload_n 0, 1) := by decide +kernel
theorem d_AC_init_1 : decode c_AC_init 1 = .ok (.invokespecial 1, 3) := by decide +kernel
theorem d_AC_init_4 : decode c_AC_init 4 = .ok (.return_, 1) := by decide +kernel
theorem d_AS_newLength_0 : decode c_AS_newLength 0 = .ok (.iload_n 0, 1) := by decide +kernel
theorem d_AS_newLength_1 : decode c_AS_newLength 1 = .ok (.iload_n 1, 1) := by decide +kernel
theorem d_AS_newLength_2 : decode c_AS_newLength 2 = .ok (.iload_n 2, 1) := by decide +kernel
theorem d_AS_newLength_3 : decode c_AS_newLength 3 = .ok (.invokestatic 194, 3) := by decide +kernel
theorem d_AS_newLength_6 : decode c_AS_newLength 6 = .ok (.iadd, 1) := by decide +kernel
theorem d_AS_newLength_7 : decode c_AS_newLength 7 = .ok (.istore_n 3, 1) := by decide +kernel
theorem d_AS_newLength_8 : decode c_AS_newLength 8 = .ok (.iconst 0, 1) := by decide +kernel
theorem d_AS_newLength_9 : decode c_AS_newLength 9 = .ok (.iload_n 3, 1) := by decide +kernel
theorem d_AS_newLength_10 : decode c_AS_newLength 10 = .ok (.if_icmp .ge 11, 3) := by decide +kernel
theorem d_AS_newLength_13 : decode c_AS_newLength 13 = .ok (.iload_n 3, 1) := by decide +kernel
theorem d_AS_newLength_14 : decode c_AS_newLength 14 = .ok (.ldc 200, 2) := by decide +kernel
theorem d_AS_newLength_16 : decode c_AS_newLength 16 = .ok (.if_icmp .gt 5, 3) := by decide +kernel
theorem d_AS_newLength_19 : decode c_AS_newLength 19 = .ok (.iload_n 3, 1) := by decide +kernel
theorem d_AS_newLength_20 : decode c_AS_newLength 20 = .ok (.ireturn, 1) := by decide +kernel
theorem d_AS_newLength_21 : decode c_AS_newLength 21 = .ok (.iload_n 0, 1) := by decide +kernel
theorem d_AS_newLength_22 : decode c_AS_newLength 22 = .ok (.iload_n 1, 1) := by decide +kernel
theorem d_AS_newLength_23 : decode c_AS_newLength 23 = .ok (.invokestatic 201, 3) := by decide +kernel
theorem d_AS_newLength_26 : decode c_AS_newLength 26 = .ok (.ireturn, 1) := by decide +kernel
theorem d_AS_hugeLength_0 : decode c_AS_hugeLength 0 = .ok (.iload_n 0, 1) := by decide +kernel
theorem d_AS_hugeLength_1 : decode c_AS_hugeLength 1 = .ok (.iload_n 1, 1) := by decide +kernel
theorem d_AS_hugeLength_2 : decode c_AS_hugeLength 2 = .ok (.iadd, 1) := by decide +kernel
theorem d_AS_hugeLength_3 : decode c_AS_hugeLength 3 = .ok (.istore_n 2, 1) := by decide +kernel
theorem d_AS_hugeLength_4 : decode c_AS_hugeLength 4 = .ok (.iload_n 2, 1) := by decide +kernel
theorem d_AS_hugeLength_5 : decode c_AS_hugeLength 5 = .ok (.ifCond .ge 44, 3) := by decide +kernel
theorem d_AS_hugeLength_8 : decode c_AS_hugeLength 8 = .ok (.new 204, 3) := by decide +kernel
theorem d_AS_hugeLength_11 : decode c_AS_hugeLength 11 = .ok (.dup, 1) := by decide +kernel
theorem d_AS_hugeLength_12 : decode c_AS_hugeLength 12 = .ok (.new 89, 3) := by decide +kernel
theorem d_AS_hugeLength_15 : decode c_AS_hugeLength 15 = .ok (.dup, 1) := by decide +kernel
theorem d_AS_hugeLength_16 : decode c_AS_hugeLength 16 = .ok (.invokespecial 91, 3) := by decide +kernel
theorem d_AS_hugeLength_19 : decode c_AS_hugeLength 19 = .ok (.ldc 206, 2) := by decide +kernel
theorem d_AS_hugeLength_21 : decode c_AS_hugeLength 21 = .ok (.invokevirtual 94, 3) := by decide +kernel
theorem d_AS_hugeLength_24 : decode c_AS_hugeLength 24 = .ok (.iload_n 0, 1) := by decide +kernel
theorem d_AS_hugeLength_25 : decode c_AS_hugeLength 25 = .ok (.invokevirtual 98, 3) := by decide +kernel
theorem d_AS_hugeLength_28 : decode c_AS_hugeLength 28 = .ok (.ldc 208, 2) := by decide +kernel
theorem d_AS_hugeLength_30 : decode c_AS_hugeLength 30 = .ok (.invokevirtual 94, 3) := by decide +kernel
theorem d_AS_hugeLength_33 : decode c_AS_hugeLength 33 = .ok (.iload_n 1, 1) := by decide +kernel
theorem d_AS_hugeLength_34 : decode c_AS_hugeLength 34 = .ok (.invokevirtual 98, 3) := by decide +kernel
theorem d_AS_hugeLength_37 : decode c_AS_hugeLength 37 = .ok (.ldc 210, 2) := by decide +kernel
theorem d_AS_hugeLength_39 : decode c_AS_hugeLength 39 = .ok (.invokevirtual 94, 3) := by decide +kernel
theorem d_AS_hugeLength_42 : decode c_AS_hugeLength 42 = .ok (.invokevirtual 101, 3) := by decide +kernel
theorem d_AS_hugeLength_45 : decode c_AS_hugeLength 45 = .ok (.invokespecial 212, 3) := by decide +kernel
theorem d_AS_hugeLength_48 : decode c_AS_hugeLength 48 = .ok (.athrow, 1) := by decide +kernel
theorem d_AS_hugeLength_49 : decode c_AS_hugeLength 49 = .ok (.iload_n 2, 1) := by decide +kernel
theorem d_AS_hugeLength_50 : decode c_AS_hugeLength 50 = .ok (.ldc 200, 2) := by decide +kernel
theorem d_AS_hugeLength_52 : decode c_AS_hugeLength 52 = .ok (.if_icmp .gt 6, 3) := by decide +kernel
theorem d_AS_hugeLength_55 : decode c_AS_hugeLength 55 = .ok (.ldc 200, 2) := by decide +kernel
theorem d_AS_hugeLength_57 : decode c_AS_hugeLength 57 = .ok (.ireturn, 1) := by decide +kernel
theorem d_AS_hugeLength_58 : decode c_AS_hugeLength 58 = .ok (.iload_n 2, 1) := by decide +kernel
theorem d_AS_hugeLength_59 : decode c_AS_hugeLength 59 = .ok (.ireturn, 1) := by decide +kernel
theorem d_MA_max_0 : decode c_MA_max 0 = .ok (.iload_n 0, 1) := by decide +kernel
theorem d_MA_max_1 : decode c_MA_max 1 = .ok (.iload_n 1, 1) := by decide +kernel
theorem d_MA_max_2 : decode c_MA_max 2 = .ok (.if_icmp .lt 7, 3) := by decide +kernel
theorem d_MA_max_5 : decode c_MA_max 5 = .ok (.iload_n 0, 1) := by decide +kernel
theorem d_MA_max_6 : decode c_MA_max 6 = .ok (.goto 4, 3) := by decide +kernel
theorem d_MA_max_9 : decode c_MA_max 9 = .ok (.iload_n 1, 1) := by decide +kernel
theorem d_MA_max_10 : decode c_MA_max 10 = .ok (.ireturn, 1) := by decide +kernel
theorem d_MA_min_0 : decode c_MA_min 0 = .ok (.iload_n 0, 1) := by decide +kernel
theorem d_MA_min_1 : decode c_MA_min 1 = .ok (.iload_n 1, 1) := by decide +kernel
theorem d_MA_min_2 : decode c_MA_min 2 = .ok (.if_icmp .gt 7, 3) := by decide +kernel
theorem d_MA_min_5 : decode c_MA_min 5 = .ok (.iload_n 0, 1) := by decide +kernel
theorem d_MA_min_6 : decode c_MA_min 6 = .ok (.goto 4, 3) := by decide +kernel
theorem d_MA_min_9 : decode c_MA_min 9 = .ok (.iload_n 1, 1) := by decide +kernel
theorem d_MA_min_10 : decode c_MA_min 10 = .ok (.ireturn, 1) := by decide +kernel
theorem d_AR_copyOf2_0 : decode c_AR_copyOf2 0 = .ok (.aload_n 0, 1) := by decide +kernel
theorem d_AR_copyOf2_1 : decode c_AR_copyOf2 1 = .ok (.iload_n 1, 1) := by decide +kernel
theorem d_AR_copyOf2_2 : decode c_AR_copyOf2 2 = .ok (.aload_n 0, 1) := by decide +kernel
theorem d_AR_copyOf2_3 : decode c_AR_copyOf2 3 = .ok (.invokevirtual 86, 3) := by decide +kernel
theorem d_AR_copyOf2_6 : decode c_AR_copyOf2 6 = .ok (.invokestatic 300, 3) := by decide +kernel
theorem d_AR_copyOf2_9 : decode c_AR_copyOf2 9 = .ok (.areturn, 1) := by decide +kernel
theorem d_AR_copyOf3_0 : decode c_AR_copyOf3 0 = .ok (.aload_n 2, 1) := by decide +kernel
theorem d_AR_copyOf3_1 : decode c_AR_copyOf3 1 = .ok (.ldc 110, 2) := by decide +kernel
theorem d_AR_copyOf3_3 : decode c_AR_copyOf3 3 = .ok (.if_acmp .ne 10, 3) := by decide +kernel
theorem d_AR_copyOf3_6 : decode c_AR_copyOf3 6 = .ok (.iload_n 1, 1) := by decide +kernel
theorem d_AR_copyOf3_7 : decode c_AR_copyOf3 7 = .ok (.anewarray 2, 3) := by decide +kernel
theorem d_AR_copyOf3_10 : decode c_AR_copyOf3 10 = .ok (.goto 14, 3) := by decide +kernel
theorem d_AR_copyOf3_13 : decode c_AR_copyOf3 13 = .ok (.aload_n 2, 1) := by decide +kernel
theorem d_AR_copyOf3_14 : decode c_AR_copyOf3 14 = .ok (.invokevirtual 90, 3) := by decide +kernel
theorem d_AR_copyOf3_17 : decode c_AR_copyOf3 17 = .ok (.iload_n 1, 1) := by decide +kernel
theorem d_AR_copyOf3_18 : decode c_AR_copyOf3 18 = .ok (.invokestatic 95, 3) := by decide +kernel
theorem d_AR_copyOf3_21 : decode c_AR_copyOf3 21 = .ok (.checkcast 110, 3) := by decide +kernel
theorem d_AR_copyOf3_24 : decode c_AR_copyOf3 24 = .ok (.astore_n 3, 1) := by decide +kernel
theorem d_AR_copyOf3_25 : decode c_AR_copyOf3 25 = .ok (.aload_n 0, 1) := by decide +kernel
theorem d_AR_copyOf3_26 : decode c_AR_copyOf3 26 = .ok (.iconst 0, 1) := by decide +kernel
theorem d_AR_copyOf3_27 : decode c_AR_copyOf3 27 = .ok (.aload_n 3, 1) := by decide +kernel
theorem d_AR_copyOf3_28 : decode c_AR_copyOf3 28 = .ok (.iconst 0, 1) := by decide +kernel
theorem d_AR_copyOf3_29 : decode c_AR_copyOf3 29 = .ok (.aload_n 0, 1) := by decide +kernel
theorem d_AR_copyOf3_30 : decode c_AR_copyOf3 30 = .ok (.arraylength, 1) := by decide +kernel
theorem d_AR_copyOf3_31 : decode c_AR_copyOf3 31 = .ok (.iload_n 1, 1) := by decide +kernel
theorem d_AR_copyOf3_32 : decode c_AR_copyOf3 32 = .ok (.invokestatic 304, 3) := by decide +kernel
theorem d_AR_copyOf3_35 : decode c_AR_copyOf3 35 = .ok (.invokestatic 150, 3) := by decide +kernel
theorem d_AR_copyOf3_38 : decode c_AR_copyOf3 38 = .ok (.aload_n 3, 1) := by decide +kernel
theorem d_AR_copyOf3_39 : decode c_AR_copyOf3 39 = .ok (.areturn, 1) := by decide +kernel
theorem d_OJ_checkIndex_0 : decode c_OJ_checkIndex 0 = .ok (.iload_n 0, 1) := by decide +kernel
theorem d_OJ_checkIndex_1 : decode c_OJ_checkIndex 1 = .ok (.iload_n 1, 1) := by decide +kernel
theorem d_OJ_checkIndex_2 : decode c_OJ_checkIndex 2 = .ok (.aconst_null, 1) := by decide +kernel
theorem d_OJ_checkIndex_3 : decode c_OJ_checkIndex 3 = .ok (.invokestatic 105, 3) := by decide +kernel
theorem d_OJ_checkIndex_6 : decode c_OJ_checkIndex 6 = .ok (.ireturn, 1) := by decide +kernel
theorem d_PC_checkIndex_0 : decode c_PC_checkIndex 0 = .ok (.iload_n 0, 1) := by decide +kernel
theorem d_PC_checkIndex_1 : decode c_PC_checkIndex 1 = .ok (.ifCond .lt 8, 3) := by decide +kernel
theorem d_PC_checkIndex_4 : decode c_PC_checkIndex 4 = .ok (.iload_n 0, 1) := by decide +kernel
theorem d_PC_checkIndex_5 : decode c_PC_checkIndex 5 = .ok (.iload_n 1, 1) := by decide +kernel
theorem d_PC_checkIndex_6 : decode c_PC_checkIndex 6 = .ok (.if_icmp .lt 10, 3) := by decide +kernel
theorem d_PC_checkIndex_9 : decode c_PC_checkIndex 9 = .ok (.aload_n 2, 1) := by decide +kernel
theorem d_PC_checkIndex_10 : decode c_PC_checkIndex 10 = .ok (.iload_n 0, 1) := by decide +kernel
theorem d_PC_checkIndex_11 : decode c_PC_checkIndex 11 = .ok (.iload_n 1, 1) := by decide +kernel
theorem d_PC_checkIndex_12 : decode c_PC_checkIndex 12 = .ok (.invokestatic 95, 3) := by decide +kernel
theorem d_PC_checkIndex_15 : decode c_PC_checkIndex 15 = .ok (.athrow, 1) := by decide +kernel
theorem d_PC_checkIndex_16 : decode c_PC_checkIndex 16 = .ok (.iload_n 0, 1) := by decide +kernel
theorem d_PC_checkIndex_17 : decode c_PC_checkIndex 17 = .ok (.ireturn, 1) := by decide +kernel
