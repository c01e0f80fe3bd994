theorem d_EN_standsAheadOf_0 : decode c_EN_standsAheadOf 0 = .ok (.aload_n 0, 1) := by decide +kernel
theorem d_EN_standsAheadOf_1 : decode c_EN_standsAheadOf 1 = .ok (.getfield 7, 3) := by decide +kernel
theorem d_EN_standsAheadOf_4 : decode c_EN_standsAheadOf 4 = .ok (.lload_n 1, 1) := by decide +kernel
theorem d_EN_standsAheadOf_5 : decode c_EN_standsAheadOf 5 = .ok (.lcmp, 1) := by decide +kernel
theorem d_EN_standsAheadOf_6 : decode c_EN_standsAheadOf 6 = .ok (.ifCond .ne 20, 3) := by decide +kernel
theorem d_EN_standsAheadOf_9 : decode c_EN_standsAheadOf 9 = .ok (.aload_n 0, 1) := by decide +kernel
theorem d_EN_standsAheadOf_10 : decode c_EN_standsAheadOf 10 = .ok (.getfield 13, 3) := by decide +kernel
theorem d_EN_standsAheadOf_13 : decode c_EN_standsAheadOf 13 = .ok (.lload_n 3, 1) := by decide +kernel
theorem d_EN_standsAheadOf_14 : decode c_EN_standsAheadOf 14 = .ok (.lcmp, 1) := by decide +kernel
theorem d_EN_standsAheadOf_15 : decode c_EN_standsAheadOf 15 = .ok (.ifCond .ge 7, 3) := by decide +kernel
theorem d_EN_standsAheadOf_18 : decode c_EN_standsAheadOf 18 = .ok (.iconst 1, 1) := by decide +kernel
theorem d_EN_standsAheadOf_19 : decode c_EN_standsAheadOf 19 = .ok (.goto 15, 3) := by decide +kernel
theorem d_EN_standsAheadOf_22 : decode c_EN_standsAheadOf 22 = .ok (.iconst 0, 1) := by decide +kernel
theorem d_EN_standsAheadOf_23 : decode c_EN_standsAheadOf 23 = .ok (.goto 11, 3) := by decide +kernel
theorem d_EN_standsAheadOf_26 : decode c_EN_standsAheadOf 26 = .ok (.aload_n 0, 1) := by decide +kernel
theorem d_EN_standsAheadOf_27 : decode c_EN_standsAheadOf 27 = .ok (.getfield 7, 3) := by decide +kernel
theorem d_EN_standsAheadOf_30 : decode c_EN_standsAheadOf 30 = .ok (.lload_n 1, 1) := by decide +kernel
theorem d_EN_standsAheadOf_31 : decode c_EN_standsAheadOf 31 = .ok (.invokestatic 20, 3) := by decide +kernel
theorem d_EN_standsAheadOf_34 : decode c_EN_standsAheadOf 34 = .ok (.ireturn, 1) := by decide +kernel
theorem d_EN_init_0 : decode c_EN_init 0 = .ok (.aload_n 0, 1) := by decide +kernel
theorem d_EN_init_1 : decode c_EN_init 1 = .ok (.invokespecial 1, 3) := by decide +kernel
theorem d_EN_init_4 : decode c_EN_init 4 = .ok (.aload_n 0, 1) := by decide +kernel
theorem d_EN_init_5 : decode c_EN_init 5 = .ok (.lload_n 1, 1) := by decide +kernel
theorem d_EN_init_6 : decode c_EN_init 6 = .ok (.putfield 7, 3) := by decide +kernel
theorem d_EN_init_9 : decode c_EN_init 9 = .ok (.aload_n 0, 1) := by decide +kernel
theorem d_EN_init_10 : decode c_EN_init 10 = .ok (.lload_n 3, 1) := by decide +kernel
theorem d_EN_init_11 : decode c_EN_init 11 = .ok (.putfield 13, 3) := by decide +kernel
theorem d_EN_init_14 : decode c_EN_init 14 = .ok (.aload_n 0, 1) := by decide +kernel
theorem d_EN_init_15 : decode c_EN_init 15 = .ok (.aload 5, 2) := by decide +kernel
theorem d_EN_init_17 : decode c_EN_init 17 = .ok (.putfield 16, 3) := by decide +kernel
theorem d_EN_init_20 : decode c_EN_init 20 = .ok (.return_, 1) := by decide +kernel
theorem d_ST_init_0 : decode c_ST_init 0 = .ok (.aload_n 0, 1) := by decide +kernel
theorem d_ST_init_1 : decode c_ST_init 1 = .ok (.invokespecial 1, 3) := by decide +kernel
theorem d_ST_init_4 : decode c_ST_init 4 = .ok (.aload_n 0, 1) := by decide +kernel
theorem d_ST_init_5 : decode c_ST_init 5 = .ok (.lload_n 1, 1) := by decide +kernel
theorem d_ST_init_6 : decode c_ST_init 6 = .ok (.putfield 7, 3) := by decide +kernel
theorem d_ST_init_9 : decode c_ST_init 9 = .ok (.aload_n 0, 1) := by decide +kernel
theorem d_ST_init_10 : decode c_ST_init 10 = .ok (.iconst 1, 1) := by decide +kernel
theorem d_ST_init_11 : decode c_ST_init 11 = .ok (.putfield 13, 3) := by decide +kernel
theorem d_ST_init_14 : decode c_ST_init 14 = .ok (.return_, 1) := by decide +kernel
theorem d_VW_init_0 : decode c_VW_init 0 = .ok (.aload_n 0, 1) := by decide +kernel
theorem d_VW_init_1 : decode c_VW_init 1 = .ok (.invokespecial 3, 3) := by decide +kernel
theorem d_VW_init_4 : decode c_VW_init 4 = .ok (.return_, 1) := by decide +kernel
theorem d_VW_forgetRead_0 : decode c_VW_forgetRead 0 = .ok (.aload_n 0, 1) := by decide +kernel
theorem d_VW_forgetRead_1 : decode c_VW_forgetRead 1 = .ok (.aconst_null, 1) := by decide +kernel
theorem d_VW_forgetRead_2 : decode c_VW_forgetRead 2 = .ok (.putfield 37, 3) := by decide +kernel
theorem d_VW_forgetRead_5 : decode c_VW_forgetRead 5 = .ok (.aload_n 0, 1) := by decide +kernel
theorem d_VW_forgetRead_6 : decode c_VW_forgetRead 6 = .ok (.lconst 0, 1) := by decide +kernel
theorem d_VW_forgetRead_7 : decode c_VW_forgetRead 7 = .ok (.putfield 41, 3) := by decide +kernel
theorem d_VW_forgetRead_10 : decode c_VW_forgetRead 10 = .ok (.return_, 1) := by decide +kernel
theorem d_VW_lose_0 : decode c_VW_lose 0 = .ok (.aload_n 0, 1) := by decide +kernel
theorem d_VW_lose_1 : decode c_VW_lose 1 = .ok (.iconst 3, 1) := by decide +kernel
theorem d_VW_lose_2 : decode c_VW_lose 2 = .ok (.putfield 25, 3) := by decide +kernel
theorem d_VW_lose_5 : decode c_VW_lose 5 = .ok (.return_, 1) := by decide +kernel
theorem d_VW_begin_0 : decode c_VW_begin 0 = .ok (.aload_n 0, 1) := by decide +kernel
theorem d_VW_begin_1 : decode c_VW_begin 1 = .ok (.iconst 1, 1) := by decide +kernel
theorem d_VW_begin_2 : decode c_VW_begin 2 = .ok (.putfield 9, 3) := by decide +kernel
theorem d_VW_begin_5 : decode c_VW_begin 5 = .ok (.aload_n 0, 1) := by decide +kernel
theorem d_VW_begin_6 : decode c_VW_begin 6 = .ok (.iload_n 1, 1) := by decide +kernel
theorem d_VW_begin_7 : decode c_VW_begin 7 = .ok (.putfield 15, 3) := by decide +kernel
theorem d_VW_begin_10 : decode c_VW_begin 10 = .ok (.aload_n 0, 1) := by decide +kernel
theorem d_VW_begin_11 : decode c_VW_begin 11 = .ok (.iload_n 2, 1) := by decide +kernel
theorem d_VW_begin_12 : decode c_VW_begin 12 = .ok (.putfield 19, 3) := by decide +kernel
theorem d_VW_begin_15 : decode c_VW_begin 15 = .ok (.aload_n 0, 1) := by decide +kernel
theorem d_VW_begin_16 : decode c_VW_begin 16 = .ok (.iconst 0, 1) := by decide +kernel
theorem d_VW_begin_17 : decode c_VW_begin 17 = .ok (.putfield 22, 3) := by decide +kernel
theorem d_VW_begin_20 : decode c_VW_begin 20 = .ok (.aload_n 0, 1) := by decide +kernel
theorem d_VW_begin_21 : decode c_VW_begin 21 = .ok (.iconst 0, 1) := by decide +kernel
theorem d_VW_begin_22 : decode c_VW_begin 22 = .ok (.putfield 25, 3) := by decide +kernel
theorem d_VW_begin_25 : decode c_VW_begin 25 = .ok (.aload_n 0, 1) := by decide +kernel
theorem d_VW_begin_26 : decode c_VW_begin 26 = .ok (.iconst 0, 1) := by decide +kernel
theorem d_VW_begin_27 : decode c_VW_begin 27 = .ok (.putfield 28, 3) := by decide +kernel
theorem d_VW_begin_30 : decode c_VW_begin 30 = .ok (.aload_n 0, 1) := by decide +kernel
theorem d_VW_begin_31 : decode c_VW_begin 31 = .ok (.iconst 0, 1) := by decide +kernel
theorem d_VW_begin_32 : decode c_VW_begin 32 = .ok (.putfield 31, 3) := by decide +kernel
theorem d_VW_begin_35 : decode c_VW_begin 35 = .ok (.aload_n 0, 1) := by decide +kernel
theorem d_VW_begin_36 : decode c_VW_begin 36 = .ok (.invokevirtual 34, 3) := by decide +kernel
theorem d_VW_begin_39 : decode c_VW_begin 39 = .ok (.return_, 1) := by decide +kernel
theorem d_VW_refusalToWrite_0 : decode c_VW_refusalToWrite 0 = .ok (.aload_n 0, 1) := by decide +kernel
theorem d_VW_refusalToWrite_1 : decode c_VW_refusalToWrite 1 = .ok (.getfield 9, 3) := by decide +kernel
theorem d_VW_refusalToWrite_4 : decode c_VW_refusalToWrite 4 = .ok (.ifCond .ne 6, 3) := by decide +kernel
theorem d_VW_refusalToWrite_7 : decode c_VW_refusalToWrite 7 = .ok (.bipush 42, 2) := by decide +kernel
theorem d_VW_refusalToWrite_9 : decode c_VW_refusalToWrite 9 = .ok (.ireturn, 1) := by decide +kernel
theorem d_VW_refusalToWrite_10 : decode c_VW_refusalToWrite 10 = .ok (.aload_n 0, 1) := by decide +kernel
theorem d_VW_refusalToWrite_11 : decode c_VW_refusalToWrite 11 = .ok (.getfield 15, 3) := by decide +kernel
theorem d_VW_refusalToWrite_14 : decode c_VW_refusalToWrite 14 = .ok (.ifCond .eq 18, 3) := by decide +kernel
theorem d_VW_refusalToWrite_17 : decode c_VW_refusalToWrite 17 = .ok (.aload_n 0, 1) := by decide +kernel
theorem d_VW_refusalToWrite_18 : decode c_VW_refusalToWrite 18 = .ok (.getfield 15, 3) := by decide +kernel
theorem d_VW_refusalToWrite_21 : decode c_VW_refusalToWrite 21 = .ok (.iconst 2, 1) := by decide +kernel
theorem d_VW_refusalToWrite_22 : decode c_VW_refusalToWrite 22 = .ok (.if_icmp .ne 15, 3) := by decide +kernel
theorem d_VW_refusalToWrite_25 : decode c_VW_refusalToWrite 25 = .ok (.aload_n 0, 1) := by decide +kernel
theorem d_VW_refusalToWrite_26 : decode c_VW_refusalToWrite 26 = .ok (.getfield 19, 3) := by decide +kernel
theorem d_VW_refusalToWrite_29 : decode c_VW_refusalToWrite 29 = .ok (.ifCond .ne 8, 3) := by decide +kernel
theorem d_VW_refusalToWrite_32 : decode c_VW_refusalToWrite 32 = .ok (.bipush 48, 2) := by decide +kernel
theorem d_VW_refusalToWrite_34 : decode c_VW_refusalToWrite 34 = .ok (.goto 4, 3) := by decide +kernel
theorem d_VW_refusalToWrite_37 : decode c_VW_refusalToWrite 37 = .ok (.iconst 0, 1) := by decide +kernel
theorem d_VW_refusalToWrite_38 : decode c_VW_refusalToWrite 38 = .ok (.ireturn, 1) := by decide +kernel
theorem d_VW_noteWritten_0 : decode c_VW_noteWritten 0 = .ok (.aload_n 0, 1) := by decide +kernel
theorem d_VW_noteWritten_1 : decode c_VW_noteWritten 1 = .ok (.iconst 1, 1) := by decide +kernel
theorem d_VW_noteWritten_2 : decode c_VW_noteWritten 2 = .ok (.putfield 31, 3) := by decide +kernel
theorem d_VW_noteWritten_5 : decode c_VW_noteWritten 5 = .ok (.aload_n 0, 1) := by decide +kernel
theorem d_VW_noteWritten_6 : decode c_VW_noteWritten 6 = .ok (.lload_n 1, 1) := by decide +kernel
theorem d_VW_noteWritten_7 : decode c_VW_noteWritten 7 = .ok (.putfield 71, 3) := by decide +kernel
theorem d_VW_noteWritten_10 : decode c_VW_noteWritten 10 = .ok (.return_, 1) := by decide +kernel
theorem d_VW_refusalToRead_0 : decode c_VW_refusalToRead 0 = .ok (.aload_n 0, 1) := by decide +kernel
theorem d_VW_refusalToRead_1 : decode c_VW_refusalToRead 1 = .ok (.getfield 9, 3) := by decide +kernel
theorem d_VW_refusalToRead_4 : decode c_VW_refusalToRead 4 = .ok (.ifCond .ne 6, 3) := by decide +kernel
theorem d_VW_refusalToRead_7 : decode c_VW_refusalToRead 7 = .ok (.bipush 42, 2) := by decide +kernel
theorem d_VW_refusalToRead_9 : decode c_VW_refusalToRead 9 = .ok (.ireturn, 1) := by decide +kernel
theorem d_VW_refusalToRead_10 : decode c_VW_refusalToRead 10 = .ok (.aload_n 0, 1) := by decide +kernel
theorem d_VW_refusalToRead_11 : decode c_VW_refusalToRead 11 = .ok (.getfield 15, 3) := by decide +kernel
theorem d_VW_refusalToRead_14 : decode c_VW_refusalToRead 14 = .ok (.ifCond .eq 11, 3) := by decide +kernel
theorem d_VW_refusalToRead_17 : decode c_VW_refusalToRead 17 = .ok (.aload_n 0, 1) := by decide +kernel
theorem d_VW_refusalToRead_18 : decode c_VW_refusalToRead 18 = .ok (.getfield 15, 3) := by decide +kernel
theorem d_VW_refusalToRead_21 : decode c_VW_refusalToRead 21 = .ok (.iconst 2, 1) := by decide +kernel
theorem d_VW_refusalToRead_22 : decode c_VW_refusalToRead 22 = .ok (.if_icmp .ne 7, 3) := by decide +kernel
theorem d_VW_refusalToRead_25 : decode c_VW_refusalToRead 25 = .ok (.iconst 1, 1) := by decide +kernel
theorem d_VW_refusalToRead_26 : decode c_VW_refusalToRead 26 = .ok (.goto 4, 3) := by decide +kernel
theorem d_VW_refusalToRead_29 : decode c_VW_refusalToRead 29 = .ok (.iconst 0, 1) := by decide +kernel
theorem d_VW_refusalToRead_30 : decode c_VW_refusalToRead 30 = .ok (.istore_n 2, 1) := by decide +kernel
theorem d_VW_refusalToRead_31 : decode c_VW_refusalToRead 31 = .ok (.iload_n 2, 1) := by decide +kernel
theorem d_VW_refusalToRead_32 : decode c_VW_refusalToRead 32 = .ok (.ifCond .eq 15, 3) := by decide +kernel
theorem d_VW_refusalToRead_35 : decode c_VW_refusalToRead 35 = .ok (.aload_n 0, 1) := by decide +kernel
theorem d_VW_refusalToRead_36 : decode c_VW_refusalToRead 36 = .ok (.getfield 19, 3) := by decide +kernel
theorem d_VW_refusalToRead_39 : decode c_VW_refusalToRead 39 = .ok (.iload_n 1, 1) := by decide +kernel
theorem d_VW_refusalToRead_40 : decode c_VW_refusalToRead 40 = .ok (.if_icmp .eq 7, 3) := by decide +kernel
theorem d_VW_refusalToRead_43 : decode c_VW_refusalToRead 43 = .ok (.iconst 0, 1) := by decide +kernel
theorem d_VW_refusalToRead_44 : decode c_VW_refusalToRead 44 = .ok (.goto 5, 3) := by decide +kernel
theorem d_VW_refusalToRead_47 : decode c_VW_refusalToRead 47 = .ok (.bipush 47, 2) := by decide +kernel
theorem d_VW_refusalToRead_49 : decode c_VW_refusalToRead 49 = .ok (.ireturn, 1) := by decide +kernel
theorem d_VW_noteRead_0 : decode c_VW_noteRead 0 = .ok (.aload_n 0, 1) := by decide +kernel
theorem d_VW_noteRead_1 : decode c_VW_noteRead 1 = .ok (.aload_n 1, 1) := by decide +kernel
theorem d_VW_noteRead_2 : decode c_VW_noteRead 2 = .ok (.invokevirtual 59, 3) := by decide +kernel
theorem d_VW_noteRead_5 : decode c_VW_noteRead 5 = .ok (.aload_n 0, 1) := by decide +kernel
theorem d_VW_noteRead_6 : decode c_VW_noteRead 6 = .ok (.iconst 1, 1) := by decide +kernel
theorem d_VW_noteRead_7 : decode c_VW_noteRead 7 = .ok (.putfield 25, 3) := by decide +kernel
theorem d_VW_noteRead_10 : decode c_VW_noteRead 10 = .ok (.aload_n 0, 1) := by decide +kernel
theorem d_VW_noteRead_11 : decode c_VW_noteRead 11 = .ok (.aload_n 1, 1) := by decide +kernel
theorem d_VW_noteRead_12 : decode c_VW_noteRead 12 = .ok (.getfield 63, 3) := by decide +kernel
theorem d_VW_noteRead_15 : decode c_VW_noteRead 15 = .ok (.putfield 37, 3) := by decide +kernel
theorem d_VW_noteRead_18 : decode c_VW_noteRead 18 = .ok (.aload_n 0, 1) := by decide +kernel
theorem d_VW_noteRead_19 : decode c_VW_noteRead 19 = .ok (.aload_n 1, 1) := by decide +kernel
theorem d_VW_noteRead_20 : decode c_VW_noteRead 20 = .ok (.getfield 63, 3) := by decide +kernel
theorem d_VW_noteRead_23 : decode c_VW_noteRead 23 = .ok (.getfield 66, 3) := by decide +kernel
theorem d_VW_noteRead_26 : decode c_VW_noteRead 26 = .ok (.putfield 41, 3) := by decide +kernel
theorem d_VW_noteRead_29 : decode c_VW_noteRead 29 = .ok (.return_, 1) := by decide +kernel
theorem d_VW_standAt_0 : decode c_VW_standAt 0 = .ok (.aload_n 0, 1) := by decide +kernel
theorem d_VW_standAt_1 : decode c_VW_standAt 1 = .ok (.iconst 2, 1) := by decide +kernel
theorem d_VW_standAt_2 : decode c_VW_standAt 2 = .ok (.putfield 25, 3) := by decide +kernel
theorem d_VW_standAt_5 : decode c_VW_standAt 5 = .ok (.aload_n 0, 1) := by decide +kernel
theorem d_VW_standAt_6 : decode c_VW_standAt 6 = .ok (.aload_n 1, 1) := by decide +kernel
theorem d_VW_standAt_7 : decode c_VW_standAt 7 = .ok (.getfield 45, 3) := by decide +kernel
theorem d_VW_standAt_10 : decode c_VW_standAt 10 = .ok (.putfield 50, 3) := by decide +kernel
theorem d_VW_standAt_13 : decode c_VW_standAt 13 = .ok (.aload_n 0, 1) := by decide +kernel
theorem d_VW_standAt_14 : decode c_VW_standAt 14 = .ok (.aload_n 1, 1) := by decide +kernel
theorem d_VW_standAt_15 : decode c_VW_standAt 15 = .ok (.getfield 53, 3) := by decide +kernel
theorem d_VW_standAt_18 : decode c_VW_standAt 18 = .ok (.putfield 56, 3) := by decide +kernel
theorem d_VW_standAt_21 : decode c_VW_standAt 21 = .ok (.aload_n 0, 1) := by decide +kernel
theorem d_VW_standAt_22 : decode c_VW_standAt 22 = .ok (.iconst 0, 1) := by decide +kernel
theorem d_VW_standAt_23 : decode c_VW_standAt 23 = .ok (.putfield 28, 3) := by decide +kernel
theorem d_VW_standAt_26 : decode c_VW_standAt 26 = .ok (.return_, 1) := by decide +kernel
theorem d_VW_refusalToChange_0 : decode c_VW_refusalToChange 0 = .ok (.aload_n 0, 1) := by decide +kernel
theorem d_VW_refusalToChange_1 : decode c_VW_refusalToChange 1 = .ok (.getfield 9, 3) := by decide +kernel
theorem d_VW_refusalToChange_4 : decode c_VW_refusalToChange 4 = .ok (.ifCond .ne 6, 3) := by decide +kernel
theorem d_VW_refusalToChange_7 : decode c_VW_refusalToChange 7 = .ok (.bipush 42, 2) := by decide +kernel
theorem d_VW_refusalToChange_9 : decode c_VW_refusalToChange 9 = .ok (.ireturn, 1) := by decide +kernel
theorem d_VW_refusalToChange_10 : decode c_VW_refusalToChange 10 = .ok (.aload_n 0, 1) := by decide +kernel
theorem d_VW_refusalToChange_11 : decode c_VW_refusalToChange 11 = .ok (.getfield 15, 3) := by decide +kernel
theorem d_VW_refusalToChange_14 : decode c_VW_refusalToChange 14 = .ok (.iconst 2, 1) := by decide +kernel
theorem d_VW_refusalToChange_15 : decode c_VW_refusalToChange 15 = .ok (.if_icmp .ne 7, 3) := by decide +kernel
theorem d_VW_refusalToChange_18 : decode c_VW_refusalToChange 18 = .ok (.iconst 0, 1) := by decide +kernel
theorem d_VW_refusalToChange_19 : decode c_VW_refusalToChange 19 = .ok (.goto 5, 3) := by decide +kernel
theorem d_VW_refusalToChange_22 : decode c_VW_refusalToChange 22 = .ok (.bipush 49, 2) := by decide +kernel
theorem d_VW_refusalToChange_24 : decode c_VW_refusalToChange 24 = .ok (.ireturn, 1) := by decide +kernel
theorem d_VW_statusOfNoRecord_0 : decode c_VW_statusOfNoRecord 0 = .ok (.aload_n 0, 1) := by decide +kernel
theorem d_VW_statusOfNoRecord_1 : decode c_VW_statusOfNoRecord 1 = .ok (.getfield 19, 3) := by decide +kernel
theorem d_VW_statusOfNoRecord_4 : decode c_VW_statusOfNoRecord 4 = .ok (.ifCond .ne 8, 3) := by decide +kernel
theorem d_VW_statusOfNoRecord_7 : decode c_VW_statusOfNoRecord 7 = .ok (.bipush 43, 2) := by decide +kernel
theorem d_VW_statusOfNoRecord_9 : decode c_VW_statusOfNoRecord 9 = .ok (.goto 5, 3) := by decide +kernel
theorem d_VW_statusOfNoRecord_12 : decode c_VW_statusOfNoRecord 12 = .ok (.bipush 23, 2) := by decide +kernel
theorem d_VW_statusOfNoRecord_14 : decode c_VW_statusOfNoRecord 14 = .ok (.ireturn, 1) := by decide +kernel
theorem d_KI_init_0 : decode c_KI_init 0 = .ok (.aload_n 0, 1) := by decide +kernel
theorem d_KI_init_1 : decode c_KI_init 1 = .ok (.invokespecial 3, 3) := by decide +kernel
theorem d_KI_init_4 : decode c_KI_init 4 = .ok (.aload_n 0, 1) := by decide +kernel
theorem d_KI_init_5 : decode c_KI_init 5 = .ok (.iload_n 1, 1) := by decide +kernel
theorem d_KI_init_6 : decode c_KI_init 6 = .ok (.putfield 9, 3) := by decide +kernel
theorem d_KI_init_9 : decode c_KI_init 9 = .ok (.aload_n 0, 1) := by decide +kernel
theorem d_KI_init_10 : decode c_KI_init 10 = .ok (.iload_n 2, 1) := by decide +kernel
theorem d_KI_init_11 : decode c_KI_init 11 = .ok (.putfield 15, 3) := by decide +kernel
theorem d_KI_init_14 : decode c_KI_init 14 = .ok (.aload_n 0, 1) := by decide +kernel
theorem d_KI_init_15 : decode c_KI_init 15 = .ok (.iload_n 3, 1) := by decide +kernel
theorem d_KI_init_16 : decode c_KI_init 16 = .ok (.putfield 19, 3) := by decide +kernel
theorem d_KI_init_19 : decode c_KI_init 19 = .ok (.aload_n 0, 1) := by decide +kernel
theorem d_KI_init_20 : decode c_KI_init 20 = .ok (.new 22, 3) := by decide +kernel
theorem d_KI_init_23 : decode c_KI_init 23 = .ok (.dup, 1) := by decide +kernel
theorem d_KI_init_24 : decode c_KI_init 24 = .ok (.invokespecial 24, 3) := by decide +kernel
theorem d_KI_init_27 : decode c_KI_init 27 = .ok (.putfield 25, 3) := by decide +kernel
theorem d_KI_init_30 : decode c_KI_init 30 = .ok (.return_, 1) := by decide +kernel
theorem d_KI_leaveOut_0 : decode c_KI_leaveOut 0 = .ok (.aload_n 0, 1) := by decide +kernel
theorem d_KI_leaveOut_1 : decode c_KI_leaveOut 1 = .ok (.iconst 1, 1) := by decide +kernel
theorem d_KI_leaveOut_2 : decode c_KI_leaveOut 2 = .ok (.putfield 29, 3) := by decide +kernel
theorem d_KI_leaveOut_5 : decode c_KI_leaveOut 5 = .ok (.aload_n 0, 1) := by decide +kernel
theorem d_KI_leaveOut_6 : decode c_KI_leaveOut 6 = .ok (.lload_n 1, 1) := by decide +kernel
theorem d_KI_leaveOut_7 : decode c_KI_leaveOut 7 = .ok (.putfield 32, 3) := by decide +kernel
theorem d_KI_leaveOut_10 : decode c_KI_leaveOut 10 = .ok (.return_, 1) := by decide +kernel
theorem d_KI_fieldIn_0 : decode c_KI_fieldIn 0 = .ok (.lload_n 1, 1) := by decide +kernel
theorem d_KI_fieldIn_1 : decode c_KI_fieldIn 1 = .ok (.bipush 8, 2) := by decide +kernel
theorem d_KI_fieldIn_3 : decode c_KI_fieldIn 3 = .ok (.aload_n 0, 1) := by decide +kernel
theorem d_KI_fieldIn_4 : decode c_KI_fieldIn 4 = .ok (.getfield 15, 3) := by decide +kernel
theorem d_KI_fieldIn_7 : decode c_KI_fieldIn 7 = .ok (.imul, 1) := by decide +kernel
theorem d_KI_fieldIn_8 : decode c_KI_fieldIn 8 = .ok (.lshl, 1) := by decide +kernel
theorem d_KI_fieldIn_9 : decode c_KI_fieldIn 9 = .ok (.bipush 8, 2) := by decide +kernel
theorem d_KI_fieldIn_11 : decode c_KI_fieldIn 11 = .ok (.bipush 8, 2) := by decide +kernel
theorem d_KI_fieldIn_13 : decode c_KI_fieldIn 13 = .ok (.aload_n 0, 1) := by decide +kernel
theorem d_KI_fieldIn_14 : decode c_KI_fieldIn 14 = .ok (.getfield 19, 3) := by decide +kernel
theorem d_KI_fieldIn_17 : decode c_KI_fieldIn 17 = .ok (.isub, 1) := by decide +kernel
theorem d_KI_fieldIn_18 : decode c_KI_fieldIn 18 = .ok (.imul, 1) := by decide +kernel
theorem d_KI_fieldIn_19 : decode c_KI_fieldIn 19 = .ok (.lushr, 1) := by decide +kernel
theorem d_KI_fieldIn_20 : decode c_KI_fieldIn 20 = .ok (.lreturn, 1) := by decide +kernel
theorem d_KI_entryAt_0 : decode c_KI_entryAt 0 = .ok (.iload_n 1, 1) := by decide +kernel
theorem d_KI_entryAt_1 : decode c_KI_entryAt 1 = .ok (.ifCond .lt 28, 3) := by decide +kernel
theorem d_KI_entryAt_4 : decode c_KI_entryAt 4 = .ok (.iload_n 1, 1) := by decide +kernel
theorem d_KI_entryAt_5 : decode c_KI_entryAt 5 = .ok (.aload_n 0, 1) := by decide +kernel
theorem d_KI_entryAt_6 : decode c_KI_entryAt 6 = .ok (.getfield 25, 3) := by decide +kernel
theorem d_KI_entryAt_9 : decode c_KI_entryAt 9 = .ok (.invokevirtual 36, 3) := by decide +kernel
theorem d_KI_entryAt_12 : decode c_KI_entryAt 12 = .ok (.if_icmp .ge 17, 3) := by decide +kernel
theorem d_KI_entryAt_15 : decode c_KI_entryAt 15 = .ok (.aload_n 0, 1) := by decide +kernel
theorem d_KI_entryAt_16 : decode c_KI_entryAt 16 = .ok (.getfield 25, 3) := by decide +kernel
theorem d_KI_entryAt_19 : decode c_KI_entryAt 19 = .ok (.iload_n 1, 1) := by decide +kernel
theorem d_KI_entryAt_20 : decode c_KI_entryAt 20 = .ok (.invokevirtual 39, 3) := by decide +kernel
theorem d_KI_entryAt_23 : decode c_KI_entryAt 23 = .ok (.checkcast 43, 3) := by decide +kernel
theorem d_KI_entryAt_26 : decode c_KI_entryAt 26 = .ok (.goto 4, 3) := by decide +kernel
theorem d_KI_entryAt_29 : decode c_KI_entryAt 29 = .ok (.aconst_null, 1) := by decide +kernel
theorem d_KI_entryAt_30 : decode c_KI_entryAt 30 = .ok (.areturn, 1) := by decide +kernel
theorem d_KI_firstEqual_0 : decode c_KI_firstEqual 0 = .ok (.aload_n 0, 1) := by decide +kernel
theorem d_KI_firstEqual_1 : decode c_KI_firstEqual 1 = .ok (.aload_n 0, 1) := by decide +kernel
theorem d_KI_firstEqual_2 : decode c_KI_firstEqual 2 = .ok (.lload_n 1, 1) := by decide +kernel
theorem d_KI_firstEqual_3 : decode c_KI_firstEqual 3 = .ok (.lconst 0, 1) := by decide +kernel
theorem d_KI_firstEqual_4 : decode c_KI_firstEqual 4 = .ok (.invokevirtual 53, 3) := by decide +kernel
theorem d_KI_firstEqual_7 : decode c_KI_firstEqual 7 = .ok (.invokevirtual 45, 3) := by decide +kernel
theorem d_KI_firstEqual_10 : decode c_KI_firstEqual 10 = .ok (.astore_n 3, 1) := by decide +kernel
theorem d_KI_firstEqual_11 : decode c_KI_firstEqual 11 = .ok (.aload_n 3, 1) := by decide +kernel
theorem d_KI_firstEqual_12 : decode c_KI_firstEqual 12 = .ok (.ifnull 16, 3) := by decide +kernel
theorem d_KI_firstEqual_15 : decode c_KI_firstEqual 15 = .ok (.aload_n 3, 1) := by decide +kernel
theorem d_KI_firstEqual_16 : decode c_KI_firstEqual 16 = .ok (.getfield 57, 3) := by decide +kernel
theorem d_KI_firstEqual_19 : decode c_KI_firstEqual 19 = .ok (.lload_n 1, 1) := by decide +kernel
theorem d_KI_firstEqual_20 : decode c_KI_firstEqual 20 = .ok (.lcmp, 1) := by decide +kernel
theorem d_KI_firstEqual_21 : decode c_KI_firstEqual 21 = .ok (.ifCond .ne 7, 3) := by decide +kernel
theorem d_KI_firstEqual_24 : decode c_KI_firstEqual 24 = .ok (.aload_n 3, 1) := by decide +kernel
theorem d_KI_firstEqual_25 : decode c_KI_firstEqual 25 = .ok (.goto 4, 3) := by decide +kernel
theorem d_KI_firstEqual_28 : decode c_KI_firstEqual 28 = .ok (.aconst_null, 1) := by decide +kernel
theorem d_KI_firstEqual_29 : decode c_KI_firstEqual 29 = .ok (.areturn, 1) := by decide +kernel
theorem d_KI_countAheadOf_0 : decode c_KI_countAheadOf 0 = .ok (.iconst 0, 1) := by decide +kernel
theorem d_KI_countAheadOf_1 : decode c_KI_countAheadOf 1 = .ok (.istore 5, 2) := by decide +kernel
theorem d_KI_countAheadOf_3 : decode c_KI_countAheadOf 3 = .ok (.sipush 256, 3) := by decide +kernel
theorem d_KI_countAheadOf_6 : decode c_KI_countAheadOf 6 = .ok (.istore 6, 2) := by decide +kernel
theorem d_KI_countAheadOf_8 : decode c_KI_countAheadOf 8 = .ok (.iload 6, 2) := by decide +kernel
theorem d_KI_countAheadOf_10 : decode c_KI_countAheadOf 10 = .ok (.ifCond .le 47, 3) := by decide +kernel
theorem d_KI_countAheadOf_13 : decode c_KI_countAheadOf 13 = .ok (.aload_n 0, 1) := by decide +kernel
theorem d_KI_countAheadOf_14 : decode c_KI_countAheadOf 14 = .ok (.iload 5, 2) := by decide +kernel
theorem d_KI_countAheadOf_16 : decode c_KI_countAheadOf 16 = .ok (.iload 6, 2) := by decide +kernel
theorem d_KI_countAheadOf_18 : decode c_KI_countAheadOf 18 = .ok (.iadd, 1) := by decide +kernel
theorem d_KI_countAheadOf_19 : decode c_KI_countAheadOf 19 = .ok (.iconst 1, 1) := by decide +kernel
theorem d_KI_countAheadOf_20 : decode c_KI_countAheadOf 20 = .ok (.isub, 1) := by decide +kernel
theorem d_KI_countAheadOf_21 : decode c_KI_countAheadOf 21 = .ok (.invokevirtual 45, 3) := by decide +kernel
theorem d_KI_countAheadOf_24 : decode c_KI_countAheadOf 24 = .ok (.astore 7, 2) := by decide +kernel
theorem d_KI_countAheadOf_26 : decode c_KI_countAheadOf 26 = .ok (.aload 7, 2) := by decide +kernel
theorem d_KI_countAheadOf_28 : decode c_KI_countAheadOf 28 = .ok (.ifnull 20, 3) := by decide +kernel
theorem d_KI_countAheadOf_31 : decode c_KI_countAheadOf 31 = .ok (.aload 7, 2) := by decide +kernel
theorem d_KI_countAheadOf_33 : decode c_KI_countAheadOf 33 = .ok (.lload_n 1, 1) := by decide +kernel
theorem d_KI_countAheadOf_34 : decode c_KI_countAheadOf 34 = .ok (.lload_n 3, 1) := by decide +kernel
theorem d_KI_countAheadOf_35 : decode c_KI_countAheadOf 35 = .ok (.invokevirtual 49, 3) := by decide +kernel
theorem d_KI_countAheadOf_38 : decode c_KI_countAheadOf 38 = .ok (.ifCond .eq 10, 3) := by decide +kernel
theorem d_KI_countAheadOf_41 : decode c_KI_countAheadOf 41 = .ok (.iload 5, 2) := by decide +kernel
theorem d_KI_countAheadOf_43 : decode c_KI_countAheadOf 43 = .ok (.iload 6, 2) := by decide +kernel
theorem d_KI_countAheadOf_45 : decode c_KI_countAheadOf 45 = .ok (.iadd, 1) := by decide +kernel
theorem d_KI_countAheadOf_46 : decode c_KI_countAheadOf 46 = .ok (.istore 5, 2) := by decide +kernel
theorem d_KI_countAheadOf_48 : decode c_KI_countAheadOf 48 = .ok (.iload 6, 2) := by decide +kernel
theorem d_KI_countAheadOf_50 : decode c_KI_countAheadOf 50 = .ok (.iconst 2, 1) := by decide +kernel
theorem d_KI_countAheadOf_51 : decode c_KI_countAheadOf 51 = .ok (.idiv, 1) := by decide +kernel
theorem d_KI_countAheadOf_52 : decode c_KI_countAheadOf 52 = .ok (.istore 6, 2) := by decide +kernel
theorem d_KI_countAheadOf_54 : decode c_KI_countAheadOf 54 = .ok (.goto (-46), 3) := by decide +kernel
theorem d_KI_countAheadOf_57 : decode c_KI_countAheadOf 57 = .ok (.iload 5, 2) := by decide +kernel
theorem d_KI_countAheadOf_59 : decode c_KI_countAheadOf 59 = .ok (.ireturn, 1) := by decide +kernel
theorem d_KI_enter_0 : decode c_KI_enter 0 = .ok (.aload_n 0, 1) := by decide +kernel
theorem d_KI_enter_1 : decode c_KI_enter 1 = .ok (.aload_n 1, 1) := by decide +kernel
theorem d_KI_enter_2 : decode c_KI_enter 2 = .ok (.getfield 60, 3) := by decide +kernel
theorem d_KI_enter_5 : decode c_KI_enter 5 = .ok (.invokevirtual 65, 3) := by decide +kernel
theorem d_KI_enter_8 : decode c_KI_enter 8 = .ok (.lstore 4, 2) := by decide +kernel
theorem d_KI_enter_10 : decode c_KI_enter 10 = .ok (.aload_n 0, 1) := by decide +kernel
theorem d_KI_enter_11 : decode c_KI_enter 11 = .ok (.lload 4, 2) := by decide +kernel
theorem d_KI_enter_13 : decode c_KI_enter 13 = .ok (.invokevirtual 69, 3) := by decide +kernel
theorem d_KI_enter_16 : decode c_KI_enter 16 = .ok (.ifCond .eq 5, 3) := by decide +kernel
theorem d_KI_enter_19 : decode c_KI_enter 19 = .ok (.iconst 0, 1) := by decide +kernel
theorem d_KI_enter_20 : decode c_KI_enter 20 = .ok (.ireturn, 1) := by decide +kernel
theorem d_KI_enter_21 : decode c_KI_enter 21 = .ok (.aload_n 0, 1) := by decide +kernel
theorem d_KI_enter_22 : decode c_KI_enter 22 = .ok (.lload 4, 2) := by decide +kernel
theorem d_KI_enter_24 : decode c_KI_enter 24 = .ok (.lload_n 2, 1) := by decide +kernel
theorem d_KI_enter_25 : decode c_KI_enter 25 = .ok (.invokevirtual 53, 3) := by decide +kernel
theorem d_KI_enter_28 : decode c_KI_enter 28 = .ok (.istore 6, 2) := by decide +kernel
theorem d_KI_enter_30 : decode c_KI_enter 30 = .ok (.iload 6, 2) := by decide +kernel
theorem d_KI_enter_32 : decode c_KI_enter 32 = .ok (.aload_n 0, 1) := by decide +kernel
theorem d_KI_enter_33 : decode c_KI_enter 33 = .ok (.getfield 25, 3) := by decide +kernel
theorem d_KI_enter_36 : decode c_KI_enter 36 = .ok (.invokevirtual 36, 3) := by decide +kernel
theorem d_KI_enter_39 : decode c_KI_enter 39 = .ok (.if_icmp .le 5, 3) := by decide +kernel
theorem d_KI_enter_42 : decode c_KI_enter 42 = .ok (.iconst 0, 1) := by decide +kernel
theorem d_KI_enter_43 : decode c_KI_enter 43 = .ok (.ireturn, 1) := by decide +kernel
theorem d_KI_enter_44 : decode c_KI_enter 44 = .ok (.aload_n 0, 1) := by decide +kernel
theorem d_KI_enter_45 : decode c_KI_enter 45 = .ok (.getfield 25, 3) := by decide +kernel
theorem d_KI_enter_48 : decode c_KI_enter 48 = .ok (.iload 6, 2) := by decide +kernel
theorem d_KI_enter_50 : decode c_KI_enter 50 = .ok (.new 43, 3) := by decide +kernel
theorem d_KI_enter_53 : decode c_KI_enter 53 = .ok (.dup, 1) := by decide +kernel
theorem d_KI_enter_54 : decode c_KI_enter 54 = .ok (.lload 4, 2) := by decide +kernel
theorem d_KI_enter_56 : decode c_KI_enter 56 = .ok (.lload_n 2, 1) := by decide +kernel
theorem d_KI_enter_57 : decode c_KI_enter 57 = .ok (.aload_n 1, 1) := by decide +kernel
theorem d_KI_enter_58 : decode c_KI_enter 58 = .ok (.invokespecial 73, 3) := by decide +kernel
theorem d_KI_enter_61 : decode c_KI_enter 61 = .ok (.invokevirtual 76, 3) := by decide +kernel
theorem d_KI_enter_64 : decode c_KI_enter 64 = .ok (.aload_n 0, 1) := by decide +kernel
theorem d_KI_enter_65 : decode c_KI_enter 65 = .ok (.iload 6, 2) := by decide +kernel
theorem d_KI_enter_67 : decode c_KI_enter 67 = .ok (.iconst 1, 1) := by decide +kernel
theorem d_KI_enter_68 : decode c_KI_enter 68 = .ok (.isub, 1) := by decide +kernel
theorem d_KI_enter_69 : decode c_KI_enter 69 = .ok (.invokevirtual 45, 3) := by decide +kernel
theorem d_KI_enter_72 : decode c_KI_enter 72 = .ok (.astore 7, 2) := by decide +kernel
theorem d_KI_enter_74 : decode c_KI_enter 74 = .ok (.aload 7, 2) := by decide +kernel
theorem d_KI_enter_76 : decode c_KI_enter 76 = .ok (.ifnull 18, 3) := by decide +kernel
theorem d_KI_enter_79 : decode c_KI_enter 79 = .ok (.aload 7, 2) := by decide +kernel
theorem d_KI_enter_81 : decode c_KI_enter 81 = .ok (.getfield 57, 3) := by decide +kernel
theorem d_KI_enter_84 : decode c_KI_enter 84 = .ok (.lload 4, 2) := by decide +kernel
theorem d_KI_enter_86 : decode c_KI_enter 86 = .ok (.lcmp, 1) := by decide +kernel
theorem d_KI_enter_87 : decode c_KI_enter 87 = .ok (.ifCond .ne 7, 3) := by decide +kernel
theorem d_KI_enter_90 : decode c_KI_enter 90 = .ok (.iconst 1, 1) := by decide +kernel
theorem d_KI_enter_91 : decode c_KI_enter 91 = .ok (.goto 4, 3) := by decide +kernel
theorem d_KI_enter_94 : decode c_KI_enter 94 = .ok (.iconst 0, 1) := by decide +kernel
theorem d_KI_enter_95 : decode c_KI_enter 95 = .ok (.ireturn, 1) := by decide +kernel
theorem d_KI_leavesOut_0 : decode c_KI_leavesOut 0 = .ok (.aload_n 0, 1) := by decide +kernel
theorem d_KI_leavesOut_1 : decode c_KI_leavesOut 1 = .ok (.getfield 29, 3) := by decide +kernel
theorem d_KI_leavesOut_4 : decode c_KI_leavesOut 4 = .ok (.ifCond .eq 16, 3) := by decide +kernel
theorem d_KI_leavesOut_7 : decode c_KI_leavesOut 7 = .ok (.lload_n 1, 1) := by decide +kernel
theorem d_KI_leavesOut_8 : decode c_KI_leavesOut 8 = .ok (.aload_n 0, 1) := by decide +kernel
theorem d_KI_leavesOut_9 : decode c_KI_leavesOut 9 = .ok (.getfield 32, 3) := by decide +kernel
theorem d_KI_leavesOut_12 : decode c_KI_leavesOut 12 = .ok (.lcmp, 1) := by decide +kernel
theorem d_KI_leavesOut_13 : decode c_KI_leavesOut 13 = .ok (.ifCond .ne 7, 3) := by decide +kernel
theorem d_KI_leavesOut_16 : decode c_KI_leavesOut 16 = .ok (.iconst 1, 1) := by decide +kernel
theorem d_KI_leavesOut_17 : decode c_KI_leavesOut 17 = .ok (.goto 4, 3) := by decide +kernel
theorem d_KI_leavesOut_20 : decode c_KI_leavesOut 20 = .ok (.iconst 0, 1) := by decide +kernel
theorem d_KI_leavesOut_21 : decode c_KI_leavesOut 21 = .ok (.ireturn, 1) := by decide +kernel
theorem d_KI_hasEqualNextTo_0 : decode c_KI_hasEqualNextTo 0 = .ok (.aload_n 0, 1) := by decide +kernel
theorem d_KI_hasEqualNextTo_1 : decode c_KI_hasEqualNextTo 1 = .ok (.aload_n 1, 1) := by decide +kernel
theorem d_KI_hasEqualNextTo_2 : decode c_KI_hasEqualNextTo 2 = .ok (.getfield 57, 3) := by decide +kernel
theorem d_KI_hasEqualNextTo_5 : decode c_KI_hasEqualNextTo 5 = .ok (.aload_n 1, 1) := by decide +kernel
theorem d_KI_hasEqualNextTo_6 : decode c_KI_hasEqualNextTo 6 = .ok (.getfield 87, 3) := by decide +kernel
theorem d_KI_hasEqualNextTo_9 : decode c_KI_hasEqualNextTo 9 = .ok (.invokevirtual 53, 3) := by decide +kernel
theorem d_KI_hasEqualNextTo_12 : decode c_KI_hasEqualNextTo 12 = .ok (.istore_n 3, 1) := by decide +kernel
theorem d_KI_hasEqualNextTo_13 : decode c_KI_hasEqualNextTo 13 = .ok (.aload_n 0, 1) := by decide +kernel
theorem d_KI_hasEqualNextTo_14 : decode c_KI_hasEqualNextTo 14 = .ok (.iload_n 2, 1) := by decide +kernel
theorem d_KI_hasEqualNextTo_15 : decode c_KI_hasEqualNextTo 15 = .ok (.ifCond .eq 9, 3) := by decide +kernel
theorem d_KI_hasEqualNextTo_18 : decode c_KI_hasEqualNextTo 18 = .ok (.iload_n 3, 1) := by decide +kernel
theorem d_KI_hasEqualNextTo_19 : decode c_KI_hasEqualNextTo 19 = .ok (.iconst 1, 1) := by decide +kernel
theorem d_KI_hasEqualNextTo_20 : decode c_KI_hasEqualNextTo 20 = .ok (.isub, 1) := by decide +kernel
theorem d_KI_hasEqualNextTo_21 : decode c_KI_hasEqualNextTo 21 = .ok (.goto 6, 3) := by decide +kernel
theorem d_KI_hasEqualNextTo_24 : decode c_KI_hasEqualNextTo 24 = .ok (.iload_n 3, 1) := by decide +kernel
theorem d_KI_hasEqualNextTo_25 : decode c_KI_hasEqualNextTo 25 = .ok (.iconst 1, 1) := by decide +kernel
theorem d_KI_hasEqualNextTo_26 : decode c_KI_hasEqualNextTo 26 = .ok (.iadd, 1) := by decide +kernel
theorem d_KI_hasEqualNextTo_27 : decode c_KI_hasEqualNextTo 27 = .ok (.invokevirtual 45, 3) := by decide +kernel
theorem d_KI_hasEqualNextTo_30 : decode c_KI_hasEqualNextTo 30 = .ok (.astore 4, 2) := by decide +kernel
theorem d_KI_hasEqualNextTo_32 : decode c_KI_hasEqualNextTo 32 = .ok (.aload 4, 2) := by decide +kernel
theorem d_KI_hasEqualNextTo_34 : decode c_KI_hasEqualNextTo 34 = .ok (.ifnull 20, 3) := by decide +kernel
theorem d_KI_hasEqualNextTo_37 : decode c_KI_hasEqualNextTo 37 = .ok (.aload 4, 2) := by decide +kernel
theorem d_KI_hasEqualNextTo_39 : decode c_KI_hasEqualNextTo 39 = .ok (.getfield 57, 3) := by decide +kernel
theorem d_KI_hasEqualNextTo_42 : decode c_KI_hasEqualNextTo 42 = .ok (.aload_n 1, 1) := by decide +kernel
theorem d_KI_hasEqualNextTo_43 : decode c_KI_hasEqualNextTo 43 = .ok (.getfield 57, 3) := by decide +kernel
theorem d_KI_hasEqualNextTo_46 : decode c_KI_hasEqualNextTo 46 = .ok (.lcmp, 1) := by decide +kernel
theorem d_KI_hasEqualNextTo_47 : decode c_KI_hasEqualNextTo 47 = .ok (.ifCond .ne 7, 3) := by decide +kernel
theorem d_KI_hasEqualNextTo_50 : decode c_KI_hasEqualNextTo 50 = .ok (.iconst 1, 1) := by decide +kernel
theorem d_KI_hasEqualNextTo_51 : decode c_KI_hasEqualNextTo 51 = .ok (.goto 4, 3) := by decide +kernel
theorem d_KI_hasEqualNextTo_54 : decode c_KI_hasEqualNextTo 54 = .ok (.iconst 0, 1) := by decide +kernel
theorem d_KI_hasEqualNextTo_55 : decode c_KI_hasEqualNextTo 55 = .ok (.ireturn, 1) := by decide +kernel
theorem d_KI_findByPart_0 : decode c_KI_findByPart 0 = .ok (.iload_n 1, 1) := by decide +kernel
theorem d_KI_findByPart_1 : decode c_KI_findByPart 1 = .ok (.iconst 1, 1) := by decide +kernel
theorem d_KI_findByPart_2 : decode c_KI_findByPart 2 = .ok (.if_icmp .eq 8, 3) := by decide +kernel
theorem d_KI_findByPart_5 : decode c_KI_findByPart 5 = .ok (.iload_n 1, 1) := by decide +kernel
theorem d_KI_findByPart_6 : decode c_KI_findByPart 6 = .ok (.iconst 4, 1) := by decide +kernel
theorem d_KI_findByPart_7 : decode c_KI_findByPart 7 = .ok (.if_icmp .ne 7, 3) := by decide +kernel
theorem d_KI_findByPart_10 : decode c_KI_findByPart 10 = .ok (.iconst 1, 1) := by decide +kernel
theorem d_KI_findByPart_11 : decode c_KI_findByPart 11 = .ok (.goto 4, 3) := by decide +kernel
theorem d_KI_findByPart_14 : decode c_KI_findByPart 14 = .ok (.iconst 0, 1) := by decide +kernel
theorem d_KI_findByPart_15 : decode c_KI_findByPart 15 = .ok (.istore 5, 2) := by decide +kernel
theorem d_KI_findByPart_17 : decode c_KI_findByPart 17 = .ok (.aload_n 0, 1) := by decide +kernel
theorem d_KI_findByPart_18 : decode c_KI_findByPart 18 = .ok (.lload_n 2, 1) := by decide +kernel
theorem d_KI_findByPart_19 : decode c_KI_findByPart 19 = .ok (.iload 4, 2) := by decide +kernel
theorem d_KI_findByPart_21 : decode c_KI_findByPart 21 = .ok (.iload 5, 2) := by decide +kernel
theorem d_KI_findByPart_23 : decode c_KI_findByPart 23 = .ok (.invokevirtual 101, 3) := by decide +kernel
theorem d_KI_findByPart_26 : decode c_KI_findByPart 26 = .ok (.istore 6, 2) := by decide +kernel
theorem d_KI_findByPart_28 : decode c_KI_findByPart 28 = .ok (.aload_n 0, 1) := by decide +kernel
theorem d_KI_findByPart_29 : decode c_KI_findByPart 29 = .ok (.iload_n 1, 1) := by decide +kernel
theorem d_KI_findByPart_30 : decode c_KI_findByPart 30 = .ok (.iconst 3, 1) := by decide +kernel
theorem d_KI_findByPart_31 : decode c_KI_findByPart 31 = .ok (.if_icmp .eq 8, 3) := by decide +kernel
theorem d_KI_findByPart_34 : decode c_KI_findByPart 34 = .ok (.iload_n 1, 1) := by decide +kernel
theorem d_KI_findByPart_35 : decode c_KI_findByPart 35 = .ok (.iconst 4, 1) := by decide +kernel
theorem d_KI_findByPart_36 : decode c_KI_findByPart 36 = .ok (.if_icmp .ne 10, 3) := by decide +kernel
theorem d_KI_findByPart_39 : decode c_KI_findByPart 39 = .ok (.iload 6, 2) := by decide +kernel
theorem d_KI_findByPart_41 : decode c_KI_findByPart 41 = .ok (.iconst 1, 1) := by decide +kernel
theorem d_KI_findByPart_42 : decode c_KI_findByPart 42 = .ok (.isub, 1) := by decide +kernel
theorem d_KI_findByPart_43 : decode c_KI_findByPart 43 = .ok (.goto 5, 3) := by decide +kernel
theorem d_KI_findByPart_46 : decode c_KI_findByPart 46 = .ok (.iload 6, 2) := by decide +kernel
theorem d_KI_findByPart_48 : decode c_KI_findByPart 48 = .ok (.invokevirtual 45, 3) := by decide +kernel
theorem d_KI_findByPart_51 : decode c_KI_findByPart 51 = .ok (.astore 7, 2) := by decide +kernel
theorem d_KI_findByPart_53 : decode c_KI_findByPart 53 = .ok (.iload_n 1, 1) := by decide +kernel
theorem d_KI_findByPart_54 : decode c_KI_findByPart 54 = .ok (.ifCond .ne 23, 3) := by decide +kernel
theorem d_KI_findByPart_57 : decode c_KI_findByPart 57 = .ok (.aload 7, 2) := by decide +kernel
theorem d_KI_findByPart_59 : decode c_KI_findByPart 59 = .ok (.ifnull 18, 3) := by decide +kernel
theorem d_KI_findByPart_62 : decode c_KI_findByPart 62 = .ok (.aload_n 0, 1) := by decide +kernel
theorem d_KI_findByPart_63 : decode c_KI_findByPart 63 = .ok (.aload 7, 2) := by decide +kernel
theorem d_KI_findByPart_65 : decode c_KI_findByPart 65 = .ok (.iload 4, 2) := by decide +kernel
theorem d_KI_findByPart_67 : decode c_KI_findByPart 67 = .ok (.invokevirtual 105, 3) := by decide +kernel
theorem d_KI_findByPart_70 : decode c_KI_findByPart 70 = .ok (.lload_n 2, 1) := by decide +kernel
theorem d_KI_findByPart_71 : decode c_KI_findByPart 71 = .ok (.lcmp, 1) := by decide +kernel
theorem d_KI_findByPart_72 : decode c_KI_findByPart 72 = .ok (.ifCond .eq 5, 3) := by decide +kernel
theorem d_KI_findByPart_75 : decode c_KI_findByPart 75 = .ok (.aconst_null, 1) := by decide +kernel
theorem d_KI_findByPart_76 : decode c_KI_findByPart 76 = .ok (.areturn, 1) := by decide +kernel
theorem d_KI_findByPart_77 : decode c_KI_findByPart 77 = .ok (.aload 7, 2) := by decide +kernel
theorem d_KI_findByPart_79 : decode c_KI_findByPart 79 = .ok (.areturn, 1) := by decide +kernel
theorem d_KI_countByPart_0 : decode c_KI_countByPart 0 = .ok (.iconst 0, 1) := by decide +kernel
theorem d_KI_countByPart_1 : decode c_KI_countByPart 1 = .ok (.istore 5, 2) := by decide +kernel
theorem d_KI_countByPart_3 : decode c_KI_countByPart 3 = .ok (.sipush 256, 3) := by decide +kernel
theorem d_KI_countByPart_6 : decode c_KI_countByPart 6 = .ok (.istore 6, 2) := by decide +kernel
theorem d_KI_countByPart_8 : decode c_KI_countByPart 8 = .ok (.iload 6, 2) := by decide +kernel
theorem d_KI_countByPart_10 : decode c_KI_countByPart 10 = .ok (.ifCond .le 70, 3) := by decide +kernel
theorem d_KI_countByPart_13 : decode c_KI_countByPart 13 = .ok (.aload_n 0, 1) := by decide +kernel
theorem d_KI_countByPart_14 : decode c_KI_countByPart 14 = .ok (.iload 5, 2) := by decide +kernel
theorem d_KI_countByPart_16 : decode c_KI_countByPart 16 = .ok (.iload 6, 2) := by decide +kernel
theorem d_KI_countByPart_18 : decode c_KI_countByPart 18 = .ok (.iadd, 1) := by decide +kernel
theorem d_KI_countByPart_19 : decode c_KI_countByPart 19 = .ok (.iconst 1, 1) := by decide +kernel
theorem d_KI_countByPart_20 : decode c_KI_countByPart 20 = .ok (.isub, 1) := by decide +kernel
theorem d_KI_countByPart_21 : decode c_KI_countByPart 21 = .ok (.invokevirtual 45, 3) := by decide +kernel
theorem d_KI_countByPart_24 : decode c_KI_countByPart 24 = .ok (.astore 7, 2) := by decide +kernel
theorem d_KI_countByPart_26 : decode c_KI_countByPart 26 = .ok (.aload 7, 2) := by decide +kernel
theorem d_KI_countByPart_28 : decode c_KI_countByPart 28 = .ok (.ifnonnull 6, 3) := by decide +kernel
theorem d_KI_countByPart_31 : decode c_KI_countByPart 31 = .ok (.goto 40, 3) := by decide +kernel
theorem d_KI_countByPart_34 : decode c_KI_countByPart 34 = .ok (.aload_n 0, 1) := by decide +kernel
theorem d_KI_countByPart_35 : decode c_KI_countByPart 35 = .ok (.aload 7, 2) := by decide +kernel
theorem d_KI_countByPart_37 : decode c_KI_countByPart 37 = .ok (.iload_n 3, 1) := by decide +kernel
theorem d_KI_countByPart_38 : decode c_KI_countByPart 38 = .ok (.invokevirtual 105, 3) := by decide +kernel
theorem d_KI_countByPart_41 : decode c_KI_countByPart 41 = .ok (.lstore 8, 2) := by decide +kernel
theorem d_KI_countByPart_43 : decode c_KI_countByPart 43 = .ok (.lload 8, 2) := by decide +kernel
theorem d_KI_countByPart_45 : decode c_KI_countByPart 45 = .ok (.lload_n 1, 1) := by decide +kernel
theorem d_KI_countByPart_46 : decode c_KI_countByPart 46 = .ok (.invokestatic 109, 3) := by decide +kernel
theorem d_KI_countByPart_49 : decode c_KI_countByPart 49 = .ok (.ifCond .ne 15, 3) := by decide +kernel
theorem d_KI_countByPart_52 : decode c_KI_countByPart 52 = .ok (.iload 4, 2) := by decide +kernel
theorem d_KI_countByPart_54 : decode c_KI_countByPart 54 = .ok (.ifCond .eq 17, 3) := by decide +kernel
theorem d_KI_countByPart_57 : decode c_KI_countByPart 57 = .ok (.lload 8, 2) := by decide +kernel
theorem d_KI_countByPart_59 : decode c_KI_countByPart 59 = .ok (.lload_n 1, 1) := by decide +kernel
theorem d_KI_countByPart_60 : decode c_KI_countByPart 60 = .ok (.lcmp, 1) := by decide +kernel
theorem d_KI_countByPart_61 : decode c_KI_countByPart 61 = .ok (.ifCond .ne 10, 3) := by decide +kernel
theorem d_KI_countByPart_64 : decode c_KI_countByPart 64 = .ok (.iload 5, 2) := by decide +kernel
theorem d_KI_countByPart_66 : decode c_KI_countByPart 66 = .ok (.iload 6, 2) := by decide +kernel
theorem d_KI_countByPart_68 : decode c_KI_countByPart 68 = .ok (.iadd, 1) := by decide +kernel
theorem d_KI_countByPart_69 : decode c_KI_countByPart 69 = .ok (.istore 5, 2) := by decide +kernel
theorem d_KI_countByPart_71 : decode c_KI_countByPart 71 = .ok (.iload 6, 2) := by decide +kernel
theorem d_KI_countByPart_73 : decode c_KI_countByPart 73 = .ok (.iconst 2, 1) := by decide +kernel
theorem d_KI_countByPart_74 : decode c_KI_countByPart 74 = .ok (.idiv, 1) := by decide +kernel
theorem d_KI_countByPart_75 : decode c_KI_countByPart 75 = .ok (.istore 6, 2) := by decide +kernel
theorem d_KI_countByPart_77 : decode c_KI_countByPart 77 = .ok (.goto (-69), 3) := by decide +kernel
theorem d_KI_countByPart_80 : decode c_KI_countByPart 80 = .ok (.iload 5, 2) := by decide +kernel
theorem d_KI_countByPart_82 : decode c_KI_countByPart 82 = .ok (.ireturn, 1) := by decide +kernel
theorem d_KI_partOf_0 : decode c_KI_partOf 0 = .ok (.aload_n 1, 1) := by decide +kernel
theorem d_KI_partOf_1 : decode c_KI_partOf 1 = .ok (.getfield 57, 3) := by decide +kernel
theorem d_KI_partOf_4 : decode c_KI_partOf 4 = .ok (.bipush 8, 2) := by decide +kernel
theorem d_KI_partOf_6 : decode c_KI_partOf 6 = .ok (.aload_n 0, 1) := by decide +kernel
theorem d_KI_partOf_7 : decode c_KI_partOf 7 = .ok (.getfield 19, 3) := by decide +kernel
theorem d_KI_partOf_10 : decode c_KI_partOf 10 = .ok (.iload_n 2, 1) := by decide +kernel
theorem d_KI_partOf_11 : decode c_KI_partOf 11 = .ok (.isub, 1) := by decide +kernel
theorem d_KI_partOf_12 : decode c_KI_partOf 12 = .ok (.imul, 1) := by decide +kernel
theorem d_KI_partOf_13 : decode c_KI_partOf 13 = .ok (.lushr, 1) := by decide +kernel
theorem d_KI_partOf_14 : decode c_KI_partOf 14 = .ok (.lreturn, 1) := by decide +kernel
theorem d_KI_entryAheadOf_0 : decode c_KI_entryAheadOf 0 = .ok (.aload_n 1, 1) := by decide +kernel
theorem d_KI_entryAheadOf_1 : decode c_KI_entryAheadOf 1 = .ok (.getfield 90, 3) := by decide +kernel
theorem d_KI_entryAheadOf_4 : decode c_KI_entryAheadOf 4 = .ok (.ifCond .ne 5, 3) := by decide +kernel
theorem d_KI_entryAheadOf_7 : decode c_KI_entryAheadOf 7 = .ok (.aconst_null, 1) := by decide +kernel
theorem d_KI_entryAheadOf_8 : decode c_KI_entryAheadOf 8 = .ok (.areturn, 1) := by decide +kernel
theorem d_KI_entryAheadOf_9 : decode c_KI_entryAheadOf 9 = .ok (.aload_n 1, 1) := by decide +kernel
theorem d_KI_entryAheadOf_10 : decode c_KI_entryAheadOf 10 = .ok (.getfield 90, 3) := by decide +kernel
theorem d_KI_entryAheadOf_13 : decode c_KI_entryAheadOf 13 = .ok (.iconst 2, 1) := by decide +kernel
theorem d_KI_entryAheadOf_14 : decode c_KI_entryAheadOf 14 = .ok (.if_icmp .ne 12, 3) := by decide +kernel
theorem d_KI_entryAheadOf_17 : decode c_KI_entryAheadOf 17 = .ok (.aload_n 1, 1) := by decide +kernel
theorem d_KI_entryAheadOf_18 : decode c_KI_entryAheadOf 18 = .ok (.getfield 95, 3) := by decide +kernel
theorem d_KI_entryAheadOf_21 : decode c_KI_entryAheadOf 21 = .ok (.lconst 1, 1) := by decide +kernel
theorem d_KI_entryAheadOf_22 : decode c_KI_entryAheadOf 22 = .ok (.ladd, 1) := by decide +kernel
theorem d_KI_entryAheadOf_23 : decode c_KI_entryAheadOf 23 = .ok (.goto 7, 3) := by decide +kernel
theorem d_KI_entryAheadOf_26 : decode c_KI_entryAheadOf 26 = .ok (.aload_n 1, 1) := by decide +kernel
theorem d_KI_entryAheadOf_27 : decode c_KI_entryAheadOf 27 = .ok (.getfield 95, 3) := by decide +kernel
theorem d_KI_entryAheadOf_30 : decode c_KI_entryAheadOf 30 = .ok (.lstore_n 2, 1) := by decide +kernel
theorem d_KI_entryAheadOf_31 : decode c_KI_entryAheadOf 31 = .ok (.aload_n 0, 1) := by decide +kernel
theorem d_KI_entryAheadOf_32 : decode c_KI_entryAheadOf 32 = .ok (.aload_n 0, 1) := by decide +kernel
theorem d_KI_entryAheadOf_33 : decode c_KI_entryAheadOf 33 = .ok (.aload_n 1, 1) := by decide +kernel
theorem d_KI_entryAheadOf_34 : decode c_KI_entryAheadOf 34 = .ok (.getfield 98, 3) := by decide +kernel
theorem d_KI_entryAheadOf_37 : decode c_KI_entryAheadOf 37 = .ok (.lload_n 2, 1) := by decide +kernel
theorem d_KI_entryAheadOf_38 : decode c_KI_entryAheadOf 38 = .ok (.invokevirtual 53, 3) := by decide +kernel
theorem d_KI_entryAheadOf_41 : decode c_KI_entryAheadOf 41 = .ok (.iconst 1, 1) := by decide +kernel
theorem d_KI_entryAheadOf_42 : decode c_KI_entryAheadOf 42 = .ok (.isub, 1) := by decide +kernel
theorem d_KI_entryAheadOf_43 : decode c_KI_entryAheadOf 43 = .ok (.invokevirtual 45, 3) := by decide +kernel
theorem d_KI_entryAheadOf_46 : decode c_KI_entryAheadOf 46 = .ok (.areturn, 1) := by decide +kernel
theorem d_KI_entryBehind_0 : decode c_KI_entryBehind 0 = .ok (.aload_n 1, 1) := by decide +kernel
theorem d_KI_entryBehind_1 : decode c_KI_entryBehind 1 = .ok (.getfield 90, 3) := by decide +kernel
theorem d_KI_entryBehind_4 : decode c_KI_entryBehind 4 = .ok (.ifCond .ne 9, 3) := by decide +kernel
theorem d_KI_entryBehind_7 : decode c_KI_entryBehind 7 = .ok (.aload_n 0, 1) := by decide +kernel
theorem d_KI_entryBehind_8 : decode c_KI_entryBehind 8 = .ok (.iconst 0, 1) := by decide +kernel
theorem d_KI_entryBehind_9 : decode c_KI_entryBehind 9 = .ok (.invokevirtual 45, 3) := by decide +kernel
theorem d_KI_entryBehind_12 : decode c_KI_entryBehind 12 = .ok (.areturn, 1) := by decide +kernel
theorem d_KI_entryBehind_13 : decode c_KI_entryBehind 13 = .ok (.aload_n 1, 1) := by decide +kernel
theorem d_KI_entryBehind_14 : decode c_KI_entryBehind 14 = .ok (.getfield 90, 3) := by decide +kernel
theorem d_KI_entryBehind_17 : decode c_KI_entryBehind 17 = .ok (.iconst 2, 1) := by decide +kernel
theorem d_KI_entryBehind_18 : decode c_KI_entryBehind 18 = .ok (.if_icmp .ne 10, 3) := by decide +kernel
theorem d_KI_entryBehind_21 : decode c_KI_entryBehind 21 = .ok (.aload_n 1, 1) := by decide +kernel
theorem d_KI_entryBehind_22 : decode c_KI_entryBehind 22 = .ok (.getfield 95, 3) := by decide +kernel
theorem d_KI_entryBehind_25 : decode c_KI_entryBehind 25 = .ok (.goto 9, 3) := by decide +kernel
theorem d_KI_entryBehind_28 : decode c_KI_entryBehind 28 = .ok (.aload_n 1, 1) := by decide +kernel
theorem d_KI_entryBehind_29 : decode c_KI_entryBehind 29 = .ok (.getfield 95, 3) := by decide +kernel
theorem d_KI_entryBehind_32 : decode c_KI_entryBehind 32 = .ok (.lconst 1, 1) := by decide +kernel
theorem d_KI_entryBehind_33 : decode c_KI_entryBehind 33 = .ok (.ladd, 1) := by decide +kernel
theorem d_KI_entryBehind_34 : decode c_KI_entryBehind 34 = .ok (.lstore_n 2, 1) := by decide +kernel
theorem d_KI_entryBehind_35 : decode c_KI_entryBehind 35 = .ok (.aload_n 0, 1) := by decide +kernel
theorem d_KI_entryBehind_36 : decode c_KI_entryBehind 36 = .ok (.aload_n 0, 1) := by decide +kernel
theorem d_KI_entryBehind_37 : decode c_KI_entryBehind 37 = .ok (.aload_n 1, 1) := by decide +kernel
theorem d_KI_entryBehind_38 : decode c_KI_entryBehind 38 = .ok (.getfield 98, 3) := by decide +kernel
theorem d_KI_entryBehind_41 : decode c_KI_entryBehind 41 = .ok (.lload_n 2, 1) := by decide +kernel
theorem d_KI_entryBehind_42 : decode c_KI_entryBehind 42 = .ok (.invokevirtual 53, 3) := by decide +kernel
theorem d_KI_entryBehind_45 : decode c_KI_entryBehind 45 = .ok (.invokevirtual 45, 3) := by decide +kernel
theorem d_KI_entryBehind_48 : decode c_KI_entryBehind 48 = .ok (.areturn, 1) := by decide +kernel
theorem d_KI_drop_0 : decode c_KI_drop 0 = .ok (.aload_n 0, 1) := by decide +kernel
theorem d_KI_drop_1 : decode c_KI_drop 1 = .ok (.lload_n 2, 1) := by decide +kernel
theorem d_KI_drop_2 : decode c_KI_drop 2 = .ok (.lconst 0, 1) := by decide +kernel
theorem d_KI_drop_3 : decode c_KI_drop 3 = .ok (.invokevirtual 53, 3) := by decide +kernel
theorem d_KI_drop_6 : decode c_KI_drop 6 = .ok (.istore 4, 2) := by decide +kernel
theorem d_KI_drop_8 : decode c_KI_drop 8 = .ok (.iload 4, 2) := by decide +kernel
theorem d_KI_drop_10 : decode c_KI_drop 10 = .ok (.aload_n 0, 1) := by decide +kernel
theorem d_KI_drop_11 : decode c_KI_drop 11 = .ok (.getfield 25, 3) := by decide +kernel
theorem d_KI_drop_14 : decode c_KI_drop 14 = .ok (.invokevirtual 36, 3) := by decide +kernel
theorem d_KI_drop_17 : decode c_KI_drop 17 = .ok (.if_icmp .ge 60, 3) := by decide +kernel
theorem d_KI_drop_20 : decode c_KI_drop 20 = .ok (.aload_n 0, 1) := by decide +kernel
theorem d_KI_drop_21 : decode c_KI_drop 21 = .ok (.getfield 25, 3) := by decide +kernel
theorem d_KI_drop_24 : decode c_KI_drop 24 = .ok (.iload 4, 2) := by decide +kernel
theorem d_KI_drop_26 : decode c_KI_drop 26 = .ok (.invokevirtual 39, 3) := by decide +kernel
theorem d_KI_drop_29 : decode c_KI_drop 29 = .ok (.checkcast 43, 3) := by decide +kernel
theorem d_KI_drop_32 : decode c_KI_drop 32 = .ok (.getfield 80, 3) := by decide +kernel
theorem d_KI_drop_35 : decode c_KI_drop 35 = .ok (.aload_n 1, 1) := by decide +kernel
theorem d_KI_drop_36 : decode c_KI_drop 36 = .ok (.if_acmp .ne 14, 3) := by decide +kernel
theorem d_KI_drop_39 : decode c_KI_drop 39 = .ok (.aload_n 0, 1) := by decide +kernel
theorem d_KI_drop_40 : decode c_KI_drop 40 = .ok (.getfield 25, 3) := by decide +kernel
theorem d_KI_drop_43 : decode c_KI_drop 43 = .ok (.iload 4, 2) := by decide +kernel
theorem d_KI_drop_45 : decode c_KI_drop 45 = .ok (.invokevirtual 84, 3) := by decide +kernel
theorem d_KI_drop_48 : decode c_KI_drop 48 = .ok (.pop, 1) := by decide +kernel
theorem d_KI_drop_49 : decode c_KI_drop 49 = .ok (.return_, 1) := by decide +kernel
theorem d_KI_drop_50 : decode c_KI_drop 50 = .ok (.aload_n 0, 1) := by decide +kernel
theorem d_KI_drop_51 : decode c_KI_drop 51 = .ok (.getfield 25, 3) := by decide +kernel
theorem d_KI_drop_54 : decode c_KI_drop 54 = .ok (.iload 4, 2) := by decide +kernel
theorem d_KI_drop_56 : decode c_KI_drop 56 = .ok (.invokevirtual 39, 3) := by decide +kernel
theorem d_KI_drop_59 : decode c_KI_drop 59 = .ok (.checkcast 43, 3) := by decide +kernel
theorem d_KI_drop_62 : decode c_KI_drop 62 = .ok (.getfield 57, 3) := by decide +kernel
theorem d_KI_drop_65 : decode c_KI_drop 65 = .ok (.lload_n 2, 1) := by decide +kernel
theorem d_KI_drop_66 : decode c_KI_drop 66 = .ok (.lcmp, 1) := by decide +kernel
theorem d_KI_drop_67 : decode c_KI_drop 67 = .ok (.ifCond .eq 4, 3) := by decide +kernel
theorem d_KI_drop_70 : decode c_KI_drop 70 = .ok (.return_, 1) := by decide +kernel
theorem d_KI_drop_71 : decode c_KI_drop 71 = .ok (.iinc 4 1, 3) := by decide +kernel
theorem d_KI_drop_74 : decode c_KI_drop 74 = .ok (.goto (-66), 3) := by decide +kernel
theorem d_KI_drop_77 : decode c_KI_drop 77 = .ok (.return_, 1) := by decide +kernel
theorem d_KI_isInOrder_0 : decode c_KI_isInOrder 0 = .ok (.aconst_null, 1) := by decide +kernel
theorem d_KI_isInOrder_1 : decode c_KI_isInOrder 1 = .ok (.astore_n 3, 1) := by decide +kernel
theorem d_KI_isInOrder_2 : decode c_KI_isInOrder 2 = .ok (.iconst 0, 1) := by decide +kernel
theorem d_KI_isInOrder_3 : decode c_KI_isInOrder 3 = .ok (.istore 4, 2) := by decide +kernel
theorem d_KI_isInOrder_5 : decode c_KI_isInOrder 5 = .ok (.iload 4, 2) := by decide +kernel
theorem d_KI_isInOrder_7 : decode c_KI_isInOrder 7 = .ok (.aload_n 0, 1) := by decide +kernel
theorem d_KI_isInOrder_8 : decode c_KI_isInOrder 8 = .ok (.getfield 25, 3) := by decide +kernel
theorem d_KI_isInOrder_11 : decode c_KI_isInOrder 11 = .ok (.invokevirtual 36, 3) := by decide +kernel
theorem d_KI_isInOrder_14 : decode c_KI_isInOrder 14 = .ok (.if_icmp .ge 107, 3) := by decide +kernel
theorem d_KI_isInOrder_17 : decode c_KI_isInOrder 17 = .ok (.aload_n 0, 1) := by decide +kernel
theorem d_KI_isInOrder_18 : decode c_KI_isInOrder 18 = .ok (.getfield 25, 3) := by decide +kernel
theorem d_KI_isInOrder_21 : decode c_KI_isInOrder 21 = .ok (.iload 4, 2) := by decide +kernel
theorem d_KI_isInOrder_23 : decode c_KI_isInOrder 23 = .ok (.invokevirtual 39, 3) := by decide +kernel
theorem d_KI_isInOrder_26 : decode c_KI_isInOrder 26 = .ok (.checkcast 43, 3) := by decide +kernel
theorem d_KI_isInOrder_29 : decode c_KI_isInOrder 29 = .ok (.astore 5, 2) := by decide +kernel
theorem d_KI_isInOrder_31 : decode c_KI_isInOrder 31 = .ok (.aload 5, 2) := by decide +kernel
theorem d_KI_isInOrder_33 : decode c_KI_isInOrder 33 = .ok (.getfield 80, 3) := by decide +kernel
theorem d_KI_isInOrder_36 : decode c_KI_isInOrder 36 = .ok (.astore 6, 2) := by decide +kernel
theorem d_KI_isInOrder_38 : decode c_KI_isInOrder 38 = .ok (.aload 6, 2) := by decide +kernel
theorem d_KI_isInOrder_40 : decode c_KI_isInOrder 40 = .ok (.getfield 112, 3) := by decide +kernel
theorem d_KI_isInOrder_43 : decode c_KI_isInOrder 43 = .ok (.ifCond .eq 13, 3) := by decide +kernel
theorem d_KI_isInOrder_46 : decode c_KI_isInOrder 46 = .ok (.aload 6, 2) := by decide +kernel
theorem d_KI_isInOrder_48 : decode c_KI_isInOrder 48 = .ok (.getfield 115, 3) := by decide +kernel
theorem d_KI_isInOrder_51 : decode c_KI_isInOrder 51 = .ok (.lload_n 1, 1) := by decide +kernel
theorem d_KI_isInOrder_52 : decode c_KI_isInOrder 52 = .ok (.lcmp, 1) := by decide +kernel
theorem d_KI_isInOrder_53 : decode c_KI_isInOrder 53 = .ok (.ifCond .ne 5, 3) := by decide +kernel
theorem d_KI_isInOrder_56 : decode c_KI_isInOrder 56 = .ok (.iconst 0, 1) := by decide +kernel
theorem d_KI_isInOrder_57 : decode c_KI_isInOrder 57 = .ok (.ireturn, 1) := by decide +kernel
theorem d_KI_isInOrder_58 : decode c_KI_isInOrder 58 = .ok (.aload 6, 2) := by decide +kernel
theorem d_KI_isInOrder_60 : decode c_KI_isInOrder 60 = .ok (.lload_n 1, 1) := by decide +kernel
theorem d_KI_isInOrder_61 : decode c_KI_isInOrder 61 = .ok (.putfield 115, 3) := by decide +kernel
theorem d_KI_isInOrder_64 : decode c_KI_isInOrder 64 = .ok (.aload 5, 2) := by decide +kernel
theorem d_KI_isInOrder_66 : decode c_KI_isInOrder 66 = .ok (.getfield 57, 3) := by decide +kernel
theorem d_KI_isInOrder_69 : decode c_KI_isInOrder 69 = .ok (.aload_n 0, 1) := by decide +kernel
theorem d_KI_isInOrder_70 : decode c_KI_isInOrder 70 = .ok (.aload 6, 2) := by decide +kernel
theorem d_KI_isInOrder_72 : decode c_KI_isInOrder 72 = .ok (.getfield 60, 3) := by decide +kernel
theorem d_KI_isInOrder_75 : decode c_KI_isInOrder 75 = .ok (.invokevirtual 65, 3) := by decide +kernel
theorem d_KI_isInOrder_78 : decode c_KI_isInOrder 78 = .ok (.lcmp, 1) := by decide +kernel
theorem d_KI_isInOrder_79 : decode c_KI_isInOrder 79 = .ok (.ifCond .ne 15, 3) := by decide +kernel
theorem d_KI_isInOrder_82 : decode c_KI_isInOrder 82 = .ok (.aload_n 0, 1) := by decide +kernel
theorem d_KI_isInOrder_83 : decode c_KI_isInOrder 83 = .ok (.aload 5, 2) := by decide +kernel
theorem d_KI_isInOrder_85 : decode c_KI_isInOrder 85 = .ok (.getfield 57, 3) := by decide +kernel
theorem d_KI_isInOrder_88 : decode c_KI_isInOrder 88 = .ok (.invokevirtual 69, 3) := by decide +kernel
theorem d_KI_isInOrder_91 : decode c_KI_isInOrder 91 = .ok (.ifCond .eq 5, 3) := by decide +kernel
theorem d_KI_isInOrder_94 : decode c_KI_isInOrder 94 = .ok (.iconst 0, 1) := by decide +kernel
theorem d_KI_isInOrder_95 : decode c_KI_isInOrder 95 = .ok (.ireturn, 1) := by decide +kernel
theorem d_KI_isInOrder_96 : decode c_KI_isInOrder 96 = .ok (.aload_n 3, 1) := by decide +kernel
theorem d_KI_isInOrder_97 : decode c_KI_isInOrder 97 = .ok (.ifnull 15, 3) := by decide +kernel
theorem d_KI_isInOrder_100 : decode c_KI_isInOrder 100 = .ok (.aload_n 0, 1) := by decide +kernel
theorem d_KI_isInOrder_101 : decode c_KI_isInOrder 101 = .ok (.aload_n 3, 1) := by decide +kernel
theorem d_KI_isInOrder_102 : decode c_KI_isInOrder 102 = .ok (.aload 5, 2) := by decide +kernel
theorem d_KI_isInOrder_104 : decode c_KI_isInOrder 104 = .ok (.invokevirtual 118, 3) := by decide +kernel
theorem d_KI_isInOrder_107 : decode c_KI_isInOrder 107 = .ok (.ifCond .ne 5, 3) := by decide +kernel
theorem d_KI_isInOrder_110 : decode c_KI_isInOrder 110 = .ok (.iconst 0, 1) := by decide +kernel
theorem d_KI_isInOrder_111 : decode c_KI_isInOrder 111 = .ok (.ireturn, 1) := by decide +kernel
theorem d_KI_isInOrder_112 : decode c_KI_isInOrder 112 = .ok (.aload 5, 2) := by decide +kernel
theorem d_KI_isInOrder_114 : decode c_KI_isInOrder 114 = .ok (.astore_n 3, 1) := by decide +kernel
theorem d_KI_isInOrder_115 : decode c_KI_isInOrder 115 = .ok (.iinc 4 1, 3) := by decide +kernel
theorem d_KI_isInOrder_118 : decode c_KI_isInOrder 118 = .ok (.goto (-113), 3) := by decide +kernel
theorem d_KI_isInOrder_121 : decode c_KI_isInOrder 121 = .ok (.iconst 1, 1) := by decide +kernel
theorem d_KI_isInOrder_122 : decode c_KI_isInOrder 122 = .ok (.ireturn, 1) := by decide +kernel
theorem d_KI_isRightlyAhead_0 : decode c_KI_isRightlyAhead 0 = .ok (.aload_n 1, 1) := by decide +kernel
theorem d_KI_isRightlyAhead_1 : decode c_KI_isRightlyAhead 1 = .ok (.aload_n 2, 1) := by decide +kernel
theorem d_KI_isRightlyAhead_2 : decode c_KI_isRightlyAhead 2 = .ok (.getfield 57, 3) := by decide +kernel
theorem d_KI_isRightlyAhead_5 : decode c_KI_isRightlyAhead 5 = .ok (.aload_n 2, 1) := by decide +kernel
theorem d_KI_isRightlyAhead_6 : decode c_KI_isRightlyAhead 6 = .ok (.getfield 87, 3) := by decide +kernel
theorem d_KI_isRightlyAhead_9 : decode c_KI_isRightlyAhead 9 = .ok (.invokevirtual 49, 3) := by decide +kernel
theorem d_KI_isRightlyAhead_12 : decode c_KI_isRightlyAhead 12 = .ok (.ifCond .eq 26, 3) := by decide +kernel
theorem d_KI_isRightlyAhead_15 : decode c_KI_isRightlyAhead 15 = .ok (.aload_n 0, 1) := by decide +kernel
theorem d_KI_isRightlyAhead_16 : decode c_KI_isRightlyAhead 16 = .ok (.getfield 9, 3) := by decide +kernel
theorem d_KI_isRightlyAhead_19 : decode c_KI_isRightlyAhead 19 = .ok (.ifCond .ne 15, 3) := by decide +kernel
theorem d_KI_isRightlyAhead_22 : decode c_KI_isRightlyAhead 22 = .ok (.aload_n 1, 1) := by decide +kernel
theorem d_KI_isRightlyAhead_23 : decode c_KI_isRightlyAhead 23 = .ok (.getfield 57, 3) := by decide +kernel
theorem d_KI_isRightlyAhead_26 : decode c_KI_isRightlyAhead 26 = .ok (.aload_n 2, 1) := by decide +kernel
theorem d_KI_isRightlyAhead_27 : decode c_KI_isRightlyAhead 27 = .ok (.getfield 57, 3) := by decide +kernel
theorem d_KI_isRightlyAhead_30 : decode c_KI_isRightlyAhead 30 = .ok (.lcmp, 1) := by decide +kernel
theorem d_KI_isRightlyAhead_31 : decode c_KI_isRightlyAhead 31 = .ok (.ifCond .eq 7, 3) := by decide +kernel
theorem d_KI_isRightlyAhead_34 : decode c_KI_isRightlyAhead 34 = .ok (.iconst 1, 1) := by decide +kernel
theorem d_KI_isRightlyAhead_35 : decode c_KI_isRightlyAhead 35 = .ok (.goto 4, 3) := by decide +kernel
theorem d_KI_isRightlyAhead_38 : decode c_KI_isRightlyAhead 38 = .ok (.iconst 0, 1) := by decide +kernel
theorem d_KI_isRightlyAhead_39 : decode c_KI_isRightlyAhead 39 = .ok (.ireturn, 1) := by decide +kernel
theorem d_KF_init_0 : decode c_KF_init 0 = .ok (.aload_n 0, 1) := by decide +kernel
theorem d_KF_init_1 : decode c_KF_init 1 = .ok (.invokespecial 1, 3) := by decide +kernel
theorem d_KF_init_4 : decode c_KF_init 4 = .ok (.aload_n 0, 1) := by decide +kernel
theorem d_KF_init_5 : decode c_KF_init 5 = .ok (.new 7, 3) := by decide +kernel
theorem d_KF_init_8 : decode c_KF_init 8 = .ok (.dup, 1) := by decide +kernel
theorem d_KF_init_9 : decode c_KF_init 9 = .ok (.invokespecial 9, 3) := by decide +kernel
theorem d_KF_init_12 : decode c_KF_init 12 = .ok (.putfield 10, 3) := by decide +kernel
theorem d_KF_init_15 : decode c_KF_init 15 = .ok (.aload_n 0, 1) := by decide +kernel
theorem d_KF_init_16 : decode c_KF_init 16 = .ok (.new 7, 3) := by decide +kernel
theorem d_KF_init_19 : decode c_KF_init 19 = .ok (.dup, 1) := by decide +kernel
theorem d_KF_init_20 : decode c_KF_init 20 = .ok (.invokespecial 9, 3) := by decide +kernel
theorem d_KF_init_23 : decode c_KF_init 23 = .ok (.putfield 16, 3) := by decide +kernel
theorem d_KF_init_26 : decode c_KF_init 26 = .ok (.return_, 1) := by decide +kernel
theorem d_KF_key_0 : decode c_KF_key 0 = .ok (.aload_n 0, 1) := by decide +kernel
theorem d_KF_key_1 : decode c_KF_key 1 = .ok (.getfield 10, 3) := by decide +kernel
theorem d_KF_key_4 : decode c_KF_key 4 = .ok (.invokevirtual 19, 3) := by decide +kernel
theorem d_KF_key_7 : decode c_KF_key 7 = .ok (.istore 5, 2) := by decide +kernel
theorem d_KF_key_9 : decode c_KF_key 9 = .ok (.aload_n 0, 1) := by decide +kernel
theorem d_KF_key_10 : decode c_KF_key 10 = .ok (.getfield 23, 3) := by decide +kernel
theorem d_KF_key_13 : decode c_KF_key 13 = .ok (.ifCond .ne 10, 3) := by decide +kernel
theorem d_KF_key_16 : decode c_KF_key 16 = .ok (.iload 5, 2) := by decide +kernel
theorem d_KF_key_18 : decode c_KF_key 18 = .ok (.bipush 6, 2) := by decide +kernel
theorem d_KF_key_20 : decode c_KF_key 20 = .ok (.if_icmp .lt 5, 3) := by decide +kernel
theorem d_KF_key_23 : decode c_KF_key 23 = .ok (.iconst (-1), 1) := by decide +kernel
theorem d_KF_key_24 : decode c_KF_key 24 = .ok (.ireturn, 1) := by decide +kernel
theorem d_KF_key_25 : decode c_KF_key 25 = .ok (.iload_n 1, 1) := by decide +kernel
theorem d_KF_key_26 : decode c_KF_key 26 = .ok (.iload 5, 2) := by decide +kernel
theorem d_KF_key_28 : decode c_KF_key 28 = .ok (.ifCond .ne 7, 3) := by decide +kernel
theorem d_KF_key_31 : decode c_KF_key 31 = .ok (.iconst 1, 1) := by decide +kernel
theorem d_KF_key_32 : decode c_KF_key 32 = .ok (.goto 4, 3) := by decide +kernel
theorem d_KF_key_35 : decode c_KF_key 35 = .ok (.iconst 0, 1) := by decide +kernel
theorem d_KF_key_36 : decode c_KF_key 36 = .ok (.if_icmp .ne 11, 3) := by decide +kernel
theorem d_KF_key_39 : decode c_KF_key 39 = .ok (.iload_n 1, 1) := by decide +kernel
theorem d_KF_key_40 : decode c_KF_key 40 = .ok (.ifCond .eq 9, 3) := by decide +kernel
theorem d_KF_key_43 : decode c_KF_key 43 = .ok (.iload_n 2, 1) := by decide +kernel
theorem d_KF_key_44 : decode c_KF_key 44 = .ok (.ifCond .eq 5, 3) := by decide +kernel
theorem d_KF_key_47 : decode c_KF_key 47 = .ok (.iconst (-1), 1) := by decide +kernel
theorem d_KF_key_48 : decode c_KF_key 48 = .ok (.ireturn, 1) := by decide +kernel
theorem d_KF_key_49 : decode c_KF_key 49 = .ok (.iload 4, 2) := by decide +kernel
theorem d_KF_key_51 : decode c_KF_key 51 = .ok (.iconst 1, 1) := by decide +kernel
theorem d_KF_key_52 : decode c_KF_key 52 = .ok (.if_icmp .lt 23, 3) := by decide +kernel
theorem d_KF_key_55 : decode c_KF_key 55 = .ok (.iload 4, 2) := by decide +kernel
theorem d_KF_key_57 : decode c_KF_key 57 = .ok (.bipush 8, 2) := by decide +kernel
theorem d_KF_key_59 : decode c_KF_key 59 = .ok (.if_icmp .gt 16, 3) := by decide +kernel
theorem d_KF_key_62 : decode c_KF_key 62 = .ok (.iload_n 3, 1) := by decide +kernel
theorem d_KF_key_63 : decode c_KF_key 63 = .ok (.ifCond .lt 12, 3) := by decide +kernel
theorem d_KF_key_66 : decode c_KF_key 66 = .ok (.iload_n 3, 1) := by decide +kernel
theorem d_KF_key_67 : decode c_KF_key 67 = .ok (.bipush 8, 2) := by decide +kernel
theorem d_KF_key_69 : decode c_KF_key 69 = .ok (.iload 4, 2) := by decide +kernel
theorem d_KF_key_71 : decode c_KF_key 71 = .ok (.isub, 1) := by decide +kernel
theorem d_KF_key_72 : decode c_KF_key 72 = .ok (.if_icmp .le 5, 3) := by decide +kernel
theorem d_KF_key_75 : decode c_KF_key 75 = .ok (.iconst (-1), 1) := by decide +kernel
theorem d_KF_key_76 : decode c_KF_key 76 = .ok (.ireturn, 1) := by decide +kernel
theorem d_KF_key_77 : decode c_KF_key 77 = .ok (.aload_n 0, 1) := by decide +kernel
theorem d_KF_key_78 : decode c_KF_key 78 = .ok (.getfield 10, 3) := by decide +kernel
theorem d_KF_key_81 : decode c_KF_key 81 = .ok (.new 27, 3) := by decide +kernel
theorem d_KF_key_84 : decode c_KF_key 84 = .ok (.dup, 1) := by decide +kernel
theorem d_KF_key_85 : decode c_KF_key 85 = .ok (.iload_n 2, 1) := by decide +kernel
theorem d_KF_key_86 : decode c_KF_key 86 = .ok (.iload_n 3, 1) := by decide +kernel
theorem d_KF_key_87 : decode c_KF_key 87 = .ok (.iload 4, 2) := by decide +kernel
theorem d_KF_key_89 : decode c_KF_key 89 = .ok (.invokespecial 29, 3) := by decide +kernel
theorem d_KF_key_92 : decode c_KF_key 92 = .ok (.invokevirtual 32, 3) := by decide +kernel
theorem d_KF_key_95 : decode c_KF_key 95 = .ok (.pop, 1) := by decide +kernel
theorem d_KF_key_96 : decode c_KF_key 96 = .ok (.iload 5, 2) := by decide +kernel
theorem d_KF_key_98 : decode c_KF_key 98 = .ok (.ireturn, 1) := by decide +kernel
theorem d_KF_sparse_0 : decode c_KF_sparse 0 = .ok (.aload_n 0, 1) := by decide +kernel
theorem d_KF_sparse_1 : decode c_KF_sparse 1 = .ok (.iload_n 1, 1) := by decide +kernel
theorem d_KF_sparse_2 : decode c_KF_sparse 2 = .ok (.invokevirtual 36, 3) := by decide +kernel
theorem d_KF_sparse_5 : decode c_KF_sparse 5 = .ok (.astore 4, 2) := by decide +kernel
theorem d_KF_sparse_7 : decode c_KF_sparse 7 = .ok (.aload 4, 2) := by decide +kernel
theorem d_KF_sparse_9 : decode c_KF_sparse 9 = .ok (.ifnull 14, 3) := by decide +kernel
theorem d_KF_sparse_12 : decode c_KF_sparse 12 = .ok (.iload_n 1, 1) := by decide +kernel
theorem d_KF_sparse_13 : decode c_KF_sparse 13 = .ok (.ifCond .eq 10, 3) := by decide +kernel
theorem d_KF_sparse_16 : decode c_KF_sparse 16 = .ok (.aload_n 0, 1) := by decide +kernel
theorem d_KF_sparse_17 : decode c_KF_sparse 17 = .ok (.getfield 23, 3) := by decide +kernel
theorem d_KF_sparse_20 : decode c_KF_sparse 20 = .ok (.ifCond .eq 5, 3) := by decide +kernel
theorem d_KF_sparse_23 : decode c_KF_sparse 23 = .ok (.iconst (-1), 1) := by decide +kernel
theorem d_KF_sparse_24 : decode c_KF_sparse 24 = .ok (.ireturn, 1) := by decide +kernel
theorem d_KF_sparse_25 : decode c_KF_sparse 25 = .ok (.aload 4, 2) := by decide +kernel
theorem d_KF_sparse_27 : decode c_KF_sparse 27 = .ok (.lload_n 2, 1) := by decide +kernel
theorem d_KF_sparse_28 : decode c_KF_sparse 28 = .ok (.invokevirtual 40, 3) := by decide +kernel
theorem d_KF_sparse_31 : decode c_KF_sparse 31 = .ok (.iconst 1, 1) := by decide +kernel
theorem d_KF_sparse_32 : decode c_KF_sparse 32 = .ok (.ireturn, 1) := by decide +kernel
theorem d_KF_indexAt_0 : decode c_KF_indexAt 0 = .ok (.iload_n 1, 1) := by decide +kernel
theorem d_KF_indexAt_1 : decode c_KF_indexAt 1 = .ok (.ifCond .lt 28, 3) := by decide +kernel
theorem d_KF_indexAt_4 : decode c_KF_indexAt 4 = .ok (.iload_n 1, 1) := by decide +kernel
theorem d_KF_indexAt_5 : decode c_KF_indexAt 5 = .ok (.aload_n 0, 1) := by decide +kernel
theorem d_KF_indexAt_6 : decode c_KF_indexAt 6 = .ok (.getfield 10, 3) := by decide +kernel
theorem d_KF_indexAt_9 : decode c_KF_indexAt 9 = .ok (.invokevirtual 19, 3) := by decide +kernel
theorem d_KF_indexAt_12 : decode c_KF_indexAt 12 = .ok (.if_icmp .ge 17, 3) := by decide +kernel
theorem d_KF_indexAt_15 : decode c_KF_indexAt 15 = .ok (.aload_n 0, 1) := by decide +kernel
theorem d_KF_indexAt_16 : decode c_KF_indexAt 16 = .ok (.getfield 10, 3) := by decide +kernel
theorem d_KF_indexAt_19 : decode c_KF_indexAt 19 = .ok (.iload_n 1, 1) := by decide +kernel
theorem d_KF_indexAt_20 : decode c_KF_indexAt 20 = .ok (.invokevirtual 177, 3) := by decide +kernel
theorem d_KF_indexAt_23 : decode c_KF_indexAt 23 = .ok (.checkcast 27, 3) := by decide +kernel
theorem d_KF_indexAt_26 : decode c_KF_indexAt 26 = .ok (.goto 4, 3) := by decide +kernel
theorem d_KF_indexAt_29 : decode c_KF_indexAt 29 = .ok (.aconst_null, 1) := by decide +kernel
theorem d_KF_indexAt_30 : decode c_KF_indexAt 30 = .ok (.areturn, 1) := by decide +kernel
theorem d_KF_view_0 : decode c_KF_view 0 = .ok (.aload_n 0, 1) := by decide +kernel
theorem d_KF_view_1 : decode c_KF_view 1 = .ok (.getfield 16, 3) := by decide +kernel
theorem d_KF_view_4 : decode c_KF_view 4 = .ok (.invokevirtual 19, 3) := by decide +kernel
theorem d_KF_view_7 : decode c_KF_view 7 = .ok (.istore_n 1, 1) := by decide +kernel
theorem d_KF_view_8 : decode c_KF_view 8 = .ok (.iload_n 1, 1) := by decide +kernel
theorem d_KF_view_9 : decode c_KF_view 9 = .ok (.iconst 5, 1) := by decide +kernel
theorem d_KF_view_10 : decode c_KF_view 10 = .ok (.if_icmp .ge 13, 3) := by decide +kernel
theorem d_KF_view_13 : decode c_KF_view 13 = .ok (.aload_n 0, 1) := by decide +kernel
theorem d_KF_view_14 : decode c_KF_view 14 = .ok (.getfield 10, 3) := by decide +kernel
theorem d_KF_view_17 : decode c_KF_view 17 = .ok (.invokevirtual 44, 3) := by decide +kernel
theorem d_KF_view_20 : decode c_KF_view 20 = .ok (.ifCond .eq 5, 3) := by decide +kernel
theorem d_KF_view_23 : decode c_KF_view 23 = .ok (.iconst (-1), 1) := by decide +kernel
theorem d_KF_view_24 : decode c_KF_view 24 = .ok (.ireturn, 1) := by decide +kernel
theorem d_KF_view_25 : decode c_KF_view 25 = .ok (.aload_n 0, 1) := by decide +kernel
theorem d_KF_view_26 : decode c_KF_view 26 = .ok (.getfield 16, 3) := by decide +kernel
theorem d_KF_view_29 : decode c_KF_view 29 = .ok (.new 48, 3) := by decide +kernel
theorem d_KF_view_32 : decode c_KF_view 32 = .ok (.dup, 1) := by decide +kernel
theorem d_KF_view_33 : decode c_KF_view 33 = .ok (.invokespecial 50, 3) := by decide +kernel
theorem d_KF_view_36 : decode c_KF_view 36 = .ok (.invokevirtual 32, 3) := by decide +kernel
theorem d_KF_view_39 : decode c_KF_view 39 = .ok (.pop, 1) := by decide +kernel
theorem d_KF_view_40 : decode c_KF_view 40 = .ok (.iload_n 1, 1) := by decide +kernel
theorem d_KF_view_41 : decode c_KF_view 41 = .ok (.ireturn, 1) := by decide +kernel
theorem d_KF_open_0 : decode c_KF_open 0 = .ok (.aload_n 0, 1) := by decide +kernel
theorem d_KF_open_1 : decode c_KF_open 1 = .ok (.iload_n 1, 1) := by decide +kernel
theorem d_KF_open_2 : decode c_KF_open 2 = .ok (.invokevirtual 51, 3) := by decide +kernel
theorem d_KF_open_5 : decode c_KF_open 5 = .ok (.astore 4, 2) := by decide +kernel
theorem d_KF_open_7 : decode c_KF_open 7 = .ok (.aload 4, 2) := by decide +kernel
theorem d_KF_open_9 : decode c_KF_open 9 = .ok (.ifnull 21, 3) := by decide +kernel
theorem d_KF_open_12 : decode c_KF_open 12 = .ok (.iload_n 2, 1) := by decide +kernel
theorem d_KF_open_13 : decode c_KF_open 13 = .ok (.ifCond .lt 17, 3) := by decide +kernel
theorem d_KF_open_16 : decode c_KF_open 16 = .ok (.iload_n 2, 1) := by decide +kernel
theorem d_KF_open_17 : decode c_KF_open 17 = .ok (.iconst 3, 1) := by decide +kernel
theorem d_KF_open_18 : decode c_KF_open 18 = .ok (.if_icmp .gt 12, 3) := by decide +kernel
theorem d_KF_open_21 : decode c_KF_open 21 = .ok (.iload_n 3, 1) := by decide +kernel
theorem d_KF_open_22 : decode c_KF_open 22 = .ok (.ifCond .lt 8, 3) := by decide +kernel
theorem d_KF_open_25 : decode c_KF_open 25 = .ok (.iload_n 3, 1) := by decide +kernel
theorem d_KF_open_26 : decode c_KF_open 26 = .ok (.iconst 2, 1) := by decide +kernel
theorem d_KF_open_27 : decode c_KF_open 27 = .ok (.if_icmp .le 5, 3) := by decide +kernel
theorem d_KF_open_30 : decode c_KF_open 30 = .ok (.iconst (-1), 1) := by decide +kernel
theorem d_KF_open_31 : decode c_KF_open 31 = .ok (.ireturn, 1) := by decide +kernel
theorem d_KF_open_32 : decode c_KF_open 32 = .ok (.aload 4, 2) := by decide +kernel
theorem d_KF_open_34 : decode c_KF_open 34 = .ok (.getfield 55, 3) := by decide +kernel
theorem d_KF_open_37 : decode c_KF_open 37 = .ok (.ifCond .eq 6, 3) := by decide +kernel
theorem d_KF_open_40 : decode c_KF_open 40 = .ok (.bipush 41, 2) := by decide +kernel
theorem d_KF_open_42 : decode c_KF_open 42 = .ok (.ireturn, 1) := by decide +kernel
theorem d_KF_open_43 : decode c_KF_open 43 = .ok (.aload_n 0, 1) := by decide +kernel
theorem d_KF_open_44 : decode c_KF_open 44 = .ok (.iconst 1, 1) := by decide +kernel
theorem d_KF_open_45 : decode c_KF_open 45 = .ok (.putfield 23, 3) := by decide +kernel
theorem d_KF_open_48 : decode c_KF_open 48 = .ok (.iload_n 2, 1) := by decide +kernel
theorem d_KF_open_49 : decode c_KF_open 49 = .ok (.iconst 1, 1) := by decide +kernel
theorem d_KF_open_50 : decode c_KF_open 50 = .ok (.if_icmp .ne 7, 3) := by decide +kernel
theorem d_KF_open_53 : decode c_KF_open 53 = .ok (.aload_n 0, 1) := by decide +kernel
theorem d_KF_open_54 : decode c_KF_open 54 = .ok (.invokevirtual 58, 3) := by decide +kernel
theorem d_KF_open_57 : decode c_KF_open 57 = .ok (.aload 4, 2) := by decide +kernel
theorem d_KF_open_59 : decode c_KF_open 59 = .ok (.iload_n 2, 1) := by decide +kernel
theorem d_KF_open_60 : decode c_KF_open 60 = .ok (.iload_n 3, 1) := by decide +kernel
theorem d_KF_open_61 : decode c_KF_open 61 = .ok (.invokevirtual 61, 3) := by decide +kernel
theorem d_KF_open_64 : decode c_KF_open 64 = .ok (.iconst 0, 1) := by decide +kernel
theorem d_KF_open_65 : decode c_KF_open 65 = .ok (.ireturn, 1) := by decide +kernel
theorem d_KF_viewAt_0 : decode c_KF_viewAt 0 = .ok (.iload_n 1, 1) := by decide +kernel
theorem d_KF_viewAt_1 : decode c_KF_viewAt 1 = .ok (.ifCond .lt 28, 3) := by decide +kernel
theorem d_KF_viewAt_4 : decode c_KF_viewAt 4 = .ok (.iload_n 1, 1) := by decide +kernel
theorem d_KF_viewAt_5 : decode c_KF_viewAt 5 = .ok (.aload_n 0, 1) := by decide +kernel
theorem d_KF_viewAt_6 : decode c_KF_viewAt 6 = .ok (.getfield 16, 3) := by decide +kernel
theorem d_KF_viewAt_9 : decode c_KF_viewAt 9 = .ok (.invokevirtual 19, 3) := by decide +kernel
theorem d_KF_viewAt_12 : decode c_KF_viewAt 12 = .ok (.if_icmp .ge 17, 3) := by decide +kernel
theorem d_KF_viewAt_15 : decode c_KF_viewAt 15 = .ok (.aload_n 0, 1) := by decide +kernel
theorem d_KF_viewAt_16 : decode c_KF_viewAt 16 = .ok (.getfield 16, 3) := by decide +kernel
theorem d_KF_viewAt_19 : decode c_KF_viewAt 19 = .ok (.iload_n 1, 1) := by decide +kernel
theorem d_KF_viewAt_20 : decode c_KF_viewAt 20 = .ok (.invokevirtual 177, 3) := by decide +kernel
theorem d_KF_viewAt_23 : decode c_KF_viewAt 23 = .ok (.checkcast 48, 3) := by decide +kernel
theorem d_KF_viewAt_26 : decode c_KF_viewAt 26 = .ok (.goto 4, 3) := by decide +kernel
theorem d_KF_viewAt_29 : decode c_KF_viewAt 29 = .ok (.aconst_null, 1) := by decide +kernel
theorem d_KF_viewAt_30 : decode c_KF_viewAt 30 = .ok (.areturn, 1) := by decide +kernel
theorem d_KF_dropAllRecords_0 : decode c_KF_dropAllRecords 0 = .ok (.iconst 0, 1) := by decide +kernel
theorem d_KF_dropAllRecords_1 : decode c_KF_dropAllRecords 1 = .ok (.istore_n 1, 1) := by decide +kernel
theorem d_KF_dropAllRecords_2 : decode c_KF_dropAllRecords 2 = .ok (.iload_n 1, 1) := by decide +kernel
theorem d_KF_dropAllRecords_3 : decode c_KF_dropAllRecords 3 = .ok (.aload_n 0, 1) := by decide +kernel
theorem d_KF_dropAllRecords_4 : decode c_KF_dropAllRecords 4 = .ok (.getfield 10, 3) := by decide +kernel
theorem d_KF_dropAllRecords_7 : decode c_KF_dropAllRecords 7 = .ok (.invokevirtual 19, 3) := by decide +kernel
theorem d_KF_dropAllRecords_10 : decode c_KF_dropAllRecords 10 = .ok (.if_icmp .ge 26, 3) := by decide +kernel
theorem d_KF_dropAllRecords_13 : decode c_KF_dropAllRecords 13 = .ok (.aload_n 0, 1) := by decide +kernel
theorem d_KF_dropAllRecords_14 : decode c_KF_dropAllRecords 14 = .ok (.getfield 10, 3) := by decide +kernel
theorem d_KF_dropAllRecords_17 : decode c_KF_dropAllRecords 17 = .ok (.iload_n 1, 1) := by decide +kernel
theorem d_KF_dropAllRecords_18 : decode c_KF_dropAllRecords 18 = .ok (.invokevirtual 177, 3) := by decide +kernel
theorem d_KF_dropAllRecords_21 : decode c_KF_dropAllRecords 21 = .ok (.checkcast 27, 3) := by decide +kernel
theorem d_KF_dropAllRecords_24 : decode c_KF_dropAllRecords 24 = .ok (.getfield 188, 3) := by decide +kernel
theorem d_KF_dropAllRecords_27 : decode c_KF_dropAllRecords 27 = .ok (.invokevirtual 235, 3) := by decide +kernel
theorem d_KF_dropAllRecords_30 : decode c_KF_dropAllRecords 30 = .ok (.iinc 1 1, 3) := by decide +kernel
theorem d_KF_dropAllRecords_33 : decode c_KF_dropAllRecords 33 = .ok (.goto (-31), 3) := by decide +kernel
theorem d_KF_dropAllRecords_36 : decode c_KF_dropAllRecords 36 = .ok (.iconst 0, 1) := by decide +kernel
theorem d_KF_dropAllRecords_37 : decode c_KF_dropAllRecords 37 = .ok (.istore_n 1, 1) := by decide +kernel
theorem d_KF_dropAllRecords_38 : decode c_KF_dropAllRecords 38 = .ok (.iload_n 1, 1) := by decide +kernel
theorem d_KF_dropAllRecords_39 : decode c_KF_dropAllRecords 39 = .ok (.aload_n 0, 1) := by decide +kernel
theorem d_KF_dropAllRecords_40 : decode c_KF_dropAllRecords 40 = .ok (.getfield 16, 3) := by decide +kernel
theorem d_KF_dropAllRecords_43 : decode c_KF_dropAllRecords 43 = .ok (.invokevirtual 19, 3) := by decide +kernel
theorem d_KF_dropAllRecords_46 : decode c_KF_dropAllRecords 46 = .ok (.if_icmp .ge 37, 3) := by decide +kernel
theorem d_KF_dropAllRecords_49 : decode c_KF_dropAllRecords 49 = .ok (.aload_n 0, 1) := by decide +kernel
theorem d_KF_dropAllRecords_50 : decode c_KF_dropAllRecords 50 = .ok (.getfield 16, 3) := by decide +kernel
theorem d_KF_dropAllRecords_53 : decode c_KF_dropAllRecords 53 = .ok (.iload_n 1, 1) := by decide +kernel
theorem d_KF_dropAllRecords_54 : decode c_KF_dropAllRecords 54 = .ok (.invokevirtual 177, 3) := by decide +kernel
theorem d_KF_dropAllRecords_57 : decode c_KF_dropAllRecords 57 = .ok (.checkcast 48, 3) := by decide +kernel
theorem d_KF_dropAllRecords_60 : decode c_KF_dropAllRecords 60 = .ok (.invokevirtual 65, 3) := by decide +kernel
theorem d_KF_dropAllRecords_63 : decode c_KF_dropAllRecords 63 = .ok (.aload_n 0, 1) := by decide +kernel
theorem d_KF_dropAllRecords_64 : decode c_KF_dropAllRecords 64 = .ok (.getfield 16, 3) := by decide +kernel
theorem d_KF_dropAllRecords_67 : decode c_KF_dropAllRecords 67 = .ok (.iload_n 1, 1) := by decide +kernel
theorem d_KF_dropAllRecords_68 : decode c_KF_dropAllRecords 68 = .ok (.invokevirtual 177, 3) := by decide +kernel
theorem d_KF_dropAllRecords_71 : decode c_KF_dropAllRecords 71 = .ok (.checkcast 48, 3) := by decide +kernel
theorem d_KF_dropAllRecords_74 : decode c_KF_dropAllRecords 74 = .ok (.invokevirtual 112, 3) := by decide +kernel
theorem d_KF_dropAllRecords_77 : decode c_KF_dropAllRecords 77 = .ok (.iinc 1 1, 3) := by decide +kernel
theorem d_KF_dropAllRecords_80 : decode c_KF_dropAllRecords 80 = .ok (.goto (-42), 3) := by decide +kernel
theorem d_KF_dropAllRecords_83 : decode c_KF_dropAllRecords 83 = .ok (.return_, 1) := by decide +kernel
theorem d_KF_close_0 : decode c_KF_close 0 = .ok (.aload_n 0, 1) := by decide +kernel
theorem d_KF_close_1 : decode c_KF_close 1 = .ok (.iload_n 1, 1) := by decide +kernel
theorem d_KF_close_2 : decode c_KF_close 2 = .ok (.invokevirtual 51, 3) := by decide +kernel
theorem d_KF_close_5 : decode c_KF_close 5 = .ok (.astore_n 2, 1) := by decide +kernel
theorem d_KF_close_6 : decode c_KF_close 6 = .ok (.aload_n 2, 1) := by decide +kernel
theorem d_KF_close_7 : decode c_KF_close 7 = .ok (.ifnonnull 5, 3) := by decide +kernel
theorem d_KF_close_10 : decode c_KF_close 10 = .ok (.iconst (-1), 1) := by decide +kernel
theorem d_KF_close_11 : decode c_KF_close 11 = .ok (.ireturn, 1) := by decide +kernel
theorem d_KF_close_12 : decode c_KF_close 12 = .ok (.aload_n 2, 1) := by decide +kernel
theorem d_KF_close_13 : decode c_KF_close 13 = .ok (.getfield 55, 3) := by decide +kernel
theorem d_KF_close_16 : decode c_KF_close 16 = .ok (.ifCond .ne 6, 3) := by decide +kernel
theorem d_KF_close_19 : decode c_KF_close 19 = .ok (.bipush 42, 2) := by decide +kernel
theorem d_KF_close_21 : decode c_KF_close 21 = .ok (.ireturn, 1) := by decide +kernel
theorem d_KF_close_22 : decode c_KF_close 22 = .ok (.aload_n 2, 1) := by decide +kernel
theorem d_KF_close_23 : decode c_KF_close 23 = .ok (.invokevirtual 65, 3) := by decide +kernel
theorem d_KF_close_26 : decode c_KF_close 26 = .ok (.aload_n 2, 1) := by decide +kernel
theorem d_KF_close_27 : decode c_KF_close 27 = .ok (.iconst 0, 1) := by decide +kernel
theorem d_KF_close_28 : decode c_KF_close 28 = .ok (.putfield 55, 3) := by decide +kernel
theorem d_KF_close_31 : decode c_KF_close 31 = .ok (.iconst 0, 1) := by decide +kernel
theorem d_KF_close_32 : decode c_KF_close 32 = .ok (.ireturn, 1) := by decide +kernel
theorem d_KF_write_0 : decode c_KF_write 0 = .ok (.aload_n 0, 1) := by decide +kernel
theorem d_KF_write_1 : decode c_KF_write 1 = .ok (.iload_n 1, 1) := by decide +kernel
theorem d_KF_write_2 : decode c_KF_write 2 = .ok (.invokevirtual 51, 3) := by decide +kernel
theorem d_KF_write_5 : decode c_KF_write 5 = .ok (.astore 4, 2) := by decide +kernel
theorem d_KF_write_7 : decode c_KF_write 7 = .ok (.aload 4, 2) := by decide +kernel
theorem d_KF_write_9 : decode c_KF_write 9 = .ok (.ifnonnull 5, 3) := by decide +kernel
theorem d_KF_write_12 : decode c_KF_write 12 = .ok (.iconst (-1), 1) := by decide +kernel
theorem d_KF_write_13 : decode c_KF_write 13 = .ok (.ireturn, 1) := by decide +kernel
theorem d_KF_write_14 : decode c_KF_write 14 = .ok (.aload 4, 2) := by decide +kernel
theorem d_KF_write_16 : decode c_KF_write 16 = .ok (.invokevirtual 68, 3) := by decide +kernel
theorem d_KF_write_19 : decode c_KF_write 19 = .ok (.istore 5, 2) := by decide +kernel
theorem d_KF_write_21 : decode c_KF_write 21 = .ok (.iload 5, 2) := by decide +kernel
theorem d_KF_write_23 : decode c_KF_write 23 = .ok (.ifCond .eq 6, 3) := by decide +kernel
theorem d_KF_write_26 : decode c_KF_write 26 = .ok (.iload 5, 2) := by decide +kernel
theorem d_KF_write_28 : decode c_KF_write 28 = .ok (.ireturn, 1) := by decide +kernel
theorem d_KF_write_29 : decode c_KF_write 29 = .ok (.aload 4, 2) := by decide +kernel
theorem d_KF_write_31 : decode c_KF_write 31 = .ok (.invokevirtual 65, 3) := by decide +kernel
theorem d_KF_write_34 : decode c_KF_write 34 = .ok (.aload 4, 2) := by decide +kernel
theorem d_KF_write_36 : decode c_KF_write 36 = .ok (.getfield 71, 3) := by decide +kernel
theorem d_KF_write_39 : decode c_KF_write 39 = .ok (.ifCond .ne 16, 3) := by decide +kernel
theorem d_KF_write_42 : decode c_KF_write 42 = .ok (.aload_n 0, 1) := by decide +kernel
theorem d_KF_write_43 : decode c_KF_write 43 = .ok (.aload 4, 2) := by decide +kernel
theorem d_KF_write_45 : decode c_KF_write 45 = .ok (.lload_n 2, 1) := by decide +kernel
theorem d_KF_write_46 : decode c_KF_write 46 = .ok (.invokevirtual 75, 3) := by decide +kernel
theorem d_KF_write_49 : decode c_KF_write 49 = .ok (.ifCond .eq 6, 3) := by decide +kernel
theorem d_KF_write_52 : decode c_KF_write 52 = .ok (.bipush 21, 2) := by decide +kernel
theorem d_KF_write_54 : decode c_KF_write 54 = .ok (.ireturn, 1) := by decide +kernel
theorem d_KF_write_55 : decode c_KF_write 55 = .ok (.aload_n 0, 1) := by decide +kernel
theorem d_KF_write_56 : decode c_KF_write 56 = .ok (.lload_n 2, 1) := by decide +kernel
theorem d_KF_write_57 : decode c_KF_write 57 = .ok (.aconst_null, 1) := by decide +kernel
theorem d_KF_write_58 : decode c_KF_write 58 = .ok (.invokevirtual 79, 3) := by decide +kernel
theorem d_KF_write_61 : decode c_KF_write 61 = .ok (.ifCond .eq 6, 3) := by decide +kernel
theorem d_KF_write_64 : decode c_KF_write 64 = .ok (.bipush 22, 2) := by decide +kernel
theorem d_KF_write_66 : decode c_KF_write 66 = .ok (.ireturn, 1) := by decide +kernel
theorem d_KF_write_67 : decode c_KF_write 67 = .ok (.aload_n 0, 1) := by decide +kernel
theorem d_KF_write_68 : decode c_KF_write 68 = .ok (.iconst 0, 1) := by decide +kernel
theorem d_KF_write_69 : decode c_KF_write 69 = .ok (.invokevirtual 83, 3) := by decide +kernel
theorem d_KF_write_72 : decode c_KF_write 72 = .ok (.sipush 300, 3) := by decide +kernel
theorem d_KF_write_75 : decode c_KF_write 75 = .ok (.if_icmp .lt 6, 3) := by decide +kernel
theorem d_KF_write_78 : decode c_KF_write 78 = .ok (.bipush 24, 2) := by decide +kernel
theorem d_KF_write_80 : decode c_KF_write 80 = .ok (.ireturn, 1) := by decide +kernel
theorem d_KF_write_81 : decode c_KF_write 81 = .ok (.aload 4, 2) := by decide +kernel
theorem d_KF_write_83 : decode c_KF_write 83 = .ok (.aload_n 0, 1) := by decide +kernel
theorem d_KF_write_84 : decode c_KF_write 84 = .ok (.iconst 0, 1) := by decide +kernel
theorem d_KF_write_85 : decode c_KF_write 85 = .ok (.lload_n 2, 1) := by decide +kernel
theorem d_KF_write_86 : decode c_KF_write 86 = .ok (.invokevirtual 87, 3) := by decide +kernel
theorem d_KF_write_89 : decode c_KF_write 89 = .ok (.invokevirtual 91, 3) := by decide +kernel
theorem d_KF_write_92 : decode c_KF_write 92 = .ok (.aload_n 0, 1) := by decide +kernel
theorem d_KF_write_93 : decode c_KF_write 93 = .ok (.new 94, 3) := by decide +kernel
theorem d_KF_write_96 : decode c_KF_write 96 = .ok (.dup, 1) := by decide +kernel
theorem d_KF_write_97 : decode c_KF_write 97 = .ok (.lload_n 2, 1) := by decide +kernel
theorem d_KF_write_98 : decode c_KF_write 98 = .ok (.invokespecial 96, 3) := by decide +kernel
theorem d_KF_write_101 : decode c_KF_write 101 = .ok (.invokevirtual 98, 3) := by decide +kernel
theorem d_KF_write_104 : decode c_KF_write 104 = .ok (.ifCond .eq 7, 3) := by decide +kernel
theorem d_KF_write_107 : decode c_KF_write 107 = .ok (.iconst 2, 1) := by decide +kernel
theorem d_KF_write_108 : decode c_KF_write 108 = .ok (.goto 4, 3) := by decide +kernel
theorem d_KF_write_111 : decode c_KF_write 111 = .ok (.iconst 0, 1) := by decide +kernel
theorem d_KF_write_112 : decode c_KF_write 112 = .ok (.ireturn, 1) := by decide +kernel
theorem d_KF_isOutOfOrder_0 : decode c_KF_isOutOfOrder 0 = .ok (.aload_n 0, 1) := by decide +kernel
theorem d_KF_isOutOfOrder_1 : decode c_KF_isOutOfOrder 1 = .ok (.iconst 0, 1) := by decide +kernel
theorem d_KF_isOutOfOrder_2 : decode c_KF_isOutOfOrder 2 = .ok (.lload_n 2, 1) := by decide +kernel
theorem d_KF_isOutOfOrder_3 : decode c_KF_isOutOfOrder 3 = .ok (.invokevirtual 87, 3) := by decide +kernel
theorem d_KF_isOutOfOrder_6 : decode c_KF_isOutOfOrder 6 = .ok (.lstore 4, 2) := by decide +kernel
theorem d_KF_isOutOfOrder_8 : decode c_KF_isOutOfOrder 8 = .ok (.aload_n 1, 1) := by decide +kernel
theorem d_KF_isOutOfOrder_9 : decode c_KF_isOutOfOrder 9 = .ok (.getfield 199, 3) := by decide +kernel
theorem d_KF_isOutOfOrder_12 : decode c_KF_isOutOfOrder 12 = .ok (.ifCond .eq 17, 3) := by decide +kernel
theorem d_KF_isOutOfOrder_15 : decode c_KF_isOutOfOrder 15 = .ok (.aload_n 1, 1) := by decide +kernel
theorem d_KF_isOutOfOrder_16 : decode c_KF_isOutOfOrder 16 = .ok (.getfield 202, 3) := by decide +kernel
theorem d_KF_isOutOfOrder_19 : decode c_KF_isOutOfOrder 19 = .ok (.lload 4, 2) := by decide +kernel
theorem d_KF_isOutOfOrder_21 : decode c_KF_isOutOfOrder 21 = .ok (.invokestatic 205, 3) := by decide +kernel
theorem d_KF_isOutOfOrder_24 : decode c_KF_isOutOfOrder 24 = .ok (.ifCond .ne 5, 3) := by decide +kernel
theorem d_KF_isOutOfOrder_27 : decode c_KF_isOutOfOrder 27 = .ok (.iconst 1, 1) := by decide +kernel
theorem d_KF_isOutOfOrder_28 : decode c_KF_isOutOfOrder 28 = .ok (.ireturn, 1) := by decide +kernel
theorem d_KF_isOutOfOrder_29 : decode c_KF_isOutOfOrder 29 = .ok (.aload_n 0, 1) := by decide +kernel
theorem d_KF_isOutOfOrder_30 : decode c_KF_isOutOfOrder 30 = .ok (.iconst 0, 1) := by decide +kernel
theorem d_KF_isOutOfOrder_31 : decode c_KF_isOutOfOrder 31 = .ok (.invokevirtual 36, 3) := by decide +kernel
theorem d_KF_isOutOfOrder_34 : decode c_KF_isOutOfOrder 34 = .ok (.astore 6, 2) := by decide +kernel
theorem d_KF_isOutOfOrder_36 : decode c_KF_isOutOfOrder 36 = .ok (.aload 6, 2) := by decide +kernel
theorem d_KF_isOutOfOrder_38 : decode c_KF_isOutOfOrder 38 = .ok (.ifnonnull 7, 3) := by decide +kernel
theorem d_KF_isOutOfOrder_41 : decode c_KF_isOutOfOrder 41 = .ok (.aconst_null, 1) := by decide +kernel
theorem d_KF_isOutOfOrder_42 : decode c_KF_isOutOfOrder 42 = .ok (.goto 18, 3) := by decide +kernel
theorem d_KF_isOutOfOrder_45 : decode c_KF_isOutOfOrder 45 = .ok (.aload 6, 2) := by decide +kernel
theorem d_KF_isOutOfOrder_47 : decode c_KF_isOutOfOrder 47 = .ok (.aload 6, 2) := by decide +kernel
theorem d_KF_isOutOfOrder_49 : decode c_KF_isOutOfOrder 49 = .ok (.getfield 188, 3) := by decide +kernel
theorem d_KF_isOutOfOrder_52 : decode c_KF_isOutOfOrder 52 = .ok (.invokevirtual 19, 3) := by decide +kernel
theorem d_KF_isOutOfOrder_55 : decode c_KF_isOutOfOrder 55 = .ok (.iconst 1, 1) := by decide +kernel
theorem d_KF_isOutOfOrder_56 : decode c_KF_isOutOfOrder 56 = .ok (.isub, 1) := by decide +kernel
theorem d_KF_isOutOfOrder_57 : decode c_KF_isOutOfOrder 57 = .ok (.invokevirtual 167, 3) := by decide +kernel
theorem d_KF_isOutOfOrder_60 : decode c_KF_isOutOfOrder 60 = .ok (.astore 7, 2) := by decide +kernel
theorem d_KF_isOutOfOrder_62 : decode c_KF_isOutOfOrder 62 = .ok (.aload_n 1, 1) := by decide +kernel
theorem d_KF_isOutOfOrder_63 : decode c_KF_isOutOfOrder 63 = .ok (.getfield 209, 3) := by decide +kernel
theorem d_KF_isOutOfOrder_66 : decode c_KF_isOutOfOrder 66 = .ok (.iconst 3, 1) := by decide +kernel
theorem d_KF_isOutOfOrder_67 : decode c_KF_isOutOfOrder 67 = .ok (.if_icmp .ne 25, 3) := by decide +kernel
theorem d_KF_isOutOfOrder_70 : decode c_KF_isOutOfOrder 70 = .ok (.aload 7, 2) := by decide +kernel
theorem d_KF_isOutOfOrder_72 : decode c_KF_isOutOfOrder 72 = .ok (.ifnull 20, 3) := by decide +kernel
theorem d_KF_isOutOfOrder_75 : decode c_KF_isOutOfOrder 75 = .ok (.aload 7, 2) := by decide +kernel
theorem d_KF_isOutOfOrder_77 : decode c_KF_isOutOfOrder 77 = .ok (.getfield 212, 3) := by decide +kernel
theorem d_KF_isOutOfOrder_80 : decode c_KF_isOutOfOrder 80 = .ok (.lload 4, 2) := by decide +kernel
theorem d_KF_isOutOfOrder_82 : decode c_KF_isOutOfOrder 82 = .ok (.invokestatic 205, 3) := by decide +kernel
theorem d_KF_isOutOfOrder_85 : decode c_KF_isOutOfOrder 85 = .ok (.ifCond .ne 7, 3) := by decide +kernel
theorem d_KF_isOutOfOrder_88 : decode c_KF_isOutOfOrder 88 = .ok (.iconst 1, 1) := by decide +kernel
theorem d_KF_isOutOfOrder_89 : decode c_KF_isOutOfOrder 89 = .ok (.goto 4, 3) := by decide +kernel
theorem d_KF_isOutOfOrder_92 : decode c_KF_isOutOfOrder 92 = .ok (.iconst 0, 1) := by decide +kernel
theorem d_KF_isOutOfOrder_93 : decode c_KF_isOutOfOrder 93 = .ok (.ireturn, 1) := by decide +kernel
theorem d_KF_fieldOf_0 : decode c_KF_fieldOf 0 = .ok (.aload_n 0, 1) := by decide +kernel
theorem d_KF_fieldOf_1 : decode c_KF_fieldOf 1 = .ok (.iload_n 1, 1) := by decide +kernel
theorem d_KF_fieldOf_2 : decode c_KF_fieldOf 2 = .ok (.invokevirtual 36, 3) := by decide +kernel
theorem d_KF_fieldOf_5 : decode c_KF_fieldOf 5 = .ok (.astore 4, 2) := by decide +kernel
theorem d_KF_fieldOf_7 : decode c_KF_fieldOf 7 = .ok (.aload 4, 2) := by decide +kernel
theorem d_KF_fieldOf_9 : decode c_KF_fieldOf 9 = .ok (.ifnonnull 7, 3) := by decide +kernel
theorem d_KF_fieldOf_12 : decode c_KF_fieldOf 12 = .ok (.lconst 0, 1) := by decide +kernel
theorem d_KF_fieldOf_13 : decode c_KF_fieldOf 13 = .ok (.goto 9, 3) := by decide +kernel
theorem d_KF_fieldOf_16 : decode c_KF_fieldOf 16 = .ok (.aload 4, 2) := by decide +kernel
theorem d_KF_fieldOf_18 : decode c_KF_fieldOf 18 = .ok (.lload_n 2, 1) := by decide +kernel
theorem d_KF_fieldOf_19 : decode c_KF_fieldOf 19 = .ok (.invokevirtual 195, 3) := by decide +kernel
theorem d_KF_fieldOf_22 : decode c_KF_fieldOf 22 = .ok (.lreturn, 1) := by decide +kernel
theorem d_KF_isBelow_0 : decode c_KF_isBelow 0 = .ok (.lload_n 0, 1) := by decide +kernel
theorem d_KF_isBelow_1 : decode c_KF_isBelow 1 = .ok (.ldc2_w 251, 3) := by decide +kernel
theorem d_KF_isBelow_4 : decode c_KF_isBelow 4 = .ok (.lxor, 1) := by decide +kernel
theorem d_KF_isBelow_5 : decode c_KF_isBelow 5 = .ok (.lload_n 2, 1) := by decide +kernel
theorem d_KF_isBelow_6 : decode c_KF_isBelow 6 = .ok (.ldc2_w 251, 3) := by decide +kernel
theorem d_KF_isBelow_9 : decode c_KF_isBelow 9 = .ok (.lxor, 1) := by decide +kernel
theorem d_KF_isBelow_10 : decode c_KF_isBelow 10 = .ok (.lcmp, 1) := by decide +kernel
theorem d_KF_isBelow_11 : decode c_KF_isBelow 11 = .ok (.ifCond .ge 7, 3) := by decide +kernel
theorem d_KF_isBelow_14 : decode c_KF_isBelow 14 = .ok (.iconst 1, 1) := by decide +kernel
theorem d_KF_isBelow_15 : decode c_KF_isBelow 15 = .ok (.goto 4, 3) := by decide +kernel
theorem d_KF_isBelow_18 : decode c_KF_isBelow 18 = .ok (.iconst 0, 1) := by decide +kernel
theorem d_KF_isBelow_19 : decode c_KF_isBelow 19 = .ok (.ireturn, 1) := by decide +kernel
theorem d_KF_hasBarredDouble_0 : decode c_KF_hasBarredDouble 0 = .ok (.iconst 0, 1) := by decide +kernel
theorem d_KF_hasBarredDouble_1 : decode c_KF_hasBarredDouble 1 = .ok (.istore 4, 2) := by decide +kernel
theorem d_KF_hasBarredDouble_3 : decode c_KF_hasBarredDouble 3 = .ok (.iload 4, 2) := by decide +kernel
theorem d_KF_hasBarredDouble_5 : decode c_KF_hasBarredDouble 5 = .ok (.aload_n 0, 1) := by decide +kernel
theorem d_KF_hasBarredDouble_6 : decode c_KF_hasBarredDouble 6 = .ok (.getfield 10, 3) := by decide +kernel
theorem d_KF_hasBarredDouble_9 : decode c_KF_hasBarredDouble 9 = .ok (.invokevirtual 19, 3) := by decide +kernel
theorem d_KF_hasBarredDouble_12 : decode c_KF_hasBarredDouble 12 = .ok (.if_icmp .ge 60, 3) := by decide +kernel
theorem d_KF_hasBarredDouble_15 : decode c_KF_hasBarredDouble 15 = .ok (.aload_n 0, 1) := by decide +kernel
theorem d_KF_hasBarredDouble_16 : decode c_KF_hasBarredDouble 16 = .ok (.getfield 10, 3) := by decide +kernel
theorem d_KF_hasBarredDouble_19 : decode c_KF_hasBarredDouble 19 = .ok (.iload 4, 2) := by decide +kernel
theorem d_KF_hasBarredDouble_21 : decode c_KF_hasBarredDouble 21 = .ok (.invokevirtual 177, 3) := by decide +kernel
theorem d_KF_hasBarredDouble_24 : decode c_KF_hasBarredDouble 24 = .ok (.checkcast 27, 3) := by decide +kernel
theorem d_KF_hasBarredDouble_27 : decode c_KF_hasBarredDouble 27 = .ok (.astore 5, 2) := by decide +kernel
theorem d_KF_hasBarredDouble_29 : decode c_KF_hasBarredDouble 29 = .ok (.aload 5, 2) := by decide +kernel
theorem d_KF_hasBarredDouble_31 : decode c_KF_hasBarredDouble 31 = .ok (.aload 5, 2) := by decide +kernel
theorem d_KF_hasBarredDouble_33 : decode c_KF_hasBarredDouble 33 = .ok (.lload_n 1, 1) := by decide +kernel
theorem d_KF_hasBarredDouble_34 : decode c_KF_hasBarredDouble 34 = .ok (.invokevirtual 195, 3) := by decide +kernel
theorem d_KF_hasBarredDouble_37 : decode c_KF_hasBarredDouble 37 = .ok (.invokevirtual 108, 3) := by decide +kernel
theorem d_KF_hasBarredDouble_40 : decode c_KF_hasBarredDouble 40 = .ok (.astore 6, 2) := by decide +kernel
theorem d_KF_hasBarredDouble_42 : decode c_KF_hasBarredDouble 42 = .ok (.aload 5, 2) := by decide +kernel
theorem d_KF_hasBarredDouble_44 : decode c_KF_hasBarredDouble 44 = .ok (.getfield 215, 3) := by decide +kernel
theorem d_KF_hasBarredDouble_47 : decode c_KF_hasBarredDouble 47 = .ok (.ifCond .ne 19, 3) := by decide +kernel
theorem d_KF_hasBarredDouble_50 : decode c_KF_hasBarredDouble 50 = .ok (.aload 6, 2) := by decide +kernel
theorem d_KF_hasBarredDouble_52 : decode c_KF_hasBarredDouble 52 = .ok (.ifnull 14, 3) := by decide +kernel
theorem d_KF_hasBarredDouble_55 : decode c_KF_hasBarredDouble 55 = .ok (.aload 6, 2) := by decide +kernel
theorem d_KF_hasBarredDouble_57 : decode c_KF_hasBarredDouble 57 = .ok (.getfield 171, 3) := by decide +kernel
theorem d_KF_hasBarredDouble_60 : decode c_KF_hasBarredDouble 60 = .ok (.aload_n 3, 1) := by decide +kernel
theorem d_KF_hasBarredDouble_61 : decode c_KF_hasBarredDouble 61 = .ok (.if_acmp .eq 5, 3) := by decide +kernel
theorem d_KF_hasBarredDouble_64 : decode c_KF_hasBarredDouble 64 = .ok (.iconst 1, 1) := by decide +kernel
theorem d_KF_hasBarredDouble_65 : decode c_KF_hasBarredDouble 65 = .ok (.ireturn, 1) := by decide +kernel
theorem d_KF_hasBarredDouble_66 : decode c_KF_hasBarredDouble 66 = .ok (.iinc 4 1, 3) := by decide +kernel
theorem d_KF_hasBarredDouble_69 : decode c_KF_hasBarredDouble 69 = .ok (.goto (-66), 3) := by decide +kernel
theorem d_KF_hasBarredDouble_72 : decode c_KF_hasBarredDouble 72 = .ok (.iconst 0, 1) := by decide +kernel
theorem d_KF_hasBarredDouble_73 : decode c_KF_hasBarredDouble 73 = .ok (.ireturn, 1) := by decide +kernel
theorem d_KF_entryCount_0 : decode c_KF_entryCount 0 = .ok (.aload_n 0, 1) := by decide +kernel
theorem d_KF_entryCount_1 : decode c_KF_entryCount 1 = .ok (.iload_n 1, 1) := by decide +kernel
theorem d_KF_entryCount_2 : decode c_KF_entryCount 2 = .ok (.invokevirtual 36, 3) := by decide +kernel
theorem d_KF_entryCount_5 : decode c_KF_entryCount 5 = .ok (.astore_n 2, 1) := by decide +kernel
theorem d_KF_entryCount_6 : decode c_KF_entryCount 6 = .ok (.aload_n 2, 1) := by decide +kernel
theorem d_KF_entryCount_7 : decode c_KF_entryCount 7 = .ok (.ifnonnull 7, 3) := by decide +kernel
theorem d_KF_entryCount_10 : decode c_KF_entryCount 10 = .ok (.iconst 0, 1) := by decide +kernel
theorem d_KF_entryCount_11 : decode c_KF_entryCount 11 = .ok (.goto 10, 3) := by decide +kernel
theorem d_KF_entryCount_14 : decode c_KF_entryCount 14 = .ok (.aload_n 2, 1) := by decide +kernel
theorem d_KF_entryCount_15 : decode c_KF_entryCount 15 = .ok (.getfield 188, 3) := by decide +kernel
theorem d_KF_entryCount_18 : decode c_KF_entryCount 18 = .ok (.invokevirtual 19, 3) := by decide +kernel
theorem d_KF_entryCount_21 : decode c_KF_entryCount 21 = .ok (.ireturn, 1) := by decide +kernel
theorem d_KF_enterUnderAllKeys_0 : decode c_KF_enterUnderAllKeys 0 = .ok (.iconst 0, 1) := by decide +kernel
theorem d_KF_enterUnderAllKeys_1 : decode c_KF_enterUnderAllKeys 1 = .ok (.istore_n 2, 1) := by decide +kernel
theorem d_KF_enterUnderAllKeys_2 : decode c_KF_enterUnderAllKeys 2 = .ok (.iconst 0, 1) := by decide +kernel
theorem d_KF_enterUnderAllKeys_3 : decode c_KF_enterUnderAllKeys 3 = .ok (.istore_n 3, 1) := by decide +kernel
theorem d_KF_enterUnderAllKeys_4 : decode c_KF_enterUnderAllKeys 4 = .ok (.iload_n 3, 1) := by decide +kernel
theorem d_KF_enterUnderAllKeys_5 : decode c_KF_enterUnderAllKeys 5 = .ok (.aload_n 0, 1) := by decide +kernel
theorem d_KF_enterUnderAllKeys_6 : decode c_KF_enterUnderAllKeys 6 = .ok (.getfield 10, 3) := by decide +kernel
theorem d_KF_enterUnderAllKeys_9 : decode c_KF_enterUnderAllKeys 9 = .ok (.invokevirtual 19, 3) := by decide +kernel
theorem d_KF_enterUnderAllKeys_12 : decode c_KF_enterUnderAllKeys 12 = .ok (.if_icmp .ge 30, 3) := by decide +kernel
theorem d_KF_enterUnderAllKeys_15 : decode c_KF_enterUnderAllKeys 15 = .ok (.aload_n 0, 1) := by decide +kernel
theorem d_KF_enterUnderAllKeys_16 : decode c_KF_enterUnderAllKeys 16 = .ok (.aload_n 0, 1) := by decide +kernel
theorem d_KF_enterUnderAllKeys_17 : decode c_KF_enterUnderAllKeys 17 = .ok (.getfield 10, 3) := by decide +kernel
theorem d_KF_enterUnderAllKeys_20 : decode c_KF_enterUnderAllKeys 20 = .ok (.iload_n 3, 1) := by decide +kernel
theorem d_KF_enterUnderAllKeys_21 : decode c_KF_enterUnderAllKeys 21 = .ok (.invokevirtual 177, 3) := by decide +kernel
theorem d_KF_enterUnderAllKeys_24 : decode c_KF_enterUnderAllKeys 24 = .ok (.checkcast 27, 3) := by decide +kernel
theorem d_KF_enterUnderAllKeys_27 : decode c_KF_enterUnderAllKeys 27 = .ok (.aload_n 1, 1) := by decide +kernel
theorem d_KF_enterUnderAllKeys_28 : decode c_KF_enterUnderAllKeys 28 = .ok (.invokevirtual 218, 3) := by decide +kernel
theorem d_KF_enterUnderAllKeys_31 : decode c_KF_enterUnderAllKeys 31 = .ok (.ifCond .eq 5, 3) := by decide +kernel
theorem d_KF_enterUnderAllKeys_34 : decode c_KF_enterUnderAllKeys 34 = .ok (.iconst 1, 1) := by decide +kernel
theorem d_KF_enterUnderAllKeys_35 : decode c_KF_enterUnderAllKeys 35 = .ok (.istore_n 2, 1) := by decide +kernel
theorem d_KF_enterUnderAllKeys_36 : decode c_KF_enterUnderAllKeys 36 = .ok (.iinc 3 1, 3) := by decide +kernel
theorem d_KF_enterUnderAllKeys_39 : decode c_KF_enterUnderAllKeys 39 = .ok (.goto (-35), 3) := by decide +kernel
theorem d_KF_enterUnderAllKeys_42 : decode c_KF_enterUnderAllKeys 42 = .ok (.iload_n 2, 1) := by decide +kernel
theorem d_KF_enterUnderAllKeys_43 : decode c_KF_enterUnderAllKeys 43 = .ok (.ireturn, 1) := by decide +kernel
theorem d_KF_enterUnder_0 : decode c_KF_enterUnder 0 = .ok (.aload_n 0, 1) := by decide +kernel
theorem d_KF_enterUnder_1 : decode c_KF_enterUnder 1 = .ok (.dup, 1) := by decide +kernel
theorem d_KF_enterUnder_2 : decode c_KF_enterUnder 2 = .ok (.getfield 222, 3) := by decide +kernel
theorem d_KF_enterUnder_5 : decode c_KF_enterUnder 5 = .ok (.lconst 1, 1) := by decide +kernel
theorem d_KF_enterUnder_6 : decode c_KF_enterUnder 6 = .ok (.ladd, 1) := by decide +kernel
theorem d_KF_enterUnder_7 : decode c_KF_enterUnder 7 = .ok (.putfield 222, 3) := by decide +kernel
theorem d_KF_enterUnder_10 : decode c_KF_enterUnder 10 = .ok (.aload_n 1, 1) := by decide +kernel
theorem d_KF_enterUnder_11 : decode c_KF_enterUnder 11 = .ok (.aload_n 2, 1) := by decide +kernel
theorem d_KF_enterUnder_12 : decode c_KF_enterUnder 12 = .ok (.aload_n 0, 1) := by decide +kernel
theorem d_KF_enterUnder_13 : decode c_KF_enterUnder 13 = .ok (.getfield 222, 3) := by decide +kernel
theorem d_KF_enterUnder_16 : decode c_KF_enterUnder 16 = .ok (.invokevirtual 225, 3) := by decide +kernel
theorem d_KF_enterUnder_19 : decode c_KF_enterUnder 19 = .ok (.ireturn, 1) := by decide +kernel
theorem d_KF_read_0 : decode c_KF_read 0 = .ok (.aload_n 0, 1) := by decide +kernel
theorem d_KF_read_1 : decode c_KF_read 1 = .ok (.iload_n 1, 1) := by decide +kernel
theorem d_KF_read_2 : decode c_KF_read 2 = .ok (.invokevirtual 51, 3) := by decide +kernel
theorem d_KF_read_5 : decode c_KF_read 5 = .ok (.astore 5, 2) := by decide +kernel
theorem d_KF_read_7 : decode c_KF_read 7 = .ok (.aload_n 0, 1) := by decide +kernel
theorem d_KF_read_8 : decode c_KF_read 8 = .ok (.iload_n 2, 1) := by decide +kernel
theorem d_KF_read_9 : decode c_KF_read 9 = .ok (.invokevirtual 36, 3) := by decide +kernel
theorem d_KF_read_12 : decode c_KF_read 12 = .ok (.astore 6, 2) := by decide +kernel
theorem d_KF_read_14 : decode c_KF_read 14 = .ok (.aload 5, 2) := by decide +kernel
theorem d_KF_read_16 : decode c_KF_read 16 = .ok (.ifnull 8, 3) := by decide +kernel
theorem d_KF_read_19 : decode c_KF_read 19 = .ok (.aload 6, 2) := by decide +kernel
theorem d_KF_read_21 : decode c_KF_read 21 = .ok (.ifnonnull 5, 3) := by decide +kernel
theorem d_KF_read_24 : decode c_KF_read 24 = .ok (.iconst (-1), 1) := by decide +kernel
theorem d_KF_read_25 : decode c_KF_read 25 = .ok (.ireturn, 1) := by decide +kernel
theorem d_KF_read_26 : decode c_KF_read 26 = .ok (.aload 5, 2) := by decide +kernel
theorem d_KF_read_28 : decode c_KF_read 28 = .ok (.iconst 0, 1) := by decide +kernel
theorem d_KF_read_29 : decode c_KF_read 29 = .ok (.invokevirtual 102, 3) := by decide +kernel
theorem d_KF_read_32 : decode c_KF_read 32 = .ok (.istore 7, 2) := by decide +kernel
theorem d_KF_read_34 : decode c_KF_read 34 = .ok (.iload 7, 2) := by decide +kernel
theorem d_KF_read_36 : decode c_KF_read 36 = .ok (.ifCond .eq 6, 3) := by decide +kernel
theorem d_KF_read_39 : decode c_KF_read 39 = .ok (.iload 7, 2) := by decide +kernel
theorem d_KF_read_41 : decode c_KF_read 41 = .ok (.ireturn, 1) := by decide +kernel
theorem d_KF_read_42 : decode c_KF_read 42 = .ok (.aload 5, 2) := by decide +kernel
theorem d_KF_read_44 : decode c_KF_read 44 = .ok (.invokevirtual 65, 3) := by decide +kernel
theorem d_KF_read_47 : decode c_KF_read 47 = .ok (.aload 5, 2) := by decide +kernel
theorem d_KF_read_49 : decode c_KF_read 49 = .ok (.iload_n 2, 1) := by decide +kernel
theorem d_KF_read_50 : decode c_KF_read 50 = .ok (.putfield 105, 3) := by decide +kernel
theorem d_KF_read_53 : decode c_KF_read 53 = .ok (.aload 6, 2) := by decide +kernel
theorem d_KF_read_55 : decode c_KF_read 55 = .ok (.lload_n 3, 1) := by decide +kernel
theorem d_KF_read_56 : decode c_KF_read 56 = .ok (.invokevirtual 108, 3) := by decide +kernel
theorem d_KF_read_59 : decode c_KF_read 59 = .ok (.astore 8, 2) := by decide +kernel
theorem d_KF_read_61 : decode c_KF_read 61 = .ok (.aload 8, 2) := by decide +kernel
theorem d_KF_read_63 : decode c_KF_read 63 = .ok (.ifnonnull 11, 3) := by decide +kernel
theorem d_KF_read_66 : decode c_KF_read 66 = .ok (.aload 5, 2) := by decide +kernel
theorem d_KF_read_68 : decode c_KF_read 68 = .ok (.invokevirtual 112, 3) := by decide +kernel
theorem d_KF_read_71 : decode c_KF_read 71 = .ok (.bipush 23, 2) := by decide +kernel
theorem d_KF_read_73 : decode c_KF_read 73 = .ok (.ireturn, 1) := by decide +kernel
theorem d_KF_read_74 : decode c_KF_read 74 = .ok (.aload 5, 2) := by decide +kernel
theorem d_KF_read_76 : decode c_KF_read 76 = .ok (.aload 6, 2) := by decide +kernel
theorem d_KF_read_78 : decode c_KF_read 78 = .ok (.aload 8, 2) := by decide +kernel
theorem d_KF_read_80 : decode c_KF_read 80 = .ok (.iconst 0, 1) := by decide +kernel
theorem d_KF_read_81 : decode c_KF_read 81 = .ok (.invokestatic 115, 3) := by decide +kernel
theorem d_KF_read_84 : decode c_KF_read 84 = .ok (.ireturn, 1) := by decide +kernel
theorem d_KF_handOver_0 : decode c_KF_handOver 0 = .ok (.aload_n 0, 1) := by decide +kernel
theorem d_KF_handOver_1 : decode c_KF_handOver 1 = .ok (.aload_n 2, 1) := by decide +kernel
theorem d_KF_handOver_2 : decode c_KF_handOver 2 = .ok (.invokevirtual 241, 3) := by decide +kernel
theorem d_KF_handOver_5 : decode c_KF_handOver 5 = .ok (.aload_n 1, 1) := by decide +kernel
theorem d_KF_handOver_6 : decode c_KF_handOver 6 = .ok (.aload_n 2, 1) := by decide +kernel
theorem d_KF_handOver_7 : decode c_KF_handOver 7 = .ok (.iload_n 3, 1) := by decide +kernel
theorem d_KF_handOver_8 : decode c_KF_handOver 8 = .ok (.invokevirtual 244, 3) := by decide +kernel
theorem d_KF_handOver_11 : decode c_KF_handOver 11 = .ok (.ifCond .eq 7, 3) := by decide +kernel
theorem d_KF_handOver_14 : decode c_KF_handOver 14 = .ok (.iconst 2, 1) := by decide +kernel
theorem d_KF_handOver_15 : decode c_KF_handOver 15 = .ok (.goto 4, 3) := by decide +kernel
theorem d_KF_handOver_18 : decode c_KF_handOver 18 = .ok (.iconst 0, 1) := by decide +kernel
theorem d_KF_handOver_19 : decode c_KF_handOver 19 = .ok (.ireturn, 1) := by decide +kernel
theorem d_KF_value_0 : decode c_KF_value 0 = .ok (.aload_n 0, 1) := by decide +kernel
theorem d_KF_value_1 : decode c_KF_value 1 = .ok (.iload_n 1, 1) := by decide +kernel
theorem d_KF_value_2 : decode c_KF_value 2 = .ok (.invokevirtual 51, 3) := by decide +kernel
theorem d_KF_value_5 : decode c_KF_value 5 = .ok (.astore_n 2, 1) := by decide +kernel
theorem d_KF_value_6 : decode c_KF_value 6 = .ok (.aload_n 2, 1) := by decide +kernel
theorem d_KF_value_7 : decode c_KF_value 7 = .ok (.ifnonnull 7, 3) := by decide +kernel
theorem d_KF_value_10 : decode c_KF_value 10 = .ok (.lconst 0, 1) := by decide +kernel
theorem d_KF_value_11 : decode c_KF_value 11 = .ok (.goto 7, 3) := by decide +kernel
theorem d_KF_value_14 : decode c_KF_value 14 = .ok (.aload_n 2, 1) := by decide +kernel
theorem d_KF_value_15 : decode c_KF_value 15 = .ok (.getfield 119, 3) := by decide +kernel
theorem d_KF_value_18 : decode c_KF_value 18 = .ok (.lreturn, 1) := by decide +kernel
theorem d_KF_start_0 : decode c_KF_start 0 = .ok (.aload_n 0, 1) := by decide +kernel
theorem d_KF_start_1 : decode c_KF_start 1 = .ok (.iload_n 1, 1) := by decide +kernel
theorem d_KF_start_2 : decode c_KF_start 2 = .ok (.invokevirtual 51, 3) := by decide +kernel
theorem d_KF_start_5 : decode c_KF_start 5 = .ok (.astore 7, 2) := by decide +kernel
theorem d_KF_start_7 : decode c_KF_start 7 = .ok (.aload_n 0, 1) := by decide +kernel
theorem d_KF_start_8 : decode c_KF_start 8 = .ok (.iload_n 2, 1) := by decide +kernel
theorem d_KF_start_9 : decode c_KF_start 9 = .ok (.invokevirtual 36, 3) := by decide +kernel
theorem d_KF_start_12 : decode c_KF_start 12 = .ok (.astore 8, 2) := by decide +kernel
theorem d_KF_start_14 : decode c_KF_start 14 = .ok (.aload 7, 2) := by decide +kernel
theorem d_KF_start_16 : decode c_KF_start 16 = .ok (.ifnull 17, 3) := by decide +kernel
theorem d_KF_start_19 : decode c_KF_start 19 = .ok (.aload 8, 2) := by decide +kernel
theorem d_KF_start_21 : decode c_KF_start 21 = .ok (.ifnull 12, 3) := by decide +kernel
theorem d_KF_start_24 : decode c_KF_start 24 = .ok (.iload_n 3, 1) := by decide +kernel
theorem d_KF_start_25 : decode c_KF_start 25 = .ok (.ifCond .lt 8, 3) := by decide +kernel
theorem d_KF_start_28 : decode c_KF_start 28 = .ok (.iload_n 3, 1) := by decide +kernel
theorem d_KF_start_29 : decode c_KF_start 29 = .ok (.iconst 4, 1) := by decide +kernel
theorem d_KF_start_30 : decode c_KF_start 30 = .ok (.if_icmp .le 5, 3) := by decide +kernel
theorem d_KF_start_33 : decode c_KF_start 33 = .ok (.iconst (-1), 1) := by decide +kernel
theorem d_KF_start_34 : decode c_KF_start 34 = .ok (.ireturn, 1) := by decide +kernel
theorem d_KF_start_35 : decode c_KF_start 35 = .ok (.iload 6, 2) := by decide +kernel
theorem d_KF_start_37 : decode c_KF_start 37 = .ok (.iconst 1, 1) := by decide +kernel
theorem d_KF_start_38 : decode c_KF_start 38 = .ok (.if_icmp .lt 13, 3) := by decide +kernel
theorem d_KF_start_41 : decode c_KF_start 41 = .ok (.iload 6, 2) := by decide +kernel
theorem d_KF_start_43 : decode c_KF_start 43 = .ok (.aload 8, 2) := by decide +kernel
theorem d_KF_start_45 : decode c_KF_start 45 = .ok (.getfield 123, 3) := by decide +kernel
theorem d_KF_start_48 : decode c_KF_start 48 = .ok (.if_icmp .le 5, 3) := by decide +kernel
theorem d_KF_start_51 : decode c_KF_start 51 = .ok (.iconst (-1), 1) := by decide +kernel
theorem d_KF_start_52 : decode c_KF_start 52 = .ok (.ireturn, 1) := by decide +kernel
theorem d_KF_start_53 : decode c_KF_start 53 = .ok (.aload 7, 2) := by decide +kernel
theorem d_KF_start_55 : decode c_KF_start 55 = .ok (.iconst 1, 1) := by decide +kernel
theorem d_KF_start_56 : decode c_KF_start 56 = .ok (.invokevirtual 102, 3) := by decide +kernel
theorem d_KF_start_59 : decode c_KF_start 59 = .ok (.istore 9, 2) := by decide +kernel
theorem d_KF_start_61 : decode c_KF_start 61 = .ok (.iload 9, 2) := by decide +kernel
theorem d_KF_start_63 : decode c_KF_start 63 = .ok (.ifCond .eq 6, 3) := by decide +kernel
theorem d_KF_start_66 : decode c_KF_start 66 = .ok (.iload 9, 2) := by decide +kernel
theorem d_KF_start_68 : decode c_KF_start 68 = .ok (.ireturn, 1) := by decide +kernel
theorem d_KF_start_69 : decode c_KF_start 69 = .ok (.aload 7, 2) := by decide +kernel
theorem d_KF_start_71 : decode c_KF_start 71 = .ok (.invokevirtual 65, 3) := by decide +kernel
theorem d_KF_start_74 : decode c_KF_start 74 = .ok (.aload 7, 2) := by decide +kernel
theorem d_KF_start_76 : decode c_KF_start 76 = .ok (.iload_n 2, 1) := by decide +kernel
theorem d_KF_start_77 : decode c_KF_start 77 = .ok (.putfield 105, 3) := by decide +kernel
theorem d_KF_start_80 : decode c_KF_start 80 = .ok (.aload 8, 2) := by decide +kernel
theorem d_KF_start_82 : decode c_KF_start 82 = .ok (.iload_n 3, 1) := by decide +kernel
theorem d_KF_start_83 : decode c_KF_start 83 = .ok (.lload 4, 2) := by decide +kernel
theorem d_KF_start_85 : decode c_KF_start 85 = .ok (.iload 6, 2) := by decide +kernel
theorem d_KF_start_87 : decode c_KF_start 87 = .ok (.invokevirtual 125, 3) := by decide +kernel
theorem d_KF_start_90 : decode c_KF_start 90 = .ok (.astore 10, 2) := by decide +kernel
theorem d_KF_start_92 : decode c_KF_start 92 = .ok (.aload 10, 2) := by decide +kernel
theorem d_KF_start_94 : decode c_KF_start 94 = .ok (.ifnonnull 11, 3) := by decide +kernel
theorem d_KF_start_97 : decode c_KF_start 97 = .ok (.aload 7, 2) := by decide +kernel
theorem d_KF_start_99 : decode c_KF_start 99 = .ok (.invokevirtual 112, 3) := by decide +kernel
theorem d_KF_start_102 : decode c_KF_start 102 = .ok (.bipush 23, 2) := by decide +kernel
theorem d_KF_start_104 : decode c_KF_start 104 = .ok (.ireturn, 1) := by decide +kernel
theorem d_KF_start_105 : decode c_KF_start 105 = .ok (.aload 7, 2) := by decide +kernel
theorem d_KF_start_107 : decode c_KF_start 107 = .ok (.aload 10, 2) := by decide +kernel
theorem d_KF_start_109 : decode c_KF_start 109 = .ok (.invokevirtual 129, 3) := by decide +kernel
theorem d_KF_start_112 : decode c_KF_start 112 = .ok (.iconst 0, 1) := by decide +kernel
theorem d_KF_start_113 : decode c_KF_start 113 = .ok (.ireturn, 1) := by decide +kernel
theorem d_KF_next_0 : decode c_KF_next 0 = .ok (.aload_n 0, 1) := by decide +kernel
theorem d_KF_next_1 : decode c_KF_next 1 = .ok (.iload_n 1, 1) := by decide +kernel
theorem d_KF_next_2 : decode c_KF_next 2 = .ok (.invokevirtual 51, 3) := by decide +kernel
theorem d_KF_next_5 : decode c_KF_next 5 = .ok (.astore_n 3, 1) := by decide +kernel
theorem d_KF_next_6 : decode c_KF_next 6 = .ok (.aload_n 3, 1) := by decide +kernel
theorem d_KF_next_7 : decode c_KF_next 7 = .ok (.ifnonnull 5, 3) := by decide +kernel
theorem d_KF_next_10 : decode c_KF_next 10 = .ok (.iconst (-1), 1) := by decide +kernel
theorem d_KF_next_11 : decode c_KF_next 11 = .ok (.ireturn, 1) := by decide +kernel
theorem d_KF_next_12 : decode c_KF_next 12 = .ok (.aload_n 3, 1) := by decide +kernel
theorem d_KF_next_13 : decode c_KF_next 13 = .ok (.iconst 1, 1) := by decide +kernel
theorem d_KF_next_14 : decode c_KF_next 14 = .ok (.invokevirtual 102, 3) := by decide +kernel
theorem d_KF_next_17 : decode c_KF_next 17 = .ok (.istore 4, 2) := by decide +kernel
theorem d_KF_next_19 : decode c_KF_next 19 = .ok (.iload 4, 2) := by decide +kernel
theorem d_KF_next_21 : decode c_KF_next 21 = .ok (.ifCond .eq 6, 3) := by decide +kernel
theorem d_KF_next_24 : decode c_KF_next 24 = .ok (.iload 4, 2) := by decide +kernel
theorem d_KF_next_26 : decode c_KF_next 26 = .ok (.ireturn, 1) := by decide +kernel
theorem d_KF_next_27 : decode c_KF_next 27 = .ok (.aload_n 3, 1) := by decide +kernel
theorem d_KF_next_28 : decode c_KF_next 28 = .ok (.invokevirtual 65, 3) := by decide +kernel
theorem d_KF_next_31 : decode c_KF_next 31 = .ok (.aload_n 0, 1) := by decide +kernel
theorem d_KF_next_32 : decode c_KF_next 32 = .ok (.aload_n 3, 1) := by decide +kernel
theorem d_KF_next_33 : decode c_KF_next 33 = .ok (.getfield 105, 3) := by decide +kernel
theorem d_KF_next_36 : decode c_KF_next 36 = .ok (.invokevirtual 36, 3) := by decide +kernel
theorem d_KF_next_39 : decode c_KF_next 39 = .ok (.astore 5, 2) := by decide +kernel
theorem d_KF_next_41 : decode c_KF_next 41 = .ok (.aload 5, 2) := by decide +kernel
theorem d_KF_next_43 : decode c_KF_next 43 = .ok (.ifnull 18, 3) := by decide +kernel
theorem d_KF_next_46 : decode c_KF_next 46 = .ok (.aload_n 3, 1) := by decide +kernel
theorem d_KF_next_47 : decode c_KF_next 47 = .ok (.getfield 133, 3) := by decide +kernel
theorem d_KF_next_50 : decode c_KF_next 50 = .ok (.iconst 3, 1) := by decide +kernel
theorem d_KF_next_51 : decode c_KF_next 51 = .ok (.if_icmp .eq 10, 3) := by decide +kernel
theorem d_KF_next_54 : decode c_KF_next 54 = .ok (.aload_n 3, 1) := by decide +kernel
theorem d_KF_next_55 : decode c_KF_next 55 = .ok (.getfield 136, 3) := by decide +kernel
theorem d_KF_next_58 : decode c_KF_next 58 = .ok (.ifCond .eq 6, 3) := by decide +kernel
theorem d_KF_next_61 : decode c_KF_next 61 = .ok (.bipush 46, 2) := by decide +kernel
theorem d_KF_next_63 : decode c_KF_next 63 = .ok (.ireturn, 1) := by decide +kernel
theorem d_KF_next_64 : decode c_KF_next 64 = .ok (.iload_n 2, 1) := by decide +kernel
theorem d_KF_next_65 : decode c_KF_next 65 = .ok (.ifCond .eq 12, 3) := by decide +kernel
theorem d_KF_next_68 : decode c_KF_next 68 = .ok (.aload 5, 2) := by decide +kernel
theorem d_KF_next_70 : decode c_KF_next 70 = .ok (.aload_n 3, 1) := by decide +kernel
theorem d_KF_next_71 : decode c_KF_next 71 = .ok (.invokevirtual 139, 3) := by decide +kernel
theorem d_KF_next_74 : decode c_KF_next 74 = .ok (.goto 9, 3) := by decide +kernel
theorem d_KF_next_77 : decode c_KF_next 77 = .ok (.aload 5, 2) := by decide +kernel
theorem d_KF_next_79 : decode c_KF_next 79 = .ok (.aload_n 3, 1) := by decide +kernel
theorem d_KF_next_80 : decode c_KF_next 80 = .ok (.invokevirtual 143, 3) := by decide +kernel
theorem d_KF_next_83 : decode c_KF_next 83 = .ok (.astore 6, 2) := by decide +kernel
theorem d_KF_next_85 : decode c_KF_next 85 = .ok (.aload 6, 2) := by decide +kernel
theorem d_KF_next_87 : decode c_KF_next 87 = .ok (.ifnonnull 11, 3) := by decide +kernel
theorem d_KF_next_90 : decode c_KF_next 90 = .ok (.aload_n 3, 1) := by decide +kernel
theorem d_KF_next_91 : decode c_KF_next 91 = .ok (.iconst 1, 1) := by decide +kernel
theorem d_KF_next_92 : decode c_KF_next 92 = .ok (.putfield 136, 3) := by decide +kernel
theorem d_KF_next_95 : decode c_KF_next 95 = .ok (.bipush 10, 2) := by decide +kernel
theorem d_KF_next_97 : decode c_KF_next 97 = .ok (.ireturn, 1) := by decide +kernel
theorem d_KF_next_98 : decode c_KF_next 98 = .ok (.aload_n 3, 1) := by decide +kernel
theorem d_KF_next_99 : decode c_KF_next 99 = .ok (.aload 5, 2) := by decide +kernel
theorem d_KF_next_101 : decode c_KF_next 101 = .ok (.aload 6, 2) := by decide +kernel
theorem d_KF_next_103 : decode c_KF_next 103 = .ok (.iload_n 2, 1) := by decide +kernel
theorem d_KF_next_104 : decode c_KF_next 104 = .ok (.invokestatic 115, 3) := by decide +kernel
theorem d_KF_next_107 : decode c_KF_next 107 = .ok (.ireturn, 1) := by decide +kernel
theorem d_KF_rewrite_0 : decode c_KF_rewrite 0 = .ok (.aload_n 0, 1) := by decide +kernel
theorem d_KF_rewrite_1 : decode c_KF_rewrite 1 = .ok (.iload_n 1, 1) := by decide +kernel
theorem d_KF_rewrite_2 : decode c_KF_rewrite 2 = .ok (.invokevirtual 51, 3) := by decide +kernel
theorem d_KF_rewrite_5 : decode c_KF_rewrite 5 = .ok (.astore 4, 2) := by decide +kernel
theorem d_KF_rewrite_7 : decode c_KF_rewrite 7 = .ok (.aload 4, 2) := by decide +kernel
theorem d_KF_rewrite_9 : decode c_KF_rewrite 9 = .ok (.ifnonnull 5, 3) := by decide +kernel
theorem d_KF_rewrite_12 : decode c_KF_rewrite 12 = .ok (.iconst (-1), 1) := by decide +kernel
theorem d_KF_rewrite_13 : decode c_KF_rewrite 13 = .ok (.ireturn, 1) := by decide +kernel
theorem d_KF_rewrite_14 : decode c_KF_rewrite 14 = .ok (.aload 4, 2) := by decide +kernel
theorem d_KF_rewrite_16 : decode c_KF_rewrite 16 = .ok (.invokevirtual 146, 3) := by decide +kernel
theorem d_KF_rewrite_19 : decode c_KF_rewrite 19 = .ok (.istore 5, 2) := by decide +kernel
theorem d_KF_rewrite_21 : decode c_KF_rewrite 21 = .ok (.iload 5, 2) := by decide +kernel
theorem d_KF_rewrite_23 : decode c_KF_rewrite 23 = .ok (.ifCond .eq 6, 3) := by decide +kernel
theorem d_KF_rewrite_26 : decode c_KF_rewrite 26 = .ok (.iload 5, 2) := by decide +kernel
theorem d_KF_rewrite_28 : decode c_KF_rewrite 28 = .ok (.ireturn, 1) := by decide +kernel
theorem d_KF_rewrite_29 : decode c_KF_rewrite 29 = .ok (.aload_n 0, 1) := by decide +kernel
theorem d_KF_rewrite_30 : decode c_KF_rewrite 30 = .ok (.aload 4, 2) := by decide +kernel
theorem d_KF_rewrite_32 : decode c_KF_rewrite 32 = .ok (.aload_n 0, 1) := by decide +kernel
theorem d_KF_rewrite_33 : decode c_KF_rewrite 33 = .ok (.iconst 0, 1) := by decide +kernel
theorem d_KF_rewrite_34 : decode c_KF_rewrite 34 = .ok (.lload_n 2, 1) := by decide +kernel
theorem d_KF_rewrite_35 : decode c_KF_rewrite 35 = .ok (.invokevirtual 87, 3) := by decide +kernel
theorem d_KF_rewrite_38 : decode c_KF_rewrite 38 = .ok (.invokevirtual 149, 3) := by decide +kernel
theorem d_KF_rewrite_41 : decode c_KF_rewrite 41 = .ok (.astore 6, 2) := by decide +kernel
theorem d_KF_rewrite_43 : decode c_KF_rewrite 43 = .ok (.aload 4, 2) := by decide +kernel
theorem d_KF_rewrite_45 : decode c_KF_rewrite 45 = .ok (.invokevirtual 65, 3) := by decide +kernel
theorem d_KF_rewrite_48 : decode c_KF_rewrite 48 = .ok (.aload 6, 2) := by decide +kernel
theorem d_KF_rewrite_50 : decode c_KF_rewrite 50 = .ok (.ifnonnull 9, 3) := by decide +kernel
theorem d_KF_rewrite_53 : decode c_KF_rewrite 53 = .ok (.aload 4, 2) := by decide +kernel
theorem d_KF_rewrite_55 : decode c_KF_rewrite 55 = .ok (.invokevirtual 153, 3) := by decide +kernel
theorem d_KF_rewrite_58 : decode c_KF_rewrite 58 = .ok (.ireturn, 1) := by decide +kernel
theorem d_KF_rewrite_59 : decode c_KF_rewrite 59 = .ok (.aload_n 0, 1) := by decide +kernel
theorem d_KF_rewrite_60 : decode c_KF_rewrite 60 = .ok (.iconst 0, 1) := by decide +kernel
theorem d_KF_rewrite_61 : decode c_KF_rewrite 61 = .ok (.aload 6, 2) := by decide +kernel
theorem d_KF_rewrite_63 : decode c_KF_rewrite 63 = .ok (.getfield 156, 3) := by decide +kernel
theorem d_KF_rewrite_66 : decode c_KF_rewrite 66 = .ok (.invokevirtual 87, 3) := by decide +kernel
theorem d_KF_rewrite_69 : decode c_KF_rewrite 69 = .ok (.aload_n 0, 1) := by decide +kernel
theorem d_KF_rewrite_70 : decode c_KF_rewrite 70 = .ok (.iconst 0, 1) := by decide +kernel
theorem d_KF_rewrite_71 : decode c_KF_rewrite 71 = .ok (.lload_n 2, 1) := by decide +kernel
theorem d_KF_rewrite_72 : decode c_KF_rewrite 72 = .ok (.invokevirtual 87, 3) := by decide +kernel
theorem d_KF_rewrite_75 : decode c_KF_rewrite 75 = .ok (.lcmp, 1) := by decide +kernel
theorem d_KF_rewrite_76 : decode c_KF_rewrite 76 = .ok (.ifCond .eq 6, 3) := by decide +kernel
theorem d_KF_rewrite_79 : decode c_KF_rewrite 79 = .ok (.bipush 21, 2) := by decide +kernel
theorem d_KF_rewrite_81 : decode c_KF_rewrite 81 = .ok (.ireturn, 1) := by decide +kernel
theorem d_KF_rewrite_82 : decode c_KF_rewrite 82 = .ok (.aload_n 0, 1) := by decide +kernel
theorem d_KF_rewrite_83 : decode c_KF_rewrite 83 = .ok (.lload_n 2, 1) := by decide +kernel
theorem d_KF_rewrite_84 : decode c_KF_rewrite 84 = .ok (.aload 6, 2) := by decide +kernel
theorem d_KF_rewrite_86 : decode c_KF_rewrite 86 = .ok (.invokevirtual 79, 3) := by decide +kernel
theorem d_KF_rewrite_89 : decode c_KF_rewrite 89 = .ok (.ifCond .eq 6, 3) := by decide +kernel
theorem d_KF_rewrite_92 : decode c_KF_rewrite 92 = .ok (.bipush 22, 2) := by decide +kernel
theorem d_KF_rewrite_94 : decode c_KF_rewrite 94 = .ok (.ireturn, 1) := by decide +kernel
theorem d_KF_rewrite_95 : decode c_KF_rewrite 95 = .ok (.aload_n 0, 1) := by decide +kernel
theorem d_KF_rewrite_96 : decode c_KF_rewrite 96 = .ok (.aload 6, 2) := by decide +kernel
theorem d_KF_rewrite_98 : decode c_KF_rewrite 98 = .ok (.lload_n 2, 1) := by decide +kernel
theorem d_KF_rewrite_99 : decode c_KF_rewrite 99 = .ok (.invokevirtual 159, 3) := by decide +kernel
theorem d_KF_rewrite_102 : decode c_KF_rewrite 102 = .ok (.ifCond .eq 7, 3) := by decide +kernel
theorem d_KF_rewrite_105 : decode c_KF_rewrite 105 = .ok (.iconst 2, 1) := by decide +kernel
theorem d_KF_rewrite_106 : decode c_KF_rewrite 106 = .ok (.goto 4, 3) := by decide +kernel
theorem d_KF_rewrite_109 : decode c_KF_rewrite 109 = .ok (.iconst 0, 1) := by decide +kernel
theorem d_KF_rewrite_110 : decode c_KF_rewrite 110 = .ok (.ireturn, 1) := by decide +kernel
theorem d_KF_recordToChange_0 : decode c_KF_recordToChange 0 = .ok (.aload_n 1, 1) := by decide +kernel
theorem d_KF_recordToChange_1 : decode c_KF_recordToChange 1 = .ok (.getfield 71, 3) := by decide +kernel
theorem d_KF_recordToChange_4 : decode c_KF_recordToChange 4 = .ok (.ifCond .ne 29, 3) := by decide +kernel
theorem d_KF_recordToChange_7 : decode c_KF_recordToChange 7 = .ok (.aload_n 1, 1) := by decide +kernel
theorem d_KF_recordToChange_8 : decode c_KF_recordToChange 8 = .ok (.getfield 238, 3) := by decide +kernel
theorem d_KF_recordToChange_11 : decode c_KF_recordToChange 11 = .ok (.ifnull 20, 3) := by decide +kernel
theorem d_KF_recordToChange_14 : decode c_KF_recordToChange 14 = .ok (.aload_n 1, 1) := by decide +kernel
theorem d_KF_recordToChange_15 : decode c_KF_recordToChange 15 = .ok (.getfield 238, 3) := by decide +kernel
theorem d_KF_recordToChange_18 : decode c_KF_recordToChange 18 = .ok (.getfield 232, 3) := by decide +kernel
theorem d_KF_recordToChange_21 : decode c_KF_recordToChange 21 = .ok (.ifCond .eq 10, 3) := by decide +kernel
theorem d_KF_recordToChange_24 : decode c_KF_recordToChange 24 = .ok (.aload_n 1, 1) := by decide +kernel
theorem d_KF_recordToChange_25 : decode c_KF_recordToChange 25 = .ok (.getfield 238, 3) := by decide +kernel
theorem d_KF_recordToChange_28 : decode c_KF_recordToChange 28 = .ok (.goto 4, 3) := by decide +kernel
theorem d_KF_recordToChange_31 : decode c_KF_recordToChange 31 = .ok (.aconst_null, 1) := by decide +kernel
theorem d_KF_recordToChange_32 : decode c_KF_recordToChange 32 = .ok (.areturn, 1) := by decide +kernel
theorem d_KF_recordToChange_33 : decode c_KF_recordToChange 33 = .ok (.aload_n 0, 1) := by decide +kernel
theorem d_KF_recordToChange_34 : decode c_KF_recordToChange 34 = .ok (.iconst 0, 1) := by decide +kernel
theorem d_KF_recordToChange_35 : decode c_KF_recordToChange 35 = .ok (.invokevirtual 36, 3) := by decide +kernel
theorem d_KF_recordToChange_38 : decode c_KF_recordToChange 38 = .ok (.astore 4, 2) := by decide +kernel
theorem d_KF_recordToChange_40 : decode c_KF_recordToChange 40 = .ok (.aload 4, 2) := by decide +kernel
theorem d_KF_recordToChange_42 : decode c_KF_recordToChange 42 = .ok (.ifnonnull 7, 3) := by decide +kernel
theorem d_KF_recordToChange_45 : decode c_KF_recordToChange 45 = .ok (.aconst_null, 1) := by decide +kernel
theorem d_KF_recordToChange_46 : decode c_KF_recordToChange 46 = .ok (.goto 9, 3) := by decide +kernel
theorem d_KF_recordToChange_49 : decode c_KF_recordToChange 49 = .ok (.aload 4, 2) := by decide +kernel
theorem d_KF_recordToChange_51 : decode c_KF_recordToChange 51 = .ok (.lload_n 2, 1) := by decide +kernel
theorem d_KF_recordToChange_52 : decode c_KF_recordToChange 52 = .ok (.invokevirtual 108, 3) := by decide +kernel
theorem d_KF_recordToChange_55 : decode c_KF_recordToChange 55 = .ok (.astore 5, 2) := by decide +kernel
theorem d_KF_recordToChange_57 : decode c_KF_recordToChange 57 = .ok (.aload 5, 2) := by decide +kernel
theorem d_KF_recordToChange_59 : decode c_KF_recordToChange 59 = .ok (.ifnonnull 7, 3) := by decide +kernel
theorem d_KF_recordToChange_62 : decode c_KF_recordToChange 62 = .ok (.aconst_null, 1) := by decide +kernel
theorem d_KF_recordToChange_63 : decode c_KF_recordToChange 63 = .ok (.goto 8, 3) := by decide +kernel
theorem d_KF_recordToChange_66 : decode c_KF_recordToChange 66 = .ok (.aload 5, 2) := by decide +kernel
theorem d_KF_recordToChange_68 : decode c_KF_recordToChange 68 = .ok (.getfield 171, 3) := by decide +kernel
theorem d_KF_recordToChange_71 : decode c_KF_recordToChange 71 = .ok (.areturn, 1) := by decide +kernel
theorem d_KF_moveChangedEntries_0 : decode c_KF_moveChangedEntries 0 = .ok (.aload_n 1, 1) := by decide +kernel
theorem d_KF_moveChangedEntries_1 : decode c_KF_moveChangedEntries 1 = .ok (.getfield 156, 3) := by decide +kernel
theorem d_KF_moveChangedEntries_4 : decode c_KF_moveChangedEntries 4 = .ok (.lstore 4, 2) := by decide +kernel
theorem d_KF_moveChangedEntries_6 : decode c_KF_moveChangedEntries 6 = .ok (.aload_n 1, 1) := by decide +kernel
theorem d_KF_moveChangedEntries_7 : decode c_KF_moveChangedEntries 7 = .ok (.lload_n 2, 1) := by decide +kernel
theorem d_KF_moveChangedEntries_8 : decode c_KF_moveChangedEntries 8 = .ok (.putfield 156, 3) := by decide +kernel
theorem d_KF_moveChangedEntries_11 : decode c_KF_moveChangedEntries 11 = .ok (.iconst 0, 1) := by decide +kernel
theorem d_KF_moveChangedEntries_12 : decode c_KF_moveChangedEntries 12 = .ok (.istore 6, 2) := by decide +kernel
theorem d_KF_moveChangedEntries_14 : decode c_KF_moveChangedEntries 14 = .ok (.iconst 0, 1) := by decide +kernel
theorem d_KF_moveChangedEntries_15 : decode c_KF_moveChangedEntries 15 = .ok (.istore 7, 2) := by decide +kernel
theorem d_KF_moveChangedEntries_17 : decode c_KF_moveChangedEntries 17 = .ok (.iload 7, 2) := by decide +kernel
theorem d_KF_moveChangedEntries_19 : decode c_KF_moveChangedEntries 19 = .ok (.aload_n 0, 1) := by decide +kernel
theorem d_KF_moveChangedEntries_20 : decode c_KF_moveChangedEntries 20 = .ok (.getfield 10, 3) := by decide +kernel
theorem d_KF_moveChangedEntries_23 : decode c_KF_moveChangedEntries 23 = .ok (.invokevirtual 19, 3) := by decide +kernel
theorem d_KF_moveChangedEntries_26 : decode c_KF_moveChangedEntries 26 = .ok (.if_icmp .ge 66, 3) := by decide +kernel
theorem d_KF_moveChangedEntries_29 : decode c_KF_moveChangedEntries 29 = .ok (.aload_n 0, 1) := by decide +kernel
theorem d_KF_moveChangedEntries_30 : decode c_KF_moveChangedEntries 30 = .ok (.getfield 10, 3) := by decide +kernel
theorem d_KF_moveChangedEntries_33 : decode c_KF_moveChangedEntries 33 = .ok (.iload 7, 2) := by decide +kernel
theorem d_KF_moveChangedEntries_35 : decode c_KF_moveChangedEntries 35 = .ok (.invokevirtual 177, 3) := by decide +kernel
theorem d_KF_moveChangedEntries_38 : decode c_KF_moveChangedEntries 38 = .ok (.checkcast 27, 3) := by decide +kernel
theorem d_KF_moveChangedEntries_41 : decode c_KF_moveChangedEntries 41 = .ok (.astore 8, 2) := by decide +kernel
theorem d_KF_moveChangedEntries_43 : decode c_KF_moveChangedEntries 43 = .ok (.aload 8, 2) := by decide +kernel
theorem d_KF_moveChangedEntries_45 : decode c_KF_moveChangedEntries 45 = .ok (.lload 4, 2) := by decide +kernel
theorem d_KF_moveChangedEntries_47 : decode c_KF_moveChangedEntries 47 = .ok (.invokevirtual 195, 3) := by decide +kernel
theorem d_KF_moveChangedEntries_50 : decode c_KF_moveChangedEntries 50 = .ok (.aload 8, 2) := by decide +kernel
theorem d_KF_moveChangedEntries_52 : decode c_KF_moveChangedEntries 52 = .ok (.lload_n 2, 1) := by decide +kernel
theorem d_KF_moveChangedEntries_53 : decode c_KF_moveChangedEntries 53 = .ok (.invokevirtual 195, 3) := by decide +kernel
theorem d_KF_moveChangedEntries_56 : decode c_KF_moveChangedEntries 56 = .ok (.lcmp, 1) := by decide +kernel
theorem d_KF_moveChangedEntries_57 : decode c_KF_moveChangedEntries 57 = .ok (.ifCond .eq 29, 3) := by decide +kernel
theorem d_KF_moveChangedEntries_60 : decode c_KF_moveChangedEntries 60 = .ok (.aload 8, 2) := by decide +kernel
theorem d_KF_moveChangedEntries_62 : decode c_KF_moveChangedEntries 62 = .ok (.aload_n 1, 1) := by decide +kernel
theorem d_KF_moveChangedEntries_63 : decode c_KF_moveChangedEntries 63 = .ok (.aload 8, 2) := by decide +kernel
theorem d_KF_moveChangedEntries_65 : decode c_KF_moveChangedEntries 65 = .ok (.lload 4, 2) := by decide +kernel
theorem d_KF_moveChangedEntries_67 : decode c_KF_moveChangedEntries 67 = .ok (.invokevirtual 195, 3) := by decide +kernel
theorem d_KF_moveChangedEntries_70 : decode c_KF_moveChangedEntries 70 = .ok (.invokevirtual 228, 3) := by decide +kernel
theorem d_KF_moveChangedEntries_73 : decode c_KF_moveChangedEntries 73 = .ok (.aload_n 0, 1) := by decide +kernel
theorem d_KF_moveChangedEntries_74 : decode c_KF_moveChangedEntries 74 = .ok (.aload 8, 2) := by decide +kernel
theorem d_KF_moveChangedEntries_76 : decode c_KF_moveChangedEntries 76 = .ok (.aload_n 1, 1) := by decide +kernel
theorem d_KF_moveChangedEntries_77 : decode c_KF_moveChangedEntries 77 = .ok (.invokevirtual 218, 3) := by decide +kernel
theorem d_KF_moveChangedEntries_80 : decode c_KF_moveChangedEntries 80 = .ok (.ifCond .eq 6, 3) := by decide +kernel
theorem d_KF_moveChangedEntries_83 : decode c_KF_moveChangedEntries 83 = .ok (.iconst 1, 1) := by decide +kernel
theorem d_KF_moveChangedEntries_84 : decode c_KF_moveChangedEntries 84 = .ok (.istore 6, 2) := by decide +kernel
theorem d_KF_moveChangedEntries_86 : decode c_KF_moveChangedEntries 86 = .ok (.iinc 7 1, 3) := by decide +kernel
theorem d_KF_moveChangedEntries_89 : decode c_KF_moveChangedEntries 89 = .ok (.goto (-72), 3) := by decide +kernel
theorem d_KF_moveChangedEntries_92 : decode c_KF_moveChangedEntries 92 = .ok (.iload 6, 2) := by decide +kernel
theorem d_KF_moveChangedEntries_94 : decode c_KF_moveChangedEntries 94 = .ok (.ireturn, 1) := by decide +kernel
theorem d_KF_remove_0 : decode c_KF_remove 0 = .ok (.aload_n 0, 1) := by decide +kernel
theorem d_KF_remove_1 : decode c_KF_remove 1 = .ok (.iload_n 1, 1) := by decide +kernel
theorem d_KF_remove_2 : decode c_KF_remove 2 = .ok (.invokevirtual 51, 3) := by decide +kernel
theorem d_KF_remove_5 : decode c_KF_remove 5 = .ok (.astore 4, 2) := by decide +kernel
theorem d_KF_remove_7 : decode c_KF_remove 7 = .ok (.aload 4, 2) := by decide +kernel
theorem d_KF_remove_9 : decode c_KF_remove 9 = .ok (.ifnonnull 5, 3) := by decide +kernel
theorem d_KF_remove_12 : decode c_KF_remove 12 = .ok (.iconst (-1), 1) := by decide +kernel
theorem d_KF_remove_13 : decode c_KF_remove 13 = .ok (.ireturn, 1) := by decide +kernel
theorem d_KF_remove_14 : decode c_KF_remove 14 = .ok (.aload 4, 2) := by decide +kernel
theorem d_KF_remove_16 : decode c_KF_remove 16 = .ok (.invokevirtual 146, 3) := by decide +kernel
theorem d_KF_remove_19 : decode c_KF_remove 19 = .ok (.istore 5, 2) := by decide +kernel
theorem d_KF_remove_21 : decode c_KF_remove 21 = .ok (.iload 5, 2) := by decide +kernel
theorem d_KF_remove_23 : decode c_KF_remove 23 = .ok (.ifCond .eq 6, 3) := by decide +kernel
theorem d_KF_remove_26 : decode c_KF_remove 26 = .ok (.iload 5, 2) := by decide +kernel
theorem d_KF_remove_28 : decode c_KF_remove 28 = .ok (.ireturn, 1) := by decide +kernel
theorem d_KF_remove_29 : decode c_KF_remove 29 = .ok (.aload_n 0, 1) := by decide +kernel
theorem d_KF_remove_30 : decode c_KF_remove 30 = .ok (.aload 4, 2) := by decide +kernel
theorem d_KF_remove_32 : decode c_KF_remove 32 = .ok (.lload_n 2, 1) := by decide +kernel
theorem d_KF_remove_33 : decode c_KF_remove 33 = .ok (.invokevirtual 149, 3) := by decide +kernel
theorem d_KF_remove_36 : decode c_KF_remove 36 = .ok (.astore 6, 2) := by decide +kernel
theorem d_KF_remove_38 : decode c_KF_remove 38 = .ok (.aload 4, 2) := by decide +kernel
theorem d_KF_remove_40 : decode c_KF_remove 40 = .ok (.invokevirtual 65, 3) := by decide +kernel
theorem d_KF_remove_43 : decode c_KF_remove 43 = .ok (.aload 6, 2) := by decide +kernel
theorem d_KF_remove_45 : decode c_KF_remove 45 = .ok (.ifnonnull 9, 3) := by decide +kernel
theorem d_KF_remove_48 : decode c_KF_remove 48 = .ok (.aload 4, 2) := by decide +kernel
theorem d_KF_remove_50 : decode c_KF_remove 50 = .ok (.invokevirtual 153, 3) := by decide +kernel
theorem d_KF_remove_53 : decode c_KF_remove 53 = .ok (.ireturn, 1) := by decide +kernel
theorem d_KF_remove_54 : decode c_KF_remove 54 = .ok (.aload_n 0, 1) := by decide +kernel
theorem d_KF_remove_55 : decode c_KF_remove 55 = .ok (.aload 6, 2) := by decide +kernel
theorem d_KF_remove_57 : decode c_KF_remove 57 = .ok (.invokevirtual 163, 3) := by decide +kernel
theorem d_KF_remove_60 : decode c_KF_remove 60 = .ok (.iconst 0, 1) := by decide +kernel
theorem d_KF_remove_61 : decode c_KF_remove 61 = .ok (.ireturn, 1) := by decide +kernel
theorem d_KF_dropRecord_0 : decode c_KF_dropRecord 0 = .ok (.iconst 0, 1) := by decide +kernel
theorem d_KF_dropRecord_1 : decode c_KF_dropRecord 1 = .ok (.istore_n 2, 1) := by decide +kernel
theorem d_KF_dropRecord_2 : decode c_KF_dropRecord 2 = .ok (.iload_n 2, 1) := by decide +kernel
theorem d_KF_dropRecord_3 : decode c_KF_dropRecord 3 = .ok (.aload_n 0, 1) := by decide +kernel
theorem d_KF_dropRecord_4 : decode c_KF_dropRecord 4 = .ok (.getfield 10, 3) := by decide +kernel
theorem d_KF_dropRecord_7 : decode c_KF_dropRecord 7 = .ok (.invokevirtual 19, 3) := by decide +kernel
theorem d_KF_dropRecord_10 : decode c_KF_dropRecord 10 = .ok (.if_icmp .ge 34, 3) := by decide +kernel
theorem d_KF_dropRecord_13 : decode c_KF_dropRecord 13 = .ok (.aload_n 0, 1) := by decide +kernel
theorem d_KF_dropRecord_14 : decode c_KF_dropRecord 14 = .ok (.getfield 10, 3) := by decide +kernel
theorem d_KF_dropRecord_17 : decode c_KF_dropRecord 17 = .ok (.iload_n 2, 1) := by decide +kernel
theorem d_KF_dropRecord_18 : decode c_KF_dropRecord 18 = .ok (.invokevirtual 177, 3) := by decide +kernel
theorem d_KF_dropRecord_21 : decode c_KF_dropRecord 21 = .ok (.checkcast 27, 3) := by decide +kernel
theorem d_KF_dropRecord_24 : decode c_KF_dropRecord 24 = .ok (.astore_n 3, 1) := by decide +kernel
theorem d_KF_dropRecord_25 : decode c_KF_dropRecord 25 = .ok (.aload_n 3, 1) := by decide +kernel
theorem d_KF_dropRecord_26 : decode c_KF_dropRecord 26 = .ok (.aload_n 1, 1) := by decide +kernel
theorem d_KF_dropRecord_27 : decode c_KF_dropRecord 27 = .ok (.aload_n 3, 1) := by decide +kernel
theorem d_KF_dropRecord_28 : decode c_KF_dropRecord 28 = .ok (.aload_n 1, 1) := by decide +kernel
theorem d_KF_dropRecord_29 : decode c_KF_dropRecord 29 = .ok (.getfield 156, 3) := by decide +kernel
theorem d_KF_dropRecord_32 : decode c_KF_dropRecord 32 = .ok (.invokevirtual 195, 3) := by decide +kernel
theorem d_KF_dropRecord_35 : decode c_KF_dropRecord 35 = .ok (.invokevirtual 228, 3) := by decide +kernel
theorem d_KF_dropRecord_38 : decode c_KF_dropRecord 38 = .ok (.iinc 2 1, 3) := by decide +kernel
theorem d_KF_dropRecord_41 : decode c_KF_dropRecord 41 = .ok (.goto (-39), 3) := by decide +kernel
theorem d_KF_dropRecord_44 : decode c_KF_dropRecord 44 = .ok (.aload_n 1, 1) := by decide +kernel
theorem d_KF_dropRecord_45 : decode c_KF_dropRecord 45 = .ok (.iconst 0, 1) := by decide +kernel
theorem d_KF_dropRecord_46 : decode c_KF_dropRecord 46 = .ok (.putfield 232, 3) := by decide +kernel
theorem d_KF_dropRecord_49 : decode c_KF_dropRecord 49 = .ok (.return_, 1) := by decide +kernel
theorem d_KF_scan_0 : decode c_KF_scan 0 = .ok (.aload_n 0, 1) := by decide +kernel
theorem d_KF_scan_1 : decode c_KF_scan 1 = .ok (.iload_n 1, 1) := by decide +kernel
theorem d_KF_scan_2 : decode c_KF_scan 2 = .ok (.invokevirtual 36, 3) := by decide +kernel
theorem d_KF_scan_5 : decode c_KF_scan 5 = .ok (.astore_n 3, 1) := by decide +kernel
theorem d_KF_scan_6 : decode c_KF_scan 6 = .ok (.aload_n 3, 1) := by decide +kernel
theorem d_KF_scan_7 : decode c_KF_scan 7 = .ok (.ifnonnull 7, 3) := by decide +kernel
theorem d_KF_scan_10 : decode c_KF_scan 10 = .ok (.aconst_null, 1) := by decide +kernel
theorem d_KF_scan_11 : decode c_KF_scan 11 = .ok (.goto 8, 3) := by decide +kernel
theorem d_KF_scan_14 : decode c_KF_scan 14 = .ok (.aload_n 3, 1) := by decide +kernel
theorem d_KF_scan_15 : decode c_KF_scan 15 = .ok (.iload_n 2, 1) := by decide +kernel
theorem d_KF_scan_16 : decode c_KF_scan 16 = .ok (.invokevirtual 167, 3) := by decide +kernel
theorem d_KF_scan_19 : decode c_KF_scan 19 = .ok (.astore 4, 2) := by decide +kernel
theorem d_KF_scan_21 : decode c_KF_scan 21 = .ok (.aload 4, 2) := by decide +kernel
theorem d_KF_scan_23 : decode c_KF_scan 23 = .ok (.ifnonnull 7, 3) := by decide +kernel
theorem d_KF_scan_26 : decode c_KF_scan 26 = .ok (.lconst 0, 1) := by decide +kernel
theorem d_KF_scan_27 : decode c_KF_scan 27 = .ok (.goto 11, 3) := by decide +kernel
theorem d_KF_scan_30 : decode c_KF_scan 30 = .ok (.aload 4, 2) := by decide +kernel
theorem d_KF_scan_32 : decode c_KF_scan 32 = .ok (.getfield 171, 3) := by decide +kernel
theorem d_KF_scan_35 : decode c_KF_scan 35 = .ok (.getfield 156, 3) := by decide +kernel
theorem d_KF_scan_38 : decode c_KF_scan 38 = .ok (.lreturn, 1) := by decide +kernel
theorem d_KF_reference_0 : decode c_KF_reference 0 = .ok (.aload_n 0, 1) := by decide +kernel
theorem d_KF_reference_1 : decode c_KF_reference 1 = .ok (.iload_n 1, 1) := by decide +kernel
theorem d_KF_reference_2 : decode c_KF_reference 2 = .ok (.invokevirtual 51, 3) := by decide +kernel
theorem d_KF_reference_5 : decode c_KF_reference 5 = .ok (.astore_n 2, 1) := by decide +kernel
theorem d_KF_reference_6 : decode c_KF_reference 6 = .ok (.aload_n 2, 1) := by decide +kernel
theorem d_KF_reference_7 : decode c_KF_reference 7 = .ok (.ifnull 10, 3) := by decide +kernel
theorem d_KF_reference_10 : decode c_KF_reference 10 = .ok (.aload_n 2, 1) := by decide +kernel
theorem d_KF_reference_11 : decode c_KF_reference 11 = .ok (.getfield 55, 3) := by decide +kernel
theorem d_KF_reference_14 : decode c_KF_reference 14 = .ok (.ifCond .ne 7, 3) := by decide +kernel
theorem d_KF_reference_17 : decode c_KF_reference 17 = .ok (.iconst (-1), 1) := by decide +kernel
theorem d_KF_reference_18 : decode c_KF_reference 18 = .ok (.goto 7, 3) := by decide +kernel
theorem d_KF_reference_21 : decode c_KF_reference 21 = .ok (.aload_n 2, 1) := by decide +kernel
theorem d_KF_reference_22 : decode c_KF_reference 22 = .ok (.getfield 105, 3) := by decide +kernel
theorem d_KF_reference_25 : decode c_KF_reference 25 = .ok (.ireturn, 1) := by decide +kernel
theorem d_KF_count_0 : decode c_KF_count 0 = .ok (.aload_n 0, 1) := by decide +kernel
theorem d_KF_count_1 : decode c_KF_count 1 = .ok (.iload_n 1, 1) := by decide +kernel
theorem d_KF_count_2 : decode c_KF_count 2 = .ok (.invokevirtual 36, 3) := by decide +kernel
theorem d_KF_count_5 : decode c_KF_count 5 = .ok (.ifnonnull 7, 3) := by decide +kernel
theorem d_KF_count_8 : decode c_KF_count 8 = .ok (.iconst (-1), 1) := by decide +kernel
theorem d_KF_count_9 : decode c_KF_count 9 = .ok (.goto 8, 3) := by decide +kernel
theorem d_KF_count_12 : decode c_KF_count 12 = .ok (.aload_n 0, 1) := by decide +kernel
theorem d_KF_count_13 : decode c_KF_count 13 = .ok (.iload_n 1, 1) := by decide +kernel
theorem d_KF_count_14 : decode c_KF_count 14 = .ok (.invokevirtual 83, 3) := by decide +kernel
theorem d_KF_count_17 : decode c_KF_count 17 = .ok (.ireturn, 1) := by decide +kernel
theorem d_KF_whole_0 : decode c_KF_whole 0 = .ok (.iconst 0, 1) := by decide +kernel
theorem d_KF_whole_1 : decode c_KF_whole 1 = .ok (.istore_n 1, 1) := by decide +kernel
theorem d_KF_whole_2 : decode c_KF_whole 2 = .ok (.iload_n 1, 1) := by decide +kernel
theorem d_KF_whole_3 : decode c_KF_whole 3 = .ok (.aload_n 0, 1) := by decide +kernel
theorem d_KF_whole_4 : decode c_KF_whole 4 = .ok (.getfield 10, 3) := by decide +kernel
theorem d_KF_whole_7 : decode c_KF_whole 7 = .ok (.invokevirtual 19, 3) := by decide +kernel
theorem d_KF_whole_10 : decode c_KF_whole 10 = .ok (.if_icmp .ge 59, 3) := by decide +kernel
theorem d_KF_whole_13 : decode c_KF_whole 13 = .ok (.aload_n 0, 1) := by decide +kernel
theorem d_KF_whole_14 : decode c_KF_whole 14 = .ok (.getfield 10, 3) := by decide +kernel
theorem d_KF_whole_17 : decode c_KF_whole 17 = .ok (.iload_n 1, 1) := by decide +kernel
theorem d_KF_whole_18 : decode c_KF_whole 18 = .ok (.invokevirtual 177, 3) := by decide +kernel
theorem d_KF_whole_21 : decode c_KF_whole 21 = .ok (.checkcast 27, 3) := by decide +kernel
theorem d_KF_whole_24 : decode c_KF_whole 24 = .ok (.astore_n 2, 1) := by decide +kernel
theorem d_KF_whole_25 : decode c_KF_whole 25 = .ok (.aload_n 0, 1) := by decide +kernel
theorem d_KF_whole_26 : decode c_KF_whole 26 = .ok (.dup, 1) := by decide +kernel
theorem d_KF_whole_27 : decode c_KF_whole 27 = .ok (.getfield 181, 3) := by decide +kernel
theorem d_KF_whole_30 : decode c_KF_whole 30 = .ok (.lconst 1, 1) := by decide +kernel
theorem d_KF_whole_31 : decode c_KF_whole 31 = .ok (.ladd, 1) := by decide +kernel
theorem d_KF_whole_32 : decode c_KF_whole 32 = .ok (.putfield 181, 3) := by decide +kernel
theorem d_KF_whole_35 : decode c_KF_whole 35 = .ok (.aload_n 2, 1) := by decide +kernel
theorem d_KF_whole_36 : decode c_KF_whole 36 = .ok (.aload_n 0, 1) := by decide +kernel
theorem d_KF_whole_37 : decode c_KF_whole 37 = .ok (.getfield 181, 3) := by decide +kernel
theorem d_KF_whole_40 : decode c_KF_whole 40 = .ok (.invokevirtual 184, 3) := by decide +kernel
theorem d_KF_whole_43 : decode c_KF_whole 43 = .ok (.ifCond .eq 18, 3) := by decide +kernel
theorem d_KF_whole_46 : decode c_KF_whole 46 = .ok (.aload_n 2, 1) := by decide +kernel
theorem d_KF_whole_47 : decode c_KF_whole 47 = .ok (.getfield 188, 3) := by decide +kernel
theorem d_KF_whole_50 : decode c_KF_whole 50 = .ok (.invokevirtual 19, 3) := by decide +kernel
theorem d_KF_whole_53 : decode c_KF_whole 53 = .ok (.aload_n 0, 1) := by decide +kernel
theorem d_KF_whole_54 : decode c_KF_whole 54 = .ok (.aload_n 2, 1) := by decide +kernel
theorem d_KF_whole_55 : decode c_KF_whole 55 = .ok (.invokevirtual 191, 3) := by decide +kernel
theorem d_KF_whole_58 : decode c_KF_whole 58 = .ok (.if_icmp .eq 5, 3) := by decide +kernel
theorem d_KF_whole_61 : decode c_KF_whole 61 = .ok (.iconst 0, 1) := by decide +kernel
theorem d_KF_whole_62 : decode c_KF_whole 62 = .ok (.ireturn, 1) := by decide +kernel
theorem d_KF_whole_63 : decode c_KF_whole 63 = .ok (.iinc 1 1, 3) := by decide +kernel
theorem d_KF_whole_66 : decode c_KF_whole 66 = .ok (.goto (-64), 3) := by decide +kernel
theorem d_KF_whole_69 : decode c_KF_whole 69 = .ok (.iconst 1, 1) := by decide +kernel
theorem d_KF_whole_70 : decode c_KF_whole 70 = .ok (.ireturn, 1) := by decide +kernel
theorem d_KF_entriesDue_0 : decode c_KF_entriesDue 0 = .ok (.aload_n 0, 1) := by decide +kernel
theorem d_KF_entriesDue_1 : decode c_KF_entriesDue 1 = .ok (.iconst 0, 1) := by decide +kernel
theorem d_KF_entriesDue_2 : decode c_KF_entriesDue 2 = .ok (.invokevirtual 36, 3) := by decide +kernel
theorem d_KF_entriesDue_5 : decode c_KF_entriesDue 5 = .ok (.astore_n 2, 1) := by decide +kernel
theorem d_KF_entriesDue_6 : decode c_KF_entriesDue 6 = .ok (.iconst 0, 1) := by decide +kernel
theorem d_KF_entriesDue_7 : decode c_KF_entriesDue 7 = .ok (.istore_n 3, 1) := by decide +kernel
theorem d_KF_entriesDue_8 : decode c_KF_entriesDue 8 = .ok (.iconst 0, 1) := by decide +kernel
theorem d_KF_entriesDue_9 : decode c_KF_entriesDue 9 = .ok (.istore 4, 2) := by decide +kernel
theorem d_KF_entriesDue_11 : decode c_KF_entriesDue 11 = .ok (.aload_n 2, 1) := by decide +kernel
theorem d_KF_entriesDue_12 : decode c_KF_entriesDue 12 = .ok (.ifnull 53, 3) := by decide +kernel
theorem d_KF_entriesDue_15 : decode c_KF_entriesDue 15 = .ok (.iload 4, 2) := by decide +kernel
theorem d_KF_entriesDue_17 : decode c_KF_entriesDue 17 = .ok (.aload_n 2, 1) := by decide +kernel
theorem d_KF_entriesDue_18 : decode c_KF_entriesDue 18 = .ok (.getfield 188, 3) := by decide +kernel
theorem d_KF_entriesDue_21 : decode c_KF_entriesDue 21 = .ok (.invokevirtual 19, 3) := by decide +kernel
theorem d_KF_entriesDue_24 : decode c_KF_entriesDue 24 = .ok (.if_icmp .ge 41, 3) := by decide +kernel
theorem d_KF_entriesDue_27 : decode c_KF_entriesDue 27 = .ok (.aload_n 1, 1) := by decide +kernel
theorem d_KF_entriesDue_28 : decode c_KF_entriesDue 28 = .ok (.aload_n 1, 1) := by decide +kernel
theorem d_KF_entriesDue_29 : decode c_KF_entriesDue 29 = .ok (.aload_n 2, 1) := by decide +kernel
theorem d_KF_entriesDue_30 : decode c_KF_entriesDue 30 = .ok (.getfield 188, 3) := by decide +kernel
theorem d_KF_entriesDue_33 : decode c_KF_entriesDue 33 = .ok (.iload 4, 2) := by decide +kernel
theorem d_KF_entriesDue_35 : decode c_KF_entriesDue 35 = .ok (.invokevirtual 177, 3) := by decide +kernel
theorem d_KF_entriesDue_38 : decode c_KF_entriesDue 38 = .ok (.checkcast 172, 3) := by decide +kernel
theorem d_KF_entriesDue_41 : decode c_KF_entriesDue 41 = .ok (.getfield 171, 3) := by decide +kernel
theorem d_KF_entriesDue_44 : decode c_KF_entriesDue 44 = .ok (.getfield 156, 3) := by decide +kernel
theorem d_KF_entriesDue_47 : decode c_KF_entriesDue 47 = .ok (.invokevirtual 195, 3) := by decide +kernel
theorem d_KF_entriesDue_50 : decode c_KF_entriesDue 50 = .ok (.invokevirtual 248, 3) := by decide +kernel
theorem d_KF_entriesDue_53 : decode c_KF_entriesDue 53 = .ok (.ifCond .ne 6, 3) := by decide +kernel
theorem d_KF_entriesDue_56 : decode c_KF_entriesDue 56 = .ok (.iinc 3 1, 3) := by decide +kernel
theorem d_KF_entriesDue_59 : decode c_KF_entriesDue 59 = .ok (.iinc 4 1, 3) := by decide +kernel
theorem d_KF_entriesDue_62 : decode c_KF_entriesDue 62 = .ok (.goto (-51), 3) := by decide +kernel
theorem d_KF_entriesDue_65 : decode c_KF_entriesDue 65 = .ok (.iload_n 3, 1) := by decide +kernel
theorem d_KF_entriesDue_66 : decode c_KF_entriesDue 66 = .ok (.ireturn, 1) := by decide +kernel
