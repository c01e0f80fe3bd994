theorem d_MD_init_0 : decode c_MD_init 0 = .ok (.aload_n 0, 1) := by decide +kernel
theorem d_MD_init_1 : decode c_MD_init 1 = .ok (.invokespecial 1, 3) := by decide +kernel
theorem d_MD_init_4 : decode c_MD_init 4 = .ok (.aload_n 0, 1) := by decide +kernel
theorem d_MD_init_5 : decode c_MD_init 5 = .ok (.bipush 6, 2) := by decide +kernel
theorem d_MD_init_7 : decode c_MD_init 7 = .ok (.newarray .int, 2) := by decide +kernel
theorem d_MD_init_9 : decode c_MD_init 9 = .ok (.putfield 7, 3) := by decide +kernel
theorem d_MD_init_12 : decode c_MD_init 12 = .ok (.aload_n 0, 1) := by decide +kernel
theorem d_MD_init_13 : decode c_MD_init 13 = .ok (.bipush 6, 2) := by decide +kernel
theorem d_MD_init_15 : decode c_MD_init 15 = .ok (.newarray .int, 2) := by decide +kernel
theorem d_MD_init_17 : decode c_MD_init 17 = .ok (.putfield 13, 3) := by decide +kernel
theorem d_MD_init_20 : decode c_MD_init 20 = .ok (.aload_n 0, 1) := by decide +kernel
theorem d_MD_init_21 : decode c_MD_init 21 = .ok (.bipush 6, 2) := by decide +kernel
theorem d_MD_init_23 : decode c_MD_init 23 = .ok (.newarray .boolean, 2) := by decide +kernel
theorem d_MD_init_25 : decode c_MD_init 25 = .ok (.putfield 16, 3) := by decide +kernel
theorem d_MD_init_28 : decode c_MD_init 28 = .ok (.aload_n 0, 1) := by decide +kernel
theorem d_MD_init_29 : decode c_MD_init 29 = .ok (.bipush 6, 2) := by decide +kernel
theorem d_MD_init_31 : decode c_MD_init 31 = .ok (.newarray .boolean, 2) := by decide +kernel
theorem d_MD_init_33 : decode c_MD_init 33 = .ok (.putfield 20, 3) := by decide +kernel
theorem d_MD_init_36 : decode c_MD_init 36 = .ok (.aload_n 0, 1) := by decide +kernel
theorem d_MD_init_37 : decode c_MD_init 37 = .ok (.bipush 6, 2) := by decide +kernel
theorem d_MD_init_39 : decode c_MD_init 39 = .ok (.newarray .long, 2) := by decide +kernel
theorem d_MD_init_41 : decode c_MD_init 41 = .ok (.putfield 23, 3) := by decide +kernel
theorem d_MD_init_44 : decode c_MD_init 44 = .ok (.aload_n 0, 1) := by decide +kernel
theorem d_MD_init_45 : decode c_MD_init 45 = .ok (.sipush 300, 3) := by decide +kernel
theorem d_MD_init_48 : decode c_MD_init 48 = .ok (.newarray .long, 2) := by decide +kernel
theorem d_MD_init_50 : decode c_MD_init 50 = .ok (.putfield 27, 3) := by decide +kernel
theorem d_MD_init_53 : decode c_MD_init 53 = .ok (.aload_n 0, 1) := by decide +kernel
theorem d_MD_init_54 : decode c_MD_init 54 = .ok (.sipush 300, 3) := by decide +kernel
theorem d_MD_init_57 : decode c_MD_init 57 = .ok (.newarray .int, 2) := by decide +kernel
theorem d_MD_init_59 : decode c_MD_init 59 = .ok (.putfield 30, 3) := by decide +kernel
theorem d_MD_init_62 : decode c_MD_init 62 = .ok (.aload_n 0, 1) := by decide +kernel
theorem d_MD_init_63 : decode c_MD_init 63 = .ok (.sipush 1800, 3) := by decide +kernel
theorem d_MD_init_66 : decode c_MD_init 66 = .ok (.newarray .int, 2) := by decide +kernel
theorem d_MD_init_68 : decode c_MD_init 68 = .ok (.putfield 33, 3) := by decide +kernel
theorem d_MD_init_71 : decode c_MD_init 71 = .ok (.aload_n 0, 1) := by decide +kernel
theorem d_MD_init_72 : decode c_MD_init 72 = .ok (.iconst 5, 1) := by decide +kernel
theorem d_MD_init_73 : decode c_MD_init 73 = .ok (.newarray .int, 2) := by decide +kernel
theorem d_MD_init_75 : decode c_MD_init 75 = .ok (.putfield 36, 3) := by decide +kernel
theorem d_MD_init_78 : decode c_MD_init 78 = .ok (.aload_n 0, 1) := by decide +kernel
theorem d_MD_init_79 : decode c_MD_init 79 = .ok (.iconst 5, 1) := by decide +kernel
theorem d_MD_init_80 : decode c_MD_init 80 = .ok (.newarray .int, 2) := by decide +kernel
theorem d_MD_init_82 : decode c_MD_init 82 = .ok (.putfield 39, 3) := by decide +kernel
theorem d_MD_init_85 : decode c_MD_init 85 = .ok (.aload_n 0, 1) := by decide +kernel
theorem d_MD_init_86 : decode c_MD_init 86 = .ok (.iconst 5, 1) := by decide +kernel
theorem d_MD_init_87 : decode c_MD_init 87 = .ok (.newarray .int, 2) := by decide +kernel
theorem d_MD_init_89 : decode c_MD_init 89 = .ok (.putfield 42, 3) := by decide +kernel
theorem d_MD_init_92 : decode c_MD_init 92 = .ok (.aload_n 0, 1) := by decide +kernel
theorem d_MD_init_93 : decode c_MD_init 93 = .ok (.iconst 5, 1) := by decide +kernel
theorem d_MD_init_94 : decode c_MD_init 94 = .ok (.newarray .int, 2) := by decide +kernel
theorem d_MD_init_96 : decode c_MD_init 96 = .ok (.putfield 45, 3) := by decide +kernel
theorem d_MD_init_99 : decode c_MD_init 99 = .ok (.aload_n 0, 1) := by decide +kernel
theorem d_MD_init_100 : decode c_MD_init 100 = .ok (.iconst 5, 1) := by decide +kernel
theorem d_MD_init_101 : decode c_MD_init 101 = .ok (.newarray .int, 2) := by decide +kernel
theorem d_MD_init_103 : decode c_MD_init 103 = .ok (.putfield 48, 3) := by decide +kernel
theorem d_MD_init_106 : decode c_MD_init 106 = .ok (.aload_n 0, 1) := by decide +kernel
theorem d_MD_init_107 : decode c_MD_init 107 = .ok (.iconst 5, 1) := by decide +kernel
theorem d_MD_init_108 : decode c_MD_init 108 = .ok (.newarray .int, 2) := by decide +kernel
theorem d_MD_init_110 : decode c_MD_init 110 = .ok (.putfield 51, 3) := by decide +kernel
theorem d_MD_init_113 : decode c_MD_init 113 = .ok (.aload_n 0, 1) := by decide +kernel
theorem d_MD_init_114 : decode c_MD_init 114 = .ok (.iconst 5, 1) := by decide +kernel
theorem d_MD_init_115 : decode c_MD_init 115 = .ok (.newarray .long, 2) := by decide +kernel
theorem d_MD_init_117 : decode c_MD_init 117 = .ok (.putfield 54, 3) := by decide +kernel
theorem d_MD_init_120 : decode c_MD_init 120 = .ok (.aload_n 0, 1) := by decide +kernel
theorem d_MD_init_121 : decode c_MD_init 121 = .ok (.iconst 5, 1) := by decide +kernel
theorem d_MD_init_122 : decode c_MD_init 122 = .ok (.newarray .long, 2) := by decide +kernel
theorem d_MD_init_124 : decode c_MD_init 124 = .ok (.putfield 57, 3) := by decide +kernel
theorem d_MD_init_127 : decode c_MD_init 127 = .ok (.aload_n 0, 1) := by decide +kernel
theorem d_MD_init_128 : decode c_MD_init 128 = .ok (.iconst 5, 1) := by decide +kernel
theorem d_MD_init_129 : decode c_MD_init 129 = .ok (.newarray .long, 2) := by decide +kernel
theorem d_MD_init_131 : decode c_MD_init 131 = .ok (.putfield 60, 3) := by decide +kernel
theorem d_MD_init_134 : decode c_MD_init 134 = .ok (.aload_n 0, 1) := by decide +kernel
theorem d_MD_init_135 : decode c_MD_init 135 = .ok (.iconst 5, 1) := by decide +kernel
theorem d_MD_init_136 : decode c_MD_init 136 = .ok (.newarray .boolean, 2) := by decide +kernel
theorem d_MD_init_138 : decode c_MD_init 138 = .ok (.putfield 63, 3) := by decide +kernel
theorem d_MD_init_141 : decode c_MD_init 141 = .ok (.aload_n 0, 1) := by decide +kernel
theorem d_MD_init_142 : decode c_MD_init 142 = .ok (.iconst 5, 1) := by decide +kernel
theorem d_MD_init_143 : decode c_MD_init 143 = .ok (.newarray .boolean, 2) := by decide +kernel
theorem d_MD_init_145 : decode c_MD_init 145 = .ok (.putfield 66, 3) := by decide +kernel
theorem d_MD_init_148 : decode c_MD_init 148 = .ok (.aload_n 0, 1) := by decide +kernel
theorem d_MD_init_149 : decode c_MD_init 149 = .ok (.iconst 5, 1) := by decide +kernel
theorem d_MD_init_150 : decode c_MD_init 150 = .ok (.newarray .boolean, 2) := by decide +kernel
theorem d_MD_init_152 : decode c_MD_init 152 = .ok (.putfield 69, 3) := by decide +kernel
theorem d_MD_init_155 : decode c_MD_init 155 = .ok (.return_, 1) := by decide +kernel
theorem d_MD_key_0 : decode c_MD_key 0 = .ok (.aload_n 0, 1) := by decide +kernel
theorem d_MD_key_1 : decode c_MD_key 1 = .ok (.iconst 0, 1) := by decide +kernel
theorem d_MD_key_2 : decode c_MD_key 2 = .ok (.putfield 72, 3) := by decide +kernel
theorem d_MD_key_5 : decode c_MD_key 5 = .ok (.iload 4, 2) := by decide +kernel
theorem d_MD_key_7 : decode c_MD_key 7 = .ok (.iconst 1, 1) := by decide +kernel
theorem d_MD_key_8 : decode c_MD_key 8 = .ok (.if_icmp .lt 27, 3) := by decide +kernel
theorem d_MD_key_11 : decode c_MD_key 11 = .ok (.iload 4, 2) := by decide +kernel
theorem d_MD_key_13 : decode c_MD_key 13 = .ok (.bipush 8, 2) := by decide +kernel
theorem d_MD_key_15 : decode c_MD_key 15 = .ok (.if_icmp .gt 20, 3) := by decide +kernel
theorem d_MD_key_18 : decode c_MD_key 18 = .ok (.iload_n 3, 1) := by decide +kernel
theorem d_MD_key_19 : decode c_MD_key 19 = .ok (.ifCond .lt 16, 3) := by decide +kernel
theorem d_MD_key_22 : decode c_MD_key 22 = .ok (.iload_n 3, 1) := by decide +kernel
theorem d_MD_key_23 : decode c_MD_key 23 = .ok (.bipush 8, 2) := by decide +kernel
theorem d_MD_key_25 : decode c_MD_key 25 = .ok (.iload 4, 2) := by decide +kernel
theorem d_MD_key_27 : decode c_MD_key 27 = .ok (.isub, 1) := by decide +kernel
theorem d_MD_key_28 : decode c_MD_key 28 = .ok (.if_icmp .gt 7, 3) := by decide +kernel
theorem d_MD_key_31 : decode c_MD_key 31 = .ok (.iconst 1, 1) := by decide +kernel
theorem d_MD_key_32 : decode c_MD_key 32 = .ok (.goto 4, 3) := by decide +kernel
theorem d_MD_key_35 : decode c_MD_key 35 = .ok (.iconst 0, 1) := by decide +kernel
theorem d_MD_key_36 : decode c_MD_key 36 = .ok (.istore 5, 2) := by decide +kernel
theorem d_MD_key_38 : decode c_MD_key 38 = .ok (.aload_n 0, 1) := by decide +kernel
theorem d_MD_key_39 : decode c_MD_key 39 = .ok (.getfield 84, 3) := by decide +kernel
theorem d_MD_key_42 : decode c_MD_key 42 = .ok (.ifCond .ne 41, 3) := by decide +kernel
theorem d_MD_key_45 : decode c_MD_key 45 = .ok (.aload_n 0, 1) := by decide +kernel
theorem d_MD_key_46 : decode c_MD_key 46 = .ok (.getfield 78, 3) := by decide +kernel
theorem d_MD_key_49 : decode c_MD_key 49 = .ok (.bipush 6, 2) := by decide +kernel
theorem d_MD_key_51 : decode c_MD_key 51 = .ok (.if_icmp .eq 32, 3) := by decide +kernel
theorem d_MD_key_54 : decode c_MD_key 54 = .ok (.iload_n 1, 1) := by decide +kernel
theorem d_MD_key_55 : decode c_MD_key 55 = .ok (.aload_n 0, 1) := by decide +kernel
theorem d_MD_key_56 : decode c_MD_key 56 = .ok (.getfield 78, 3) := by decide +kernel
theorem d_MD_key_59 : decode c_MD_key 59 = .ok (.ifCond .ne 7, 3) := by decide +kernel
theorem d_MD_key_62 : decode c_MD_key 62 = .ok (.iconst 1, 1) := by decide +kernel
theorem d_MD_key_63 : decode c_MD_key 63 = .ok (.goto 4, 3) := by decide +kernel
theorem d_MD_key_66 : decode c_MD_key 66 = .ok (.iconst 0, 1) := by decide +kernel
theorem d_MD_key_67 : decode c_MD_key 67 = .ok (.if_icmp .ne 16, 3) := by decide +kernel
theorem d_MD_key_70 : decode c_MD_key 70 = .ok (.iload_n 1, 1) := by decide +kernel
theorem d_MD_key_71 : decode c_MD_key 71 = .ok (.ifCond .eq 7, 3) := by decide +kernel
theorem d_MD_key_74 : decode c_MD_key 74 = .ok (.iload_n 2, 1) := by decide +kernel
theorem d_MD_key_75 : decode c_MD_key 75 = .ok (.ifCond .ne 8, 3) := by decide +kernel
theorem d_MD_key_78 : decode c_MD_key 78 = .ok (.iload 5, 2) := by decide +kernel
theorem d_MD_key_80 : decode c_MD_key 80 = .ok (.ifCond .ne 5, 3) := by decide +kernel
theorem d_MD_key_83 : decode c_MD_key 83 = .ok (.iconst (-1), 1) := by decide +kernel
theorem d_MD_key_84 : decode c_MD_key 84 = .ok (.ireturn, 1) := by decide +kernel
theorem d_MD_key_85 : decode c_MD_key 85 = .ok (.aload_n 0, 1) := by decide +kernel
theorem d_MD_key_86 : decode c_MD_key 86 = .ok (.getfield 7, 3) := by decide +kernel
theorem d_MD_key_89 : decode c_MD_key 89 = .ok (.aload_n 0, 1) := by decide +kernel
theorem d_MD_key_90 : decode c_MD_key 90 = .ok (.getfield 78, 3) := by decide +kernel
theorem d_MD_key_93 : decode c_MD_key 93 = .ok (.iload_n 3, 1) := by decide +kernel
theorem d_MD_key_94 : decode c_MD_key 94 = .ok (.iastore, 1) := by decide +kernel
theorem d_MD_key_95 : decode c_MD_key 95 = .ok (.aload_n 0, 1) := by decide +kernel
theorem d_MD_key_96 : decode c_MD_key 96 = .ok (.getfield 13, 3) := by decide +kernel
theorem d_MD_key_99 : decode c_MD_key 99 = .ok (.aload_n 0, 1) := by decide +kernel
theorem d_MD_key_100 : decode c_MD_key 100 = .ok (.getfield 78, 3) := by decide +kernel
theorem d_MD_key_103 : decode c_MD_key 103 = .ok (.iload 4, 2) := by decide +kernel
theorem d_MD_key_105 : decode c_MD_key 105 = .ok (.iastore, 1) := by decide +kernel
theorem d_MD_key_106 : decode c_MD_key 106 = .ok (.aload_n 0, 1) := by decide +kernel
theorem d_MD_key_107 : decode c_MD_key 107 = .ok (.getfield 16, 3) := by decide +kernel
theorem d_MD_key_110 : decode c_MD_key 110 = .ok (.aload_n 0, 1) := by decide +kernel
theorem d_MD_key_111 : decode c_MD_key 111 = .ok (.getfield 78, 3) := by decide +kernel
theorem d_MD_key_114 : decode c_MD_key 114 = .ok (.iload_n 2, 1) := by decide +kernel
theorem d_MD_key_115 : decode c_MD_key 115 = .ok (.bastore, 1) := by decide +kernel
theorem d_MD_key_116 : decode c_MD_key 116 = .ok (.aload_n 0, 1) := by decide +kernel
theorem d_MD_key_117 : decode c_MD_key 117 = .ok (.dup, 1) := by decide +kernel
theorem d_MD_key_118 : decode c_MD_key 118 = .ok (.getfield 78, 3) := by decide +kernel
theorem d_MD_key_121 : decode c_MD_key 121 = .ok (.iconst 1, 1) := by decide +kernel
theorem d_MD_key_122 : decode c_MD_key 122 = .ok (.iadd, 1) := by decide +kernel
theorem d_MD_key_123 : decode c_MD_key 123 = .ok (.putfield 78, 3) := by decide +kernel
theorem d_MD_key_126 : decode c_MD_key 126 = .ok (.aload_n 0, 1) := by decide +kernel
theorem d_MD_key_127 : decode c_MD_key 127 = .ok (.getfield 78, 3) := by decide +kernel
theorem d_MD_key_130 : decode c_MD_key 130 = .ok (.iconst 1, 1) := by decide +kernel
theorem d_MD_key_131 : decode c_MD_key 131 = .ok (.isub, 1) := by decide +kernel
theorem d_MD_key_132 : decode c_MD_key 132 = .ok (.ireturn, 1) := by decide +kernel
theorem d_MD_sparse_0 : decode c_MD_sparse 0 = .ok (.aload_n 0, 1) := by decide +kernel
theorem d_MD_sparse_1 : decode c_MD_sparse 1 = .ok (.iconst 0, 1) := by decide +kernel
theorem d_MD_sparse_2 : decode c_MD_sparse 2 = .ok (.putfield 72, 3) := by decide +kernel
theorem d_MD_sparse_5 : decode c_MD_sparse 5 = .ok (.aload_n 0, 1) := by decide +kernel
theorem d_MD_sparse_6 : decode c_MD_sparse 6 = .ok (.iload_n 1, 1) := by decide +kernel
theorem d_MD_sparse_7 : decode c_MD_sparse 7 = .ok (.invokevirtual 88, 3) := by decide +kernel
theorem d_MD_sparse_10 : decode c_MD_sparse 10 = .ok (.ifCond .eq 14, 3) := by decide +kernel
theorem d_MD_sparse_13 : decode c_MD_sparse 13 = .ok (.iload_n 1, 1) := by decide +kernel
theorem d_MD_sparse_14 : decode c_MD_sparse 14 = .ok (.ifCond .eq 10, 3) := by decide +kernel
theorem d_MD_sparse_17 : decode c_MD_sparse 17 = .ok (.aload_n 0, 1) := by decide +kernel
theorem d_MD_sparse_18 : decode c_MD_sparse 18 = .ok (.getfield 84, 3) := by decide +kernel
theorem d_MD_sparse_21 : decode c_MD_sparse 21 = .ok (.ifCond .eq 5, 3) := by decide +kernel
theorem d_MD_sparse_24 : decode c_MD_sparse 24 = .ok (.iconst (-1), 1) := by decide +kernel
theorem d_MD_sparse_25 : decode c_MD_sparse 25 = .ok (.ireturn, 1) := by decide +kernel
theorem d_MD_sparse_26 : decode c_MD_sparse 26 = .ok (.aload_n 0, 1) := by decide +kernel
theorem d_MD_sparse_27 : decode c_MD_sparse 27 = .ok (.getfield 20, 3) := by decide +kernel
theorem d_MD_sparse_30 : decode c_MD_sparse 30 = .ok (.iload_n 1, 1) := by decide +kernel
theorem d_MD_sparse_31 : decode c_MD_sparse 31 = .ok (.iconst 1, 1) := by decide +kernel
theorem d_MD_sparse_32 : decode c_MD_sparse 32 = .ok (.bastore, 1) := by decide +kernel
theorem d_MD_sparse_33 : decode c_MD_sparse 33 = .ok (.aload_n 0, 1) := by decide +kernel
theorem d_MD_sparse_34 : decode c_MD_sparse 34 = .ok (.getfield 23, 3) := by decide +kernel
theorem d_MD_sparse_37 : decode c_MD_sparse 37 = .ok (.iload_n 1, 1) := by decide +kernel
theorem d_MD_sparse_38 : decode c_MD_sparse 38 = .ok (.lload_n 2, 1) := by decide +kernel
theorem d_MD_sparse_39 : decode c_MD_sparse 39 = .ok (.lastore, 1) := by decide +kernel
theorem d_MD_sparse_40 : decode c_MD_sparse 40 = .ok (.iconst 1, 1) := by decide +kernel
theorem d_MD_sparse_41 : decode c_MD_sparse 41 = .ok (.ireturn, 1) := by decide +kernel
theorem d_MD_isKey_0 : decode c_MD_isKey 0 = .ok (.iload_n 1, 1) := by decide +kernel
theorem d_MD_isKey_1 : decode c_MD_isKey 1 = .ok (.ifCond .lt 15, 3) := by decide +kernel
theorem d_MD_isKey_4 : decode c_MD_isKey 4 = .ok (.iload_n 1, 1) := by decide +kernel
theorem d_MD_isKey_5 : decode c_MD_isKey 5 = .ok (.aload_n 0, 1) := by decide +kernel
theorem d_MD_isKey_6 : decode c_MD_isKey 6 = .ok (.getfield 78, 3) := by decide +kernel
theorem d_MD_isKey_9 : decode c_MD_isKey 9 = .ok (.if_icmp .ge 7, 3) := by decide +kernel
theorem d_MD_isKey_12 : decode c_MD_isKey 12 = .ok (.iconst 1, 1) := by decide +kernel
theorem d_MD_isKey_13 : decode c_MD_isKey 13 = .ok (.goto 4, 3) := by decide +kernel
theorem d_MD_isKey_16 : decode c_MD_isKey 16 = .ok (.iconst 0, 1) := by decide +kernel
theorem d_MD_isKey_17 : decode c_MD_isKey 17 = .ok (.ireturn, 1) := by decide +kernel
theorem d_MD_view_0 : decode c_MD_view 0 = .ok (.aload_n 0, 1) := by decide +kernel
theorem d_MD_view_1 : decode c_MD_view 1 = .ok (.iconst 0, 1) := by decide +kernel
theorem d_MD_view_2 : decode c_MD_view 2 = .ok (.putfield 72, 3) := by decide +kernel
theorem d_MD_view_5 : decode c_MD_view 5 = .ok (.aload_n 0, 1) := by decide +kernel
theorem d_MD_view_6 : decode c_MD_view 6 = .ok (.getfield 81, 3) := by decide +kernel
theorem d_MD_view_9 : decode c_MD_view 9 = .ok (.iconst 5, 1) := by decide +kernel
theorem d_MD_view_10 : decode c_MD_view 10 = .ok (.if_icmp .eq 10, 3) := by decide +kernel
theorem d_MD_view_13 : decode c_MD_view 13 = .ok (.aload_n 0, 1) := by decide +kernel
theorem d_MD_view_14 : decode c_MD_view 14 = .ok (.getfield 78, 3) := by decide +kernel
theorem d_MD_view_17 : decode c_MD_view 17 = .ok (.ifCond .ne 5, 3) := by decide +kernel
theorem d_MD_view_20 : decode c_MD_view 20 = .ok (.iconst (-1), 1) := by decide +kernel
theorem d_MD_view_21 : decode c_MD_view 21 = .ok (.ireturn, 1) := by decide +kernel
theorem d_MD_view_22 : decode c_MD_view 22 = .ok (.aload_n 0, 1) := by decide +kernel
theorem d_MD_view_23 : decode c_MD_view 23 = .ok (.dup, 1) := by decide +kernel
theorem d_MD_view_24 : decode c_MD_view 24 = .ok (.getfield 81, 3) := by decide +kernel
theorem d_MD_view_27 : decode c_MD_view 27 = .ok (.iconst 1, 1) := by decide +kernel
theorem d_MD_view_28 : decode c_MD_view 28 = .ok (.iadd, 1) := by decide +kernel
theorem d_MD_view_29 : decode c_MD_view 29 = .ok (.putfield 81, 3) := by decide +kernel
theorem d_MD_view_32 : decode c_MD_view 32 = .ok (.aload_n 0, 1) := by decide +kernel
theorem d_MD_view_33 : decode c_MD_view 33 = .ok (.getfield 81, 3) := by decide +kernel
theorem d_MD_view_36 : decode c_MD_view 36 = .ok (.iconst 1, 1) := by decide +kernel
theorem d_MD_view_37 : decode c_MD_view 37 = .ok (.isub, 1) := by decide +kernel
theorem d_MD_view_38 : decode c_MD_view 38 = .ok (.ireturn, 1) := by decide +kernel
theorem d_MD_open_0 : decode c_MD_open 0 = .ok (.aload_n 0, 1) := by decide +kernel
theorem d_MD_open_1 : decode c_MD_open 1 = .ok (.iconst 0, 1) := by decide +kernel
theorem d_MD_open_2 : decode c_MD_open 2 = .ok (.putfield 72, 3) := by decide +kernel
theorem d_MD_open_5 : decode c_MD_open 5 = .ok (.aload_n 0, 1) := by decide +kernel
theorem d_MD_open_6 : decode c_MD_open 6 = .ok (.iload_n 1, 1) := by decide +kernel
theorem d_MD_open_7 : decode c_MD_open 7 = .ok (.invokevirtual 92, 3) := by decide +kernel
theorem d_MD_open_10 : decode c_MD_open 10 = .ok (.ifCond .eq 21, 3) := by decide +kernel
theorem d_MD_open_13 : decode c_MD_open 13 = .ok (.iload_n 2, 1) := by decide +kernel
theorem d_MD_open_14 : decode c_MD_open 14 = .ok (.ifCond .lt 17, 3) := by decide +kernel
theorem d_MD_open_17 : decode c_MD_open 17 = .ok (.iload_n 2, 1) := by decide +kernel
theorem d_MD_open_18 : decode c_MD_open 18 = .ok (.iconst 3, 1) := by decide +kernel
theorem d_MD_open_19 : decode c_MD_open 19 = .ok (.if_icmp .gt 12, 3) := by decide +kernel
theorem d_MD_open_22 : decode c_MD_open 22 = .ok (.iload_n 3, 1) := by decide +kernel
theorem d_MD_open_23 : decode c_MD_open 23 = .ok (.ifCond .lt 8, 3) := by decide +kernel
theorem d_MD_open_26 : decode c_MD_open 26 = .ok (.iload_n 3, 1) := by decide +kernel
theorem d_MD_open_27 : decode c_MD_open 27 = .ok (.iconst 2, 1) := by decide +kernel
theorem d_MD_open_28 : decode c_MD_open 28 = .ok (.if_icmp .le 5, 3) := by decide +kernel
theorem d_MD_open_31 : decode c_MD_open 31 = .ok (.iconst (-1), 1) := by decide +kernel
theorem d_MD_open_32 : decode c_MD_open 32 = .ok (.ireturn, 1) := by decide +kernel
theorem d_MD_open_33 : decode c_MD_open 33 = .ok (.aload_n 0, 1) := by decide +kernel
theorem d_MD_open_34 : decode c_MD_open 34 = .ok (.getfield 63, 3) := by decide +kernel
theorem d_MD_open_37 : decode c_MD_open 37 = .ok (.iload_n 1, 1) := by decide +kernel
theorem d_MD_open_38 : decode c_MD_open 38 = .ok (.baload, 1) := by decide +kernel
theorem d_MD_open_39 : decode c_MD_open 39 = .ok (.ifCond .eq 6, 3) := by decide +kernel
theorem d_MD_open_42 : decode c_MD_open 42 = .ok (.bipush 41, 2) := by decide +kernel
theorem d_MD_open_44 : decode c_MD_open 44 = .ok (.ireturn, 1) := by decide +kernel
theorem d_MD_open_45 : decode c_MD_open 45 = .ok (.iload_n 2, 1) := by decide +kernel
theorem d_MD_open_46 : decode c_MD_open 46 = .ok (.iconst 1, 1) := by decide +kernel
theorem d_MD_open_47 : decode c_MD_open 47 = .ok (.if_icmp .ne 72, 3) := by decide +kernel
theorem d_MD_open_50 : decode c_MD_open 50 = .ok (.aload_n 0, 1) := by decide +kernel
theorem d_MD_open_51 : decode c_MD_open 51 = .ok (.iconst 0, 1) := by decide +kernel
theorem d_MD_open_52 : decode c_MD_open 52 = .ok (.putfield 95, 3) := by decide +kernel
theorem d_MD_open_55 : decode c_MD_open 55 = .ok (.iconst 0, 1) := by decide +kernel
theorem d_MD_open_56 : decode c_MD_open 56 = .ok (.istore 4, 2) := by decide +kernel
theorem d_MD_open_58 : decode c_MD_open 58 = .ok (.iload 4, 2) := by decide +kernel
theorem d_MD_open_60 : decode c_MD_open 60 = .ok (.sipush 300, 3) := by decide +kernel
theorem d_MD_open_63 : decode c_MD_open 63 = .ok (.if_icmp .ge 17, 3) := by decide +kernel
theorem d_MD_open_66 : decode c_MD_open 66 = .ok (.aload_n 0, 1) := by decide +kernel
theorem d_MD_open_67 : decode c_MD_open 67 = .ok (.getfield 30, 3) := by decide +kernel
theorem d_MD_open_70 : decode c_MD_open 70 = .ok (.iload 4, 2) := by decide +kernel
theorem d_MD_open_72 : decode c_MD_open 72 = .ok (.iconst 0, 1) := by decide +kernel
theorem d_MD_open_73 : decode c_MD_open 73 = .ok (.iastore, 1) := by decide +kernel
theorem d_MD_open_74 : decode c_MD_open 74 = .ok (.iinc 4 1, 3) := by decide +kernel
theorem d_MD_open_77 : decode c_MD_open 77 = .ok (.goto (-19), 3) := by decide +kernel
theorem d_MD_open_80 : decode c_MD_open 80 = .ok (.iconst 0, 1) := by decide +kernel
theorem d_MD_open_81 : decode c_MD_open 81 = .ok (.istore 4, 2) := by decide +kernel
theorem d_MD_open_83 : decode c_MD_open 83 = .ok (.iload 4, 2) := by decide +kernel
theorem d_MD_open_85 : decode c_MD_open 85 = .ok (.iconst 5, 1) := by decide +kernel
theorem d_MD_open_86 : decode c_MD_open 86 = .ok (.if_icmp .ge 33, 3) := by decide +kernel
theorem d_MD_open_89 : decode c_MD_open 89 = .ok (.aload_n 0, 1) := by decide +kernel
theorem d_MD_open_90 : decode c_MD_open 90 = .ok (.getfield 45, 3) := by decide +kernel
theorem d_MD_open_93 : decode c_MD_open 93 = .ok (.iload 4, 2) := by decide +kernel
theorem d_MD_open_95 : decode c_MD_open 95 = .ok (.iconst 3, 1) := by decide +kernel
theorem d_MD_open_96 : decode c_MD_open 96 = .ok (.iastore, 1) := by decide +kernel
theorem d_MD_open_97 : decode c_MD_open 97 = .ok (.aload_n 0, 1) := by decide +kernel
theorem d_MD_open_98 : decode c_MD_open 98 = .ok (.getfield 51, 3) := by decide +kernel
theorem d_MD_open_101 : decode c_MD_open 101 = .ok (.iload 4, 2) := by decide +kernel
theorem d_MD_open_103 : decode c_MD_open 103 = .ok (.iconst 0, 1) := by decide +kernel
theorem d_MD_open_104 : decode c_MD_open 104 = .ok (.iastore, 1) := by decide +kernel
theorem d_MD_open_105 : decode c_MD_open 105 = .ok (.aload_n 0, 1) := by decide +kernel
theorem d_MD_open_106 : decode c_MD_open 106 = .ok (.getfield 57, 3) := by decide +kernel
theorem d_MD_open_109 : decode c_MD_open 109 = .ok (.iload 4, 2) := by decide +kernel
theorem d_MD_open_111 : decode c_MD_open 111 = .ok (.lconst 0, 1) := by decide +kernel
theorem d_MD_open_112 : decode c_MD_open 112 = .ok (.lastore, 1) := by decide +kernel
theorem d_MD_open_113 : decode c_MD_open 113 = .ok (.iinc 4 1, 3) := by decide +kernel
theorem d_MD_open_116 : decode c_MD_open 116 = .ok (.goto (-33), 3) := by decide +kernel
theorem d_MD_open_119 : decode c_MD_open 119 = .ok (.aload_n 0, 1) := by decide +kernel
theorem d_MD_open_120 : decode c_MD_open 120 = .ok (.iconst 1, 1) := by decide +kernel
theorem d_MD_open_121 : decode c_MD_open 121 = .ok (.putfield 84, 3) := by decide +kernel
theorem d_MD_open_124 : decode c_MD_open 124 = .ok (.aload_n 0, 1) := by decide +kernel
theorem d_MD_open_125 : decode c_MD_open 125 = .ok (.getfield 63, 3) := by decide +kernel
theorem d_MD_open_128 : decode c_MD_open 128 = .ok (.iload_n 1, 1) := by decide +kernel
theorem d_MD_open_129 : decode c_MD_open 129 = .ok (.iconst 1, 1) := by decide +kernel
theorem d_MD_open_130 : decode c_MD_open 130 = .ok (.bastore, 1) := by decide +kernel
theorem d_MD_open_131 : decode c_MD_open 131 = .ok (.aload_n 0, 1) := by decide +kernel
theorem d_MD_open_132 : decode c_MD_open 132 = .ok (.getfield 36, 3) := by decide +kernel
theorem d_MD_open_135 : decode c_MD_open 135 = .ok (.iload_n 1, 1) := by decide +kernel
theorem d_MD_open_136 : decode c_MD_open 136 = .ok (.iload_n 2, 1) := by decide +kernel
theorem d_MD_open_137 : decode c_MD_open 137 = .ok (.iastore, 1) := by decide +kernel
theorem d_MD_open_138 : decode c_MD_open 138 = .ok (.aload_n 0, 1) := by decide +kernel
theorem d_MD_open_139 : decode c_MD_open 139 = .ok (.getfield 39, 3) := by decide +kernel
theorem d_MD_open_142 : decode c_MD_open 142 = .ok (.iload_n 1, 1) := by decide +kernel
theorem d_MD_open_143 : decode c_MD_open 143 = .ok (.iload_n 3, 1) := by decide +kernel
theorem d_MD_open_144 : decode c_MD_open 144 = .ok (.iastore, 1) := by decide +kernel
theorem d_MD_open_145 : decode c_MD_open 145 = .ok (.aload_n 0, 1) := by decide +kernel
theorem d_MD_open_146 : decode c_MD_open 146 = .ok (.getfield 42, 3) := by decide +kernel
theorem d_MD_open_149 : decode c_MD_open 149 = .ok (.iload_n 1, 1) := by decide +kernel
theorem d_MD_open_150 : decode c_MD_open 150 = .ok (.iconst 0, 1) := by decide +kernel
theorem d_MD_open_151 : decode c_MD_open 151 = .ok (.iastore, 1) := by decide +kernel
theorem d_MD_open_152 : decode c_MD_open 152 = .ok (.aload_n 0, 1) := by decide +kernel
theorem d_MD_open_153 : decode c_MD_open 153 = .ok (.getfield 45, 3) := by decide +kernel
theorem d_MD_open_156 : decode c_MD_open 156 = .ok (.iload_n 1, 1) := by decide +kernel
theorem d_MD_open_157 : decode c_MD_open 157 = .ok (.iconst 0, 1) := by decide +kernel
theorem d_MD_open_158 : decode c_MD_open 158 = .ok (.iastore, 1) := by decide +kernel
theorem d_MD_open_159 : decode c_MD_open 159 = .ok (.aload_n 0, 1) := by decide +kernel
theorem d_MD_open_160 : decode c_MD_open 160 = .ok (.getfield 51, 3) := by decide +kernel
theorem d_MD_open_163 : decode c_MD_open 163 = .ok (.iload_n 1, 1) := by decide +kernel
theorem d_MD_open_164 : decode c_MD_open 164 = .ok (.iconst 0, 1) := by decide +kernel
theorem d_MD_open_165 : decode c_MD_open 165 = .ok (.iastore, 1) := by decide +kernel
theorem d_MD_open_166 : decode c_MD_open 166 = .ok (.aload_n 0, 1) := by decide +kernel
theorem d_MD_open_167 : decode c_MD_open 167 = .ok (.getfield 57, 3) := by decide +kernel
theorem d_MD_open_170 : decode c_MD_open 170 = .ok (.iload_n 1, 1) := by decide +kernel
theorem d_MD_open_171 : decode c_MD_open 171 = .ok (.lconst 0, 1) := by decide +kernel
theorem d_MD_open_172 : decode c_MD_open 172 = .ok (.lastore, 1) := by decide +kernel
theorem d_MD_open_173 : decode c_MD_open 173 = .ok (.aload_n 0, 1) := by decide +kernel
theorem d_MD_open_174 : decode c_MD_open 174 = .ok (.getfield 66, 3) := by decide +kernel
theorem d_MD_open_177 : decode c_MD_open 177 = .ok (.iload_n 1, 1) := by decide +kernel
theorem d_MD_open_178 : decode c_MD_open 178 = .ok (.iconst 0, 1) := by decide +kernel
theorem d_MD_open_179 : decode c_MD_open 179 = .ok (.bastore, 1) := by decide +kernel
theorem d_MD_open_180 : decode c_MD_open 180 = .ok (.aload_n 0, 1) := by decide +kernel
theorem d_MD_open_181 : decode c_MD_open 181 = .ok (.getfield 69, 3) := by decide +kernel
theorem d_MD_open_184 : decode c_MD_open 184 = .ok (.iload_n 1, 1) := by decide +kernel
theorem d_MD_open_185 : decode c_MD_open 185 = .ok (.iconst 0, 1) := by decide +kernel
theorem d_MD_open_186 : decode c_MD_open 186 = .ok (.bastore, 1) := by decide +kernel
theorem d_MD_open_187 : decode c_MD_open 187 = .ok (.iconst 0, 1) := by decide +kernel
theorem d_MD_open_188 : decode c_MD_open 188 = .ok (.ireturn, 1) := by decide +kernel
theorem d_MD_isView_0 : decode c_MD_isView 0 = .ok (.iload_n 1, 1) := by decide +kernel
theorem d_MD_isView_1 : decode c_MD_isView 1 = .ok (.ifCond .lt 15, 3) := by decide +kernel
theorem d_MD_isView_4 : decode c_MD_isView 4 = .ok (.iload_n 1, 1) := by decide +kernel
theorem d_MD_isView_5 : decode c_MD_isView 5 = .ok (.aload_n 0, 1) := by decide +kernel
theorem d_MD_isView_6 : decode c_MD_isView 6 = .ok (.getfield 81, 3) := by decide +kernel
theorem d_MD_isView_9 : decode c_MD_isView 9 = .ok (.if_icmp .ge 7, 3) := by decide +kernel
theorem d_MD_isView_12 : decode c_MD_isView 12 = .ok (.iconst 1, 1) := by decide +kernel
theorem d_MD_isView_13 : decode c_MD_isView 13 = .ok (.goto 4, 3) := by decide +kernel
theorem d_MD_isView_16 : decode c_MD_isView 16 = .ok (.iconst 0, 1) := by decide +kernel
theorem d_MD_isView_17 : decode c_MD_isView 17 = .ok (.ireturn, 1) := by decide +kernel
theorem d_MD_close_0 : decode c_MD_close 0 = .ok (.aload_n 0, 1) := by decide +kernel
theorem d_MD_close_1 : decode c_MD_close 1 = .ok (.iconst 0, 1) := by decide +kernel
theorem d_MD_close_2 : decode c_MD_close 2 = .ok (.putfield 72, 3) := by decide +kernel
theorem d_MD_close_5 : decode c_MD_close 5 = .ok (.aload_n 0, 1) := by decide +kernel
theorem d_MD_close_6 : decode c_MD_close 6 = .ok (.iload_n 1, 1) := by decide +kernel
theorem d_MD_close_7 : decode c_MD_close 7 = .ok (.invokevirtual 92, 3) := by decide +kernel
theorem d_MD_close_10 : decode c_MD_close 10 = .ok (.ifCond .ne 5, 3) := by decide +kernel
theorem d_MD_close_13 : decode c_MD_close 13 = .ok (.iconst (-1), 1) := by decide +kernel
theorem d_MD_close_14 : decode c_MD_close 14 = .ok (.ireturn, 1) := by decide +kernel
theorem d_MD_close_15 : decode c_MD_close 15 = .ok (.aload_n 0, 1) := by decide +kernel
theorem d_MD_close_16 : decode c_MD_close 16 = .ok (.getfield 63, 3) := by decide +kernel
theorem d_MD_close_19 : decode c_MD_close 19 = .ok (.iload_n 1, 1) := by decide +kernel
theorem d_MD_close_20 : decode c_MD_close 20 = .ok (.baload, 1) := by decide +kernel
theorem d_MD_close_21 : decode c_MD_close 21 = .ok (.ifCond .ne 6, 3) := by decide +kernel
theorem d_MD_close_24 : decode c_MD_close 24 = .ok (.bipush 42, 2) := by decide +kernel
theorem d_MD_close_26 : decode c_MD_close 26 = .ok (.ireturn, 1) := by decide +kernel
theorem d_MD_close_27 : decode c_MD_close 27 = .ok (.aload_n 0, 1) := by decide +kernel
theorem d_MD_close_28 : decode c_MD_close 28 = .ok (.getfield 63, 3) := by decide +kernel
theorem d_MD_close_31 : decode c_MD_close 31 = .ok (.iload_n 1, 1) := by decide +kernel
theorem d_MD_close_32 : decode c_MD_close 32 = .ok (.iconst 0, 1) := by decide +kernel
theorem d_MD_close_33 : decode c_MD_close 33 = .ok (.bastore, 1) := by decide +kernel
theorem d_MD_close_34 : decode c_MD_close 34 = .ok (.aload_n 0, 1) := by decide +kernel
theorem d_MD_close_35 : decode c_MD_close 35 = .ok (.getfield 51, 3) := by decide +kernel
theorem d_MD_close_38 : decode c_MD_close 38 = .ok (.iload_n 1, 1) := by decide +kernel
theorem d_MD_close_39 : decode c_MD_close 39 = .ok (.iconst 0, 1) := by decide +kernel
theorem d_MD_close_40 : decode c_MD_close 40 = .ok (.iastore, 1) := by decide +kernel
theorem d_MD_close_41 : decode c_MD_close 41 = .ok (.aload_n 0, 1) := by decide +kernel
theorem d_MD_close_42 : decode c_MD_close 42 = .ok (.getfield 57, 3) := by decide +kernel
theorem d_MD_close_45 : decode c_MD_close 45 = .ok (.iload_n 1, 1) := by decide +kernel
theorem d_MD_close_46 : decode c_MD_close 46 = .ok (.lconst 0, 1) := by decide +kernel
theorem d_MD_close_47 : decode c_MD_close 47 = .ok (.lastore, 1) := by decide +kernel
theorem d_MD_close_48 : decode c_MD_close 48 = .ok (.iconst 0, 1) := by decide +kernel
theorem d_MD_close_49 : decode c_MD_close 49 = .ok (.ireturn, 1) := by decide +kernel
theorem d_MD_write_0 : decode c_MD_write 0 = .ok (.aload_n 0, 1) := by decide +kernel
theorem d_MD_write_1 : decode c_MD_write 1 = .ok (.iconst 0, 1) := by decide +kernel
theorem d_MD_write_2 : decode c_MD_write 2 = .ok (.putfield 72, 3) := by decide +kernel
theorem d_MD_write_5 : decode c_MD_write 5 = .ok (.aload_n 0, 1) := by decide +kernel
theorem d_MD_write_6 : decode c_MD_write 6 = .ok (.iload_n 1, 1) := by decide +kernel
theorem d_MD_write_7 : decode c_MD_write 7 = .ok (.invokevirtual 92, 3) := by decide +kernel
theorem d_MD_write_10 : decode c_MD_write 10 = .ok (.ifCond .ne 5, 3) := by decide +kernel
theorem d_MD_write_13 : decode c_MD_write 13 = .ok (.iconst (-1), 1) := by decide +kernel
theorem d_MD_write_14 : decode c_MD_write 14 = .ok (.ireturn, 1) := by decide +kernel
theorem d_MD_write_15 : decode c_MD_write 15 = .ok (.aload_n 0, 1) := by decide +kernel
theorem d_MD_write_16 : decode c_MD_write 16 = .ok (.getfield 63, 3) := by decide +kernel
theorem d_MD_write_19 : decode c_MD_write 19 = .ok (.iload_n 1, 1) := by decide +kernel
theorem d_MD_write_20 : decode c_MD_write 20 = .ok (.baload, 1) := by decide +kernel
theorem d_MD_write_21 : decode c_MD_write 21 = .ok (.ifCond .ne 6, 3) := by decide +kernel
theorem d_MD_write_24 : decode c_MD_write 24 = .ok (.bipush 42, 2) := by decide +kernel
theorem d_MD_write_26 : decode c_MD_write 26 = .ok (.ireturn, 1) := by decide +kernel
theorem d_MD_write_27 : decode c_MD_write 27 = .ok (.aload_n 0, 1) := by decide +kernel
theorem d_MD_write_28 : decode c_MD_write 28 = .ok (.getfield 36, 3) := by decide +kernel
theorem d_MD_write_31 : decode c_MD_write 31 = .ok (.iload_n 1, 1) := by decide +kernel
theorem d_MD_write_32 : decode c_MD_write 32 = .ok (.iaload, 1) := by decide +kernel
theorem d_MD_write_33 : decode c_MD_write 33 = .ok (.ifCond .eq 22, 3) := by decide +kernel
theorem d_MD_write_36 : decode c_MD_write 36 = .ok (.aload_n 0, 1) := by decide +kernel
theorem d_MD_write_37 : decode c_MD_write 37 = .ok (.getfield 36, 3) := by decide +kernel
theorem d_MD_write_40 : decode c_MD_write 40 = .ok (.iload_n 1, 1) := by decide +kernel
theorem d_MD_write_41 : decode c_MD_write 41 = .ok (.iaload, 1) := by decide +kernel
theorem d_MD_write_42 : decode c_MD_write 42 = .ok (.iconst 2, 1) := by decide +kernel
theorem d_MD_write_43 : decode c_MD_write 43 = .ok (.if_icmp .ne 15, 3) := by decide +kernel
theorem d_MD_write_46 : decode c_MD_write 46 = .ok (.aload_n 0, 1) := by decide +kernel
theorem d_MD_write_47 : decode c_MD_write 47 = .ok (.getfield 39, 3) := by decide +kernel
theorem d_MD_write_50 : decode c_MD_write 50 = .ok (.iload_n 1, 1) := by decide +kernel
theorem d_MD_write_51 : decode c_MD_write 51 = .ok (.iaload, 1) := by decide +kernel
theorem d_MD_write_52 : decode c_MD_write 52 = .ok (.ifCond .ne 6, 3) := by decide +kernel
theorem d_MD_write_55 : decode c_MD_write 55 = .ok (.bipush 48, 2) := by decide +kernel
theorem d_MD_write_57 : decode c_MD_write 57 = .ok (.ireturn, 1) := by decide +kernel
theorem d_MD_write_58 : decode c_MD_write 58 = .ok (.aload_n 0, 1) := by decide +kernel
theorem d_MD_write_59 : decode c_MD_write 59 = .ok (.iload_n 1, 1) := by decide +kernel
theorem d_MD_write_60 : decode c_MD_write 60 = .ok (.invokevirtual 150, 3) := by decide +kernel
theorem d_MD_write_63 : decode c_MD_write 63 = .ok (.aload_n 0, 1) := by decide +kernel
theorem d_MD_write_64 : decode c_MD_write 64 = .ok (.iconst 0, 1) := by decide +kernel
theorem d_MD_write_65 : decode c_MD_write 65 = .ok (.lload_n 2, 1) := by decide +kernel
theorem d_MD_write_66 : decode c_MD_write 66 = .ok (.invokevirtual 98, 3) := by decide +kernel
theorem d_MD_write_69 : decode c_MD_write 69 = .ok (.lstore 4, 2) := by decide +kernel
theorem d_MD_write_71 : decode c_MD_write 71 = .ok (.aload_n 0, 1) := by decide +kernel
theorem d_MD_write_72 : decode c_MD_write 72 = .ok (.getfield 39, 3) := by decide +kernel
theorem d_MD_write_75 : decode c_MD_write 75 = .ok (.iload_n 1, 1) := by decide +kernel
theorem d_MD_write_76 : decode c_MD_write 76 = .ok (.iaload, 1) := by decide +kernel
theorem d_MD_write_77 : decode c_MD_write 77 = .ok (.ifCond .ne 89, 3) := by decide +kernel
theorem d_MD_write_80 : decode c_MD_write 80 = .ok (.aload_n 0, 1) := by decide +kernel
theorem d_MD_write_81 : decode c_MD_write 81 = .ok (.getfield 69, 3) := by decide +kernel
theorem d_MD_write_84 : decode c_MD_write 84 = .ok (.iload_n 1, 1) := by decide +kernel
theorem d_MD_write_85 : decode c_MD_write 85 = .ok (.baload, 1) := by decide +kernel
theorem d_MD_write_86 : decode c_MD_write 86 = .ok (.ifCond .eq 20, 3) := by decide +kernel
theorem d_MD_write_89 : decode c_MD_write 89 = .ok (.aload_n 0, 1) := by decide +kernel
theorem d_MD_write_90 : decode c_MD_write 90 = .ok (.getfield 60, 3) := by decide +kernel
theorem d_MD_write_93 : decode c_MD_write 93 = .ok (.iload_n 1, 1) := by decide +kernel
theorem d_MD_write_94 : decode c_MD_write 94 = .ok (.laload, 1) := by decide +kernel
theorem d_MD_write_95 : decode c_MD_write 95 = .ok (.lload 4, 2) := by decide +kernel
theorem d_MD_write_97 : decode c_MD_write 97 = .ok (.invokestatic 106, 3) := by decide +kernel
theorem d_MD_write_100 : decode c_MD_write 100 = .ok (.ifCond .ne 6, 3) := by decide +kernel
theorem d_MD_write_103 : decode c_MD_write 103 = .ok (.bipush 21, 2) := by decide +kernel
theorem d_MD_write_105 : decode c_MD_write 105 = .ok (.ireturn, 1) := by decide +kernel
theorem d_MD_write_106 : decode c_MD_write 106 = .ok (.iconst 0, 1) := by decide +kernel
theorem d_MD_write_107 : decode c_MD_write 107 = .ok (.istore 6, 2) := by decide +kernel
theorem d_MD_write_109 : decode c_MD_write 109 = .ok (.iload 6, 2) := by decide +kernel
theorem d_MD_write_111 : decode c_MD_write 111 = .ok (.sipush 300, 3) := by decide +kernel
theorem d_MD_write_114 : decode c_MD_write 114 = .ok (.if_icmp .ge 52, 3) := by decide +kernel
theorem d_MD_write_117 : decode c_MD_write 117 = .ok (.aload_n 0, 1) := by decide +kernel
theorem d_MD_write_118 : decode c_MD_write 118 = .ok (.getfield 36, 3) := by decide +kernel
theorem d_MD_write_121 : decode c_MD_write 121 = .ok (.iload_n 1, 1) := by decide +kernel
theorem d_MD_write_122 : decode c_MD_write 122 = .ok (.iaload, 1) := by decide +kernel
theorem d_MD_write_123 : decode c_MD_write 123 = .ok (.iconst 3, 1) := by decide +kernel
theorem d_MD_write_124 : decode c_MD_write 124 = .ok (.if_icmp .ne 42, 3) := by decide +kernel
theorem d_MD_write_127 : decode c_MD_write 127 = .ok (.aload_n 0, 1) := by decide +kernel
theorem d_MD_write_128 : decode c_MD_write 128 = .ok (.getfield 30, 3) := by decide +kernel
theorem d_MD_write_131 : decode c_MD_write 131 = .ok (.iload 6, 2) := by decide +kernel
theorem d_MD_write_133 : decode c_MD_write 133 = .ok (.iaload, 1) := by decide +kernel
theorem d_MD_write_134 : decode c_MD_write 134 = .ok (.ifCond .le 26, 3) := by decide +kernel
theorem d_MD_write_137 : decode c_MD_write 137 = .ok (.aload_n 0, 1) := by decide +kernel
theorem d_MD_write_138 : decode c_MD_write 138 = .ok (.iconst 0, 1) := by decide +kernel
theorem d_MD_write_139 : decode c_MD_write 139 = .ok (.aload_n 0, 1) := by decide +kernel
theorem d_MD_write_140 : decode c_MD_write 140 = .ok (.getfield 27, 3) := by decide +kernel
theorem d_MD_write_143 : decode c_MD_write 143 = .ok (.iload 6, 2) := by decide +kernel
theorem d_MD_write_145 : decode c_MD_write 145 = .ok (.laload, 1) := by decide +kernel
theorem d_MD_write_146 : decode c_MD_write 146 = .ok (.invokevirtual 98, 3) := by decide +kernel
theorem d_MD_write_149 : decode c_MD_write 149 = .ok (.lload 4, 2) := by decide +kernel
theorem d_MD_write_151 : decode c_MD_write 151 = .ok (.invokestatic 106, 3) := by decide +kernel
theorem d_MD_write_154 : decode c_MD_write 154 = .ok (.ifCond .ne 6, 3) := by decide +kernel
theorem d_MD_write_157 : decode c_MD_write 157 = .ok (.bipush 21, 2) := by decide +kernel
theorem d_MD_write_159 : decode c_MD_write 159 = .ok (.ireturn, 1) := by decide +kernel
theorem d_MD_write_160 : decode c_MD_write 160 = .ok (.iinc 6 1, 3) := by decide +kernel
theorem d_MD_write_163 : decode c_MD_write 163 = .ok (.goto (-54), 3) := by decide +kernel
theorem d_MD_write_166 : decode c_MD_write 166 = .ok (.aload_n 0, 1) := by decide +kernel
theorem d_MD_write_167 : decode c_MD_write 167 = .ok (.lload_n 2, 1) := by decide +kernel
theorem d_MD_write_168 : decode c_MD_write 168 = .ok (.iconst (-1), 1) := by decide +kernel
theorem d_MD_write_169 : decode c_MD_write 169 = .ok (.invokevirtual 154, 3) := by decide +kernel
theorem d_MD_write_172 : decode c_MD_write 172 = .ok (.istore 6, 2) := by decide +kernel
theorem d_MD_write_174 : decode c_MD_write 174 = .ok (.iload 6, 2) := by decide +kernel
theorem d_MD_write_176 : decode c_MD_write 176 = .ok (.bipush 22, 2) := by decide +kernel
theorem d_MD_write_178 : decode c_MD_write 178 = .ok (.if_icmp .ne 6, 3) := by decide +kernel
theorem d_MD_write_181 : decode c_MD_write 181 = .ok (.bipush 22, 2) := by decide +kernel
theorem d_MD_write_183 : decode c_MD_write 183 = .ok (.ireturn, 1) := by decide +kernel
theorem d_MD_write_184 : decode c_MD_write 184 = .ok (.aload_n 0, 1) := by decide +kernel
theorem d_MD_write_185 : decode c_MD_write 185 = .ok (.getfield 95, 3) := by decide +kernel
theorem d_MD_write_188 : decode c_MD_write 188 = .ok (.sipush 300, 3) := by decide +kernel
theorem d_MD_write_191 : decode c_MD_write 191 = .ok (.if_icmp .ne 6, 3) := by decide +kernel
theorem d_MD_write_194 : decode c_MD_write 194 = .ok (.bipush 24, 2) := by decide +kernel
theorem d_MD_write_196 : decode c_MD_write 196 = .ok (.ireturn, 1) := by decide +kernel
theorem d_MD_write_197 : decode c_MD_write 197 = .ok (.iconst 0, 1) := by decide +kernel
theorem d_MD_write_198 : decode c_MD_write 198 = .ok (.istore 7, 2) := by decide +kernel
theorem d_MD_write_200 : decode c_MD_write 200 = .ok (.aload_n 0, 1) := by decide +kernel
theorem d_MD_write_201 : decode c_MD_write 201 = .ok (.getfield 30, 3) := by decide +kernel
theorem d_MD_write_204 : decode c_MD_write 204 = .ok (.iload 7, 2) := by decide +kernel
theorem d_MD_write_206 : decode c_MD_write 206 = .ok (.iaload, 1) := by decide +kernel
theorem d_MD_write_207 : decode c_MD_write 207 = .ok (.ifCond .le 9, 3) := by decide +kernel
theorem d_MD_write_210 : decode c_MD_write 210 = .ok (.iinc 7 1, 3) := by decide +kernel
theorem d_MD_write_213 : decode c_MD_write 213 = .ok (.goto (-13), 3) := by decide +kernel
theorem d_MD_write_216 : decode c_MD_write 216 = .ok (.aload_n 0, 1) := by decide +kernel
theorem d_MD_write_217 : decode c_MD_write 217 = .ok (.iload 7, 2) := by decide +kernel
theorem d_MD_write_219 : decode c_MD_write 219 = .ok (.lload_n 2, 1) := by decide +kernel
theorem d_MD_write_220 : decode c_MD_write 220 = .ok (.iconst 1, 1) := by decide +kernel
theorem d_MD_write_221 : decode c_MD_write 221 = .ok (.invokevirtual 158, 3) := by decide +kernel
theorem d_MD_write_224 : decode c_MD_write 224 = .ok (.aload_n 0, 1) := by decide +kernel
theorem d_MD_write_225 : decode c_MD_write 225 = .ok (.dup, 1) := by decide +kernel
theorem d_MD_write_226 : decode c_MD_write 226 = .ok (.getfield 162, 3) := by decide +kernel
theorem d_MD_write_229 : decode c_MD_write 229 = .ok (.iconst 1, 1) := by decide +kernel
theorem d_MD_write_230 : decode c_MD_write 230 = .ok (.iadd, 1) := by decide +kernel
theorem d_MD_write_231 : decode c_MD_write 231 = .ok (.putfield 162, 3) := by decide +kernel
theorem d_MD_write_234 : decode c_MD_write 234 = .ok (.aload_n 0, 1) := by decide +kernel
theorem d_MD_write_235 : decode c_MD_write 235 = .ok (.getfield 30, 3) := by decide +kernel
theorem d_MD_write_238 : decode c_MD_write 238 = .ok (.iload 7, 2) := by decide +kernel
theorem d_MD_write_240 : decode c_MD_write 240 = .ok (.aload_n 0, 1) := by decide +kernel
theorem d_MD_write_241 : decode c_MD_write 241 = .ok (.getfield 162, 3) := by decide +kernel
theorem d_MD_write_244 : decode c_MD_write 244 = .ok (.iastore, 1) := by decide +kernel
theorem d_MD_write_245 : decode c_MD_write 245 = .ok (.aload_n 0, 1) := by decide +kernel
theorem d_MD_write_246 : decode c_MD_write 246 = .ok (.dup, 1) := by decide +kernel
theorem d_MD_write_247 : decode c_MD_write 247 = .ok (.getfield 95, 3) := by decide +kernel
theorem d_MD_write_250 : decode c_MD_write 250 = .ok (.iconst 1, 1) := by decide +kernel
theorem d_MD_write_251 : decode c_MD_write 251 = .ok (.iadd, 1) := by decide +kernel
theorem d_MD_write_252 : decode c_MD_write 252 = .ok (.putfield 95, 3) := by decide +kernel
theorem d_MD_write_255 : decode c_MD_write 255 = .ok (.aload_n 0, 1) := by decide +kernel
theorem d_MD_write_256 : decode c_MD_write 256 = .ok (.getfield 69, 3) := by decide +kernel
theorem d_MD_write_259 : decode c_MD_write 259 = .ok (.iload_n 1, 1) := by decide +kernel
theorem d_MD_write_260 : decode c_MD_write 260 = .ok (.iconst 1, 1) := by decide +kernel
theorem d_MD_write_261 : decode c_MD_write 261 = .ok (.bastore, 1) := by decide +kernel
theorem d_MD_write_262 : decode c_MD_write 262 = .ok (.aload_n 0, 1) := by decide +kernel
theorem d_MD_write_263 : decode c_MD_write 263 = .ok (.getfield 60, 3) := by decide +kernel
theorem d_MD_write_266 : decode c_MD_write 266 = .ok (.iload_n 1, 1) := by decide +kernel
theorem d_MD_write_267 : decode c_MD_write 267 = .ok (.lload 4, 2) := by decide +kernel
theorem d_MD_write_269 : decode c_MD_write 269 = .ok (.lastore, 1) := by decide +kernel
theorem d_MD_write_270 : decode c_MD_write 270 = .ok (.iload 6, 2) := by decide +kernel
theorem d_MD_write_272 : decode c_MD_write 272 = .ok (.ireturn, 1) := by decide +kernel
theorem d_MD_forget_0 : decode c_MD_forget 0 = .ok (.aload_n 0, 1) := by decide +kernel
theorem d_MD_forget_1 : decode c_MD_forget 1 = .ok (.aload_n 0, 1) := by decide +kernel
theorem d_MD_forget_2 : decode c_MD_forget 2 = .ok (.getfield 51, 3) := by decide +kernel
theorem d_MD_forget_5 : decode c_MD_forget 5 = .ok (.iload_n 1, 1) := by decide +kernel
theorem d_MD_forget_6 : decode c_MD_forget 6 = .ok (.iaload, 1) := by decide +kernel
theorem d_MD_forget_7 : decode c_MD_forget 7 = .ok (.putfield 136, 3) := by decide +kernel
theorem d_MD_forget_10 : decode c_MD_forget 10 = .ok (.aload_n 0, 1) := by decide +kernel
theorem d_MD_forget_11 : decode c_MD_forget 11 = .ok (.aload_n 0, 1) := by decide +kernel
theorem d_MD_forget_12 : decode c_MD_forget 12 = .ok (.getfield 57, 3) := by decide +kernel
theorem d_MD_forget_15 : decode c_MD_forget 15 = .ok (.iload_n 1, 1) := by decide +kernel
theorem d_MD_forget_16 : decode c_MD_forget 16 = .ok (.laload, 1) := by decide +kernel
theorem d_MD_forget_17 : decode c_MD_forget 17 = .ok (.putfield 139, 3) := by decide +kernel
theorem d_MD_forget_20 : decode c_MD_forget 20 = .ok (.aload_n 0, 1) := by decide +kernel
theorem d_MD_forget_21 : decode c_MD_forget 21 = .ok (.getfield 51, 3) := by decide +kernel
theorem d_MD_forget_24 : decode c_MD_forget 24 = .ok (.iload_n 1, 1) := by decide +kernel
theorem d_MD_forget_25 : decode c_MD_forget 25 = .ok (.iconst 0, 1) := by decide +kernel
theorem d_MD_forget_26 : decode c_MD_forget 26 = .ok (.iastore, 1) := by decide +kernel
theorem d_MD_forget_27 : decode c_MD_forget 27 = .ok (.aload_n 0, 1) := by decide +kernel
theorem d_MD_forget_28 : decode c_MD_forget 28 = .ok (.getfield 57, 3) := by decide +kernel
theorem d_MD_forget_31 : decode c_MD_forget 31 = .ok (.iload_n 1, 1) := by decide +kernel
theorem d_MD_forget_32 : decode c_MD_forget 32 = .ok (.lconst 0, 1) := by decide +kernel
theorem d_MD_forget_33 : decode c_MD_forget 33 = .ok (.lastore, 1) := by decide +kernel
theorem d_MD_forget_34 : decode c_MD_forget 34 = .ok (.return_, 1) := by decide +kernel
theorem d_MD_field_0 : decode c_MD_field 0 = .ok (.lload_n 2, 1) := by decide +kernel
theorem d_MD_field_1 : decode c_MD_field 1 = .ok (.bipush 8, 2) := by decide +kernel
theorem d_MD_field_3 : decode c_MD_field 3 = .ok (.aload_n 0, 1) := by decide +kernel
theorem d_MD_field_4 : decode c_MD_field 4 = .ok (.getfield 7, 3) := by decide +kernel
theorem d_MD_field_7 : decode c_MD_field 7 = .ok (.iload_n 1, 1) := by decide +kernel
theorem d_MD_field_8 : decode c_MD_field 8 = .ok (.iaload, 1) := by decide +kernel
theorem d_MD_field_9 : decode c_MD_field 9 = .ok (.imul, 1) := by decide +kernel
theorem d_MD_field_10 : decode c_MD_field 10 = .ok (.lshl, 1) := by decide +kernel
theorem d_MD_field_11 : decode c_MD_field 11 = .ok (.lstore 4, 2) := by decide +kernel
theorem d_MD_field_13 : decode c_MD_field 13 = .ok (.lload 4, 2) := by decide +kernel
theorem d_MD_field_15 : decode c_MD_field 15 = .ok (.bipush 64, 2) := by decide +kernel
theorem d_MD_field_17 : decode c_MD_field 17 = .ok (.bipush 8, 2) := by decide +kernel
theorem d_MD_field_19 : decode c_MD_field 19 = .ok (.aload_n 0, 1) := by decide +kernel
theorem d_MD_field_20 : decode c_MD_field 20 = .ok (.getfield 13, 3) := by decide +kernel
theorem d_MD_field_23 : decode c_MD_field 23 = .ok (.iload_n 1, 1) := by decide +kernel
theorem d_MD_field_24 : decode c_MD_field 24 = .ok (.iaload, 1) := by decide +kernel
theorem d_MD_field_25 : decode c_MD_field 25 = .ok (.imul, 1) := by decide +kernel
theorem d_MD_field_26 : decode c_MD_field 26 = .ok (.isub, 1) := by decide +kernel
theorem d_MD_field_27 : decode c_MD_field 27 = .ok (.lushr, 1) := by decide +kernel
theorem d_MD_field_28 : decode c_MD_field 28 = .ok (.lreturn, 1) := by decide +kernel
theorem d_MD_isLess_0 : decode c_MD_isLess 0 = .ok (.lload_n 0, 1) := by decide +kernel
theorem d_MD_isLess_1 : decode c_MD_isLess 1 = .ok (.ldc2_w 76, 3) := by decide +kernel
theorem d_MD_isLess_4 : decode c_MD_isLess 4 = .ok (.lxor, 1) := by decide +kernel
theorem d_MD_isLess_5 : decode c_MD_isLess 5 = .ok (.lload_n 2, 1) := by decide +kernel
theorem d_MD_isLess_6 : decode c_MD_isLess 6 = .ok (.ldc2_w 76, 3) := by decide +kernel
theorem d_MD_isLess_9 : decode c_MD_isLess 9 = .ok (.lxor, 1) := by decide +kernel
theorem d_MD_isLess_10 : decode c_MD_isLess 10 = .ok (.lcmp, 1) := by decide +kernel
theorem d_MD_isLess_11 : decode c_MD_isLess 11 = .ok (.ifCond .ge 7, 3) := by decide +kernel
theorem d_MD_isLess_14 : decode c_MD_isLess 14 = .ok (.iconst 1, 1) := by decide +kernel
theorem d_MD_isLess_15 : decode c_MD_isLess 15 = .ok (.goto 4, 3) := by decide +kernel
theorem d_MD_isLess_18 : decode c_MD_isLess 18 = .ok (.iconst 0, 1) := by decide +kernel
theorem d_MD_isLess_19 : decode c_MD_isLess 19 = .ok (.ireturn, 1) := by decide +kernel
theorem d_MD_barred_0 : decode c_MD_barred 0 = .ok (.iconst 0, 1) := by decide +kernel
theorem d_MD_barred_1 : decode c_MD_barred 1 = .ok (.istore 4, 2) := by decide +kernel
theorem d_MD_barred_3 : decode c_MD_barred 3 = .ok (.iconst 0, 1) := by decide +kernel
theorem d_MD_barred_4 : decode c_MD_barred 4 = .ok (.istore 5, 2) := by decide +kernel
theorem d_MD_barred_6 : decode c_MD_barred 6 = .ok (.iload 5, 2) := by decide +kernel
theorem d_MD_barred_8 : decode c_MD_barred 8 = .ok (.aload_n 0, 1) := by decide +kernel
theorem d_MD_barred_9 : decode c_MD_barred 9 = .ok (.getfield 78, 3) := by decide +kernel
theorem d_MD_barred_12 : decode c_MD_barred 12 = .ok (.if_icmp .ge 119, 3) := by decide +kernel
theorem d_MD_barred_15 : decode c_MD_barred 15 = .ok (.aload_n 0, 1) := by decide +kernel
theorem d_MD_barred_16 : decode c_MD_barred 16 = .ok (.iload 5, 2) := by decide +kernel
theorem d_MD_barred_18 : decode c_MD_barred 18 = .ok (.lload_n 1, 1) := by decide +kernel
theorem d_MD_barred_19 : decode c_MD_barred 19 = .ok (.invokevirtual 98, 3) := by decide +kernel
theorem d_MD_barred_22 : decode c_MD_barred 22 = .ok (.lstore 6, 2) := by decide +kernel
theorem d_MD_barred_24 : decode c_MD_barred 24 = .ok (.iload_n 3, 1) := by decide +kernel
theorem d_MD_barred_25 : decode c_MD_barred 25 = .ok (.iconst (-1), 1) := by decide +kernel
theorem d_MD_barred_26 : decode c_MD_barred 26 = .ok (.if_icmp .eq 31, 3) := by decide +kernel
theorem d_MD_barred_29 : decode c_MD_barred 29 = .ok (.aload_n 0, 1) := by decide +kernel
theorem d_MD_barred_30 : decode c_MD_barred 30 = .ok (.iload 5, 2) := by decide +kernel
theorem d_MD_barred_32 : decode c_MD_barred 32 = .ok (.iload_n 3, 1) := by decide +kernel
theorem d_MD_barred_33 : decode c_MD_barred 33 = .ok (.invokevirtual 114, 3) := by decide +kernel
theorem d_MD_barred_36 : decode c_MD_barred 36 = .ok (.ifCond .eq 21, 3) := by decide +kernel
theorem d_MD_barred_39 : decode c_MD_barred 39 = .ok (.aload_n 0, 1) := by decide +kernel
theorem d_MD_barred_40 : decode c_MD_barred 40 = .ok (.iload 5, 2) := by decide +kernel
theorem d_MD_barred_42 : decode c_MD_barred 42 = .ok (.aload_n 0, 1) := by decide +kernel
theorem d_MD_barred_43 : decode c_MD_barred 43 = .ok (.getfield 27, 3) := by decide +kernel
theorem d_MD_barred_46 : decode c_MD_barred 46 = .ok (.iload_n 3, 1) := by decide +kernel
theorem d_MD_barred_47 : decode c_MD_barred 47 = .ok (.laload, 1) := by decide +kernel
theorem d_MD_barred_48 : decode c_MD_barred 48 = .ok (.invokevirtual 98, 3) := by decide +kernel
theorem d_MD_barred_51 : decode c_MD_barred 51 = .ok (.lload 6, 2) := by decide +kernel
theorem d_MD_barred_53 : decode c_MD_barred 53 = .ok (.lcmp, 1) := by decide +kernel
theorem d_MD_barred_54 : decode c_MD_barred 54 = .ok (.ifCond .eq 7, 3) := by decide +kernel
theorem d_MD_barred_57 : decode c_MD_barred 57 = .ok (.iconst 1, 1) := by decide +kernel
theorem d_MD_barred_58 : decode c_MD_barred 58 = .ok (.goto 4, 3) := by decide +kernel
theorem d_MD_barred_61 : decode c_MD_barred 61 = .ok (.iconst 0, 1) := by decide +kernel
theorem d_MD_barred_62 : decode c_MD_barred 62 = .ok (.istore 8, 2) := by decide +kernel
theorem d_MD_barred_64 : decode c_MD_barred 64 = .ok (.aload_n 0, 1) := by decide +kernel
theorem d_MD_barred_65 : decode c_MD_barred 65 = .ok (.iload 5, 2) := by decide +kernel
theorem d_MD_barred_67 : decode c_MD_barred 67 = .ok (.lload_n 1, 1) := by decide +kernel
theorem d_MD_barred_68 : decode c_MD_barred 68 = .ok (.invokevirtual 102, 3) := by decide +kernel
theorem d_MD_barred_71 : decode c_MD_barred 71 = .ok (.ifCond .eq 54, 3) := by decide +kernel
theorem d_MD_barred_74 : decode c_MD_barred 74 = .ok (.iload 8, 2) := by decide +kernel
theorem d_MD_barred_76 : decode c_MD_barred 76 = .ok (.ifCond .eq 49, 3) := by decide +kernel
theorem d_MD_barred_79 : decode c_MD_barred 79 = .ok (.aload_n 0, 1) := by decide +kernel
theorem d_MD_barred_80 : decode c_MD_barred 80 = .ok (.iload 5, 2) := by decide +kernel
theorem d_MD_barred_82 : decode c_MD_barred 82 = .ok (.lload 6, 2) := by decide +kernel
theorem d_MD_barred_84 : decode c_MD_barred 84 = .ok (.iload_n 3, 1) := by decide +kernel
theorem d_MD_barred_85 : decode c_MD_barred 85 = .ok (.invokevirtual 125, 3) := by decide +kernel
theorem d_MD_barred_88 : decode c_MD_barred 88 = .ok (.iconst (-1), 1) := by decide +kernel
theorem d_MD_barred_89 : decode c_MD_barred 89 = .ok (.if_icmp .ne 6, 3) := by decide +kernel
theorem d_MD_barred_92 : decode c_MD_barred 92 = .ok (.goto 33, 3) := by decide +kernel
theorem d_MD_barred_95 : decode c_MD_barred 95 = .ok (.aload_n 0, 1) := by decide +kernel
theorem d_MD_barred_96 : decode c_MD_barred 96 = .ok (.getfield 16, 3) := by decide +kernel
theorem d_MD_barred_99 : decode c_MD_barred 99 = .ok (.iload 5, 2) := by decide +kernel
theorem d_MD_barred_101 : decode c_MD_barred 101 = .ok (.baload, 1) := by decide +kernel
theorem d_MD_barred_102 : decode c_MD_barred 102 = .ok (.ifCond .ne 8, 3) := by decide +kernel
theorem d_MD_barred_105 : decode c_MD_barred 105 = .ok (.bipush 22, 2) := by decide +kernel
theorem d_MD_barred_107 : decode c_MD_barred 107 = .ok (.goto 16, 3) := by decide +kernel
theorem d_MD_barred_110 : decode c_MD_barred 110 = .ok (.iload 4, 2) := by decide +kernel
theorem d_MD_barred_112 : decode c_MD_barred 112 = .ok (.bipush 22, 2) := by decide +kernel
theorem d_MD_barred_114 : decode c_MD_barred 114 = .ok (.if_icmp .ne 8, 3) := by decide +kernel
theorem d_MD_barred_117 : decode c_MD_barred 117 = .ok (.bipush 22, 2) := by decide +kernel
theorem d_MD_barred_119 : decode c_MD_barred 119 = .ok (.goto 4, 3) := by decide +kernel
theorem d_MD_barred_122 : decode c_MD_barred 122 = .ok (.iconst 2, 1) := by decide +kernel
theorem d_MD_barred_123 : decode c_MD_barred 123 = .ok (.istore 4, 2) := by decide +kernel
theorem d_MD_barred_125 : decode c_MD_barred 125 = .ok (.iinc 5 1, 3) := by decide +kernel
theorem d_MD_barred_128 : decode c_MD_barred 128 = .ok (.goto (-122), 3) := by decide +kernel
theorem d_MD_barred_131 : decode c_MD_barred 131 = .ok (.iload 4, 2) := by decide +kernel
theorem d_MD_barred_133 : decode c_MD_barred 133 = .ok (.ireturn, 1) := by decide +kernel
theorem d_MD_isEntry_0 : decode c_MD_isEntry 0 = .ok (.aload_n 0, 1) := by decide +kernel
theorem d_MD_isEntry_1 : decode c_MD_isEntry 1 = .ok (.getfield 30, 3) := by decide +kernel
theorem d_MD_isEntry_4 : decode c_MD_isEntry 4 = .ok (.iload_n 2, 1) := by decide +kernel
theorem d_MD_isEntry_5 : decode c_MD_isEntry 5 = .ok (.iaload, 1) := by decide +kernel
theorem d_MD_isEntry_6 : decode c_MD_isEntry 6 = .ok (.ifCond .le 21, 3) := by decide +kernel
theorem d_MD_isEntry_9 : decode c_MD_isEntry 9 = .ok (.aload_n 0, 1) := by decide +kernel
theorem d_MD_isEntry_10 : decode c_MD_isEntry 10 = .ok (.iload_n 1, 1) := by decide +kernel
theorem d_MD_isEntry_11 : decode c_MD_isEntry 11 = .ok (.aload_n 0, 1) := by decide +kernel
theorem d_MD_isEntry_12 : decode c_MD_isEntry 12 = .ok (.getfield 27, 3) := by decide +kernel
theorem d_MD_isEntry_15 : decode c_MD_isEntry 15 = .ok (.iload_n 2, 1) := by decide +kernel
theorem d_MD_isEntry_16 : decode c_MD_isEntry 16 = .ok (.laload, 1) := by decide +kernel
theorem d_MD_isEntry_17 : decode c_MD_isEntry 17 = .ok (.invokevirtual 102, 3) := by decide +kernel
theorem d_MD_isEntry_20 : decode c_MD_isEntry 20 = .ok (.ifCond .eq 7, 3) := by decide +kernel
theorem d_MD_isEntry_23 : decode c_MD_isEntry 23 = .ok (.iconst 1, 1) := by decide +kernel
theorem d_MD_isEntry_24 : decode c_MD_isEntry 24 = .ok (.goto 4, 3) := by decide +kernel
theorem d_MD_isEntry_27 : decode c_MD_isEntry 27 = .ok (.iconst 0, 1) := by decide +kernel
theorem d_MD_isEntry_28 : decode c_MD_isEntry 28 = .ok (.ireturn, 1) := by decide +kernel
theorem d_MD_hasEntry_0 : decode c_MD_hasEntry 0 = .ok (.iload_n 1, 1) := by decide +kernel
theorem d_MD_hasEntry_1 : decode c_MD_hasEntry 1 = .ok (.ifCond .eq 28, 3) := by decide +kernel
theorem d_MD_hasEntry_4 : decode c_MD_hasEntry 4 = .ok (.aload_n 0, 1) := by decide +kernel
theorem d_MD_hasEntry_5 : decode c_MD_hasEntry 5 = .ok (.getfield 20, 3) := by decide +kernel
theorem d_MD_hasEntry_8 : decode c_MD_hasEntry 8 = .ok (.iload_n 1, 1) := by decide +kernel
theorem d_MD_hasEntry_9 : decode c_MD_hasEntry 9 = .ok (.baload, 1) := by decide +kernel
theorem d_MD_hasEntry_10 : decode c_MD_hasEntry 10 = .ok (.ifCond .eq 19, 3) := by decide +kernel
theorem d_MD_hasEntry_13 : decode c_MD_hasEntry 13 = .ok (.aload_n 0, 1) := by decide +kernel
theorem d_MD_hasEntry_14 : decode c_MD_hasEntry 14 = .ok (.iload_n 1, 1) := by decide +kernel
theorem d_MD_hasEntry_15 : decode c_MD_hasEntry 15 = .ok (.lload_n 2, 1) := by decide +kernel
theorem d_MD_hasEntry_16 : decode c_MD_hasEntry 16 = .ok (.invokevirtual 98, 3) := by decide +kernel
theorem d_MD_hasEntry_19 : decode c_MD_hasEntry 19 = .ok (.aload_n 0, 1) := by decide +kernel
theorem d_MD_hasEntry_20 : decode c_MD_hasEntry 20 = .ok (.getfield 23, 3) := by decide +kernel
theorem d_MD_hasEntry_23 : decode c_MD_hasEntry 23 = .ok (.iload_n 1, 1) := by decide +kernel
theorem d_MD_hasEntry_24 : decode c_MD_hasEntry 24 = .ok (.laload, 1) := by decide +kernel
theorem d_MD_hasEntry_25 : decode c_MD_hasEntry 25 = .ok (.lcmp, 1) := by decide +kernel
theorem d_MD_hasEntry_26 : decode c_MD_hasEntry 26 = .ok (.ifCond .eq 7, 3) := by decide +kernel
theorem d_MD_hasEntry_29 : decode c_MD_hasEntry 29 = .ok (.iconst 1, 1) := by decide +kernel
theorem d_MD_hasEntry_30 : decode c_MD_hasEntry 30 = .ok (.goto 4, 3) := by decide +kernel
theorem d_MD_hasEntry_33 : decode c_MD_hasEntry 33 = .ok (.iconst 0, 1) := by decide +kernel
theorem d_MD_hasEntry_34 : decode c_MD_hasEntry 34 = .ok (.ireturn, 1) := by decide +kernel
theorem d_MD_equal_0 : decode c_MD_equal 0 = .ok (.iconst 0, 1) := by decide +kernel
theorem d_MD_equal_1 : decode c_MD_equal 1 = .ok (.istore 5, 2) := by decide +kernel
theorem d_MD_equal_3 : decode c_MD_equal 3 = .ok (.iload 5, 2) := by decide +kernel
theorem d_MD_equal_5 : decode c_MD_equal 5 = .ok (.sipush 300, 3) := by decide +kernel
theorem d_MD_equal_8 : decode c_MD_equal 8 = .ok (.if_icmp .ge 46, 3) := by decide +kernel
theorem d_MD_equal_11 : decode c_MD_equal 11 = .ok (.iload 5, 2) := by decide +kernel
theorem d_MD_equal_13 : decode c_MD_equal 13 = .ok (.iload 4, 2) := by decide +kernel
theorem d_MD_equal_15 : decode c_MD_equal 15 = .ok (.if_icmp .eq 33, 3) := by decide +kernel
theorem d_MD_equal_18 : decode c_MD_equal 18 = .ok (.aload_n 0, 1) := by decide +kernel
theorem d_MD_equal_19 : decode c_MD_equal 19 = .ok (.iload_n 1, 1) := by decide +kernel
theorem d_MD_equal_20 : decode c_MD_equal 20 = .ok (.iload 5, 2) := by decide +kernel
theorem d_MD_equal_22 : decode c_MD_equal 22 = .ok (.invokevirtual 114, 3) := by decide +kernel
theorem d_MD_equal_25 : decode c_MD_equal 25 = .ok (.ifCond .eq 23, 3) := by decide +kernel
theorem d_MD_equal_28 : decode c_MD_equal 28 = .ok (.aload_n 0, 1) := by decide +kernel
theorem d_MD_equal_29 : decode c_MD_equal 29 = .ok (.iload_n 1, 1) := by decide +kernel
theorem d_MD_equal_30 : decode c_MD_equal 30 = .ok (.aload_n 0, 1) := by decide +kernel
theorem d_MD_equal_31 : decode c_MD_equal 31 = .ok (.getfield 27, 3) := by decide +kernel
theorem d_MD_equal_34 : decode c_MD_equal 34 = .ok (.iload 5, 2) := by decide +kernel
theorem d_MD_equal_36 : decode c_MD_equal 36 = .ok (.laload, 1) := by decide +kernel
theorem d_MD_equal_37 : decode c_MD_equal 37 = .ok (.invokevirtual 98, 3) := by decide +kernel
theorem d_MD_equal_40 : decode c_MD_equal 40 = .ok (.lload_n 2, 1) := by decide +kernel
theorem d_MD_equal_41 : decode c_MD_equal 41 = .ok (.lcmp, 1) := by decide +kernel
theorem d_MD_equal_42 : decode c_MD_equal 42 = .ok (.ifCond .ne 6, 3) := by decide +kernel
theorem d_MD_equal_45 : decode c_MD_equal 45 = .ok (.iload 5, 2) := by decide +kernel
theorem d_MD_equal_47 : decode c_MD_equal 47 = .ok (.ireturn, 1) := by decide +kernel
theorem d_MD_equal_48 : decode c_MD_equal 48 = .ok (.iinc 5 1, 3) := by decide +kernel
theorem d_MD_equal_51 : decode c_MD_equal 51 = .ok (.goto (-48), 3) := by decide +kernel
theorem d_MD_equal_54 : decode c_MD_equal 54 = .ok (.iconst (-1), 1) := by decide +kernel
theorem d_MD_equal_55 : decode c_MD_equal 55 = .ok (.ireturn, 1) := by decide +kernel
theorem d_MD_rankAll_0 : decode c_MD_rankAll 0 = .ok (.iconst 0, 1) := by decide +kernel
theorem d_MD_rankAll_1 : decode c_MD_rankAll 1 = .ok (.istore 5, 2) := by decide +kernel
theorem d_MD_rankAll_3 : decode c_MD_rankAll 3 = .ok (.iload 5, 2) := by decide +kernel
theorem d_MD_rankAll_5 : decode c_MD_rankAll 5 = .ok (.aload_n 0, 1) := by decide +kernel
theorem d_MD_rankAll_6 : decode c_MD_rankAll 6 = .ok (.getfield 78, 3) := by decide +kernel
theorem d_MD_rankAll_9 : decode c_MD_rankAll 9 = .ok (.if_icmp .ge 102, 3) := by decide +kernel
theorem d_MD_rankAll_12 : decode c_MD_rankAll 12 = .ok (.iload 4, 2) := by decide +kernel
theorem d_MD_rankAll_14 : decode c_MD_rankAll 14 = .ok (.ifCond .ne 36, 3) := by decide +kernel
theorem d_MD_rankAll_17 : decode c_MD_rankAll 17 = .ok (.aload_n 0, 1) := by decide +kernel
theorem d_MD_rankAll_18 : decode c_MD_rankAll 18 = .ok (.iload 5, 2) := by decide +kernel
theorem d_MD_rankAll_20 : decode c_MD_rankAll 20 = .ok (.iload_n 1, 1) := by decide +kernel
theorem d_MD_rankAll_21 : decode c_MD_rankAll 21 = .ok (.invokevirtual 114, 3) := by decide +kernel
theorem d_MD_rankAll_24 : decode c_MD_rankAll 24 = .ok (.ifCond .eq 26, 3) := by decide +kernel
theorem d_MD_rankAll_27 : decode c_MD_rankAll 27 = .ok (.aload_n 0, 1) := by decide +kernel
theorem d_MD_rankAll_28 : decode c_MD_rankAll 28 = .ok (.iload 5, 2) := by decide +kernel
theorem d_MD_rankAll_30 : decode c_MD_rankAll 30 = .ok (.aload_n 0, 1) := by decide +kernel
theorem d_MD_rankAll_31 : decode c_MD_rankAll 31 = .ok (.getfield 27, 3) := by decide +kernel
theorem d_MD_rankAll_34 : decode c_MD_rankAll 34 = .ok (.iload_n 1, 1) := by decide +kernel
theorem d_MD_rankAll_35 : decode c_MD_rankAll 35 = .ok (.laload, 1) := by decide +kernel
theorem d_MD_rankAll_36 : decode c_MD_rankAll 36 = .ok (.invokevirtual 98, 3) := by decide +kernel
theorem d_MD_rankAll_39 : decode c_MD_rankAll 39 = .ok (.aload_n 0, 1) := by decide +kernel
theorem d_MD_rankAll_40 : decode c_MD_rankAll 40 = .ok (.iload 5, 2) := by decide +kernel
theorem d_MD_rankAll_42 : decode c_MD_rankAll 42 = .ok (.lload_n 2, 1) := by decide +kernel
theorem d_MD_rankAll_43 : decode c_MD_rankAll 43 = .ok (.invokevirtual 98, 3) := by decide +kernel
theorem d_MD_rankAll_46 : decode c_MD_rankAll 46 = .ok (.lcmp, 1) := by decide +kernel
theorem d_MD_rankAll_47 : decode c_MD_rankAll 47 = .ok (.ifCond .eq 7, 3) := by decide +kernel
theorem d_MD_rankAll_50 : decode c_MD_rankAll 50 = .ok (.iconst 1, 1) := by decide +kernel
theorem d_MD_rankAll_51 : decode c_MD_rankAll 51 = .ok (.goto 4, 3) := by decide +kernel
theorem d_MD_rankAll_54 : decode c_MD_rankAll 54 = .ok (.iconst 0, 1) := by decide +kernel
theorem d_MD_rankAll_55 : decode c_MD_rankAll 55 = .ok (.istore 6, 2) := by decide +kernel
theorem d_MD_rankAll_57 : decode c_MD_rankAll 57 = .ok (.aload_n 0, 1) := by decide +kernel
theorem d_MD_rankAll_58 : decode c_MD_rankAll 58 = .ok (.dup, 1) := by decide +kernel
theorem d_MD_rankAll_59 : decode c_MD_rankAll 59 = .ok (.getfield 147, 3) := by decide +kernel
theorem d_MD_rankAll_62 : decode c_MD_rankAll 62 = .ok (.iconst 1, 1) := by decide +kernel
theorem d_MD_rankAll_63 : decode c_MD_rankAll 63 = .ok (.iadd, 1) := by decide +kernel
theorem d_MD_rankAll_64 : decode c_MD_rankAll 64 = .ok (.putfield 147, 3) := by decide +kernel
theorem d_MD_rankAll_67 : decode c_MD_rankAll 67 = .ok (.aload_n 0, 1) := by decide +kernel
theorem d_MD_rankAll_68 : decode c_MD_rankAll 68 = .ok (.getfield 33, 3) := by decide +kernel
theorem d_MD_rankAll_71 : decode c_MD_rankAll 71 = .ok (.sipush 300, 3) := by decide +kernel
theorem d_MD_rankAll_74 : decode c_MD_rankAll 74 = .ok (.iload 5, 2) := by decide +kernel
theorem d_MD_rankAll_76 : decode c_MD_rankAll 76 = .ok (.imul, 1) := by decide +kernel
theorem d_MD_rankAll_77 : decode c_MD_rankAll 77 = .ok (.iload_n 1, 1) := by decide +kernel
theorem d_MD_rankAll_78 : decode c_MD_rankAll 78 = .ok (.iadd, 1) := by decide +kernel
theorem d_MD_rankAll_79 : decode c_MD_rankAll 79 = .ok (.iload 6, 2) := by decide +kernel
theorem d_MD_rankAll_81 : decode c_MD_rankAll 81 = .ok (.ifCond .eq 10, 3) := by decide +kernel
theorem d_MD_rankAll_84 : decode c_MD_rankAll 84 = .ok (.aload_n 0, 1) := by decide +kernel
theorem d_MD_rankAll_85 : decode c_MD_rankAll 85 = .ok (.getfield 147, 3) := by decide +kernel
theorem d_MD_rankAll_88 : decode c_MD_rankAll 88 = .ok (.goto 16, 3) := by decide +kernel
theorem d_MD_rankAll_91 : decode c_MD_rankAll 91 = .ok (.aload_n 0, 1) := by decide +kernel
theorem d_MD_rankAll_92 : decode c_MD_rankAll 92 = .ok (.getfield 33, 3) := by decide +kernel
theorem d_MD_rankAll_95 : decode c_MD_rankAll 95 = .ok (.sipush 300, 3) := by decide +kernel
theorem d_MD_rankAll_98 : decode c_MD_rankAll 98 = .ok (.iload 5, 2) := by decide +kernel
theorem d_MD_rankAll_100 : decode c_MD_rankAll 100 = .ok (.imul, 1) := by decide +kernel
theorem d_MD_rankAll_101 : decode c_MD_rankAll 101 = .ok (.iload_n 1, 1) := by decide +kernel
theorem d_MD_rankAll_102 : decode c_MD_rankAll 102 = .ok (.iadd, 1) := by decide +kernel
theorem d_MD_rankAll_103 : decode c_MD_rankAll 103 = .ok (.iaload, 1) := by decide +kernel
theorem d_MD_rankAll_104 : decode c_MD_rankAll 104 = .ok (.iastore, 1) := by decide +kernel
theorem d_MD_rankAll_105 : decode c_MD_rankAll 105 = .ok (.iinc 5 1, 3) := by decide +kernel
theorem d_MD_rankAll_108 : decode c_MD_rankAll 108 = .ok (.goto (-105), 3) := by decide +kernel
theorem d_MD_rankAll_111 : decode c_MD_rankAll 111 = .ok (.aload_n 0, 1) := by decide +kernel
theorem d_MD_rankAll_112 : decode c_MD_rankAll 112 = .ok (.getfield 27, 3) := by decide +kernel
theorem d_MD_rankAll_115 : decode c_MD_rankAll 115 = .ok (.iload_n 1, 1) := by decide +kernel
theorem d_MD_rankAll_116 : decode c_MD_rankAll 116 = .ok (.lload_n 2, 1) := by decide +kernel
theorem d_MD_rankAll_117 : decode c_MD_rankAll 117 = .ok (.lastore, 1) := by decide +kernel
theorem d_MD_rankAll_118 : decode c_MD_rankAll 118 = .ok (.return_, 1) := by decide +kernel
theorem d_MD_read_0 : decode c_MD_read 0 = .ok (.aload_n 0, 1) := by decide +kernel
theorem d_MD_read_1 : decode c_MD_read 1 = .ok (.iconst 0, 1) := by decide +kernel
theorem d_MD_read_2 : decode c_MD_read 2 = .ok (.putfield 72, 3) := by decide +kernel
theorem d_MD_read_5 : decode c_MD_read 5 = .ok (.aload_n 0, 1) := by decide +kernel
theorem d_MD_read_6 : decode c_MD_read 6 = .ok (.iload_n 1, 1) := by decide +kernel
theorem d_MD_read_7 : decode c_MD_read 7 = .ok (.invokevirtual 92, 3) := by decide +kernel
theorem d_MD_read_10 : decode c_MD_read 10 = .ok (.ifCond .eq 11, 3) := by decide +kernel
theorem d_MD_read_13 : decode c_MD_read 13 = .ok (.aload_n 0, 1) := by decide +kernel
theorem d_MD_read_14 : decode c_MD_read 14 = .ok (.iload_n 2, 1) := by decide +kernel
theorem d_MD_read_15 : decode c_MD_read 15 = .ok (.invokevirtual 88, 3) := by decide +kernel
theorem d_MD_read_18 : decode c_MD_read 18 = .ok (.ifCond .ne 5, 3) := by decide +kernel
theorem d_MD_read_21 : decode c_MD_read 21 = .ok (.iconst (-1), 1) := by decide +kernel
theorem d_MD_read_22 : decode c_MD_read 22 = .ok (.ireturn, 1) := by decide +kernel
theorem d_MD_read_23 : decode c_MD_read 23 = .ok (.aload_n 0, 1) := by decide +kernel
theorem d_MD_read_24 : decode c_MD_read 24 = .ok (.getfield 63, 3) := by decide +kernel
theorem d_MD_read_27 : decode c_MD_read 27 = .ok (.iload_n 1, 1) := by decide +kernel
theorem d_MD_read_28 : decode c_MD_read 28 = .ok (.baload, 1) := by decide +kernel
theorem d_MD_read_29 : decode c_MD_read 29 = .ok (.ifCond .ne 6, 3) := by decide +kernel
theorem d_MD_read_32 : decode c_MD_read 32 = .ok (.bipush 42, 2) := by decide +kernel
theorem d_MD_read_34 : decode c_MD_read 34 = .ok (.ireturn, 1) := by decide +kernel
theorem d_MD_read_35 : decode c_MD_read 35 = .ok (.aload_n 0, 1) := by decide +kernel
theorem d_MD_read_36 : decode c_MD_read 36 = .ok (.iload_n 1, 1) := by decide +kernel
theorem d_MD_read_37 : decode c_MD_read 37 = .ok (.invokevirtual 165, 3) := by decide +kernel
theorem d_MD_read_40 : decode c_MD_read 40 = .ok (.ifCond .eq 12, 3) := by decide +kernel
theorem d_MD_read_43 : decode c_MD_read 43 = .ok (.aload_n 0, 1) := by decide +kernel
theorem d_MD_read_44 : decode c_MD_read 44 = .ok (.getfield 39, 3) := by decide +kernel
theorem d_MD_read_47 : decode c_MD_read 47 = .ok (.iload_n 1, 1) := by decide +kernel
theorem d_MD_read_48 : decode c_MD_read 48 = .ok (.iaload, 1) := by decide +kernel
theorem d_MD_read_49 : decode c_MD_read 49 = .ok (.ifCond .ne 6, 3) := by decide +kernel
theorem d_MD_read_52 : decode c_MD_read 52 = .ok (.bipush 47, 2) := by decide +kernel
theorem d_MD_read_54 : decode c_MD_read 54 = .ok (.ireturn, 1) := by decide +kernel
theorem d_MD_read_55 : decode c_MD_read 55 = .ok (.aload_n 0, 1) := by decide +kernel
theorem d_MD_read_56 : decode c_MD_read 56 = .ok (.iload_n 1, 1) := by decide +kernel
theorem d_MD_read_57 : decode c_MD_read 57 = .ok (.invokevirtual 150, 3) := by decide +kernel
theorem d_MD_read_60 : decode c_MD_read 60 = .ok (.aload_n 0, 1) := by decide +kernel
theorem d_MD_read_61 : decode c_MD_read 61 = .ok (.iload_n 2, 1) := by decide +kernel
theorem d_MD_read_62 : decode c_MD_read 62 = .ok (.lload_n 3, 1) := by decide +kernel
theorem d_MD_read_63 : decode c_MD_read 63 = .ok (.iconst 0, 1) := by decide +kernel
theorem d_MD_read_64 : decode c_MD_read 64 = .ok (.iconst 1, 1) := by decide +kernel
theorem d_MD_read_65 : decode c_MD_read 65 = .ok (.invokevirtual 133, 3) := by decide +kernel
theorem d_MD_read_68 : decode c_MD_read 68 = .ok (.istore 5, 2) := by decide +kernel
theorem d_MD_read_70 : decode c_MD_read 70 = .ok (.iload 5, 2) := by decide +kernel
theorem d_MD_read_72 : decode c_MD_read 72 = .ok (.iconst (-1), 1) := by decide +kernel
theorem d_MD_read_73 : decode c_MD_read 73 = .ok (.if_icmp .eq 30, 3) := by decide +kernel
theorem d_MD_read_76 : decode c_MD_read 76 = .ok (.aload_n 0, 1) := by decide +kernel
theorem d_MD_read_77 : decode c_MD_read 77 = .ok (.iload_n 2, 1) := by decide +kernel
theorem d_MD_read_78 : decode c_MD_read 78 = .ok (.aload_n 0, 1) := by decide +kernel
theorem d_MD_read_79 : decode c_MD_read 79 = .ok (.getfield 27, 3) := by decide +kernel
theorem d_MD_read_82 : decode c_MD_read 82 = .ok (.iload 5, 2) := by decide +kernel
theorem d_MD_read_84 : decode c_MD_read 84 = .ok (.laload, 1) := by decide +kernel
theorem d_MD_read_85 : decode c_MD_read 85 = .ok (.invokevirtual 98, 3) := by decide +kernel
theorem d_MD_read_88 : decode c_MD_read 88 = .ok (.lload_n 3, 1) := by decide +kernel
theorem d_MD_read_89 : decode c_MD_read 89 = .ok (.lcmp, 1) := by decide +kernel
theorem d_MD_read_90 : decode c_MD_read 90 = .ok (.ifCond .ne 13, 3) := by decide +kernel
theorem d_MD_read_93 : decode c_MD_read 93 = .ok (.aload_n 0, 1) := by decide +kernel
theorem d_MD_read_94 : decode c_MD_read 94 = .ok (.iload_n 1, 1) := by decide +kernel
theorem d_MD_read_95 : decode c_MD_read 95 = .ok (.iload_n 2, 1) := by decide +kernel
theorem d_MD_read_96 : decode c_MD_read 96 = .ok (.iload 5, 2) := by decide +kernel
theorem d_MD_read_98 : decode c_MD_read 98 = .ok (.iconst 0, 1) := by decide +kernel
theorem d_MD_read_99 : decode c_MD_read 99 = .ok (.invokevirtual 168, 3) := by decide +kernel
theorem d_MD_read_102 : decode c_MD_read 102 = .ok (.ireturn, 1) := by decide +kernel
theorem d_MD_read_103 : decode c_MD_read 103 = .ok (.aload_n 0, 1) := by decide +kernel
theorem d_MD_read_104 : decode c_MD_read 104 = .ok (.getfield 42, 3) := by decide +kernel
theorem d_MD_read_107 : decode c_MD_read 107 = .ok (.iload_n 1, 1) := by decide +kernel
theorem d_MD_read_108 : decode c_MD_read 108 = .ok (.iload_n 2, 1) := by decide +kernel
theorem d_MD_read_109 : decode c_MD_read 109 = .ok (.iastore, 1) := by decide +kernel
theorem d_MD_read_110 : decode c_MD_read 110 = .ok (.aload_n 0, 1) := by decide +kernel
theorem d_MD_read_111 : decode c_MD_read 111 = .ok (.getfield 45, 3) := by decide +kernel
theorem d_MD_read_114 : decode c_MD_read 114 = .ok (.iload_n 1, 1) := by decide +kernel
theorem d_MD_read_115 : decode c_MD_read 115 = .ok (.iconst 3, 1) := by decide +kernel
theorem d_MD_read_116 : decode c_MD_read 116 = .ok (.iastore, 1) := by decide +kernel
theorem d_MD_read_117 : decode c_MD_read 117 = .ok (.bipush 23, 2) := by decide +kernel
theorem d_MD_read_119 : decode c_MD_read 119 = .ok (.ireturn, 1) := by decide +kernel
theorem d_MD_reads_0 : decode c_MD_reads 0 = .ok (.aload_n 0, 1) := by decide +kernel
theorem d_MD_reads_1 : decode c_MD_reads 1 = .ok (.getfield 36, 3) := by decide +kernel
theorem d_MD_reads_4 : decode c_MD_reads 4 = .ok (.iload_n 1, 1) := by decide +kernel
theorem d_MD_reads_5 : decode c_MD_reads 5 = .ok (.iaload, 1) := by decide +kernel
theorem d_MD_reads_6 : decode c_MD_reads 6 = .ok (.ifCond .eq 13, 3) := by decide +kernel
theorem d_MD_reads_9 : decode c_MD_reads 9 = .ok (.aload_n 0, 1) := by decide +kernel
theorem d_MD_reads_10 : decode c_MD_reads 10 = .ok (.getfield 36, 3) := by decide +kernel
theorem d_MD_reads_13 : decode c_MD_reads 13 = .ok (.iload_n 1, 1) := by decide +kernel
theorem d_MD_reads_14 : decode c_MD_reads 14 = .ok (.iaload, 1) := by decide +kernel
theorem d_MD_reads_15 : decode c_MD_reads 15 = .ok (.iconst 2, 1) := by decide +kernel
theorem d_MD_reads_16 : decode c_MD_reads 16 = .ok (.if_icmp .ne 7, 3) := by decide +kernel
theorem d_MD_reads_19 : decode c_MD_reads 19 = .ok (.iconst 1, 1) := by decide +kernel
theorem d_MD_reads_20 : decode c_MD_reads 20 = .ok (.goto 4, 3) := by decide +kernel
theorem d_MD_reads_23 : decode c_MD_reads 23 = .ok (.iconst 0, 1) := by decide +kernel
theorem d_MD_reads_24 : decode c_MD_reads 24 = .ok (.ireturn, 1) := by decide +kernel
theorem d_MD_after_0 : decode c_MD_after 0 = .ok (.iconst (-1), 1) := by decide +kernel
theorem d_MD_after_1 : decode c_MD_after 1 = .ok (.istore 6, 2) := by decide +kernel
theorem d_MD_after_3 : decode c_MD_after 3 = .ok (.iconst 0, 1) := by decide +kernel
theorem d_MD_after_4 : decode c_MD_after 4 = .ok (.istore 7, 2) := by decide +kernel
theorem d_MD_after_6 : decode c_MD_after 6 = .ok (.iload 7, 2) := by decide +kernel
theorem d_MD_after_8 : decode c_MD_after 8 = .ok (.sipush 300, 3) := by decide +kernel
theorem d_MD_after_11 : decode c_MD_after 11 = .ok (.if_icmp .ge 92, 3) := by decide +kernel
theorem d_MD_after_14 : decode c_MD_after 14 = .ok (.aload_n 0, 1) := by decide +kernel
theorem d_MD_after_15 : decode c_MD_after 15 = .ok (.iload_n 1, 1) := by decide +kernel
theorem d_MD_after_16 : decode c_MD_after 16 = .ok (.iload 7, 2) := by decide +kernel
theorem d_MD_after_18 : decode c_MD_after 18 = .ok (.invokevirtual 114, 3) := by decide +kernel
theorem d_MD_after_21 : decode c_MD_after 21 = .ok (.ifCond .eq 76, 3) := by decide +kernel
theorem d_MD_after_24 : decode c_MD_after 24 = .ok (.aload_n 0, 1) := by decide +kernel
theorem d_MD_after_25 : decode c_MD_after 25 = .ok (.iload_n 1, 1) := by decide +kernel
theorem d_MD_after_26 : decode c_MD_after 26 = .ok (.iload 7, 2) := by decide +kernel
theorem d_MD_after_28 : decode c_MD_after 28 = .ok (.lload_n 2, 1) := by decide +kernel
theorem d_MD_after_29 : decode c_MD_after 29 = .ok (.iload 4, 2) := by decide +kernel
theorem d_MD_after_31 : decode c_MD_after 31 = .ok (.invokevirtual 118, 3) := by decide +kernel
theorem d_MD_after_34 : decode c_MD_after 34 = .ok (.ifCond .ne 63, 3) := by decide +kernel
theorem d_MD_after_37 : decode c_MD_after 37 = .ok (.iload 5, 2) := by decide +kernel
theorem d_MD_after_39 : decode c_MD_after 39 = .ok (.ifCond .ne 19, 3) := by decide +kernel
theorem d_MD_after_42 : decode c_MD_after 42 = .ok (.aload_n 0, 1) := by decide +kernel
theorem d_MD_after_43 : decode c_MD_after 43 = .ok (.iload_n 1, 1) := by decide +kernel
theorem d_MD_after_44 : decode c_MD_after 44 = .ok (.iload 7, 2) := by decide +kernel
theorem d_MD_after_46 : decode c_MD_after 46 = .ok (.lload_n 2, 1) := by decide +kernel
theorem d_MD_after_47 : decode c_MD_after 47 = .ok (.iload 4, 2) := by decide +kernel
theorem d_MD_after_49 : decode c_MD_after 49 = .ok (.invokevirtual 122, 3) := by decide +kernel
theorem d_MD_after_52 : decode c_MD_after 52 = .ok (.ifCond .ne 6, 3) := by decide +kernel
theorem d_MD_after_55 : decode c_MD_after 55 = .ok (.goto 42, 3) := by decide +kernel
theorem d_MD_after_58 : decode c_MD_after 58 = .ok (.iload 6, 2) := by decide +kernel
theorem d_MD_after_60 : decode c_MD_after 60 = .ok (.iconst (-1), 1) := by decide +kernel
theorem d_MD_after_61 : decode c_MD_after 61 = .ok (.if_icmp .eq 32, 3) := by decide +kernel
theorem d_MD_after_64 : decode c_MD_after 64 = .ok (.aload_n 0, 1) := by decide +kernel
theorem d_MD_after_65 : decode c_MD_after 65 = .ok (.iload_n 1, 1) := by decide +kernel
theorem d_MD_after_66 : decode c_MD_after 66 = .ok (.iload 7, 2) := by decide +kernel
theorem d_MD_after_68 : decode c_MD_after 68 = .ok (.aload_n 0, 1) := by decide +kernel
theorem d_MD_after_69 : decode c_MD_after 69 = .ok (.iload_n 1, 1) := by decide +kernel
theorem d_MD_after_70 : decode c_MD_after 70 = .ok (.aload_n 0, 1) := by decide +kernel
theorem d_MD_after_71 : decode c_MD_after 71 = .ok (.getfield 27, 3) := by decide +kernel
theorem d_MD_after_74 : decode c_MD_after 74 = .ok (.iload 6, 2) := by decide +kernel
theorem d_MD_after_76 : decode c_MD_after 76 = .ok (.laload, 1) := by decide +kernel
theorem d_MD_after_77 : decode c_MD_after 77 = .ok (.invokevirtual 98, 3) := by decide +kernel
theorem d_MD_after_80 : decode c_MD_after 80 = .ok (.aload_n 0, 1) := by decide +kernel
theorem d_MD_after_81 : decode c_MD_after 81 = .ok (.iload_n 1, 1) := by decide +kernel
theorem d_MD_after_82 : decode c_MD_after 82 = .ok (.iload 6, 2) := by decide +kernel
theorem d_MD_after_84 : decode c_MD_after 84 = .ok (.invokevirtual 110, 3) := by decide +kernel
theorem d_MD_after_87 : decode c_MD_after 87 = .ok (.invokevirtual 118, 3) := by decide +kernel
theorem d_MD_after_90 : decode c_MD_after 90 = .ok (.ifCond .eq 7, 3) := by decide +kernel
theorem d_MD_after_93 : decode c_MD_after 93 = .ok (.iload 7, 2) := by decide +kernel
theorem d_MD_after_95 : decode c_MD_after 95 = .ok (.istore 6, 2) := by decide +kernel
theorem d_MD_after_97 : decode c_MD_after 97 = .ok (.iinc 7 1, 3) := by decide +kernel
theorem d_MD_after_100 : decode c_MD_after 100 = .ok (.goto (-94), 3) := by decide +kernel
theorem d_MD_after_103 : decode c_MD_after 103 = .ok (.iload 6, 2) := by decide +kernel
theorem d_MD_after_105 : decode c_MD_after 105 = .ok (.ireturn, 1) := by decide +kernel
theorem d_MD_isAhead_0 : decode c_MD_isAhead 0 = .ok (.aload_n 0, 1) := by decide +kernel
theorem d_MD_isAhead_1 : decode c_MD_isAhead 1 = .ok (.iload_n 1, 1) := by decide +kernel
theorem d_MD_isAhead_2 : decode c_MD_isAhead 2 = .ok (.aload_n 0, 1) := by decide +kernel
theorem d_MD_isAhead_3 : decode c_MD_isAhead 3 = .ok (.getfield 27, 3) := by decide +kernel
theorem d_MD_isAhead_6 : decode c_MD_isAhead 6 = .ok (.iload_n 2, 1) := by decide +kernel
theorem d_MD_isAhead_7 : decode c_MD_isAhead 7 = .ok (.laload, 1) := by decide +kernel
theorem d_MD_isAhead_8 : decode c_MD_isAhead 8 = .ok (.invokevirtual 98, 3) := by decide +kernel
theorem d_MD_isAhead_11 : decode c_MD_isAhead 11 = .ok (.lstore 6, 2) := by decide +kernel
theorem d_MD_isAhead_13 : decode c_MD_isAhead 13 = .ok (.lload 6, 2) := by decide +kernel
theorem d_MD_isAhead_15 : decode c_MD_isAhead 15 = .ok (.lload_n 3, 1) := by decide +kernel
theorem d_MD_isAhead_16 : decode c_MD_isAhead 16 = .ok (.invokestatic 106, 3) := by decide +kernel
theorem d_MD_isAhead_19 : decode c_MD_isAhead 19 = .ok (.ifCond .ne 21, 3) := by decide +kernel
theorem d_MD_isAhead_22 : decode c_MD_isAhead 22 = .ok (.lload 6, 2) := by decide +kernel
theorem d_MD_isAhead_24 : decode c_MD_isAhead 24 = .ok (.lload_n 3, 1) := by decide +kernel
theorem d_MD_isAhead_25 : decode c_MD_isAhead 25 = .ok (.lcmp, 1) := by decide +kernel
theorem d_MD_isAhead_26 : decode c_MD_isAhead 26 = .ok (.ifCond .ne 18, 3) := by decide +kernel
theorem d_MD_isAhead_29 : decode c_MD_isAhead 29 = .ok (.aload_n 0, 1) := by decide +kernel
theorem d_MD_isAhead_30 : decode c_MD_isAhead 30 = .ok (.iload_n 1, 1) := by decide +kernel
theorem d_MD_isAhead_31 : decode c_MD_isAhead 31 = .ok (.iload_n 2, 1) := by decide +kernel
theorem d_MD_isAhead_32 : decode c_MD_isAhead 32 = .ok (.invokevirtual 110, 3) := by decide +kernel
theorem d_MD_isAhead_35 : decode c_MD_isAhead 35 = .ok (.iload 5, 2) := by decide +kernel
theorem d_MD_isAhead_37 : decode c_MD_isAhead 37 = .ok (.if_icmp .ge 7, 3) := by decide +kernel
theorem d_MD_isAhead_40 : decode c_MD_isAhead 40 = .ok (.iconst 1, 1) := by decide +kernel
theorem d_MD_isAhead_41 : decode c_MD_isAhead 41 = .ok (.goto 4, 3) := by decide +kernel
theorem d_MD_isAhead_44 : decode c_MD_isAhead 44 = .ok (.iconst 0, 1) := by decide +kernel
theorem d_MD_isAhead_45 : decode c_MD_isAhead 45 = .ok (.ireturn, 1) := by decide +kernel
theorem d_MD_rank_0 : decode c_MD_rank 0 = .ok (.aload_n 0, 1) := by decide +kernel
theorem d_MD_rank_1 : decode c_MD_rank 1 = .ok (.getfield 33, 3) := by decide +kernel
theorem d_MD_rank_4 : decode c_MD_rank 4 = .ok (.sipush 300, 3) := by decide +kernel
theorem d_MD_rank_7 : decode c_MD_rank 7 = .ok (.iload_n 1, 1) := by decide +kernel
theorem d_MD_rank_8 : decode c_MD_rank 8 = .ok (.imul, 1) := by decide +kernel
theorem d_MD_rank_9 : decode c_MD_rank 9 = .ok (.iload_n 2, 1) := by decide +kernel
theorem d_MD_rank_10 : decode c_MD_rank 10 = .ok (.iadd, 1) := by decide +kernel
theorem d_MD_rank_11 : decode c_MD_rank 11 = .ok (.iaload, 1) := by decide +kernel
theorem d_MD_rank_12 : decode c_MD_rank 12 = .ok (.ireturn, 1) := by decide +kernel
theorem d_MD_isBehind_0 : decode c_MD_isBehind 0 = .ok (.aload_n 0, 1) := by decide +kernel
theorem d_MD_isBehind_1 : decode c_MD_isBehind 1 = .ok (.iload_n 1, 1) := by decide +kernel
theorem d_MD_isBehind_2 : decode c_MD_isBehind 2 = .ok (.aload_n 0, 1) := by decide +kernel
theorem d_MD_isBehind_3 : decode c_MD_isBehind 3 = .ok (.getfield 27, 3) := by decide +kernel
theorem d_MD_isBehind_6 : decode c_MD_isBehind 6 = .ok (.iload_n 2, 1) := by decide +kernel
theorem d_MD_isBehind_7 : decode c_MD_isBehind 7 = .ok (.laload, 1) := by decide +kernel
theorem d_MD_isBehind_8 : decode c_MD_isBehind 8 = .ok (.invokevirtual 98, 3) := by decide +kernel
theorem d_MD_isBehind_11 : decode c_MD_isBehind 11 = .ok (.lstore 6, 2) := by decide +kernel
theorem d_MD_isBehind_13 : decode c_MD_isBehind 13 = .ok (.lload_n 3, 1) := by decide +kernel
theorem d_MD_isBehind_14 : decode c_MD_isBehind 14 = .ok (.lload 6, 2) := by decide +kernel
theorem d_MD_isBehind_16 : decode c_MD_isBehind 16 = .ok (.invokestatic 106, 3) := by decide +kernel
theorem d_MD_isBehind_19 : decode c_MD_isBehind 19 = .ok (.ifCond .ne 21, 3) := by decide +kernel
theorem d_MD_isBehind_22 : decode c_MD_isBehind 22 = .ok (.lload 6, 2) := by decide +kernel
theorem d_MD_isBehind_24 : decode c_MD_isBehind 24 = .ok (.lload_n 3, 1) := by decide +kernel
theorem d_MD_isBehind_25 : decode c_MD_isBehind 25 = .ok (.lcmp, 1) := by decide +kernel
theorem d_MD_isBehind_26 : decode c_MD_isBehind 26 = .ok (.ifCond .ne 18, 3) := by decide +kernel
theorem d_MD_isBehind_29 : decode c_MD_isBehind 29 = .ok (.aload_n 0, 1) := by decide +kernel
theorem d_MD_isBehind_30 : decode c_MD_isBehind 30 = .ok (.iload_n 1, 1) := by decide +kernel
theorem d_MD_isBehind_31 : decode c_MD_isBehind 31 = .ok (.iload_n 2, 1) := by decide +kernel
theorem d_MD_isBehind_32 : decode c_MD_isBehind 32 = .ok (.invokevirtual 110, 3) := by decide +kernel
theorem d_MD_isBehind_35 : decode c_MD_isBehind 35 = .ok (.iload 5, 2) := by decide +kernel
theorem d_MD_isBehind_37 : decode c_MD_isBehind 37 = .ok (.if_icmp .le 7, 3) := by decide +kernel
theorem d_MD_isBehind_40 : decode c_MD_isBehind 40 = .ok (.iconst 1, 1) := by decide +kernel
theorem d_MD_isBehind_41 : decode c_MD_isBehind 41 = .ok (.goto 4, 3) := by decide +kernel
theorem d_MD_isBehind_44 : decode c_MD_isBehind 44 = .ok (.iconst 0, 1) := by decide +kernel
theorem d_MD_isBehind_45 : decode c_MD_isBehind 45 = .ok (.ireturn, 1) := by decide +kernel
theorem d_MD_got_0 : decode c_MD_got 0 = .ok (.aload_n 0, 1) := by decide +kernel
theorem d_MD_got_1 : decode c_MD_got 1 = .ok (.getfield 42, 3) := by decide +kernel
theorem d_MD_got_4 : decode c_MD_got 4 = .ok (.iload_n 1, 1) := by decide +kernel
theorem d_MD_got_5 : decode c_MD_got 5 = .ok (.iload_n 2, 1) := by decide +kernel
theorem d_MD_got_6 : decode c_MD_got 6 = .ok (.iastore, 1) := by decide +kernel
theorem d_MD_got_7 : decode c_MD_got 7 = .ok (.aload_n 0, 1) := by decide +kernel
theorem d_MD_got_8 : decode c_MD_got 8 = .ok (.getfield 45, 3) := by decide +kernel
theorem d_MD_got_11 : decode c_MD_got 11 = .ok (.iload_n 1, 1) := by decide +kernel
theorem d_MD_got_12 : decode c_MD_got 12 = .ok (.iconst 1, 1) := by decide +kernel
theorem d_MD_got_13 : decode c_MD_got 13 = .ok (.iastore, 1) := by decide +kernel
theorem d_MD_got_14 : decode c_MD_got 14 = .ok (.aload_n 0, 1) := by decide +kernel
theorem d_MD_got_15 : decode c_MD_got 15 = .ok (.getfield 54, 3) := by decide +kernel
theorem d_MD_got_18 : decode c_MD_got 18 = .ok (.iload_n 1, 1) := by decide +kernel
theorem d_MD_got_19 : decode c_MD_got 19 = .ok (.aload_n 0, 1) := by decide +kernel
theorem d_MD_got_20 : decode c_MD_got 20 = .ok (.iload_n 2, 1) := by decide +kernel
theorem d_MD_got_21 : decode c_MD_got 21 = .ok (.aload_n 0, 1) := by decide +kernel
theorem d_MD_got_22 : decode c_MD_got 22 = .ok (.getfield 27, 3) := by decide +kernel
theorem d_MD_got_25 : decode c_MD_got 25 = .ok (.iload_n 3, 1) := by decide +kernel
theorem d_MD_got_26 : decode c_MD_got 26 = .ok (.laload, 1) := by decide +kernel
theorem d_MD_got_27 : decode c_MD_got 27 = .ok (.invokevirtual 98, 3) := by decide +kernel
theorem d_MD_got_30 : decode c_MD_got 30 = .ok (.lastore, 1) := by decide +kernel
theorem d_MD_got_31 : decode c_MD_got 31 = .ok (.aload_n 0, 1) := by decide +kernel
theorem d_MD_got_32 : decode c_MD_got 32 = .ok (.getfield 48, 3) := by decide +kernel
theorem d_MD_got_35 : decode c_MD_got 35 = .ok (.iload_n 1, 1) := by decide +kernel
theorem d_MD_got_36 : decode c_MD_got 36 = .ok (.aload_n 0, 1) := by decide +kernel
theorem d_MD_got_37 : decode c_MD_got 37 = .ok (.iload_n 2, 1) := by decide +kernel
theorem d_MD_got_38 : decode c_MD_got 38 = .ok (.iload_n 3, 1) := by decide +kernel
theorem d_MD_got_39 : decode c_MD_got 39 = .ok (.invokevirtual 110, 3) := by decide +kernel
theorem d_MD_got_42 : decode c_MD_got 42 = .ok (.iastore, 1) := by decide +kernel
theorem d_MD_got_43 : decode c_MD_got 43 = .ok (.aload_n 0, 1) := by decide +kernel
theorem d_MD_got_44 : decode c_MD_got 44 = .ok (.getfield 66, 3) := by decide +kernel
theorem d_MD_got_47 : decode c_MD_got 47 = .ok (.iload_n 1, 1) := by decide +kernel
theorem d_MD_got_48 : decode c_MD_got 48 = .ok (.iconst 0, 1) := by decide +kernel
theorem d_MD_got_49 : decode c_MD_got 49 = .ok (.bastore, 1) := by decide +kernel
theorem d_MD_got_50 : decode c_MD_got 50 = .ok (.aload_n 0, 1) := by decide +kernel
theorem d_MD_got_51 : decode c_MD_got 51 = .ok (.getfield 51, 3) := by decide +kernel
theorem d_MD_got_54 : decode c_MD_got 54 = .ok (.iload_n 1, 1) := by decide +kernel
theorem d_MD_got_55 : decode c_MD_got 55 = .ok (.aload_n 0, 1) := by decide +kernel
theorem d_MD_got_56 : decode c_MD_got 56 = .ok (.getfield 30, 3) := by decide +kernel
theorem d_MD_got_59 : decode c_MD_got 59 = .ok (.iload_n 3, 1) := by decide +kernel
theorem d_MD_got_60 : decode c_MD_got 60 = .ok (.iaload, 1) := by decide +kernel
theorem d_MD_got_61 : decode c_MD_got 61 = .ok (.iastore, 1) := by decide +kernel
theorem d_MD_got_62 : decode c_MD_got 62 = .ok (.aload_n 0, 1) := by decide +kernel
theorem d_MD_got_63 : decode c_MD_got 63 = .ok (.getfield 57, 3) := by decide +kernel
theorem d_MD_got_66 : decode c_MD_got 66 = .ok (.iload_n 1, 1) := by decide +kernel
theorem d_MD_got_67 : decode c_MD_got 67 = .ok (.aload_n 0, 1) := by decide +kernel
theorem d_MD_got_68 : decode c_MD_got 68 = .ok (.getfield 27, 3) := by decide +kernel
theorem d_MD_got_71 : decode c_MD_got 71 = .ok (.iload_n 3, 1) := by decide +kernel
theorem d_MD_got_72 : decode c_MD_got 72 = .ok (.laload, 1) := by decide +kernel
theorem d_MD_got_73 : decode c_MD_got 73 = .ok (.lastore, 1) := by decide +kernel
theorem d_MD_got_74 : decode c_MD_got 74 = .ok (.aload_n 0, 1) := by decide +kernel
theorem d_MD_got_75 : decode c_MD_got 75 = .ok (.iload_n 2, 1) := by decide +kernel
theorem d_MD_got_76 : decode c_MD_got 76 = .ok (.iload_n 3, 1) := by decide +kernel
theorem d_MD_got_77 : decode c_MD_got 77 = .ok (.iload 4, 2) := by decide +kernel
theorem d_MD_got_79 : decode c_MD_got 79 = .ok (.invokevirtual 143, 3) := by decide +kernel
theorem d_MD_got_82 : decode c_MD_got 82 = .ok (.ireturn, 1) := by decide +kernel
theorem d_MD_status_0 : decode c_MD_status 0 = .ok (.aload_n 0, 1) := by decide +kernel
theorem d_MD_status_1 : decode c_MD_status 1 = .ok (.iload_n 1, 1) := by decide +kernel
theorem d_MD_status_2 : decode c_MD_status 2 = .ok (.aload_n 0, 1) := by decide +kernel
theorem d_MD_status_3 : decode c_MD_status 3 = .ok (.getfield 27, 3) := by decide +kernel
theorem d_MD_status_6 : decode c_MD_status 6 = .ok (.iload_n 2, 1) := by decide +kernel
theorem d_MD_status_7 : decode c_MD_status 7 = .ok (.laload, 1) := by decide +kernel
theorem d_MD_status_8 : decode c_MD_status 8 = .ok (.invokevirtual 98, 3) := by decide +kernel
theorem d_MD_status_11 : decode c_MD_status 11 = .ok (.lstore 4, 2) := by decide +kernel
theorem d_MD_status_13 : decode c_MD_status 13 = .ok (.iload_n 3, 1) := by decide +kernel
theorem d_MD_status_14 : decode c_MD_status 14 = .ok (.ifCond .eq 20, 3) := by decide +kernel
theorem d_MD_status_17 : decode c_MD_status 17 = .ok (.aload_n 0, 1) := by decide +kernel
theorem d_MD_status_18 : decode c_MD_status 18 = .ok (.iload_n 1, 1) := by decide +kernel
theorem d_MD_status_19 : decode c_MD_status 19 = .ok (.lload 4, 2) := by decide +kernel
theorem d_MD_status_21 : decode c_MD_status 21 = .ok (.aload_n 0, 1) := by decide +kernel
theorem d_MD_status_22 : decode c_MD_status 22 = .ok (.iload_n 1, 1) := by decide +kernel
theorem d_MD_status_23 : decode c_MD_status 23 = .ok (.iload_n 2, 1) := by decide +kernel
theorem d_MD_status_24 : decode c_MD_status 24 = .ok (.invokevirtual 110, 3) := by decide +kernel
theorem d_MD_status_27 : decode c_MD_status 27 = .ok (.iconst 0, 1) := by decide +kernel
theorem d_MD_status_28 : decode c_MD_status 28 = .ok (.invokevirtual 129, 3) := by decide +kernel
theorem d_MD_status_31 : decode c_MD_status 31 = .ok (.goto 17, 3) := by decide +kernel
theorem d_MD_status_34 : decode c_MD_status 34 = .ok (.aload_n 0, 1) := by decide +kernel
theorem d_MD_status_35 : decode c_MD_status 35 = .ok (.iload_n 1, 1) := by decide +kernel
theorem d_MD_status_36 : decode c_MD_status 36 = .ok (.lload 4, 2) := by decide +kernel
theorem d_MD_status_38 : decode c_MD_status 38 = .ok (.aload_n 0, 1) := by decide +kernel
theorem d_MD_status_39 : decode c_MD_status 39 = .ok (.iload_n 1, 1) := by decide +kernel
theorem d_MD_status_40 : decode c_MD_status 40 = .ok (.iload_n 2, 1) := by decide +kernel
theorem d_MD_status_41 : decode c_MD_status 41 = .ok (.invokevirtual 110, 3) := by decide +kernel
theorem d_MD_status_44 : decode c_MD_status 44 = .ok (.iconst 0, 1) := by decide +kernel
theorem d_MD_status_45 : decode c_MD_status 45 = .ok (.invokevirtual 133, 3) := by decide +kernel
theorem d_MD_status_48 : decode c_MD_status 48 = .ok (.istore 6, 2) := by decide +kernel
theorem d_MD_status_50 : decode c_MD_status 50 = .ok (.aload_n 0, 1) := by decide +kernel
theorem d_MD_status_51 : decode c_MD_status 51 = .ok (.getfield 16, 3) := by decide +kernel
theorem d_MD_status_54 : decode c_MD_status 54 = .ok (.iload_n 1, 1) := by decide +kernel
theorem d_MD_status_55 : decode c_MD_status 55 = .ok (.baload, 1) := by decide +kernel
theorem d_MD_status_56 : decode c_MD_status 56 = .ok (.ifCond .eq 31, 3) := by decide +kernel
theorem d_MD_status_59 : decode c_MD_status 59 = .ok (.iload 6, 2) := by decide +kernel
theorem d_MD_status_61 : decode c_MD_status 61 = .ok (.iconst (-1), 1) := by decide +kernel
theorem d_MD_status_62 : decode c_MD_status 62 = .ok (.if_icmp .eq 25, 3) := by decide +kernel
theorem d_MD_status_65 : decode c_MD_status 65 = .ok (.aload_n 0, 1) := by decide +kernel
theorem d_MD_status_66 : decode c_MD_status 66 = .ok (.iload_n 1, 1) := by decide +kernel
theorem d_MD_status_67 : decode c_MD_status 67 = .ok (.aload_n 0, 1) := by decide +kernel
theorem d_MD_status_68 : decode c_MD_status 68 = .ok (.getfield 27, 3) := by decide +kernel
theorem d_MD_status_71 : decode c_MD_status 71 = .ok (.iload 6, 2) := by decide +kernel
theorem d_MD_status_73 : decode c_MD_status 73 = .ok (.laload, 1) := by decide +kernel
theorem d_MD_status_74 : decode c_MD_status 74 = .ok (.invokevirtual 98, 3) := by decide +kernel
theorem d_MD_status_77 : decode c_MD_status 77 = .ok (.lload 4, 2) := by decide +kernel
theorem d_MD_status_79 : decode c_MD_status 79 = .ok (.lcmp, 1) := by decide +kernel
theorem d_MD_status_80 : decode c_MD_status 80 = .ok (.ifCond .ne 7, 3) := by decide +kernel
theorem d_MD_status_83 : decode c_MD_status 83 = .ok (.iconst 2, 1) := by decide +kernel
theorem d_MD_status_84 : decode c_MD_status 84 = .ok (.goto 4, 3) := by decide +kernel
theorem d_MD_status_87 : decode c_MD_status 87 = .ok (.iconst 0, 1) := by decide +kernel
theorem d_MD_status_88 : decode c_MD_status 88 = .ok (.ireturn, 1) := by decide +kernel
theorem d_MD_ahead_0 : decode c_MD_ahead 0 = .ok (.iconst (-1), 1) := by decide +kernel
theorem d_MD_ahead_1 : decode c_MD_ahead 1 = .ok (.istore 6, 2) := by decide +kernel
theorem d_MD_ahead_3 : decode c_MD_ahead 3 = .ok (.iconst 0, 1) := by decide +kernel
theorem d_MD_ahead_4 : decode c_MD_ahead 4 = .ok (.istore 7, 2) := by decide +kernel
theorem d_MD_ahead_6 : decode c_MD_ahead 6 = .ok (.iload 7, 2) := by decide +kernel
theorem d_MD_ahead_8 : decode c_MD_ahead 8 = .ok (.sipush 300, 3) := by decide +kernel
theorem d_MD_ahead_11 : decode c_MD_ahead 11 = .ok (.if_icmp .ge 92, 3) := by decide +kernel
theorem d_MD_ahead_14 : decode c_MD_ahead 14 = .ok (.aload_n 0, 1) := by decide +kernel
theorem d_MD_ahead_15 : decode c_MD_ahead 15 = .ok (.iload_n 1, 1) := by decide +kernel
theorem d_MD_ahead_16 : decode c_MD_ahead 16 = .ok (.iload 7, 2) := by decide +kernel
theorem d_MD_ahead_18 : decode c_MD_ahead 18 = .ok (.invokevirtual 114, 3) := by decide +kernel
theorem d_MD_ahead_21 : decode c_MD_ahead 21 = .ok (.ifCond .eq 76, 3) := by decide +kernel
theorem d_MD_ahead_24 : decode c_MD_ahead 24 = .ok (.aload_n 0, 1) := by decide +kernel
theorem d_MD_ahead_25 : decode c_MD_ahead 25 = .ok (.iload_n 1, 1) := by decide +kernel
theorem d_MD_ahead_26 : decode c_MD_ahead 26 = .ok (.iload 7, 2) := by decide +kernel
theorem d_MD_ahead_28 : decode c_MD_ahead 28 = .ok (.lload_n 2, 1) := by decide +kernel
theorem d_MD_ahead_29 : decode c_MD_ahead 29 = .ok (.iload 4, 2) := by decide +kernel
theorem d_MD_ahead_31 : decode c_MD_ahead 31 = .ok (.invokevirtual 122, 3) := by decide +kernel
theorem d_MD_ahead_34 : decode c_MD_ahead 34 = .ok (.ifCond .ne 63, 3) := by decide +kernel
theorem d_MD_ahead_37 : decode c_MD_ahead 37 = .ok (.iload 5, 2) := by decide +kernel
theorem d_MD_ahead_39 : decode c_MD_ahead 39 = .ok (.ifCond .ne 19, 3) := by decide +kernel
theorem d_MD_ahead_42 : decode c_MD_ahead 42 = .ok (.aload_n 0, 1) := by decide +kernel
theorem d_MD_ahead_43 : decode c_MD_ahead 43 = .ok (.iload_n 1, 1) := by decide +kernel
theorem d_MD_ahead_44 : decode c_MD_ahead 44 = .ok (.iload 7, 2) := by decide +kernel
theorem d_MD_ahead_46 : decode c_MD_ahead 46 = .ok (.lload_n 2, 1) := by decide +kernel
theorem d_MD_ahead_47 : decode c_MD_ahead 47 = .ok (.iload 4, 2) := by decide +kernel
theorem d_MD_ahead_49 : decode c_MD_ahead 49 = .ok (.invokevirtual 118, 3) := by decide +kernel
theorem d_MD_ahead_52 : decode c_MD_ahead 52 = .ok (.ifCond .ne 6, 3) := by decide +kernel
theorem d_MD_ahead_55 : decode c_MD_ahead 55 = .ok (.goto 42, 3) := by decide +kernel
theorem d_MD_ahead_58 : decode c_MD_ahead 58 = .ok (.iload 6, 2) := by decide +kernel
theorem d_MD_ahead_60 : decode c_MD_ahead 60 = .ok (.iconst (-1), 1) := by decide +kernel
theorem d_MD_ahead_61 : decode c_MD_ahead 61 = .ok (.if_icmp .eq 32, 3) := by decide +kernel
theorem d_MD_ahead_64 : decode c_MD_ahead 64 = .ok (.aload_n 0, 1) := by decide +kernel
theorem d_MD_ahead_65 : decode c_MD_ahead 65 = .ok (.iload_n 1, 1) := by decide +kernel
theorem d_MD_ahead_66 : decode c_MD_ahead 66 = .ok (.iload 7, 2) := by decide +kernel
theorem d_MD_ahead_68 : decode c_MD_ahead 68 = .ok (.aload_n 0, 1) := by decide +kernel
theorem d_MD_ahead_69 : decode c_MD_ahead 69 = .ok (.iload_n 1, 1) := by decide +kernel
theorem d_MD_ahead_70 : decode c_MD_ahead 70 = .ok (.aload_n 0, 1) := by decide +kernel
theorem d_MD_ahead_71 : decode c_MD_ahead 71 = .ok (.getfield 27, 3) := by decide +kernel
theorem d_MD_ahead_74 : decode c_MD_ahead 74 = .ok (.iload 6, 2) := by decide +kernel
theorem d_MD_ahead_76 : decode c_MD_ahead 76 = .ok (.laload, 1) := by decide +kernel
theorem d_MD_ahead_77 : decode c_MD_ahead 77 = .ok (.invokevirtual 98, 3) := by decide +kernel
theorem d_MD_ahead_80 : decode c_MD_ahead 80 = .ok (.aload_n 0, 1) := by decide +kernel
theorem d_MD_ahead_81 : decode c_MD_ahead 81 = .ok (.iload_n 1, 1) := by decide +kernel
theorem d_MD_ahead_82 : decode c_MD_ahead 82 = .ok (.iload 6, 2) := by decide +kernel
theorem d_MD_ahead_84 : decode c_MD_ahead 84 = .ok (.invokevirtual 110, 3) := by decide +kernel
theorem d_MD_ahead_87 : decode c_MD_ahead 87 = .ok (.invokevirtual 122, 3) := by decide +kernel
theorem d_MD_ahead_90 : decode c_MD_ahead 90 = .ok (.ifCond .eq 7, 3) := by decide +kernel
theorem d_MD_ahead_93 : decode c_MD_ahead 93 = .ok (.iload 7, 2) := by decide +kernel
theorem d_MD_ahead_95 : decode c_MD_ahead 95 = .ok (.istore 6, 2) := by decide +kernel
theorem d_MD_ahead_97 : decode c_MD_ahead 97 = .ok (.iinc 7 1, 3) := by decide +kernel
theorem d_MD_ahead_100 : decode c_MD_ahead 100 = .ok (.goto (-94), 3) := by decide +kernel
theorem d_MD_ahead_103 : decode c_MD_ahead 103 = .ok (.iload 6, 2) := by decide +kernel
theorem d_MD_ahead_105 : decode c_MD_ahead 105 = .ok (.ireturn, 1) := by decide +kernel
theorem d_MD_value_0 : decode c_MD_value 0 = .ok (.aload_n 0, 1) := by decide +kernel
theorem d_MD_value_1 : decode c_MD_value 1 = .ok (.iconst 0, 1) := by decide +kernel
theorem d_MD_value_2 : decode c_MD_value 2 = .ok (.putfield 72, 3) := by decide +kernel
theorem d_MD_value_5 : decode c_MD_value 5 = .ok (.aload_n 0, 1) := by decide +kernel
theorem d_MD_value_6 : decode c_MD_value 6 = .ok (.iload_n 1, 1) := by decide +kernel
theorem d_MD_value_7 : decode c_MD_value 7 = .ok (.invokevirtual 92, 3) := by decide +kernel
theorem d_MD_value_10 : decode c_MD_value 10 = .ok (.ifCond .eq 12, 3) := by decide +kernel
theorem d_MD_value_13 : decode c_MD_value 13 = .ok (.aload_n 0, 1) := by decide +kernel
theorem d_MD_value_14 : decode c_MD_value 14 = .ok (.getfield 57, 3) := by decide +kernel
theorem d_MD_value_17 : decode c_MD_value 17 = .ok (.iload_n 1, 1) := by decide +kernel
theorem d_MD_value_18 : decode c_MD_value 18 = .ok (.laload, 1) := by decide +kernel
theorem d_MD_value_19 : decode c_MD_value 19 = .ok (.goto 4, 3) := by decide +kernel
theorem d_MD_value_22 : decode c_MD_value 22 = .ok (.lconst 0, 1) := by decide +kernel
theorem d_MD_value_23 : decode c_MD_value 23 = .ok (.lreturn, 1) := by decide +kernel
theorem d_MD_start_0 : decode c_MD_start 0 = .ok (.aload_n 0, 1) := by decide +kernel
theorem d_MD_start_1 : decode c_MD_start 1 = .ok (.iconst 0, 1) := by decide +kernel
theorem d_MD_start_2 : decode c_MD_start 2 = .ok (.putfield 72, 3) := by decide +kernel
theorem d_MD_start_5 : decode c_MD_start 5 = .ok (.aload_n 0, 1) := by decide +kernel
theorem d_MD_start_6 : decode c_MD_start 6 = .ok (.iload_n 1, 1) := by decide +kernel
theorem d_MD_start_7 : decode c_MD_start 7 = .ok (.invokevirtual 92, 3) := by decide +kernel
theorem d_MD_start_10 : decode c_MD_start 10 = .ok (.ifCond .eq 37, 3) := by decide +kernel
theorem d_MD_start_13 : decode c_MD_start 13 = .ok (.aload_n 0, 1) := by decide +kernel
theorem d_MD_start_14 : decode c_MD_start 14 = .ok (.iload_n 2, 1) := by decide +kernel
theorem d_MD_start_15 : decode c_MD_start 15 = .ok (.invokevirtual 88, 3) := by decide +kernel
theorem d_MD_start_18 : decode c_MD_start 18 = .ok (.ifCond .eq 29, 3) := by decide +kernel
theorem d_MD_start_21 : decode c_MD_start 21 = .ok (.iload_n 3, 1) := by decide +kernel
theorem d_MD_start_22 : decode c_MD_start 22 = .ok (.ifCond .lt 25, 3) := by decide +kernel
theorem d_MD_start_25 : decode c_MD_start 25 = .ok (.iload_n 3, 1) := by decide +kernel
theorem d_MD_start_26 : decode c_MD_start 26 = .ok (.iconst 4, 1) := by decide +kernel
theorem d_MD_start_27 : decode c_MD_start 27 = .ok (.if_icmp .gt 20, 3) := by decide +kernel
theorem d_MD_start_30 : decode c_MD_start 30 = .ok (.iload 6, 2) := by decide +kernel
theorem d_MD_start_32 : decode c_MD_start 32 = .ok (.iconst 1, 1) := by decide +kernel
theorem d_MD_start_33 : decode c_MD_start 33 = .ok (.if_icmp .lt 14, 3) := by decide +kernel
theorem d_MD_start_36 : decode c_MD_start 36 = .ok (.iload 6, 2) := by decide +kernel
theorem d_MD_start_38 : decode c_MD_start 38 = .ok (.aload_n 0, 1) := by decide +kernel
theorem d_MD_start_39 : decode c_MD_start 39 = .ok (.getfield 13, 3) := by decide +kernel
theorem d_MD_start_42 : decode c_MD_start 42 = .ok (.iload_n 2, 1) := by decide +kernel
theorem d_MD_start_43 : decode c_MD_start 43 = .ok (.iaload, 1) := by decide +kernel
theorem d_MD_start_44 : decode c_MD_start 44 = .ok (.if_icmp .le 5, 3) := by decide +kernel
theorem d_MD_start_47 : decode c_MD_start 47 = .ok (.iconst (-1), 1) := by decide +kernel
theorem d_MD_start_48 : decode c_MD_start 48 = .ok (.ireturn, 1) := by decide +kernel
theorem d_MD_start_49 : decode c_MD_start 49 = .ok (.aload_n 0, 1) := by decide +kernel
theorem d_MD_start_50 : decode c_MD_start 50 = .ok (.getfield 63, 3) := by decide +kernel
theorem d_MD_start_53 : decode c_MD_start 53 = .ok (.iload_n 1, 1) := by decide +kernel
theorem d_MD_start_54 : decode c_MD_start 54 = .ok (.baload, 1) := by decide +kernel
theorem d_MD_start_55 : decode c_MD_start 55 = .ok (.ifCond .ne 6, 3) := by decide +kernel
theorem d_MD_start_58 : decode c_MD_start 58 = .ok (.bipush 42, 2) := by decide +kernel
theorem d_MD_start_60 : decode c_MD_start 60 = .ok (.ireturn, 1) := by decide +kernel
theorem d_MD_start_61 : decode c_MD_start 61 = .ok (.aload_n 0, 1) := by decide +kernel
theorem d_MD_start_62 : decode c_MD_start 62 = .ok (.iload_n 1, 1) := by decide +kernel
theorem d_MD_start_63 : decode c_MD_start 63 = .ok (.invokevirtual 165, 3) := by decide +kernel
theorem d_MD_start_66 : decode c_MD_start 66 = .ok (.ifCond .eq 13, 3) := by decide +kernel
theorem d_MD_start_69 : decode c_MD_start 69 = .ok (.aload_n 0, 1) := by decide +kernel
theorem d_MD_start_70 : decode c_MD_start 70 = .ok (.getfield 39, 3) := by decide +kernel
theorem d_MD_start_73 : decode c_MD_start 73 = .ok (.iload_n 1, 1) := by decide +kernel
theorem d_MD_start_74 : decode c_MD_start 74 = .ok (.iaload, 1) := by decide +kernel
theorem d_MD_start_75 : decode c_MD_start 75 = .ok (.iconst 1, 1) := by decide +kernel
theorem d_MD_start_76 : decode c_MD_start 76 = .ok (.if_icmp .ne 6, 3) := by decide +kernel
theorem d_MD_start_79 : decode c_MD_start 79 = .ok (.bipush 47, 2) := by decide +kernel
theorem d_MD_start_81 : decode c_MD_start 81 = .ok (.ireturn, 1) := by decide +kernel
theorem d_MD_start_82 : decode c_MD_start 82 = .ok (.aload_n 0, 1) := by decide +kernel
theorem d_MD_start_83 : decode c_MD_start 83 = .ok (.iload_n 1, 1) := by decide +kernel
theorem d_MD_start_84 : decode c_MD_start 84 = .ok (.invokevirtual 150, 3) := by decide +kernel
theorem d_MD_start_87 : decode c_MD_start 87 = .ok (.iconst (-1), 1) := by decide +kernel
theorem d_MD_start_88 : decode c_MD_start 88 = .ok (.istore 7, 2) := by decide +kernel
theorem d_MD_start_90 : decode c_MD_start 90 = .ok (.iconst 0, 1) := by decide +kernel
theorem d_MD_start_91 : decode c_MD_start 91 = .ok (.istore 8, 2) := by decide +kernel
theorem d_MD_start_93 : decode c_MD_start 93 = .ok (.iload 8, 2) := by decide +kernel
theorem d_MD_start_95 : decode c_MD_start 95 = .ok (.sipush 300, 3) := by decide +kernel
theorem d_MD_start_98 : decode c_MD_start 98 = .ok (.if_icmp .ge 136, 3) := by decide +kernel
theorem d_MD_start_101 : decode c_MD_start 101 = .ok (.aload_n 0, 1) := by decide +kernel
theorem d_MD_start_102 : decode c_MD_start 102 = .ok (.iload_n 2, 1) := by decide +kernel
theorem d_MD_start_103 : decode c_MD_start 103 = .ok (.iload 8, 2) := by decide +kernel
theorem d_MD_start_105 : decode c_MD_start 105 = .ok (.invokevirtual 114, 3) := by decide +kernel
theorem d_MD_start_108 : decode c_MD_start 108 = .ok (.ifCond .eq 120, 3) := by decide +kernel
theorem d_MD_start_111 : decode c_MD_start 111 = .ok (.iload_n 3, 1) := by decide +kernel
theorem d_MD_start_112 : decode c_MD_start 112 = .ok (.aload_n 0, 1) := by decide +kernel
theorem d_MD_start_113 : decode c_MD_start 113 = .ok (.iload_n 2, 1) := by decide +kernel
theorem d_MD_start_114 : decode c_MD_start 114 = .ok (.aload_n 0, 1) := by decide +kernel
theorem d_MD_start_115 : decode c_MD_start 115 = .ok (.getfield 27, 3) := by decide +kernel
theorem d_MD_start_118 : decode c_MD_start 118 = .ok (.iload 8, 2) := by decide +kernel
theorem d_MD_start_120 : decode c_MD_start 120 = .ok (.laload, 1) := by decide +kernel
theorem d_MD_start_121 : decode c_MD_start 121 = .ok (.invokevirtual 98, 3) := by decide +kernel
theorem d_MD_start_124 : decode c_MD_start 124 = .ok (.bipush 8, 2) := by decide +kernel
theorem d_MD_start_126 : decode c_MD_start 126 = .ok (.aload_n 0, 1) := by decide +kernel
theorem d_MD_start_127 : decode c_MD_start 127 = .ok (.getfield 13, 3) := by decide +kernel
theorem d_MD_start_130 : decode c_MD_start 130 = .ok (.iload_n 2, 1) := by decide +kernel
theorem d_MD_start_131 : decode c_MD_start 131 = .ok (.iaload, 1) := by decide +kernel
theorem d_MD_start_132 : decode c_MD_start 132 = .ok (.iload 6, 2) := by decide +kernel
theorem d_MD_start_134 : decode c_MD_start 134 = .ok (.isub, 1) := by decide +kernel
theorem d_MD_start_135 : decode c_MD_start 135 = .ok (.imul, 1) := by decide +kernel
theorem d_MD_start_136 : decode c_MD_start 136 = .ok (.lushr, 1) := by decide +kernel
theorem d_MD_start_137 : decode c_MD_start 137 = .ok (.lload 4, 2) := by decide +kernel
theorem d_MD_start_139 : decode c_MD_start 139 = .ok (.invokestatic 172, 3) := by decide +kernel
theorem d_MD_start_142 : decode c_MD_start 142 = .ok (.ifCond .ne 6, 3) := by decide +kernel
theorem d_MD_start_145 : decode c_MD_start 145 = .ok (.goto 83, 3) := by decide +kernel
theorem d_MD_start_148 : decode c_MD_start 148 = .ok (.iload 7, 2) := by decide +kernel
theorem d_MD_start_150 : decode c_MD_start 150 = .ok (.iconst (-1), 1) := by decide +kernel
theorem d_MD_start_151 : decode c_MD_start 151 = .ok (.if_icmp .ne 7, 3) := by decide +kernel
theorem d_MD_start_154 : decode c_MD_start 154 = .ok (.iload 8, 2) := by decide +kernel
theorem d_MD_start_156 : decode c_MD_start 156 = .ok (.istore 7, 2) := by decide +kernel
theorem d_MD_start_158 : decode c_MD_start 158 = .ok (.aload_n 0, 1) := by decide +kernel
theorem d_MD_start_159 : decode c_MD_start 159 = .ok (.iload_n 2, 1) := by decide +kernel
theorem d_MD_start_160 : decode c_MD_start 160 = .ok (.aload_n 0, 1) := by decide +kernel
theorem d_MD_start_161 : decode c_MD_start 161 = .ok (.getfield 27, 3) := by decide +kernel
theorem d_MD_start_164 : decode c_MD_start 164 = .ok (.iload 7, 2) := by decide +kernel
theorem d_MD_start_166 : decode c_MD_start 166 = .ok (.laload, 1) := by decide +kernel
theorem d_MD_start_167 : decode c_MD_start 167 = .ok (.invokevirtual 98, 3) := by decide +kernel
theorem d_MD_start_170 : decode c_MD_start 170 = .ok (.lstore 9, 2) := by decide +kernel
theorem d_MD_start_172 : decode c_MD_start 172 = .ok (.iload_n 3, 1) := by decide +kernel
theorem d_MD_start_173 : decode c_MD_start 173 = .ok (.iconst 2, 1) := by decide +kernel
theorem d_MD_start_174 : decode c_MD_start 174 = .ok (.if_icmp .le 22, 3) := by decide +kernel
theorem d_MD_start_177 : decode c_MD_start 177 = .ok (.aload_n 0, 1) := by decide +kernel
theorem d_MD_start_178 : decode c_MD_start 178 = .ok (.iload_n 2, 1) := by decide +kernel
theorem d_MD_start_179 : decode c_MD_start 179 = .ok (.iload 8, 2) := by decide +kernel
theorem d_MD_start_181 : decode c_MD_start 181 = .ok (.lload 9, 2) := by decide +kernel
theorem d_MD_start_183 : decode c_MD_start 183 = .ok (.aload_n 0, 1) := by decide +kernel
theorem d_MD_start_184 : decode c_MD_start 184 = .ok (.iload_n 2, 1) := by decide +kernel
theorem d_MD_start_185 : decode c_MD_start 185 = .ok (.iload 7, 2) := by decide +kernel
theorem d_MD_start_187 : decode c_MD_start 187 = .ok (.invokevirtual 110, 3) := by decide +kernel
theorem d_MD_start_190 : decode c_MD_start 190 = .ok (.invokevirtual 122, 3) := by decide +kernel
theorem d_MD_start_193 : decode c_MD_start 193 = .ok (.goto 19, 3) := by decide +kernel
theorem d_MD_start_196 : decode c_MD_start 196 = .ok (.aload_n 0, 1) := by decide +kernel
theorem d_MD_start_197 : decode c_MD_start 197 = .ok (.iload_n 2, 1) := by decide +kernel
theorem d_MD_start_198 : decode c_MD_start 198 = .ok (.iload 8, 2) := by decide +kernel
theorem d_MD_start_200 : decode c_MD_start 200 = .ok (.lload 9, 2) := by decide +kernel
theorem d_MD_start_202 : decode c_MD_start 202 = .ok (.aload_n 0, 1) := by decide +kernel
theorem d_MD_start_203 : decode c_MD_start 203 = .ok (.iload_n 2, 1) := by decide +kernel
theorem d_MD_start_204 : decode c_MD_start 204 = .ok (.iload 7, 2) := by decide +kernel
theorem d_MD_start_206 : decode c_MD_start 206 = .ok (.invokevirtual 110, 3) := by decide +kernel
theorem d_MD_start_209 : decode c_MD_start 209 = .ok (.invokevirtual 118, 3) := by decide +kernel
theorem d_MD_start_212 : decode c_MD_start 212 = .ok (.istore 11, 2) := by decide +kernel
theorem d_MD_start_214 : decode c_MD_start 214 = .ok (.iload 11, 2) := by decide +kernel
theorem d_MD_start_216 : decode c_MD_start 216 = .ok (.ifCond .eq 8, 3) := by decide +kernel
theorem d_MD_start_219 : decode c_MD_start 219 = .ok (.iload 8, 2) := by decide +kernel
theorem d_MD_start_221 : decode c_MD_start 221 = .ok (.goto 5, 3) := by decide +kernel
theorem d_MD_start_224 : decode c_MD_start 224 = .ok (.iload 7, 2) := by decide +kernel
theorem d_MD_start_226 : decode c_MD_start 226 = .ok (.istore 7, 2) := by decide +kernel
theorem d_MD_start_228 : decode c_MD_start 228 = .ok (.iinc 8 1, 3) := by decide +kernel
theorem d_MD_start_231 : decode c_MD_start 231 = .ok (.goto (-138), 3) := by decide +kernel
theorem d_MD_start_234 : decode c_MD_start 234 = .ok (.aload_n 0, 1) := by decide +kernel
theorem d_MD_start_235 : decode c_MD_start 235 = .ok (.getfield 42, 3) := by decide +kernel
theorem d_MD_start_238 : decode c_MD_start 238 = .ok (.iload_n 1, 1) := by decide +kernel
theorem d_MD_start_239 : decode c_MD_start 239 = .ok (.iload_n 2, 1) := by decide +kernel
theorem d_MD_start_240 : decode c_MD_start 240 = .ok (.iastore, 1) := by decide +kernel
theorem d_MD_start_241 : decode c_MD_start 241 = .ok (.aload_n 0, 1) := by decide +kernel
theorem d_MD_start_242 : decode c_MD_start 242 = .ok (.getfield 66, 3) := by decide +kernel
theorem d_MD_start_245 : decode c_MD_start 245 = .ok (.iload_n 1, 1) := by decide +kernel
theorem d_MD_start_246 : decode c_MD_start 246 = .ok (.iconst 0, 1) := by decide +kernel
theorem d_MD_start_247 : decode c_MD_start 247 = .ok (.bastore, 1) := by decide +kernel
theorem d_MD_start_248 : decode c_MD_start 248 = .ok (.aload_n 0, 1) := by decide +kernel
theorem d_MD_start_249 : decode c_MD_start 249 = .ok (.getfield 45, 3) := by decide +kernel
theorem d_MD_start_252 : decode c_MD_start 252 = .ok (.iload_n 1, 1) := by decide +kernel
theorem d_MD_start_253 : decode c_MD_start 253 = .ok (.iload 7, 2) := by decide +kernel
theorem d_MD_start_255 : decode c_MD_start 255 = .ok (.iconst (-1), 1) := by decide +kernel
theorem d_MD_start_256 : decode c_MD_start 256 = .ok (.if_icmp .ne 7, 3) := by decide +kernel
theorem d_MD_start_259 : decode c_MD_start 259 = .ok (.iconst 3, 1) := by decide +kernel
theorem d_MD_start_260 : decode c_MD_start 260 = .ok (.goto 4, 3) := by decide +kernel
theorem d_MD_start_263 : decode c_MD_start 263 = .ok (.iconst 2, 1) := by decide +kernel
theorem d_MD_start_264 : decode c_MD_start 264 = .ok (.iastore, 1) := by decide +kernel
theorem d_MD_start_265 : decode c_MD_start 265 = .ok (.iload 7, 2) := by decide +kernel
theorem d_MD_start_267 : decode c_MD_start 267 = .ok (.iconst (-1), 1) := by decide +kernel
theorem d_MD_start_268 : decode c_MD_start 268 = .ok (.if_icmp .ne 6, 3) := by decide +kernel
theorem d_MD_start_271 : decode c_MD_start 271 = .ok (.bipush 23, 2) := by decide +kernel
theorem d_MD_start_273 : decode c_MD_start 273 = .ok (.ireturn, 1) := by decide +kernel
theorem d_MD_start_274 : decode c_MD_start 274 = .ok (.aload_n 0, 1) := by decide +kernel
theorem d_MD_start_275 : decode c_MD_start 275 = .ok (.getfield 54, 3) := by decide +kernel
theorem d_MD_start_278 : decode c_MD_start 278 = .ok (.iload_n 1, 1) := by decide +kernel
theorem d_MD_start_279 : decode c_MD_start 279 = .ok (.aload_n 0, 1) := by decide +kernel
theorem d_MD_start_280 : decode c_MD_start 280 = .ok (.iload_n 2, 1) := by decide +kernel
theorem d_MD_start_281 : decode c_MD_start 281 = .ok (.aload_n 0, 1) := by decide +kernel
theorem d_MD_start_282 : decode c_MD_start 282 = .ok (.getfield 27, 3) := by decide +kernel
theorem d_MD_start_285 : decode c_MD_start 285 = .ok (.iload 7, 2) := by decide +kernel
theorem d_MD_start_287 : decode c_MD_start 287 = .ok (.laload, 1) := by decide +kernel
theorem d_MD_start_288 : decode c_MD_start 288 = .ok (.invokevirtual 98, 3) := by decide +kernel
theorem d_MD_start_291 : decode c_MD_start 291 = .ok (.lastore, 1) := by decide +kernel
theorem d_MD_start_292 : decode c_MD_start 292 = .ok (.aload_n 0, 1) := by decide +kernel
theorem d_MD_start_293 : decode c_MD_start 293 = .ok (.getfield 48, 3) := by decide +kernel
theorem d_MD_start_296 : decode c_MD_start 296 = .ok (.iload_n 1, 1) := by decide +kernel
theorem d_MD_start_297 : decode c_MD_start 297 = .ok (.aload_n 0, 1) := by decide +kernel
theorem d_MD_start_298 : decode c_MD_start 298 = .ok (.iload_n 2, 1) := by decide +kernel
theorem d_MD_start_299 : decode c_MD_start 299 = .ok (.iload 7, 2) := by decide +kernel
theorem d_MD_start_301 : decode c_MD_start 301 = .ok (.invokevirtual 110, 3) := by decide +kernel
theorem d_MD_start_304 : decode c_MD_start 304 = .ok (.iastore, 1) := by decide +kernel
theorem d_MD_start_305 : decode c_MD_start 305 = .ok (.iconst 0, 1) := by decide +kernel
theorem d_MD_start_306 : decode c_MD_start 306 = .ok (.ireturn, 1) := by decide +kernel
theorem d_MD_holds_0 : decode c_MD_holds 0 = .ok (.iload_n 0, 1) := by decide +kernel
theorem d_MD_holds_1 : decode c_MD_holds 1 = .ok (.tableswitch 69 0 3 #[31, 43, 49, 63], 31) := by decide +kernel
theorem d_MD_holds_32 : decode c_MD_holds 32 = .ok (.lload_n 1, 1) := by decide +kernel
theorem d_MD_holds_33 : decode c_MD_holds 33 = .ok (.lload_n 3, 1) := by decide +kernel
theorem d_MD_holds_34 : decode c_MD_holds 34 = .ok (.lcmp, 1) := by decide +kernel
theorem d_MD_holds_35 : decode c_MD_holds 35 = .ok (.ifCond .ne 7, 3) := by decide +kernel
theorem d_MD_holds_38 : decode c_MD_holds 38 = .ok (.iconst 1, 1) := by decide +kernel
theorem d_MD_holds_39 : decode c_MD_holds 39 = .ok (.goto 4, 3) := by decide +kernel
theorem d_MD_holds_42 : decode c_MD_holds 42 = .ok (.iconst 0, 1) := by decide +kernel
theorem d_MD_holds_43 : decode c_MD_holds 43 = .ok (.ireturn, 1) := by decide +kernel
theorem d_MD_holds_44 : decode c_MD_holds 44 = .ok (.lload_n 3, 1) := by decide +kernel
theorem d_MD_holds_45 : decode c_MD_holds 45 = .ok (.lload_n 1, 1) := by decide +kernel
theorem d_MD_holds_46 : decode c_MD_holds 46 = .ok (.invokestatic 106, 3) := by decide +kernel
theorem d_MD_holds_49 : decode c_MD_holds 49 = .ok (.ireturn, 1) := by decide +kernel
theorem d_MD_holds_50 : decode c_MD_holds 50 = .ok (.lload_n 1, 1) := by decide +kernel
theorem d_MD_holds_51 : decode c_MD_holds 51 = .ok (.lload_n 3, 1) := by decide +kernel
theorem d_MD_holds_52 : decode c_MD_holds 52 = .ok (.invokestatic 106, 3) := by decide +kernel
theorem d_MD_holds_55 : decode c_MD_holds 55 = .ok (.ifCond .ne 7, 3) := by decide +kernel
theorem d_MD_holds_58 : decode c_MD_holds 58 = .ok (.iconst 1, 1) := by decide +kernel
theorem d_MD_holds_59 : decode c_MD_holds 59 = .ok (.goto 4, 3) := by decide +kernel
theorem d_MD_holds_62 : decode c_MD_holds 62 = .ok (.iconst 0, 1) := by decide +kernel
theorem d_MD_holds_63 : decode c_MD_holds 63 = .ok (.ireturn, 1) := by decide +kernel
theorem d_MD_holds_64 : decode c_MD_holds 64 = .ok (.lload_n 1, 1) := by decide +kernel
theorem d_MD_holds_65 : decode c_MD_holds 65 = .ok (.lload_n 3, 1) := by decide +kernel
theorem d_MD_holds_66 : decode c_MD_holds 66 = .ok (.invokestatic 106, 3) := by decide +kernel
theorem d_MD_holds_69 : decode c_MD_holds 69 = .ok (.ireturn, 1) := by decide +kernel
theorem d_MD_holds_70 : decode c_MD_holds 70 = .ok (.lload_n 3, 1) := by decide +kernel
theorem d_MD_holds_71 : decode c_MD_holds 71 = .ok (.lload_n 1, 1) := by decide +kernel
theorem d_MD_holds_72 : decode c_MD_holds 72 = .ok (.invokestatic 106, 3) := by decide +kernel
theorem d_MD_holds_75 : decode c_MD_holds 75 = .ok (.ifCond .ne 7, 3) := by decide +kernel
theorem d_MD_holds_78 : decode c_MD_holds 78 = .ok (.iconst 1, 1) := by decide +kernel
theorem d_MD_holds_79 : decode c_MD_holds 79 = .ok (.goto 4, 3) := by decide +kernel
theorem d_MD_holds_82 : decode c_MD_holds 82 = .ok (.iconst 0, 1) := by decide +kernel
theorem d_MD_holds_83 : decode c_MD_holds 83 = .ok (.ireturn, 1) := by decide +kernel
theorem d_MD_next_0 : decode c_MD_next 0 = .ok (.aload_n 0, 1) := by decide +kernel
theorem d_MD_next_1 : decode c_MD_next 1 = .ok (.iconst 0, 1) := by decide +kernel
theorem d_MD_next_2 : decode c_MD_next 2 = .ok (.putfield 72, 3) := by decide +kernel
theorem d_MD_next_5 : decode c_MD_next 5 = .ok (.aload_n 0, 1) := by decide +kernel
theorem d_MD_next_6 : decode c_MD_next 6 = .ok (.iload_n 1, 1) := by decide +kernel
theorem d_MD_next_7 : decode c_MD_next 7 = .ok (.invokevirtual 92, 3) := by decide +kernel
theorem d_MD_next_10 : decode c_MD_next 10 = .ok (.ifCond .ne 5, 3) := by decide +kernel
theorem d_MD_next_13 : decode c_MD_next 13 = .ok (.iconst (-1), 1) := by decide +kernel
theorem d_MD_next_14 : decode c_MD_next 14 = .ok (.ireturn, 1) := by decide +kernel
theorem d_MD_next_15 : decode c_MD_next 15 = .ok (.aload_n 0, 1) := by decide +kernel
theorem d_MD_next_16 : decode c_MD_next 16 = .ok (.getfield 63, 3) := by decide +kernel
theorem d_MD_next_19 : decode c_MD_next 19 = .ok (.iload_n 1, 1) := by decide +kernel
theorem d_MD_next_20 : decode c_MD_next 20 = .ok (.baload, 1) := by decide +kernel
theorem d_MD_next_21 : decode c_MD_next 21 = .ok (.ifCond .ne 6, 3) := by decide +kernel
theorem d_MD_next_24 : decode c_MD_next 24 = .ok (.bipush 42, 2) := by decide +kernel
theorem d_MD_next_26 : decode c_MD_next 26 = .ok (.ireturn, 1) := by decide +kernel
theorem d_MD_next_27 : decode c_MD_next 27 = .ok (.aload_n 0, 1) := by decide +kernel
theorem d_MD_next_28 : decode c_MD_next 28 = .ok (.iload_n 1, 1) := by decide +kernel
theorem d_MD_next_29 : decode c_MD_next 29 = .ok (.invokevirtual 165, 3) := by decide +kernel
theorem d_MD_next_32 : decode c_MD_next 32 = .ok (.ifCond .eq 13, 3) := by decide +kernel
theorem d_MD_next_35 : decode c_MD_next 35 = .ok (.aload_n 0, 1) := by decide +kernel
theorem d_MD_next_36 : decode c_MD_next 36 = .ok (.getfield 39, 3) := by decide +kernel
theorem d_MD_next_39 : decode c_MD_next 39 = .ok (.iload_n 1, 1) := by decide +kernel
theorem d_MD_next_40 : decode c_MD_next 40 = .ok (.iaload, 1) := by decide +kernel
theorem d_MD_next_41 : decode c_MD_next 41 = .ok (.iconst 1, 1) := by decide +kernel
theorem d_MD_next_42 : decode c_MD_next 42 = .ok (.if_icmp .ne 6, 3) := by decide +kernel
theorem d_MD_next_45 : decode c_MD_next 45 = .ok (.bipush 47, 2) := by decide +kernel
theorem d_MD_next_47 : decode c_MD_next 47 = .ok (.ireturn, 1) := by decide +kernel
theorem d_MD_next_48 : decode c_MD_next 48 = .ok (.aload_n 0, 1) := by decide +kernel
theorem d_MD_next_49 : decode c_MD_next 49 = .ok (.iload_n 1, 1) := by decide +kernel
theorem d_MD_next_50 : decode c_MD_next 50 = .ok (.invokevirtual 150, 3) := by decide +kernel
theorem d_MD_next_53 : decode c_MD_next 53 = .ok (.aload_n 0, 1) := by decide +kernel
theorem d_MD_next_54 : decode c_MD_next 54 = .ok (.getfield 45, 3) := by decide +kernel
theorem d_MD_next_57 : decode c_MD_next 57 = .ok (.iload_n 1, 1) := by decide +kernel
theorem d_MD_next_58 : decode c_MD_next 58 = .ok (.iaload, 1) := by decide +kernel
theorem d_MD_next_59 : decode c_MD_next 59 = .ok (.iconst 3, 1) := by decide +kernel
theorem d_MD_next_60 : decode c_MD_next 60 = .ok (.if_icmp .eq 12, 3) := by decide +kernel
theorem d_MD_next_63 : decode c_MD_next 63 = .ok (.aload_n 0, 1) := by decide +kernel
theorem d_MD_next_64 : decode c_MD_next 64 = .ok (.getfield 66, 3) := by decide +kernel
theorem d_MD_next_67 : decode c_MD_next 67 = .ok (.iload_n 1, 1) := by decide +kernel
theorem d_MD_next_68 : decode c_MD_next 68 = .ok (.baload, 1) := by decide +kernel
theorem d_MD_next_69 : decode c_MD_next 69 = .ok (.ifCond .eq 6, 3) := by decide +kernel
theorem d_MD_next_72 : decode c_MD_next 72 = .ok (.bipush 46, 2) := by decide +kernel
theorem d_MD_next_74 : decode c_MD_next 74 = .ok (.ireturn, 1) := by decide +kernel
theorem d_MD_next_75 : decode c_MD_next 75 = .ok (.aload_n 0, 1) := by decide +kernel
theorem d_MD_next_76 : decode c_MD_next 76 = .ok (.getfield 42, 3) := by decide +kernel
theorem d_MD_next_79 : decode c_MD_next 79 = .ok (.iload_n 1, 1) := by decide +kernel
theorem d_MD_next_80 : decode c_MD_next 80 = .ok (.iaload, 1) := by decide +kernel
theorem d_MD_next_81 : decode c_MD_next 81 = .ok (.istore_n 3, 1) := by decide +kernel
theorem d_MD_next_82 : decode c_MD_next 82 = .ok (.aload_n 0, 1) := by decide +kernel
theorem d_MD_next_83 : decode c_MD_next 83 = .ok (.getfield 54, 3) := by decide +kernel
theorem d_MD_next_86 : decode c_MD_next 86 = .ok (.iload_n 1, 1) := by decide +kernel
theorem d_MD_next_87 : decode c_MD_next 87 = .ok (.laload, 1) := by decide +kernel
theorem d_MD_next_88 : decode c_MD_next 88 = .ok (.lstore 4, 2) := by decide +kernel
theorem d_MD_next_90 : decode c_MD_next 90 = .ok (.aload_n 0, 1) := by decide +kernel
theorem d_MD_next_91 : decode c_MD_next 91 = .ok (.getfield 48, 3) := by decide +kernel
theorem d_MD_next_94 : decode c_MD_next 94 = .ok (.iload_n 1, 1) := by decide +kernel
theorem d_MD_next_95 : decode c_MD_next 95 = .ok (.iaload, 1) := by decide +kernel
theorem d_MD_next_96 : decode c_MD_next 96 = .ok (.istore 6, 2) := by decide +kernel
theorem d_MD_next_98 : decode c_MD_next 98 = .ok (.iconst (-1), 1) := by decide +kernel
theorem d_MD_next_99 : decode c_MD_next 99 = .ok (.istore 7, 2) := by decide +kernel
theorem d_MD_next_101 : decode c_MD_next 101 = .ok (.aload_n 0, 1) := by decide +kernel
theorem d_MD_next_102 : decode c_MD_next 102 = .ok (.getfield 45, 3) := by decide +kernel
theorem d_MD_next_105 : decode c_MD_next 105 = .ok (.iload_n 1, 1) := by decide +kernel
theorem d_MD_next_106 : decode c_MD_next 106 = .ok (.iaload, 1) := by decide +kernel
theorem d_MD_next_107 : decode c_MD_next 107 = .ok (.ifCond .ne 24, 3) := by decide +kernel
theorem d_MD_next_110 : decode c_MD_next 110 = .ok (.iload_n 2, 1) := by decide +kernel
theorem d_MD_next_111 : decode c_MD_next 111 = .ok (.ifCond .eq 7, 3) := by decide +kernel
theorem d_MD_next_114 : decode c_MD_next 114 = .ok (.iconst (-1), 1) := by decide +kernel
theorem d_MD_next_115 : decode c_MD_next 115 = .ok (.goto 11, 3) := by decide +kernel
theorem d_MD_next_118 : decode c_MD_next 118 = .ok (.aload_n 0, 1) := by decide +kernel
theorem d_MD_next_119 : decode c_MD_next 119 = .ok (.iload_n 3, 1) := by decide +kernel
theorem d_MD_next_120 : decode c_MD_next 120 = .ok (.lconst 0, 1) := by decide +kernel
theorem d_MD_next_121 : decode c_MD_next 121 = .ok (.iconst 0, 1) := by decide +kernel
theorem d_MD_next_122 : decode c_MD_next 122 = .ok (.iconst 1, 1) := by decide +kernel
theorem d_MD_next_123 : decode c_MD_next 123 = .ok (.invokevirtual 133, 3) := by decide +kernel
theorem d_MD_next_126 : decode c_MD_next 126 = .ok (.istore 7, 2) := by decide +kernel
theorem d_MD_next_128 : decode c_MD_next 128 = .ok (.goto 60, 3) := by decide +kernel
theorem d_MD_next_131 : decode c_MD_next 131 = .ok (.iload_n 2, 1) := by decide +kernel
theorem d_MD_next_132 : decode c_MD_next 132 = .ok (.ifCond .eq 30, 3) := by decide +kernel
theorem d_MD_next_135 : decode c_MD_next 135 = .ok (.aload_n 0, 1) := by decide +kernel
theorem d_MD_next_136 : decode c_MD_next 136 = .ok (.iload_n 3, 1) := by decide +kernel
theorem d_MD_next_137 : decode c_MD_next 137 = .ok (.lload 4, 2) := by decide +kernel
theorem d_MD_next_139 : decode c_MD_next 139 = .ok (.iload 6, 2) := by decide +kernel
theorem d_MD_next_141 : decode c_MD_next 141 = .ok (.aload_n 0, 1) := by decide +kernel
theorem d_MD_next_142 : decode c_MD_next 142 = .ok (.getfield 45, 3) := by decide +kernel
theorem d_MD_next_145 : decode c_MD_next 145 = .ok (.iload_n 1, 1) := by decide +kernel
theorem d_MD_next_146 : decode c_MD_next 146 = .ok (.iaload, 1) := by decide +kernel
theorem d_MD_next_147 : decode c_MD_next 147 = .ok (.iconst 2, 1) := by decide +kernel
theorem d_MD_next_148 : decode c_MD_next 148 = .ok (.if_icmp .ne 7, 3) := by decide +kernel
theorem d_MD_next_151 : decode c_MD_next 151 = .ok (.iconst 1, 1) := by decide +kernel
theorem d_MD_next_152 : decode c_MD_next 152 = .ok (.goto 4, 3) := by decide +kernel
theorem d_MD_next_155 : decode c_MD_next 155 = .ok (.iconst 0, 1) := by decide +kernel
theorem d_MD_next_156 : decode c_MD_next 156 = .ok (.invokevirtual 129, 3) := by decide +kernel
theorem d_MD_next_159 : decode c_MD_next 159 = .ok (.goto 27, 3) := by decide +kernel
theorem d_MD_next_162 : decode c_MD_next 162 = .ok (.aload_n 0, 1) := by decide +kernel
theorem d_MD_next_163 : decode c_MD_next 163 = .ok (.iload_n 3, 1) := by decide +kernel
theorem d_MD_next_164 : decode c_MD_next 164 = .ok (.lload 4, 2) := by decide +kernel
theorem d_MD_next_166 : decode c_MD_next 166 = .ok (.iload 6, 2) := by decide +kernel
theorem d_MD_next_168 : decode c_MD_next 168 = .ok (.aload_n 0, 1) := by decide +kernel
theorem d_MD_next_169 : decode c_MD_next 169 = .ok (.getfield 45, 3) := by decide +kernel
theorem d_MD_next_172 : decode c_MD_next 172 = .ok (.iload_n 1, 1) := by decide +kernel
theorem d_MD_next_173 : decode c_MD_next 173 = .ok (.iaload, 1) := by decide +kernel
theorem d_MD_next_174 : decode c_MD_next 174 = .ok (.iconst 2, 1) := by decide +kernel
theorem d_MD_next_175 : decode c_MD_next 175 = .ok (.if_icmp .ne 7, 3) := by decide +kernel
theorem d_MD_next_178 : decode c_MD_next 178 = .ok (.iconst 1, 1) := by decide +kernel
theorem d_MD_next_179 : decode c_MD_next 179 = .ok (.goto 4, 3) := by decide +kernel
theorem d_MD_next_182 : decode c_MD_next 182 = .ok (.iconst 0, 1) := by decide +kernel
theorem d_MD_next_183 : decode c_MD_next 183 = .ok (.invokevirtual 133, 3) := by decide +kernel
theorem d_MD_next_186 : decode c_MD_next 186 = .ok (.istore 7, 2) := by decide +kernel
theorem d_MD_next_188 : decode c_MD_next 188 = .ok (.aload_n 0, 1) := by decide +kernel
theorem d_MD_next_189 : decode c_MD_next 189 = .ok (.getfield 66, 3) := by decide +kernel
theorem d_MD_next_192 : decode c_MD_next 192 = .ok (.iload_n 1, 1) := by decide +kernel
theorem d_MD_next_193 : decode c_MD_next 193 = .ok (.iload 7, 2) := by decide +kernel
theorem d_MD_next_195 : decode c_MD_next 195 = .ok (.iconst (-1), 1) := by decide +kernel
theorem d_MD_next_196 : decode c_MD_next 196 = .ok (.if_icmp .ne 7, 3) := by decide +kernel
theorem d_MD_next_199 : decode c_MD_next 199 = .ok (.iconst 1, 1) := by decide +kernel
theorem d_MD_next_200 : decode c_MD_next 200 = .ok (.goto 4, 3) := by decide +kernel
theorem d_MD_next_203 : decode c_MD_next 203 = .ok (.iconst 0, 1) := by decide +kernel
theorem d_MD_next_204 : decode c_MD_next 204 = .ok (.bastore, 1) := by decide +kernel
theorem d_MD_next_205 : decode c_MD_next 205 = .ok (.iload 7, 2) := by decide +kernel
theorem d_MD_next_207 : decode c_MD_next 207 = .ok (.iconst (-1), 1) := by decide +kernel
theorem d_MD_next_208 : decode c_MD_next 208 = .ok (.if_icmp .ne 8, 3) := by decide +kernel
theorem d_MD_next_211 : decode c_MD_next 211 = .ok (.bipush 10, 2) := by decide +kernel
theorem d_MD_next_213 : decode c_MD_next 213 = .ok (.goto 12, 3) := by decide +kernel
theorem d_MD_next_216 : decode c_MD_next 216 = .ok (.aload_n 0, 1) := by decide +kernel
theorem d_MD_next_217 : decode c_MD_next 217 = .ok (.iload_n 1, 1) := by decide +kernel
theorem d_MD_next_218 : decode c_MD_next 218 = .ok (.iload_n 3, 1) := by decide +kernel
theorem d_MD_next_219 : decode c_MD_next 219 = .ok (.iload 7, 2) := by decide +kernel
theorem d_MD_next_221 : decode c_MD_next 221 = .ok (.iload_n 2, 1) := by decide +kernel
theorem d_MD_next_222 : decode c_MD_next 222 = .ok (.invokevirtual 168, 3) := by decide +kernel
theorem d_MD_next_225 : decode c_MD_next 225 = .ok (.ireturn, 1) := by decide +kernel
theorem d_MD_rewrite_0 : decode c_MD_rewrite 0 = .ok (.aload_n 0, 1) := by decide +kernel
theorem d_MD_rewrite_1 : decode c_MD_rewrite 1 = .ok (.iconst 0, 1) := by decide +kernel
theorem d_MD_rewrite_2 : decode c_MD_rewrite 2 = .ok (.putfield 72, 3) := by decide +kernel
theorem d_MD_rewrite_5 : decode c_MD_rewrite 5 = .ok (.aload_n 0, 1) := by decide +kernel
theorem d_MD_rewrite_6 : decode c_MD_rewrite 6 = .ok (.iload_n 1, 1) := by decide +kernel
theorem d_MD_rewrite_7 : decode c_MD_rewrite 7 = .ok (.invokevirtual 92, 3) := by decide +kernel
theorem d_MD_rewrite_10 : decode c_MD_rewrite 10 = .ok (.ifCond .ne 5, 3) := by decide +kernel
theorem d_MD_rewrite_13 : decode c_MD_rewrite 13 = .ok (.iconst (-1), 1) := by decide +kernel
theorem d_MD_rewrite_14 : decode c_MD_rewrite 14 = .ok (.ireturn, 1) := by decide +kernel
theorem d_MD_rewrite_15 : decode c_MD_rewrite 15 = .ok (.aload_n 0, 1) := by decide +kernel
theorem d_MD_rewrite_16 : decode c_MD_rewrite 16 = .ok (.getfield 63, 3) := by decide +kernel
theorem d_MD_rewrite_19 : decode c_MD_rewrite 19 = .ok (.iload_n 1, 1) := by decide +kernel
theorem d_MD_rewrite_20 : decode c_MD_rewrite 20 = .ok (.baload, 1) := by decide +kernel
theorem d_MD_rewrite_21 : decode c_MD_rewrite 21 = .ok (.ifCond .ne 6, 3) := by decide +kernel
theorem d_MD_rewrite_24 : decode c_MD_rewrite 24 = .ok (.bipush 42, 2) := by decide +kernel
theorem d_MD_rewrite_26 : decode c_MD_rewrite 26 = .ok (.ireturn, 1) := by decide +kernel
theorem d_MD_rewrite_27 : decode c_MD_rewrite 27 = .ok (.aload_n 0, 1) := by decide +kernel
theorem d_MD_rewrite_28 : decode c_MD_rewrite 28 = .ok (.getfield 36, 3) := by decide +kernel
theorem d_MD_rewrite_31 : decode c_MD_rewrite 31 = .ok (.iload_n 1, 1) := by decide +kernel
theorem d_MD_rewrite_32 : decode c_MD_rewrite 32 = .ok (.iaload, 1) := by decide +kernel
theorem d_MD_rewrite_33 : decode c_MD_rewrite 33 = .ok (.iconst 2, 1) := by decide +kernel
theorem d_MD_rewrite_34 : decode c_MD_rewrite 34 = .ok (.if_icmp .eq 6, 3) := by decide +kernel
theorem d_MD_rewrite_37 : decode c_MD_rewrite 37 = .ok (.bipush 49, 2) := by decide +kernel
theorem d_MD_rewrite_39 : decode c_MD_rewrite 39 = .ok (.ireturn, 1) := by decide +kernel
theorem d_MD_rewrite_40 : decode c_MD_rewrite 40 = .ok (.aload_n 0, 1) := by decide +kernel
theorem d_MD_rewrite_41 : decode c_MD_rewrite 41 = .ok (.iload_n 1, 1) := by decide +kernel
theorem d_MD_rewrite_42 : decode c_MD_rewrite 42 = .ok (.invokevirtual 150, 3) := by decide +kernel
theorem d_MD_rewrite_45 : decode c_MD_rewrite 45 = .ok (.aload_n 0, 1) := by decide +kernel
theorem d_MD_rewrite_46 : decode c_MD_rewrite 46 = .ok (.getfield 39, 3) := by decide +kernel
theorem d_MD_rewrite_49 : decode c_MD_rewrite 49 = .ok (.iload_n 1, 1) := by decide +kernel
theorem d_MD_rewrite_50 : decode c_MD_rewrite 50 = .ok (.iaload, 1) := by decide +kernel
theorem d_MD_rewrite_51 : decode c_MD_rewrite 51 = .ok (.ifCond .ne 10, 3) := by decide +kernel
theorem d_MD_rewrite_54 : decode c_MD_rewrite 54 = .ok (.aload_n 0, 1) := by decide +kernel
theorem d_MD_rewrite_55 : decode c_MD_rewrite 55 = .ok (.invokevirtual 176, 3) := by decide +kernel
theorem d_MD_rewrite_58 : decode c_MD_rewrite 58 = .ok (.goto 13, 3) := by decide +kernel
theorem d_MD_rewrite_61 : decode c_MD_rewrite 61 = .ok (.aload_n 0, 1) := by decide +kernel
theorem d_MD_rewrite_62 : decode c_MD_rewrite 62 = .ok (.aload_n 0, 1) := by decide +kernel
theorem d_MD_rewrite_63 : decode c_MD_rewrite 63 = .ok (.iconst 0, 1) := by decide +kernel
theorem d_MD_rewrite_64 : decode c_MD_rewrite 64 = .ok (.lload_n 2, 1) := by decide +kernel
theorem d_MD_rewrite_65 : decode c_MD_rewrite 65 = .ok (.invokevirtual 98, 3) := by decide +kernel
theorem d_MD_rewrite_68 : decode c_MD_rewrite 68 = .ok (.invokevirtual 180, 3) := by decide +kernel
theorem d_MD_rewrite_71 : decode c_MD_rewrite 71 = .ok (.istore 4, 2) := by decide +kernel
theorem d_MD_rewrite_73 : decode c_MD_rewrite 73 = .ok (.iload 4, 2) := by decide +kernel
theorem d_MD_rewrite_75 : decode c_MD_rewrite 75 = .ok (.iconst (-1), 1) := by decide +kernel
theorem d_MD_rewrite_76 : decode c_MD_rewrite 76 = .ok (.if_icmp .ne 20, 3) := by decide +kernel
theorem d_MD_rewrite_79 : decode c_MD_rewrite 79 = .ok (.aload_n 0, 1) := by decide +kernel
theorem d_MD_rewrite_80 : decode c_MD_rewrite 80 = .ok (.getfield 39, 3) := by decide +kernel
theorem d_MD_rewrite_83 : decode c_MD_rewrite 83 = .ok (.iload_n 1, 1) := by decide +kernel
theorem d_MD_rewrite_84 : decode c_MD_rewrite 84 = .ok (.iaload, 1) := by decide +kernel
theorem d_MD_rewrite_85 : decode c_MD_rewrite 85 = .ok (.ifCond .ne 8, 3) := by decide +kernel
theorem d_MD_rewrite_88 : decode c_MD_rewrite 88 = .ok (.bipush 43, 2) := by decide +kernel
theorem d_MD_rewrite_90 : decode c_MD_rewrite 90 = .ok (.goto 5, 3) := by decide +kernel
theorem d_MD_rewrite_93 : decode c_MD_rewrite 93 = .ok (.bipush 23, 2) := by decide +kernel
theorem d_MD_rewrite_95 : decode c_MD_rewrite 95 = .ok (.ireturn, 1) := by decide +kernel
theorem d_MD_rewrite_96 : decode c_MD_rewrite 96 = .ok (.aload_n 0, 1) := by decide +kernel
theorem d_MD_rewrite_97 : decode c_MD_rewrite 97 = .ok (.iconst 0, 1) := by decide +kernel
theorem d_MD_rewrite_98 : decode c_MD_rewrite 98 = .ok (.aload_n 0, 1) := by decide +kernel
theorem d_MD_rewrite_99 : decode c_MD_rewrite 99 = .ok (.getfield 27, 3) := by decide +kernel
theorem d_MD_rewrite_102 : decode c_MD_rewrite 102 = .ok (.iload 4, 2) := by decide +kernel
theorem d_MD_rewrite_104 : decode c_MD_rewrite 104 = .ok (.laload, 1) := by decide +kernel
theorem d_MD_rewrite_105 : decode c_MD_rewrite 105 = .ok (.invokevirtual 98, 3) := by decide +kernel
theorem d_MD_rewrite_108 : decode c_MD_rewrite 108 = .ok (.aload_n 0, 1) := by decide +kernel
theorem d_MD_rewrite_109 : decode c_MD_rewrite 109 = .ok (.iconst 0, 1) := by decide +kernel
theorem d_MD_rewrite_110 : decode c_MD_rewrite 110 = .ok (.lload_n 2, 1) := by decide +kernel
theorem d_MD_rewrite_111 : decode c_MD_rewrite 111 = .ok (.invokevirtual 98, 3) := by decide +kernel
theorem d_MD_rewrite_114 : decode c_MD_rewrite 114 = .ok (.lcmp, 1) := by decide +kernel
theorem d_MD_rewrite_115 : decode c_MD_rewrite 115 = .ok (.ifCond .eq 6, 3) := by decide +kernel
theorem d_MD_rewrite_118 : decode c_MD_rewrite 118 = .ok (.bipush 21, 2) := by decide +kernel
theorem d_MD_rewrite_120 : decode c_MD_rewrite 120 = .ok (.ireturn, 1) := by decide +kernel
theorem d_MD_rewrite_121 : decode c_MD_rewrite 121 = .ok (.aload_n 0, 1) := by decide +kernel
theorem d_MD_rewrite_122 : decode c_MD_rewrite 122 = .ok (.lload_n 2, 1) := by decide +kernel
theorem d_MD_rewrite_123 : decode c_MD_rewrite 123 = .ok (.iload 4, 2) := by decide +kernel
theorem d_MD_rewrite_125 : decode c_MD_rewrite 125 = .ok (.invokevirtual 154, 3) := by decide +kernel
theorem d_MD_rewrite_128 : decode c_MD_rewrite 128 = .ok (.istore 5, 2) := by decide +kernel
theorem d_MD_rewrite_130 : decode c_MD_rewrite 130 = .ok (.iload 5, 2) := by decide +kernel
theorem d_MD_rewrite_132 : decode c_MD_rewrite 132 = .ok (.bipush 22, 2) := by decide +kernel
theorem d_MD_rewrite_134 : decode c_MD_rewrite 134 = .ok (.if_icmp .ne 6, 3) := by decide +kernel
theorem d_MD_rewrite_137 : decode c_MD_rewrite 137 = .ok (.bipush 22, 2) := by decide +kernel
theorem d_MD_rewrite_139 : decode c_MD_rewrite 139 = .ok (.ireturn, 1) := by decide +kernel
theorem d_MD_rewrite_140 : decode c_MD_rewrite 140 = .ok (.aload_n 0, 1) := by decide +kernel
theorem d_MD_rewrite_141 : decode c_MD_rewrite 141 = .ok (.iload 4, 2) := by decide +kernel
theorem d_MD_rewrite_143 : decode c_MD_rewrite 143 = .ok (.lload_n 2, 1) := by decide +kernel
theorem d_MD_rewrite_144 : decode c_MD_rewrite 144 = .ok (.iconst 0, 1) := by decide +kernel
theorem d_MD_rewrite_145 : decode c_MD_rewrite 145 = .ok (.invokevirtual 158, 3) := by decide +kernel
theorem d_MD_rewrite_148 : decode c_MD_rewrite 148 = .ok (.iload 5, 2) := by decide +kernel
theorem d_MD_rewrite_150 : decode c_MD_rewrite 150 = .ok (.ireturn, 1) := by decide +kernel
theorem d_MD_had_0 : decode c_MD_had 0 = .ok (.iconst 0, 1) := by decide +kernel
theorem d_MD_had_1 : decode c_MD_had 1 = .ok (.istore_n 1, 1) := by decide +kernel
theorem d_MD_had_2 : decode c_MD_had 2 = .ok (.iload_n 1, 1) := by decide +kernel
theorem d_MD_had_3 : decode c_MD_had 3 = .ok (.sipush 300, 3) := by decide +kernel
theorem d_MD_had_6 : decode c_MD_had 6 = .ok (.if_icmp .ge 33, 3) := by decide +kernel
theorem d_MD_had_9 : decode c_MD_had 9 = .ok (.aload_n 0, 1) := by decide +kernel
theorem d_MD_had_10 : decode c_MD_had 10 = .ok (.getfield 30, 3) := by decide +kernel
theorem d_MD_had_13 : decode c_MD_had 13 = .ok (.iload_n 1, 1) := by decide +kernel
theorem d_MD_had_14 : decode c_MD_had 14 = .ok (.iaload, 1) := by decide +kernel
theorem d_MD_had_15 : decode c_MD_had 15 = .ok (.ifCond .le 18, 3) := by decide +kernel
theorem d_MD_had_18 : decode c_MD_had 18 = .ok (.aload_n 0, 1) := by decide +kernel
theorem d_MD_had_19 : decode c_MD_had 19 = .ok (.getfield 30, 3) := by decide +kernel
theorem d_MD_had_22 : decode c_MD_had 22 = .ok (.iload_n 1, 1) := by decide +kernel
theorem d_MD_had_23 : decode c_MD_had 23 = .ok (.iaload, 1) := by decide +kernel
theorem d_MD_had_24 : decode c_MD_had 24 = .ok (.aload_n 0, 1) := by decide +kernel
theorem d_MD_had_25 : decode c_MD_had 25 = .ok (.getfield 136, 3) := by decide +kernel
theorem d_MD_had_28 : decode c_MD_had 28 = .ok (.if_icmp .ne 5, 3) := by decide +kernel
theorem d_MD_had_31 : decode c_MD_had 31 = .ok (.iload_n 1, 1) := by decide +kernel
theorem d_MD_had_32 : decode c_MD_had 32 = .ok (.ireturn, 1) := by decide +kernel
theorem d_MD_had_33 : decode c_MD_had 33 = .ok (.iinc 1 1, 3) := by decide +kernel
theorem d_MD_had_36 : decode c_MD_had 36 = .ok (.goto (-34), 3) := by decide +kernel
theorem d_MD_had_39 : decode c_MD_had 39 = .ok (.iconst (-1), 1) := by decide +kernel
theorem d_MD_had_40 : decode c_MD_had 40 = .ok (.ireturn, 1) := by decide +kernel
theorem d_MD_byPrime_0 : decode c_MD_byPrime 0 = .ok (.aload_n 0, 1) := by decide +kernel
theorem d_MD_byPrime_1 : decode c_MD_byPrime 1 = .ok (.iconst 0, 1) := by decide +kernel
theorem d_MD_byPrime_2 : decode c_MD_byPrime 2 = .ok (.lload_n 1, 1) := by decide +kernel
theorem d_MD_byPrime_3 : decode c_MD_byPrime 3 = .ok (.iconst (-1), 1) := by decide +kernel
theorem d_MD_byPrime_4 : decode c_MD_byPrime 4 = .ok (.invokevirtual 125, 3) := by decide +kernel
theorem d_MD_byPrime_7 : decode c_MD_byPrime 7 = .ok (.ireturn, 1) := by decide +kernel
theorem d_MD_remove_0 : decode c_MD_remove 0 = .ok (.aload_n 0, 1) := by decide +kernel
theorem d_MD_remove_1 : decode c_MD_remove 1 = .ok (.iconst 0, 1) := by decide +kernel
theorem d_MD_remove_2 : decode c_MD_remove 2 = .ok (.putfield 72, 3) := by decide +kernel
theorem d_MD_remove_5 : decode c_MD_remove 5 = .ok (.aload_n 0, 1) := by decide +kernel
theorem d_MD_remove_6 : decode c_MD_remove 6 = .ok (.iload_n 1, 1) := by decide +kernel
theorem d_MD_remove_7 : decode c_MD_remove 7 = .ok (.invokevirtual 92, 3) := by decide +kernel
theorem d_MD_remove_10 : decode c_MD_remove 10 = .ok (.ifCond .ne 5, 3) := by decide +kernel
theorem d_MD_remove_13 : decode c_MD_remove 13 = .ok (.iconst (-1), 1) := by decide +kernel
theorem d_MD_remove_14 : decode c_MD_remove 14 = .ok (.ireturn, 1) := by decide +kernel
theorem d_MD_remove_15 : decode c_MD_remove 15 = .ok (.aload_n 0, 1) := by decide +kernel
theorem d_MD_remove_16 : decode c_MD_remove 16 = .ok (.getfield 63, 3) := by decide +kernel
theorem d_MD_remove_19 : decode c_MD_remove 19 = .ok (.iload_n 1, 1) := by decide +kernel
theorem d_MD_remove_20 : decode c_MD_remove 20 = .ok (.baload, 1) := by decide +kernel
theorem d_MD_remove_21 : decode c_MD_remove 21 = .ok (.ifCond .ne 6, 3) := by decide +kernel
theorem d_MD_remove_24 : decode c_MD_remove 24 = .ok (.bipush 42, 2) := by decide +kernel
theorem d_MD_remove_26 : decode c_MD_remove 26 = .ok (.ireturn, 1) := by decide +kernel
theorem d_MD_remove_27 : decode c_MD_remove 27 = .ok (.aload_n 0, 1) := by decide +kernel
theorem d_MD_remove_28 : decode c_MD_remove 28 = .ok (.getfield 36, 3) := by decide +kernel
theorem d_MD_remove_31 : decode c_MD_remove 31 = .ok (.iload_n 1, 1) := by decide +kernel
theorem d_MD_remove_32 : decode c_MD_remove 32 = .ok (.iaload, 1) := by decide +kernel
theorem d_MD_remove_33 : decode c_MD_remove 33 = .ok (.iconst 2, 1) := by decide +kernel
theorem d_MD_remove_34 : decode c_MD_remove 34 = .ok (.if_icmp .eq 6, 3) := by decide +kernel
theorem d_MD_remove_37 : decode c_MD_remove 37 = .ok (.bipush 49, 2) := by decide +kernel
theorem d_MD_remove_39 : decode c_MD_remove 39 = .ok (.ireturn, 1) := by decide +kernel
theorem d_MD_remove_40 : decode c_MD_remove 40 = .ok (.aload_n 0, 1) := by decide +kernel
theorem d_MD_remove_41 : decode c_MD_remove 41 = .ok (.iload_n 1, 1) := by decide +kernel
theorem d_MD_remove_42 : decode c_MD_remove 42 = .ok (.invokevirtual 150, 3) := by decide +kernel
theorem d_MD_remove_45 : decode c_MD_remove 45 = .ok (.aload_n 0, 1) := by decide +kernel
theorem d_MD_remove_46 : decode c_MD_remove 46 = .ok (.getfield 39, 3) := by decide +kernel
theorem d_MD_remove_49 : decode c_MD_remove 49 = .ok (.iload_n 1, 1) := by decide +kernel
theorem d_MD_remove_50 : decode c_MD_remove 50 = .ok (.iaload, 1) := by decide +kernel
theorem d_MD_remove_51 : decode c_MD_remove 51 = .ok (.ifCond .ne 10, 3) := by decide +kernel
theorem d_MD_remove_54 : decode c_MD_remove 54 = .ok (.aload_n 0, 1) := by decide +kernel
theorem d_MD_remove_55 : decode c_MD_remove 55 = .ok (.invokevirtual 176, 3) := by decide +kernel
theorem d_MD_remove_58 : decode c_MD_remove 58 = .ok (.goto 8, 3) := by decide +kernel
theorem d_MD_remove_61 : decode c_MD_remove 61 = .ok (.aload_n 0, 1) := by decide +kernel
theorem d_MD_remove_62 : decode c_MD_remove 62 = .ok (.lload_n 2, 1) := by decide +kernel
theorem d_MD_remove_63 : decode c_MD_remove 63 = .ok (.invokevirtual 180, 3) := by decide +kernel
theorem d_MD_remove_66 : decode c_MD_remove 66 = .ok (.istore 4, 2) := by decide +kernel
theorem d_MD_remove_68 : decode c_MD_remove 68 = .ok (.iload 4, 2) := by decide +kernel
theorem d_MD_remove_70 : decode c_MD_remove 70 = .ok (.iconst (-1), 1) := by decide +kernel
theorem d_MD_remove_71 : decode c_MD_remove 71 = .ok (.if_icmp .ne 20, 3) := by decide +kernel
theorem d_MD_remove_74 : decode c_MD_remove 74 = .ok (.aload_n 0, 1) := by decide +kernel
theorem d_MD_remove_75 : decode c_MD_remove 75 = .ok (.getfield 39, 3) := by decide +kernel
theorem d_MD_remove_78 : decode c_MD_remove 78 = .ok (.iload_n 1, 1) := by decide +kernel
theorem d_MD_remove_79 : decode c_MD_remove 79 = .ok (.iaload, 1) := by decide +kernel
theorem d_MD_remove_80 : decode c_MD_remove 80 = .ok (.ifCond .ne 8, 3) := by decide +kernel
theorem d_MD_remove_83 : decode c_MD_remove 83 = .ok (.bipush 43, 2) := by decide +kernel
theorem d_MD_remove_85 : decode c_MD_remove 85 = .ok (.goto 5, 3) := by decide +kernel
theorem d_MD_remove_88 : decode c_MD_remove 88 = .ok (.bipush 23, 2) := by decide +kernel
theorem d_MD_remove_90 : decode c_MD_remove 90 = .ok (.ireturn, 1) := by decide +kernel
theorem d_MD_remove_91 : decode c_MD_remove 91 = .ok (.aload_n 0, 1) := by decide +kernel
theorem d_MD_remove_92 : decode c_MD_remove 92 = .ok (.getfield 30, 3) := by decide +kernel
theorem d_MD_remove_95 : decode c_MD_remove 95 = .ok (.iload 4, 2) := by decide +kernel
theorem d_MD_remove_97 : decode c_MD_remove 97 = .ok (.iconst 0, 1) := by decide +kernel
theorem d_MD_remove_98 : decode c_MD_remove 98 = .ok (.iastore, 1) := by decide +kernel
theorem d_MD_remove_99 : decode c_MD_remove 99 = .ok (.aload_n 0, 1) := by decide +kernel
theorem d_MD_remove_100 : decode c_MD_remove 100 = .ok (.dup, 1) := by decide +kernel
theorem d_MD_remove_101 : decode c_MD_remove 101 = .ok (.getfield 95, 3) := by decide +kernel
theorem d_MD_remove_104 : decode c_MD_remove 104 = .ok (.iconst 1, 1) := by decide +kernel
theorem d_MD_remove_105 : decode c_MD_remove 105 = .ok (.isub, 1) := by decide +kernel
theorem d_MD_remove_106 : decode c_MD_remove 106 = .ok (.putfield 95, 3) := by decide +kernel
theorem d_MD_remove_109 : decode c_MD_remove 109 = .ok (.iconst 0, 1) := by decide +kernel
theorem d_MD_remove_110 : decode c_MD_remove 110 = .ok (.ireturn, 1) := by decide +kernel
theorem d_MD_scan_0 : decode c_MD_scan 0 = .ok (.aload_n 0, 1) := by decide +kernel
theorem d_MD_scan_1 : decode c_MD_scan 1 = .ok (.iconst 0, 1) := by decide +kernel
theorem d_MD_scan_2 : decode c_MD_scan 2 = .ok (.putfield 72, 3) := by decide +kernel
theorem d_MD_scan_5 : decode c_MD_scan 5 = .ok (.aload_n 0, 1) := by decide +kernel
theorem d_MD_scan_6 : decode c_MD_scan 6 = .ok (.iload_n 1, 1) := by decide +kernel
theorem d_MD_scan_7 : decode c_MD_scan 7 = .ok (.invokevirtual 88, 3) := by decide +kernel
theorem d_MD_scan_10 : decode c_MD_scan 10 = .ok (.ifCond .eq 7, 3) := by decide +kernel
theorem d_MD_scan_13 : decode c_MD_scan 13 = .ok (.iload_n 2, 1) := by decide +kernel
theorem d_MD_scan_14 : decode c_MD_scan 14 = .ok (.ifCond .ge 5, 3) := by decide +kernel
theorem d_MD_scan_17 : decode c_MD_scan 17 = .ok (.lconst 0, 1) := by decide +kernel
theorem d_MD_scan_18 : decode c_MD_scan 18 = .ok (.lreturn, 1) := by decide +kernel
theorem d_MD_scan_19 : decode c_MD_scan 19 = .ok (.aload_n 0, 1) := by decide +kernel
theorem d_MD_scan_20 : decode c_MD_scan 20 = .ok (.iload_n 1, 1) := by decide +kernel
theorem d_MD_scan_21 : decode c_MD_scan 21 = .ok (.lconst 0, 1) := by decide +kernel
theorem d_MD_scan_22 : decode c_MD_scan 22 = .ok (.iconst 0, 1) := by decide +kernel
theorem d_MD_scan_23 : decode c_MD_scan 23 = .ok (.iconst 1, 1) := by decide +kernel
theorem d_MD_scan_24 : decode c_MD_scan 24 = .ok (.invokevirtual 133, 3) := by decide +kernel
theorem d_MD_scan_27 : decode c_MD_scan 27 = .ok (.istore_n 3, 1) := by decide +kernel
theorem d_MD_scan_28 : decode c_MD_scan 28 = .ok (.iconst 0, 1) := by decide +kernel
theorem d_MD_scan_29 : decode c_MD_scan 29 = .ok (.istore 4, 2) := by decide +kernel
theorem d_MD_scan_31 : decode c_MD_scan 31 = .ok (.iload 4, 2) := by decide +kernel
theorem d_MD_scan_33 : decode c_MD_scan 33 = .ok (.iload_n 2, 1) := by decide +kernel
theorem d_MD_scan_34 : decode c_MD_scan 34 = .ok (.if_icmp .ge 38, 3) := by decide +kernel
theorem d_MD_scan_37 : decode c_MD_scan 37 = .ok (.iload_n 3, 1) := by decide +kernel
theorem d_MD_scan_38 : decode c_MD_scan 38 = .ok (.iconst (-1), 1) := by decide +kernel
theorem d_MD_scan_39 : decode c_MD_scan 39 = .ok (.if_icmp .eq 33, 3) := by decide +kernel
theorem d_MD_scan_42 : decode c_MD_scan 42 = .ok (.aload_n 0, 1) := by decide +kernel
theorem d_MD_scan_43 : decode c_MD_scan 43 = .ok (.iload_n 1, 1) := by decide +kernel
theorem d_MD_scan_44 : decode c_MD_scan 44 = .ok (.aload_n 0, 1) := by decide +kernel
theorem d_MD_scan_45 : decode c_MD_scan 45 = .ok (.iload_n 1, 1) := by decide +kernel
theorem d_MD_scan_46 : decode c_MD_scan 46 = .ok (.aload_n 0, 1) := by decide +kernel
theorem d_MD_scan_47 : decode c_MD_scan 47 = .ok (.getfield 27, 3) := by decide +kernel
theorem d_MD_scan_50 : decode c_MD_scan 50 = .ok (.iload_n 3, 1) := by decide +kernel
theorem d_MD_scan_51 : decode c_MD_scan 51 = .ok (.laload, 1) := by decide +kernel
theorem d_MD_scan_52 : decode c_MD_scan 52 = .ok (.invokevirtual 98, 3) := by decide +kernel
theorem d_MD_scan_55 : decode c_MD_scan 55 = .ok (.aload_n 0, 1) := by decide +kernel
theorem d_MD_scan_56 : decode c_MD_scan 56 = .ok (.iload_n 1, 1) := by decide +kernel
theorem d_MD_scan_57 : decode c_MD_scan 57 = .ok (.iload_n 3, 1) := by decide +kernel
theorem d_MD_scan_58 : decode c_MD_scan 58 = .ok (.invokevirtual 110, 3) := by decide +kernel
theorem d_MD_scan_61 : decode c_MD_scan 61 = .ok (.iconst 0, 1) := by decide +kernel
theorem d_MD_scan_62 : decode c_MD_scan 62 = .ok (.invokevirtual 133, 3) := by decide +kernel
theorem d_MD_scan_65 : decode c_MD_scan 65 = .ok (.istore_n 3, 1) := by decide +kernel
theorem d_MD_scan_66 : decode c_MD_scan 66 = .ok (.iinc 4 1, 3) := by decide +kernel
theorem d_MD_scan_69 : decode c_MD_scan 69 = .ok (.goto (-38), 3) := by decide +kernel
theorem d_MD_scan_72 : decode c_MD_scan 72 = .ok (.iload_n 3, 1) := by decide +kernel
theorem d_MD_scan_73 : decode c_MD_scan 73 = .ok (.iconst (-1), 1) := by decide +kernel
theorem d_MD_scan_74 : decode c_MD_scan 74 = .ok (.if_icmp .ne 7, 3) := by decide +kernel
theorem d_MD_scan_77 : decode c_MD_scan 77 = .ok (.lconst 0, 1) := by decide +kernel
theorem d_MD_scan_78 : decode c_MD_scan 78 = .ok (.goto 9, 3) := by decide +kernel
theorem d_MD_scan_81 : decode c_MD_scan 81 = .ok (.aload_n 0, 1) := by decide +kernel
theorem d_MD_scan_82 : decode c_MD_scan 82 = .ok (.getfield 27, 3) := by decide +kernel
theorem d_MD_scan_85 : decode c_MD_scan 85 = .ok (.iload_n 3, 1) := by decide +kernel
theorem d_MD_scan_86 : decode c_MD_scan 86 = .ok (.laload, 1) := by decide +kernel
theorem d_MD_scan_87 : decode c_MD_scan 87 = .ok (.lreturn, 1) := by decide +kernel
theorem d_MD_reference_0 : decode c_MD_reference 0 = .ok (.aload_n 0, 1) := by decide +kernel
theorem d_MD_reference_1 : decode c_MD_reference 1 = .ok (.iconst 0, 1) := by decide +kernel
theorem d_MD_reference_2 : decode c_MD_reference 2 = .ok (.putfield 72, 3) := by decide +kernel
theorem d_MD_reference_5 : decode c_MD_reference 5 = .ok (.aload_n 0, 1) := by decide +kernel
theorem d_MD_reference_6 : decode c_MD_reference 6 = .ok (.iload_n 1, 1) := by decide +kernel
theorem d_MD_reference_7 : decode c_MD_reference 7 = .ok (.invokevirtual 92, 3) := by decide +kernel
theorem d_MD_reference_10 : decode c_MD_reference 10 = .ok (.ifCond .eq 12, 3) := by decide +kernel
theorem d_MD_reference_13 : decode c_MD_reference 13 = .ok (.aload_n 0, 1) := by decide +kernel
theorem d_MD_reference_14 : decode c_MD_reference 14 = .ok (.getfield 63, 3) := by decide +kernel
theorem d_MD_reference_17 : decode c_MD_reference 17 = .ok (.iload_n 1, 1) := by decide +kernel
theorem d_MD_reference_18 : decode c_MD_reference 18 = .ok (.baload, 1) := by decide +kernel
theorem d_MD_reference_19 : decode c_MD_reference 19 = .ok (.ifCond .ne 7, 3) := by decide +kernel
theorem d_MD_reference_22 : decode c_MD_reference 22 = .ok (.iconst (-1), 1) := by decide +kernel
theorem d_MD_reference_23 : decode c_MD_reference 23 = .ok (.goto 9, 3) := by decide +kernel
theorem d_MD_reference_26 : decode c_MD_reference 26 = .ok (.aload_n 0, 1) := by decide +kernel
theorem d_MD_reference_27 : decode c_MD_reference 27 = .ok (.getfield 42, 3) := by decide +kernel
theorem d_MD_reference_30 : decode c_MD_reference 30 = .ok (.iload_n 1, 1) := by decide +kernel
theorem d_MD_reference_31 : decode c_MD_reference 31 = .ok (.iaload, 1) := by decide +kernel
theorem d_MD_reference_32 : decode c_MD_reference 32 = .ok (.ireturn, 1) := by decide +kernel
theorem d_MD_count_0 : decode c_MD_count 0 = .ok (.aload_n 0, 1) := by decide +kernel
theorem d_MD_count_1 : decode c_MD_count 1 = .ok (.iconst 0, 1) := by decide +kernel
theorem d_MD_count_2 : decode c_MD_count 2 = .ok (.putfield 72, 3) := by decide +kernel
theorem d_MD_count_5 : decode c_MD_count 5 = .ok (.aload_n 0, 1) := by decide +kernel
theorem d_MD_count_6 : decode c_MD_count 6 = .ok (.iload_n 1, 1) := by decide +kernel
theorem d_MD_count_7 : decode c_MD_count 7 = .ok (.invokevirtual 88, 3) := by decide +kernel
theorem d_MD_count_10 : decode c_MD_count 10 = .ok (.ifCond .ne 5, 3) := by decide +kernel
theorem d_MD_count_13 : decode c_MD_count 13 = .ok (.iconst (-1), 1) := by decide +kernel
theorem d_MD_count_14 : decode c_MD_count 14 = .ok (.ireturn, 1) := by decide +kernel
theorem d_MD_count_15 : decode c_MD_count 15 = .ok (.iconst 0, 1) := by decide +kernel
theorem d_MD_count_16 : decode c_MD_count 16 = .ok (.istore_n 2, 1) := by decide +kernel
theorem d_MD_count_17 : decode c_MD_count 17 = .ok (.iconst 0, 1) := by decide +kernel
theorem d_MD_count_18 : decode c_MD_count 18 = .ok (.istore_n 3, 1) := by decide +kernel
theorem d_MD_count_19 : decode c_MD_count 19 = .ok (.iload_n 3, 1) := by decide +kernel
theorem d_MD_count_20 : decode c_MD_count 20 = .ok (.sipush 300, 3) := by decide +kernel
theorem d_MD_count_23 : decode c_MD_count 23 = .ok (.if_icmp .ge 26, 3) := by decide +kernel
theorem d_MD_count_26 : decode c_MD_count 26 = .ok (.iload_n 2, 1) := by decide +kernel
theorem d_MD_count_27 : decode c_MD_count 27 = .ok (.aload_n 0, 1) := by decide +kernel
theorem d_MD_count_28 : decode c_MD_count 28 = .ok (.iload_n 1, 1) := by decide +kernel
theorem d_MD_count_29 : decode c_MD_count 29 = .ok (.iload_n 3, 1) := by decide +kernel
theorem d_MD_count_30 : decode c_MD_count 30 = .ok (.invokevirtual 114, 3) := by decide +kernel
theorem d_MD_count_33 : decode c_MD_count 33 = .ok (.ifCond .eq 7, 3) := by decide +kernel
theorem d_MD_count_36 : decode c_MD_count 36 = .ok (.iconst 1, 1) := by decide +kernel
theorem d_MD_count_37 : decode c_MD_count 37 = .ok (.goto 4, 3) := by decide +kernel
theorem d_MD_count_40 : decode c_MD_count 40 = .ok (.iconst 0, 1) := by decide +kernel
theorem d_MD_count_41 : decode c_MD_count 41 = .ok (.iadd, 1) := by decide +kernel
theorem d_MD_count_42 : decode c_MD_count 42 = .ok (.istore_n 2, 1) := by decide +kernel
theorem d_MD_count_43 : decode c_MD_count 43 = .ok (.iinc 3 1, 3) := by decide +kernel
theorem d_MD_count_46 : decode c_MD_count 46 = .ok (.goto (-27), 3) := by decide +kernel
theorem d_MD_count_49 : decode c_MD_count 49 = .ok (.iload_n 2, 1) := by decide +kernel
theorem d_MD_count_50 : decode c_MD_count 50 = .ok (.ireturn, 1) := by decide +kernel
theorem d_MD_whole_0 : decode c_MD_whole 0 = .ok (.aload_n 0, 1) := by decide +kernel
theorem d_MD_whole_1 : decode c_MD_whole 1 = .ok (.iconst 0, 1) := by decide +kernel
theorem d_MD_whole_2 : decode c_MD_whole 2 = .ok (.putfield 72, 3) := by decide +kernel
theorem d_MD_whole_5 : decode c_MD_whole 5 = .ok (.iconst 1, 1) := by decide +kernel
theorem d_MD_whole_6 : decode c_MD_whole 6 = .ok (.ireturn, 1) := by decide +kernel
