theorem dX6_moveAtOnce_42 : decode cX6_moveAtOnce 42 = .ok (.goto (-13), 3) := by decide +kernel
theorem dX6_moveAtOnce_45 : decode cX6_moveAtOnce 45 = .ok (.return_, 1) := by decide +kernel
theorem dX6_makeNextMove_0 : decode cX6_makeNextMove 0 = .ok (.aload_n 0, 1) := by decide +kernel
theorem dX6_makeNextMove_1 : decode cX6_makeNextMove 1 = .ok (.getfield 40, 3) := by decide +kernel
theorem dX6_makeNextMove_4 : decode cX6_makeNextMove 4 = .ok (.getfield 148, 3) := by decide +kernel
theorem dX6_makeNextMove_7 : decode cX6_makeNextMove 7 = .ok (.istore_n 1, 1) := by decide +kernel
theorem dX6_makeNextMove_8 : decode cX6_makeNextMove 8 = .ok (.aload_n 0, 1) := by decide +kernel
theorem dX6_makeNextMove_9 : decode cX6_makeNextMove 9 = .ok (.getfield 40, 3) := by decide +kernel
theorem dX6_makeNextMove_12 : decode cX6_makeNextMove 12 = .ok (.getfield 248, 3) := by decide +kernel
theorem dX6_makeNextMove_15 : decode cX6_makeNextMove 15 = .ok (.iload_n 1, 1) := by decide +kernel
theorem dX6_makeNextMove_16 : decode cX6_makeNextMove 16 = .ok (.iaload, 1) := by decide +kernel
theorem dX6_makeNextMove_17 : decode cX6_makeNextMove 17 = .ok (.istore_n 2, 1) := by decide +kernel
theorem dX6_makeNextMove_18 : decode cX6_makeNextMove 18 = .ok (.aload_n 0, 1) := by decide +kernel
theorem dX6_makeNextMove_19 : decode cX6_makeNextMove 19 = .ok (.getfield 47, 3) := by decide +kernel
theorem dX6_makeNextMove_22 : decode cX6_makeNextMove 22 = .ok (.aload_n 0, 1) := by decide +kernel
theorem dX6_makeNextMove_23 : decode cX6_makeNextMove 23 = .ok (.getfield 40, 3) := by decide +kernel
theorem dX6_makeNextMove_26 : decode cX6_makeNextMove 26 = .ok (.iload_n 1, 1) := by decide +kernel
theorem dX6_makeNextMove_27 : decode cX6_makeNextMove 27 = .ok (.invokevirtual 257, 3) := by decide +kernel
theorem dX6_makeNextMove_30 : decode cX6_makeNextMove 30 = .ok (.iload_n 2, 1) := by decide +kernel
theorem dX6_makeNextMove_31 : decode cX6_makeNextMove 31 = .ok (.aload_n 0, 1) := by decide +kernel
theorem dX6_makeNextMove_32 : decode cX6_makeNextMove 32 = .ok (.getfield 40, 3) := by decide +kernel
theorem dX6_makeNextMove_35 : decode cX6_makeNextMove 35 = .ok (.getfield 279, 3) := by decide +kernel
theorem dX6_makeNextMove_38 : decode cX6_makeNextMove 38 = .ok (.iload_n 1, 1) := by decide +kernel
theorem dX6_makeNextMove_39 : decode cX6_makeNextMove 39 = .ok (.iaload, 1) := by decide +kernel
theorem dX6_makeNextMove_40 : decode cX6_makeNextMove 40 = .ok (.aload_n 0, 1) := by decide +kernel
theorem dX6_makeNextMove_41 : decode cX6_makeNextMove 41 = .ok (.getfield 40, 3) := by decide +kernel
theorem dX6_makeNextMove_44 : decode cX6_makeNextMove 44 = .ok (.getfield 251, 3) := by decide +kernel
theorem dX6_makeNextMove_47 : decode cX6_makeNextMove 47 = .ok (.iload_n 1, 1) := by decide +kernel
theorem dX6_makeNextMove_48 : decode cX6_makeNextMove 48 = .ok (.iaload, 1) := by decide +kernel
theorem dX6_makeNextMove_49 : decode cX6_makeNextMove 49 = .ok (.aload_n 0, 1) := by decide +kernel
theorem dX6_makeNextMove_50 : decode cX6_makeNextMove 50 = .ok (.getfield 40, 3) := by decide +kernel
theorem dX6_makeNextMove_53 : decode cX6_makeNextMove 53 = .ok (.getfield 254, 3) := by decide +kernel
theorem dX6_makeNextMove_56 : decode cX6_makeNextMove 56 = .ok (.iload_n 1, 1) := by decide +kernel
theorem dX6_makeNextMove_57 : decode cX6_makeNextMove 57 = .ok (.iaload, 1) := by decide +kernel
theorem dX6_makeNextMove_58 : decode cX6_makeNextMove 58 = .ok (.invokevirtual 119, 3) := by decide +kernel
theorem dX6_makeNextMove_61 : decode cX6_makeNextMove 61 = .ok (.aload_n 0, 1) := by decide +kernel
theorem dX6_makeNextMove_62 : decode cX6_makeNextMove 62 = .ok (.getfield 26, 3) := by decide +kernel
theorem dX6_makeNextMove_65 : decode cX6_makeNextMove 65 = .ok (.iload_n 2, 1) := by decide +kernel
theorem dX6_makeNextMove_66 : decode cX6_makeNextMove 66 = .ok (.aload_n 0, 1) := by decide +kernel
theorem dX6_makeNextMove_67 : decode cX6_makeNextMove 67 = .ok (.getfield 40, 3) := by decide +kernel
theorem dX6_makeNextMove_70 : decode cX6_makeNextMove 70 = .ok (.getfield 254, 3) := by decide +kernel
theorem dX6_makeNextMove_73 : decode cX6_makeNextMove 73 = .ok (.iload_n 1, 1) := by decide +kernel
theorem dX6_makeNextMove_74 : decode cX6_makeNextMove 74 = .ok (.iaload, 1) := by decide +kernel
theorem dX6_makeNextMove_75 : decode cX6_makeNextMove 75 = .ok (.invokevirtual 280, 3) := by decide +kernel
theorem dX6_makeNextMove_78 : decode cX6_makeNextMove 78 = .ok (.aload_n 0, 1) := by decide +kernel
theorem dX6_makeNextMove_79 : decode cX6_makeNextMove 79 = .ok (.getfield 40, 3) := by decide +kernel
theorem dX6_makeNextMove_82 : decode cX6_makeNextMove 82 = .ok (.invokevirtual 283, 3) := by decide +kernel
theorem dX6_makeNextMove_85 : decode cX6_makeNextMove 85 = .ok (.iload_n 2, 1) := by decide +kernel
theorem dX6_makeNextMove_86 : decode cX6_makeNextMove 86 = .ok (.ireturn, 1) := by decide +kernel
theorem dX7_init_0 : decode cX7_init 0 = .ok (.aload_n 0, 1) := by decide +kernel
theorem dX7_init_1 : decode cX7_init 1 = .ok (.invokespecial 1, 3) := by decide +kernel
theorem dX7_init_4 : decode cX7_init 4 = .ok (.aload_n 0, 1) := by decide +kernel
theorem dX7_init_5 : decode cX7_init 5 = .ok (.bipush 12, 2) := by decide +kernel
theorem dX7_init_7 : decode cX7_init 7 = .ok (.newarray .int, 2) := by decide +kernel
theorem dX7_init_9 : decode cX7_init 9 = .ok (.putfield 7, 3) := by decide +kernel
theorem dX7_init_12 : decode cX7_init 12 = .ok (.aload_n 0, 1) := by decide +kernel
theorem dX7_init_13 : decode cX7_init 13 = .ok (.bipush 12, 2) := by decide +kernel
theorem dX7_init_15 : decode cX7_init 15 = .ok (.newarray .int, 2) := by decide +kernel
theorem dX7_init_17 : decode cX7_init 17 = .ok (.putfield 13, 3) := by decide +kernel
theorem dX7_init_20 : decode cX7_init 20 = .ok (.aload_n 0, 1) := by decide +kernel
theorem dX7_init_21 : decode cX7_init 21 = .ok (.bipush 8, 2) := by decide +kernel
theorem dX7_init_23 : decode cX7_init 23 = .ok (.newarray .int, 2) := by decide +kernel
theorem dX7_init_25 : decode cX7_init 25 = .ok (.putfield 16, 3) := by decide +kernel
theorem dX7_init_28 : decode cX7_init 28 = .ok (.aload_n 0, 1) := by decide +kernel
theorem dX7_init_29 : decode cX7_init 29 = .ok (.bipush 61, 2) := by decide +kernel
theorem dX7_init_31 : decode cX7_init 31 = .ok (.newarray .int, 2) := by decide +kernel
theorem dX7_init_33 : decode cX7_init 33 = .ok (.putfield 19, 3) := by decide +kernel
theorem dX7_init_36 : decode cX7_init 36 = .ok (.aload_n 0, 1) := by decide +kernel
theorem dX7_init_37 : decode cX7_init 37 = .ok (.bipush 61, 2) := by decide +kernel
theorem dX7_init_39 : decode cX7_init 39 = .ok (.newarray .int, 2) := by decide +kernel
theorem dX7_init_41 : decode cX7_init 41 = .ok (.putfield 22, 3) := by decide +kernel
theorem dX7_init_44 : decode cX7_init 44 = .ok (.aload_n 0, 1) := by decide +kernel
theorem dX7_init_45 : decode cX7_init 45 = .ok (.bipush 61, 2) := by decide +kernel
theorem dX7_init_47 : decode cX7_init 47 = .ok (.newarray .int, 2) := by decide +kernel
theorem dX7_init_49 : decode cX7_init 49 = .ok (.putfield 25, 3) := by decide +kernel
theorem dX7_init_52 : decode cX7_init 52 = .ok (.aload_n 0, 1) := by decide +kernel
theorem dX7_init_53 : decode cX7_init 53 = .ok (.bipush 61, 2) := by decide +kernel
theorem dX7_init_55 : decode cX7_init 55 = .ok (.newarray .int, 2) := by decide +kernel
theorem dX7_init_57 : decode cX7_init 57 = .ok (.putfield 28, 3) := by decide +kernel
theorem dX7_init_60 : decode cX7_init 60 = .ok (.aload_n 0, 1) := by decide +kernel
theorem dX7_init_61 : decode cX7_init 61 = .ok (.bipush 100, 2) := by decide +kernel
theorem dX7_init_63 : decode cX7_init 63 = .ok (.putfield 31, 3) := by decide +kernel
theorem dX7_init_66 : decode cX7_init 66 = .ok (.aload_n 0, 1) := by decide +kernel
theorem dX7_init_67 : decode cX7_init 67 = .ok (.sipush 200, 3) := by decide +kernel
theorem dX7_init_70 : decode cX7_init 70 = .ok (.newarray .int, 2) := by decide +kernel
theorem dX7_init_72 : decode cX7_init 72 = .ok (.putfield 35, 3) := by decide +kernel
theorem dX7_init_75 : decode cX7_init 75 = .ok (.aload_n 0, 1) := by decide +kernel
theorem dX7_init_76 : decode cX7_init 76 = .ok (.bipush 61, 2) := by decide +kernel
theorem dX7_init_78 : decode cX7_init 78 = .ok (.newarray .int, 2) := by decide +kernel
theorem dX7_init_80 : decode cX7_init 80 = .ok (.putfield 38, 3) := by decide +kernel
theorem dX7_init_83 : decode cX7_init 83 = .ok (.aload_n 0, 1) := by decide +kernel
theorem dX7_init_84 : decode cX7_init 84 = .ok (.bipush 61, 2) := by decide +kernel
theorem dX7_init_86 : decode cX7_init 86 = .ok (.newarray .int, 2) := by decide +kernel
theorem dX7_init_88 : decode cX7_init 88 = .ok (.putfield 41, 3) := by decide +kernel
theorem dX7_init_91 : decode cX7_init 91 = .ok (.aload_n 0, 1) := by decide +kernel
theorem dX7_init_92 : decode cX7_init 92 = .ok (.sipush 793, 3) := by decide +kernel
theorem dX7_init_95 : decode cX7_init 95 = .ok (.newarray .int, 2) := by decide +kernel
theorem dX7_init_97 : decode cX7_init 97 = .ok (.putfield 44, 3) := by decide +kernel
theorem dX7_init_100 : decode cX7_init 100 = .ok (.aload_n 0, 1) := by decide +kernel
theorem dX7_init_101 : decode cX7_init 101 = .ok (.bipush 12, 2) := by decide +kernel
theorem dX7_init_103 : decode cX7_init 103 = .ok (.newarray .int, 2) := by decide +kernel
theorem dX7_init_105 : decode cX7_init 105 = .ok (.putfield 47, 3) := by decide +kernel
theorem dX7_init_108 : decode cX7_init 108 = .ok (.aload_n 0, 1) := by decide +kernel
theorem dX7_init_109 : decode cX7_init 109 = .ok (.bipush 61, 2) := by decide +kernel
theorem dX7_init_111 : decode cX7_init 111 = .ok (.newarray .int, 2) := by decide +kernel
theorem dX7_init_113 : decode cX7_init 113 = .ok (.putfield 50, 3) := by decide +kernel
theorem dX7_init_116 : decode cX7_init 116 = .ok (.aload_n 0, 1) := by decide +kernel
theorem dX7_init_117 : decode cX7_init 117 = .ok (.bipush 61, 2) := by decide +kernel
theorem dX7_init_119 : decode cX7_init 119 = .ok (.newarray .int, 2) := by decide +kernel
theorem dX7_init_121 : decode cX7_init 121 = .ok (.putfield 53, 3) := by decide +kernel
theorem dX7_init_124 : decode cX7_init 124 = .ok (.aload_n 0, 1) := by decide +kernel
theorem dX7_init_125 : decode cX7_init 125 = .ok (.bipush 60, 2) := by decide +kernel
theorem dX7_init_127 : decode cX7_init 127 = .ok (.newarray .int, 2) := by decide +kernel
theorem dX7_init_129 : decode cX7_init 129 = .ok (.putfield 56, 3) := by decide +kernel
theorem dX7_init_132 : decode cX7_init 132 = .ok (.aload_n 0, 1) := by decide +kernel
theorem dX7_init_133 : decode cX7_init 133 = .ok (.bipush 60, 2) := by decide +kernel
theorem dX7_init_135 : decode cX7_init 135 = .ok (.newarray .int, 2) := by decide +kernel
theorem dX7_init_137 : decode cX7_init 137 = .ok (.putfield 59, 3) := by decide +kernel
theorem dX7_init_140 : decode cX7_init 140 = .ok (.aload_n 0, 1) := by decide +kernel
theorem dX7_init_141 : decode cX7_init 141 = .ok (.bipush 60, 2) := by decide +kernel
theorem dX7_init_143 : decode cX7_init 143 = .ok (.newarray .int, 2) := by decide +kernel
theorem dX7_init_145 : decode cX7_init 145 = .ok (.putfield 62, 3) := by decide +kernel
theorem dX7_init_148 : decode cX7_init 148 = .ok (.aload_n 0, 1) := by decide +kernel
theorem dX7_init_149 : decode cX7_init 149 = .ok (.bipush 60, 2) := by decide +kernel
theorem dX7_init_151 : decode cX7_init 151 = .ok (.newarray .int, 2) := by decide +kernel
theorem dX7_init_153 : decode cX7_init 153 = .ok (.putfield 65, 3) := by decide +kernel
theorem dX7_init_156 : decode cX7_init 156 = .ok (.return_, 1) := by decide +kernel
theorem dX7_thrown_0 : decode cX7_thrown 0 = .ok (.aload_n 0, 1) := by decide +kernel
theorem dX7_thrown_1 : decode cX7_thrown 1 = .ok (.getfield 68, 3) := by decide +kernel
theorem dX7_thrown_4 : decode cX7_thrown 4 = .ok (.ireturn, 1) := by decide +kernel
theorem dX7_isIn_0 : decode cX7_isIn 0 = .ok (.iload_n 0, 1) := by decide +kernel
theorem dX7_isIn_1 : decode cX7_isIn 1 = .ok (.iload_n 1, 1) := by decide +kernel
theorem dX7_isIn_2 : decode cX7_isIn 2 = .ok (.if_icmp .lt 12, 3) := by decide +kernel
theorem dX7_isIn_5 : decode cX7_isIn 5 = .ok (.iload_n 0, 1) := by decide +kernel
theorem dX7_isIn_6 : decode cX7_isIn 6 = .ok (.iload_n 2, 1) := by decide +kernel
theorem dX7_isIn_7 : decode cX7_isIn 7 = .ok (.if_icmp .gt 7, 3) := by decide +kernel
theorem dX7_isIn_10 : decode cX7_isIn 10 = .ok (.iconst 1, 1) := by decide +kernel
theorem dX7_isIn_11 : decode cX7_isIn 11 = .ok (.goto 4, 3) := by decide +kernel
theorem dX7_isIn_14 : decode cX7_isIn 14 = .ok (.iconst 0, 1) := by decide +kernel
theorem dX7_isIn_15 : decode cX7_isIn 15 = .ok (.ireturn, 1) := by decide +kernel
theorem dX7_isShelf_0 : decode cX7_isShelf 0 = .ok (.iload_n 1, 1) := by decide +kernel
theorem dX7_isShelf_1 : decode cX7_isShelf 1 = .ok (.iconst 0, 1) := by decide +kernel
theorem dX7_isShelf_2 : decode cX7_isShelf 2 = .ok (.aload_n 0, 1) := by decide +kernel
theorem dX7_isShelf_3 : decode cX7_isShelf 3 = .ok (.getfield 71, 3) := by decide +kernel
theorem dX7_isShelf_6 : decode cX7_isShelf 6 = .ok (.iconst 1, 1) := by decide +kernel
theorem dX7_isShelf_7 : decode cX7_isShelf 7 = .ok (.isub, 1) := by decide +kernel
theorem dX7_isShelf_8 : decode cX7_isShelf 8 = .ok (.invokestatic 74, 3) := by decide +kernel
theorem dX7_isShelf_11 : decode cX7_isShelf 11 = .ok (.ireturn, 1) := by decide +kernel
theorem dX7_isGroup_0 : decode cX7_isGroup 0 = .ok (.iload_n 1, 1) := by decide +kernel
theorem dX7_isGroup_1 : decode cX7_isGroup 1 = .ok (.iconst 0, 1) := by decide +kernel
theorem dX7_isGroup_2 : decode cX7_isGroup 2 = .ok (.aload_n 0, 1) := by decide +kernel
theorem dX7_isGroup_3 : decode cX7_isGroup 3 = .ok (.getfield 78, 3) := by decide +kernel
theorem dX7_isGroup_6 : decode cX7_isGroup 6 = .ok (.iconst 1, 1) := by decide +kernel
theorem dX7_isGroup_7 : decode cX7_isGroup 7 = .ok (.isub, 1) := by decide +kernel
theorem dX7_isGroup_8 : decode cX7_isGroup 8 = .ok (.invokestatic 74, 3) := by decide +kernel
theorem dX7_isGroup_11 : decode cX7_isGroup 11 = .ok (.ireturn, 1) := by decide +kernel
theorem dX7_isBook_0 : decode cX7_isBook 0 = .ok (.iload_n 1, 1) := by decide +kernel
theorem dX7_isBook_1 : decode cX7_isBook 1 = .ok (.iconst 0, 1) := by decide +kernel
theorem dX7_isBook_2 : decode cX7_isBook 2 = .ok (.aload_n 0, 1) := by decide +kernel
theorem dX7_isBook_3 : decode cX7_isBook 3 = .ok (.getfield 81, 3) := by decide +kernel
theorem dX7_isBook_6 : decode cX7_isBook 6 = .ok (.iconst 1, 1) := by decide +kernel
theorem dX7_isBook_7 : decode cX7_isBook 7 = .ok (.isub, 1) := by decide +kernel
theorem dX7_isBook_8 : decode cX7_isBook 8 = .ok (.invokestatic 74, 3) := by decide +kernel
theorem dX7_isBook_11 : decode cX7_isBook 11 = .ok (.ireturn, 1) := by decide +kernel
theorem dX7_notes_0 : decode cX7_notes 0 = .ok (.aload_n 0, 1) := by decide +kernel
theorem dX7_notes_1 : decode cX7_notes 1 = .ok (.getfield 84, 3) := by decide +kernel
theorem dX7_notes_4 : decode cX7_notes 4 = .ok (.bipush 40, 2) := by decide +kernel
theorem dX7_notes_6 : decode cX7_notes 6 = .ok (.if_icmp .ne 46, 3) := by decide +kernel
theorem dX7_notes_9 : decode cX7_notes 9 = .ok (.iconst 0, 1) := by decide +kernel
theorem dX7_notes_10 : decode cX7_notes 10 = .ok (.istore 5, 2) := by decide +kernel
theorem dX7_notes_12 : decode cX7_notes 12 = .ok (.iload 5, 2) := by decide +kernel
theorem dX7_notes_14 : decode cX7_notes 14 = .ok (.sipush 195, 3) := by decide +kernel
theorem dX7_notes_17 : decode cX7_notes 17 = .ok (.if_icmp .ge 25, 3) := by decide +kernel
theorem dX7_notes_20 : decode cX7_notes 20 = .ok (.aload_n 0, 1) := by decide +kernel
theorem dX7_notes_21 : decode cX7_notes 21 = .ok (.getfield 35, 3) := by decide +kernel
theorem dX7_notes_24 : decode cX7_notes 24 = .ok (.iload 5, 2) := by decide +kernel
theorem dX7_notes_26 : decode cX7_notes 26 = .ok (.aload_n 0, 1) := by decide +kernel
theorem dX7_notes_27 : decode cX7_notes 27 = .ok (.getfield 35, 3) := by decide +kernel
theorem dX7_notes_30 : decode cX7_notes 30 = .ok (.iload 5, 2) := by decide +kernel
theorem dX7_notes_32 : decode cX7_notes 32 = .ok (.iconst 5, 1) := by decide +kernel
theorem dX7_notes_33 : decode cX7_notes 33 = .ok (.iadd, 1) := by decide +kernel
theorem dX7_notes_34 : decode cX7_notes 34 = .ok (.iaload, 1) := by decide +kernel
theorem dX7_notes_35 : decode cX7_notes 35 = .ok (.iastore, 1) := by decide +kernel
theorem dX7_notes_36 : decode cX7_notes 36 = .ok (.iinc 5 1, 3) := by decide +kernel
theorem dX7_notes_39 : decode cX7_notes 39 = .ok (.goto (-27), 3) := by decide +kernel
theorem dX7_notes_42 : decode cX7_notes 42 = .ok (.aload_n 0, 1) := by decide +kernel
theorem dX7_notes_43 : decode cX7_notes 43 = .ok (.dup, 1) := by decide +kernel
theorem dX7_notes_44 : decode cX7_notes 44 = .ok (.getfield 84, 3) := by decide +kernel
theorem dX7_notes_47 : decode cX7_notes 47 = .ok (.iconst 1, 1) := by decide +kernel
theorem dX7_notes_48 : decode cX7_notes 48 = .ok (.isub, 1) := by decide +kernel
theorem dX7_notes_49 : decode cX7_notes 49 = .ok (.putfield 84, 3) := by decide +kernel
theorem dX7_notes_52 : decode cX7_notes 52 = .ok (.iconst 5, 1) := by decide +kernel
theorem dX7_notes_53 : decode cX7_notes 53 = .ok (.aload_n 0, 1) := by decide +kernel
theorem dX7_notes_54 : decode cX7_notes 54 = .ok (.getfield 84, 3) := by decide +kernel
theorem dX7_notes_57 : decode cX7_notes 57 = .ok (.imul, 1) := by decide +kernel
theorem dX7_notes_58 : decode cX7_notes 58 = .ok (.istore 5, 2) := by decide +kernel
theorem dX7_notes_60 : decode cX7_notes 60 = .ok (.aload_n 0, 1) := by decide +kernel
theorem dX7_notes_61 : decode cX7_notes 61 = .ok (.getfield 35, 3) := by decide +kernel
theorem dX7_notes_64 : decode cX7_notes 64 = .ok (.iload 5, 2) := by decide +kernel
theorem dX7_notes_66 : decode cX7_notes 66 = .ok (.iload_n 1, 1) := by decide +kernel
theorem dX7_notes_67 : decode cX7_notes 67 = .ok (.iastore, 1) := by decide +kernel
theorem dX7_notes_68 : decode cX7_notes 68 = .ok (.aload_n 0, 1) := by decide +kernel
theorem dX7_notes_69 : decode cX7_notes 69 = .ok (.getfield 35, 3) := by decide +kernel
theorem dX7_notes_72 : decode cX7_notes 72 = .ok (.iload 5, 2) := by decide +kernel
theorem dX7_notes_74 : decode cX7_notes 74 = .ok (.iconst 1, 1) := by decide +kernel
theorem dX7_notes_75 : decode cX7_notes 75 = .ok (.iadd, 1) := by decide +kernel
theorem dX7_notes_76 : decode cX7_notes 76 = .ok (.iload_n 2, 1) := by decide +kernel
theorem dX7_notes_77 : decode cX7_notes 77 = .ok (.iastore, 1) := by decide +kernel
theorem dX7_notes_78 : decode cX7_notes 78 = .ok (.aload_n 0, 1) := by decide +kernel
theorem dX7_notes_79 : decode cX7_notes 79 = .ok (.getfield 35, 3) := by decide +kernel
theorem dX7_notes_82 : decode cX7_notes 82 = .ok (.iload 5, 2) := by decide +kernel
theorem dX7_notes_84 : decode cX7_notes 84 = .ok (.iconst 2, 1) := by decide +kernel
theorem dX7_notes_85 : decode cX7_notes 85 = .ok (.iadd, 1) := by decide +kernel
theorem dX7_notes_86 : decode cX7_notes 86 = .ok (.aload_n 0, 1) := by decide +kernel
theorem dX7_notes_87 : decode cX7_notes 87 = .ok (.getfield 22, 3) := by decide +kernel
theorem dX7_notes_90 : decode cX7_notes 90 = .ok (.iload_n 2, 1) := by decide +kernel
theorem dX7_notes_91 : decode cX7_notes 91 = .ok (.iaload, 1) := by decide +kernel
theorem dX7_notes_92 : decode cX7_notes 92 = .ok (.iastore, 1) := by decide +kernel
theorem dX7_notes_93 : decode cX7_notes 93 = .ok (.aload_n 0, 1) := by decide +kernel
theorem dX7_notes_94 : decode cX7_notes 94 = .ok (.getfield 35, 3) := by decide +kernel
theorem dX7_notes_97 : decode cX7_notes 97 = .ok (.iload 5, 2) := by decide +kernel
theorem dX7_notes_99 : decode cX7_notes 99 = .ok (.iconst 3, 1) := by decide +kernel
theorem dX7_notes_100 : decode cX7_notes 100 = .ok (.iadd, 1) := by decide +kernel
theorem dX7_notes_101 : decode cX7_notes 101 = .ok (.iload_n 3, 1) := by decide +kernel
theorem dX7_notes_102 : decode cX7_notes 102 = .ok (.iastore, 1) := by decide +kernel
theorem dX7_notes_103 : decode cX7_notes 103 = .ok (.aload_n 0, 1) := by decide +kernel
theorem dX7_notes_104 : decode cX7_notes 104 = .ok (.getfield 35, 3) := by decide +kernel
theorem dX7_notes_107 : decode cX7_notes 107 = .ok (.iload 5, 2) := by decide +kernel
theorem dX7_notes_109 : decode cX7_notes 109 = .ok (.iconst 4, 1) := by decide +kernel
theorem dX7_notes_110 : decode cX7_notes 110 = .ok (.iadd, 1) := by decide +kernel
theorem dX7_notes_111 : decode cX7_notes 111 = .ok (.iload 4, 2) := by decide +kernel
theorem dX7_notes_113 : decode cX7_notes 113 = .ok (.iastore, 1) := by decide +kernel
theorem dX7_notes_114 : decode cX7_notes 114 = .ok (.aload_n 0, 1) := by decide +kernel
theorem dX7_notes_115 : decode cX7_notes 115 = .ok (.dup, 1) := by decide +kernel
theorem dX7_notes_116 : decode cX7_notes 116 = .ok (.getfield 84, 3) := by decide +kernel
theorem dX7_notes_119 : decode cX7_notes 119 = .ok (.iconst 1, 1) := by decide +kernel
theorem dX7_notes_120 : decode cX7_notes 120 = .ok (.iadd, 1) := by decide +kernel
theorem dX7_notes_121 : decode cX7_notes 121 = .ok (.putfield 84, 3) := by decide +kernel
theorem dX7_notes_124 : decode cX7_notes 124 = .ok (.return_, 1) := by decide +kernel
theorem dX7_log_0 : decode cX7_log 0 = .ok (.aload_n 0, 1) := by decide +kernel
theorem dX7_log_1 : decode cX7_log 1 = .ok (.iconst 0, 1) := by decide +kernel
theorem dX7_log_2 : decode cX7_log 2 = .ok (.putfield 68, 3) := by decide +kernel
theorem dX7_log_5 : decode cX7_log 5 = .ok (.iload_n 1, 1) := by decide +kernel
theorem dX7_log_6 : decode cX7_log 6 = .ok (.iconst 0, 1) := by decide +kernel
theorem dX7_log_7 : decode cX7_log 7 = .ok (.aload_n 0, 1) := by decide +kernel
theorem dX7_log_8 : decode cX7_log 8 = .ok (.getfield 84, 3) := by decide +kernel
theorem dX7_log_11 : decode cX7_log 11 = .ok (.iconst 1, 1) := by decide +kernel
theorem dX7_log_12 : decode cX7_log 12 = .ok (.isub, 1) := by decide +kernel
theorem dX7_log_13 : decode cX7_log 13 = .ok (.invokestatic 74, 3) := by decide +kernel
theorem dX7_log_16 : decode cX7_log 16 = .ok (.ifCond .eq 32, 3) := by decide +kernel
theorem dX7_log_19 : decode cX7_log 19 = .ok (.iload_n 2, 1) := by decide +kernel
theorem dX7_log_20 : decode cX7_log 20 = .ok (.iconst 0, 1) := by decide +kernel
theorem dX7_log_21 : decode cX7_log 21 = .ok (.iconst 4, 1) := by decide +kernel
theorem dX7_log_22 : decode cX7_log 22 = .ok (.invokestatic 74, 3) := by decide +kernel
theorem dX7_log_25 : decode cX7_log 25 = .ok (.ifCond .eq 23, 3) := by decide +kernel
theorem dX7_log_28 : decode cX7_log 28 = .ok (.aload_n 0, 1) := by decide +kernel
theorem dX7_log_29 : decode cX7_log 29 = .ok (.getfield 35, 3) := by decide +kernel
theorem dX7_log_32 : decode cX7_log 32 = .ok (.iconst 5, 1) := by decide +kernel
theorem dX7_log_33 : decode cX7_log 33 = .ok (.aload_n 0, 1) := by decide +kernel
theorem dX7_log_34 : decode cX7_log 34 = .ok (.getfield 84, 3) := by decide +kernel
theorem dX7_log_37 : decode cX7_log 37 = .ok (.iconst 1, 1) := by decide +kernel
theorem dX7_log_38 : decode cX7_log 38 = .ok (.isub, 1) := by decide +kernel
theorem dX7_log_39 : decode cX7_log 39 = .ok (.iload_n 1, 1) := by decide +kernel
theorem dX7_log_40 : decode cX7_log 40 = .ok (.isub, 1) := by decide +kernel
theorem dX7_log_41 : decode cX7_log 41 = .ok (.imul, 1) := by decide +kernel
theorem dX7_log_42 : decode cX7_log 42 = .ok (.iload_n 2, 1) := by decide +kernel
theorem dX7_log_43 : decode cX7_log 43 = .ok (.iadd, 1) := by decide +kernel
theorem dX7_log_44 : decode cX7_log 44 = .ok (.iaload, 1) := by decide +kernel
theorem dX7_log_45 : decode cX7_log 45 = .ok (.goto 4, 3) := by decide +kernel
theorem dX7_log_48 : decode cX7_log 48 = .ok (.iconst (-1), 1) := by decide +kernel
theorem dX7_log_49 : decode cX7_log 49 = .ok (.ireturn, 1) := by decide +kernel
theorem dX7_widthOf_0 : decode cX7_widthOf 0 = .ok (.iconst 0, 1) := by decide +kernel
theorem dX7_widthOf_1 : decode cX7_widthOf 1 = .ok (.istore_n 2, 1) := by decide +kernel
theorem dX7_widthOf_2 : decode cX7_widthOf 2 = .ok (.iconst 0, 1) := by decide +kernel
theorem dX7_widthOf_3 : decode cX7_widthOf 3 = .ok (.istore_n 3, 1) := by decide +kernel
theorem dX7_widthOf_4 : decode cX7_widthOf 4 = .ok (.iload_n 3, 1) := by decide +kernel
theorem dX7_widthOf_5 : decode cX7_widthOf 5 = .ok (.aload_n 0, 1) := by decide +kernel
theorem dX7_widthOf_6 : decode cX7_widthOf 6 = .ok (.getfield 81, 3) := by decide +kernel
theorem dX7_widthOf_9 : decode cX7_widthOf 9 = .ok (.if_icmp .ge 32, 3) := by decide +kernel
theorem dX7_widthOf_12 : decode cX7_widthOf 12 = .ok (.iload_n 2, 1) := by decide +kernel
theorem dX7_widthOf_13 : decode cX7_widthOf 13 = .ok (.aload_n 0, 1) := by decide +kernel
theorem dX7_widthOf_14 : decode cX7_widthOf 14 = .ok (.getfield 19, 3) := by decide +kernel
theorem dX7_widthOf_17 : decode cX7_widthOf 17 = .ok (.iload_n 3, 1) := by decide +kernel
theorem dX7_widthOf_18 : decode cX7_widthOf 18 = .ok (.iaload, 1) := by decide +kernel
theorem dX7_widthOf_19 : decode cX7_widthOf 19 = .ok (.iload_n 1, 1) := by decide +kernel
theorem dX7_widthOf_20 : decode cX7_widthOf 20 = .ok (.if_icmp .ne 12, 3) := by decide +kernel
theorem dX7_widthOf_23 : decode cX7_widthOf 23 = .ok (.aload_n 0, 1) := by decide +kernel
theorem dX7_widthOf_24 : decode cX7_widthOf 24 = .ok (.getfield 22, 3) := by decide +kernel
theorem dX7_widthOf_27 : decode cX7_widthOf 27 = .ok (.iload_n 3, 1) := by decide +kernel
theorem dX7_widthOf_28 : decode cX7_widthOf 28 = .ok (.iaload, 1) := by decide +kernel
theorem dX7_widthOf_29 : decode cX7_widthOf 29 = .ok (.goto 4, 3) := by decide +kernel
theorem dX7_widthOf_32 : decode cX7_widthOf 32 = .ok (.iconst 0, 1) := by decide +kernel
theorem dX7_widthOf_33 : decode cX7_widthOf 33 = .ok (.iadd, 1) := by decide +kernel
theorem dX7_widthOf_34 : decode cX7_widthOf 34 = .ok (.istore_n 2, 1) := by decide +kernel
theorem dX7_widthOf_35 : decode cX7_widthOf 35 = .ok (.iinc 3 1, 3) := by decide +kernel
theorem dX7_widthOf_38 : decode cX7_widthOf 38 = .ok (.goto (-34), 3) := by decide +kernel
theorem dX7_widthOf_41 : decode cX7_widthOf 41 = .ok (.iload_n 2, 1) := by decide +kernel
theorem dX7_widthOf_42 : decode cX7_widthOf 42 = .ok (.ireturn, 1) := by decide +kernel
theorem dX7_laysNeeds_0 : decode cX7_laysNeeds 0 = .ok (.iconst 0, 1) := by decide +kernel
theorem dX7_laysNeeds_1 : decode cX7_laysNeeds 1 = .ok (.istore_n 1, 1) := by decide +kernel
theorem dX7_laysNeeds_2 : decode cX7_laysNeeds 2 = .ok (.iload_n 1, 1) := by decide +kernel
theorem dX7_laysNeeds_3 : decode cX7_laysNeeds 3 = .ok (.aload_n 0, 1) := by decide +kernel
theorem dX7_laysNeeds_4 : decode cX7_laysNeeds 4 = .ok (.getfield 78, 3) := by decide +kernel
theorem dX7_laysNeeds_7 : decode cX7_laysNeeds 7 = .ok (.if_icmp .ge 204, 3) := by decide +kernel
theorem dX7_laysNeeds_10 : decode cX7_laysNeeds 10 = .ok (.aload_n 0, 1) := by decide +kernel
theorem dX7_laysNeeds_11 : decode cX7_laysNeeds 11 = .ok (.iload_n 1, 1) := by decide +kernel
theorem dX7_laysNeeds_12 : decode cX7_laysNeeds 12 = .ok (.invokevirtual 87, 3) := by decide +kernel
theorem dX7_laysNeeds_15 : decode cX7_laysNeeds 15 = .ok (.istore_n 2, 1) := by decide +kernel
theorem dX7_laysNeeds_16 : decode cX7_laysNeeds 16 = .ok (.aload_n 0, 1) := by decide +kernel
theorem dX7_laysNeeds_17 : decode cX7_laysNeeds 17 = .ok (.getfield 16, 3) := by decide +kernel
theorem dX7_laysNeeds_20 : decode cX7_laysNeeds 20 = .ok (.iload_n 1, 1) := by decide +kernel
theorem dX7_laysNeeds_21 : decode cX7_laysNeeds 21 = .ok (.iaload, 1) := by decide +kernel
theorem dX7_laysNeeds_22 : decode cX7_laysNeeds 22 = .ok (.istore_n 3, 1) := by decide +kernel
theorem dX7_laysNeeds_23 : decode cX7_laysNeeds 23 = .ok (.iconst 0, 1) := by decide +kernel
theorem dX7_laysNeeds_24 : decode cX7_laysNeeds 24 = .ok (.istore 4, 2) := by decide +kernel
theorem dX7_laysNeeds_26 : decode cX7_laysNeeds 26 = .ok (.iload 4, 2) := by decide +kernel
theorem dX7_laysNeeds_28 : decode cX7_laysNeeds 28 = .ok (.aload_n 0, 1) := by decide +kernel
theorem dX7_laysNeeds_29 : decode cX7_laysNeeds 29 = .ok (.getfield 81, 3) := by decide +kernel
theorem dX7_laysNeeds_32 : decode cX7_laysNeeds 32 = .ok (.if_icmp .ge 76, 3) := by decide +kernel
theorem dX7_laysNeeds_35 : decode cX7_laysNeeds 35 = .ok (.aload_n 0, 1) := by decide +kernel
theorem dX7_laysNeeds_36 : decode cX7_laysNeeds 36 = .ok (.getfield 19, 3) := by decide +kernel
theorem dX7_laysNeeds_39 : decode cX7_laysNeeds 39 = .ok (.iload 4, 2) := by decide +kernel
theorem dX7_laysNeeds_41 : decode cX7_laysNeeds 41 = .ok (.iaload, 1) := by decide +kernel
theorem dX7_laysNeeds_42 : decode cX7_laysNeeds 42 = .ok (.iload_n 1, 1) := by decide +kernel
theorem dX7_laysNeeds_43 : decode cX7_laysNeeds 43 = .ok (.if_icmp .ne 59, 3) := by decide +kernel
theorem dX7_laysNeeds_46 : decode cX7_laysNeeds 46 = .ok (.aload_n 0, 1) := by decide +kernel
theorem dX7_laysNeeds_47 : decode cX7_laysNeeds 47 = .ok (.getfield 38, 3) := by decide +kernel
theorem dX7_laysNeeds_50 : decode cX7_laysNeeds 50 = .ok (.iload 4, 2) := by decide +kernel
theorem dX7_laysNeeds_52 : decode cX7_laysNeeds 52 = .ok (.aload_n 0, 1) := by decide +kernel
theorem dX7_laysNeeds_53 : decode cX7_laysNeeds 53 = .ok (.getfield 16, 3) := by decide +kernel
theorem dX7_laysNeeds_56 : decode cX7_laysNeeds 56 = .ok (.iload_n 1, 1) := by decide +kernel
theorem dX7_laysNeeds_57 : decode cX7_laysNeeds 57 = .ok (.iaload, 1) := by decide +kernel
theorem dX7_laysNeeds_58 : decode cX7_laysNeeds 58 = .ok (.aload_n 0, 1) := by decide +kernel
theorem dX7_laysNeeds_59 : decode cX7_laysNeeds 59 = .ok (.getfield 22, 3) := by decide +kernel
theorem dX7_laysNeeds_62 : decode cX7_laysNeeds 62 = .ok (.iload 4, 2) := by decide +kernel
theorem dX7_laysNeeds_64 : decode cX7_laysNeeds 64 = .ok (.iaload, 1) := by decide +kernel
theorem dX7_laysNeeds_65 : decode cX7_laysNeeds 65 = .ok (.imul, 1) := by decide +kernel
theorem dX7_laysNeeds_66 : decode cX7_laysNeeds 66 = .ok (.iload_n 2, 1) := by decide +kernel
theorem dX7_laysNeeds_67 : decode cX7_laysNeeds 67 = .ok (.idiv, 1) := by decide +kernel
theorem dX7_laysNeeds_68 : decode cX7_laysNeeds 68 = .ok (.iastore, 1) := by decide +kernel
theorem dX7_laysNeeds_69 : decode cX7_laysNeeds 69 = .ok (.aload_n 0, 1) := by decide +kernel
theorem dX7_laysNeeds_70 : decode cX7_laysNeeds 70 = .ok (.getfield 41, 3) := by decide +kernel
theorem dX7_laysNeeds_73 : decode cX7_laysNeeds 73 = .ok (.iload 4, 2) := by decide +kernel
theorem dX7_laysNeeds_75 : decode cX7_laysNeeds 75 = .ok (.aload_n 0, 1) := by decide +kernel
theorem dX7_laysNeeds_76 : decode cX7_laysNeeds 76 = .ok (.getfield 16, 3) := by decide +kernel
theorem dX7_laysNeeds_79 : decode cX7_laysNeeds 79 = .ok (.iload_n 1, 1) := by decide +kernel
theorem dX7_laysNeeds_80 : decode cX7_laysNeeds 80 = .ok (.iaload, 1) := by decide +kernel
theorem dX7_laysNeeds_81 : decode cX7_laysNeeds 81 = .ok (.aload_n 0, 1) := by decide +kernel
theorem dX7_laysNeeds_82 : decode cX7_laysNeeds 82 = .ok (.getfield 22, 3) := by decide +kernel
theorem dX7_laysNeeds_85 : decode cX7_laysNeeds 85 = .ok (.iload 4, 2) := by decide +kernel
theorem dX7_laysNeeds_87 : decode cX7_laysNeeds 87 = .ok (.iaload, 1) := by decide +kernel
theorem dX7_laysNeeds_88 : decode cX7_laysNeeds 88 = .ok (.imul, 1) := by decide +kernel
theorem dX7_laysNeeds_89 : decode cX7_laysNeeds 89 = .ok (.iload_n 2, 1) := by decide +kernel
theorem dX7_laysNeeds_90 : decode cX7_laysNeeds 90 = .ok (.irem, 1) := by decide +kernel
theorem dX7_laysNeeds_91 : decode cX7_laysNeeds 91 = .ok (.iastore, 1) := by decide +kernel
theorem dX7_laysNeeds_92 : decode cX7_laysNeeds 92 = .ok (.iload_n 3, 1) := by decide +kernel
theorem dX7_laysNeeds_93 : decode cX7_laysNeeds 93 = .ok (.aload_n 0, 1) := by decide +kernel
theorem dX7_laysNeeds_94 : decode cX7_laysNeeds 94 = .ok (.getfield 38, 3) := by decide +kernel
theorem dX7_laysNeeds_97 : decode cX7_laysNeeds 97 = .ok (.iload 4, 2) := by decide +kernel
theorem dX7_laysNeeds_99 : decode cX7_laysNeeds 99 = .ok (.iaload, 1) := by decide +kernel
theorem dX7_laysNeeds_100 : decode cX7_laysNeeds 100 = .ok (.isub, 1) := by decide +kernel
theorem dX7_laysNeeds_101 : decode cX7_laysNeeds 101 = .ok (.istore_n 3, 1) := by decide +kernel
theorem dX7_laysNeeds_102 : decode cX7_laysNeeds 102 = .ok (.iinc 4 1, 3) := by decide +kernel
theorem dX7_laysNeeds_105 : decode cX7_laysNeeds 105 = .ok (.goto (-79), 3) := by decide +kernel
theorem dX7_laysNeeds_108 : decode cX7_laysNeeds 108 = .ok (.iload_n 2, 1) := by decide +kernel
theorem dX7_laysNeeds_109 : decode cX7_laysNeeds 109 = .ok (.ifCond .le 96, 3) := by decide +kernel
theorem dX7_laysNeeds_112 : decode cX7_laysNeeds 112 = .ok (.iload_n 3, 1) := by decide +kernel
theorem dX7_laysNeeds_113 : decode cX7_laysNeeds 113 = .ok (.ifCond .le 92, 3) := by decide +kernel
theorem dX7_laysNeeds_116 : decode cX7_laysNeeds 116 = .ok (.iconst (-1), 1) := by decide +kernel
theorem dX7_laysNeeds_117 : decode cX7_laysNeeds 117 = .ok (.istore 4, 2) := by decide +kernel
theorem dX7_laysNeeds_119 : decode cX7_laysNeeds 119 = .ok (.iconst 0, 1) := by decide +kernel
theorem dX7_laysNeeds_120 : decode cX7_laysNeeds 120 = .ok (.istore 5, 2) := by decide +kernel
theorem dX7_laysNeeds_122 : decode cX7_laysNeeds 122 = .ok (.iload 5, 2) := by decide +kernel
theorem dX7_laysNeeds_124 : decode cX7_laysNeeds 124 = .ok (.aload_n 0, 1) := by decide +kernel
theorem dX7_laysNeeds_125 : decode cX7_laysNeeds 125 = .ok (.getfield 81, 3) := by decide +kernel
theorem dX7_laysNeeds_128 : decode cX7_laysNeeds 128 = .ok (.if_icmp .ge 52, 3) := by decide +kernel
theorem dX7_laysNeeds_131 : decode cX7_laysNeeds 131 = .ok (.aload_n 0, 1) := by decide +kernel
theorem dX7_laysNeeds_132 : decode cX7_laysNeeds 132 = .ok (.getfield 19, 3) := by decide +kernel
theorem dX7_laysNeeds_135 : decode cX7_laysNeeds 135 = .ok (.iload 5, 2) := by decide +kernel
theorem dX7_laysNeeds_137 : decode cX7_laysNeeds 137 = .ok (.iaload, 1) := by decide +kernel
theorem dX7_laysNeeds_138 : decode cX7_laysNeeds 138 = .ok (.iload_n 1, 1) := by decide +kernel
theorem dX7_laysNeeds_139 : decode cX7_laysNeeds 139 = .ok (.if_icmp .ne 31, 3) := by decide +kernel
theorem dX7_laysNeeds_142 : decode cX7_laysNeeds 142 = .ok (.iload 4, 2) := by decide +kernel
theorem dX7_laysNeeds_144 : decode cX7_laysNeeds 144 = .ok (.iconst (-1), 1) := by decide +kernel
theorem dX7_laysNeeds_145 : decode cX7_laysNeeds 145 = .ok (.if_icmp .eq 20, 3) := by decide +kernel
theorem dX7_laysNeeds_148 : decode cX7_laysNeeds 148 = .ok (.aload_n 0, 1) := by decide +kernel
theorem dX7_laysNeeds_149 : decode cX7_laysNeeds 149 = .ok (.getfield 41, 3) := by decide +kernel
theorem dX7_laysNeeds_152 : decode cX7_laysNeeds 152 = .ok (.iload 5, 2) := by decide +kernel
theorem dX7_laysNeeds_154 : decode cX7_laysNeeds 154 = .ok (.iaload, 1) := by decide +kernel
theorem dX7_laysNeeds_155 : decode cX7_laysNeeds 155 = .ok (.aload_n 0, 1) := by decide +kernel
theorem dX7_laysNeeds_156 : decode cX7_laysNeeds 156 = .ok (.getfield 41, 3) := by decide +kernel
theorem dX7_laysNeeds_159 : decode cX7_laysNeeds 159 = .ok (.iload 4, 2) := by decide +kernel
theorem dX7_laysNeeds_161 : decode cX7_laysNeeds 161 = .ok (.iaload, 1) := by decide +kernel
theorem dX7_laysNeeds_162 : decode cX7_laysNeeds 162 = .ok (.if_icmp .le 8, 3) := by decide +kernel
theorem dX7_laysNeeds_165 : decode cX7_laysNeeds 165 = .ok (.iload 5, 2) := by decide +kernel
theorem dX7_laysNeeds_167 : decode cX7_laysNeeds 167 = .ok (.goto 5, 3) := by decide +kernel
theorem dX7_laysNeeds_170 : decode cX7_laysNeeds 170 = .ok (.iload 4, 2) := by decide +kernel
theorem dX7_laysNeeds_172 : decode cX7_laysNeeds 172 = .ok (.istore 4, 2) := by decide +kernel
theorem dX7_laysNeeds_174 : decode cX7_laysNeeds 174 = .ok (.iinc 5 1, 3) := by decide +kernel
theorem dX7_laysNeeds_177 : decode cX7_laysNeeds 177 = .ok (.goto (-55), 3) := by decide +kernel
theorem dX7_laysNeeds_180 : decode cX7_laysNeeds 180 = .ok (.aload_n 0, 1) := by decide +kernel
theorem dX7_laysNeeds_181 : decode cX7_laysNeeds 181 = .ok (.getfield 38, 3) := by decide +kernel
theorem dX7_laysNeeds_184 : decode cX7_laysNeeds 184 = .ok (.iload 4, 2) := by decide +kernel
theorem dX7_laysNeeds_186 : decode cX7_laysNeeds 186 = .ok (.dup2, 1) := by decide +kernel
theorem dX7_laysNeeds_187 : decode cX7_laysNeeds 187 = .ok (.iaload, 1) := by decide +kernel
theorem dX7_laysNeeds_188 : decode cX7_laysNeeds 188 = .ok (.iconst 1, 1) := by decide +kernel
theorem dX7_laysNeeds_189 : decode cX7_laysNeeds 189 = .ok (.iadd, 1) := by decide +kernel
theorem dX7_laysNeeds_190 : decode cX7_laysNeeds 190 = .ok (.iastore, 1) := by decide +kernel
theorem dX7_laysNeeds_191 : decode cX7_laysNeeds 191 = .ok (.aload_n 0, 1) := by decide +kernel
theorem dX7_laysNeeds_192 : decode cX7_laysNeeds 192 = .ok (.getfield 41, 3) := by decide +kernel
theorem dX7_laysNeeds_195 : decode cX7_laysNeeds 195 = .ok (.iload 4, 2) := by decide +kernel
theorem dX7_laysNeeds_197 : decode cX7_laysNeeds 197 = .ok (.iconst (-1), 1) := by decide +kernel
theorem dX7_laysNeeds_198 : decode cX7_laysNeeds 198 = .ok (.iastore, 1) := by decide +kernel
theorem dX7_laysNeeds_199 : decode cX7_laysNeeds 199 = .ok (.iinc 3 (-1), 3) := by decide +kernel
theorem dX7_laysNeeds_202 : decode cX7_laysNeeds 202 = .ok (.goto (-94), 3) := by decide +kernel
theorem dX7_laysNeeds_205 : decode cX7_laysNeeds 205 = .ok (.iinc 1 1, 3) := by decide +kernel
theorem dX7_laysNeeds_208 : decode cX7_laysNeeds 208 = .ok (.goto (-206), 3) := by decide +kernel
theorem dX7_laysNeeds_211 : decode cX7_laysNeeds 211 = .ok (.return_, 1) := by decide +kernel
theorem dX7_loadOf_0 : decode cX7_loadOf 0 = .ok (.iconst 0, 1) := by decide +kernel
theorem dX7_loadOf_1 : decode cX7_loadOf 1 = .ok (.istore_n 2, 1) := by decide +kernel
theorem dX7_loadOf_2 : decode cX7_loadOf 2 = .ok (.iconst 0, 1) := by decide +kernel
theorem dX7_loadOf_3 : decode cX7_loadOf 3 = .ok (.istore_n 3, 1) := by decide +kernel
theorem dX7_loadOf_4 : decode cX7_loadOf 4 = .ok (.iload_n 3, 1) := by decide +kernel
theorem dX7_loadOf_5 : decode cX7_loadOf 5 = .ok (.aload_n 0, 1) := by decide +kernel
theorem dX7_loadOf_6 : decode cX7_loadOf 6 = .ok (.getfield 81, 3) := by decide +kernel
theorem dX7_loadOf_9 : decode cX7_loadOf 9 = .ok (.if_icmp .ge 32, 3) := by decide +kernel
theorem dX7_loadOf_12 : decode cX7_loadOf 12 = .ok (.iload_n 2, 1) := by decide +kernel
theorem dX7_loadOf_13 : decode cX7_loadOf 13 = .ok (.aload_n 0, 1) := by decide +kernel
theorem dX7_loadOf_14 : decode cX7_loadOf 14 = .ok (.getfield 25, 3) := by decide +kernel
theorem dX7_loadOf_17 : decode cX7_loadOf 17 = .ok (.iload_n 3, 1) := by decide +kernel
theorem dX7_loadOf_18 : decode cX7_loadOf 18 = .ok (.iaload, 1) := by decide +kernel
theorem dX7_loadOf_19 : decode cX7_loadOf 19 = .ok (.iload_n 1, 1) := by decide +kernel
theorem dX7_loadOf_20 : decode cX7_loadOf 20 = .ok (.if_icmp .ne 12, 3) := by decide +kernel
theorem dX7_loadOf_23 : decode cX7_loadOf 23 = .ok (.aload_n 0, 1) := by decide +kernel
theorem dX7_loadOf_24 : decode cX7_loadOf 24 = .ok (.getfield 22, 3) := by decide +kernel
theorem dX7_loadOf_27 : decode cX7_loadOf 27 = .ok (.iload_n 3, 1) := by decide +kernel
theorem dX7_loadOf_28 : decode cX7_loadOf 28 = .ok (.iaload, 1) := by decide +kernel
theorem dX7_loadOf_29 : decode cX7_loadOf 29 = .ok (.goto 4, 3) := by decide +kernel
theorem dX7_loadOf_32 : decode cX7_loadOf 32 = .ok (.iconst 0, 1) := by decide +kernel
theorem dX7_loadOf_33 : decode cX7_loadOf 33 = .ok (.iadd, 1) := by decide +kernel
theorem dX7_loadOf_34 : decode cX7_loadOf 34 = .ok (.istore_n 2, 1) := by decide +kernel
theorem dX7_loadOf_35 : decode cX7_loadOf 35 = .ok (.iinc 3 1, 3) := by decide +kernel
theorem dX7_loadOf_38 : decode cX7_loadOf 38 = .ok (.goto (-34), 3) := by decide +kernel
theorem dX7_loadOf_41 : decode cX7_loadOf 41 = .ok (.iload_n 2, 1) := by decide +kernel
theorem dX7_loadOf_42 : decode cX7_loadOf 42 = .ok (.ireturn, 1) := by decide +kernel
theorem dX7_rateOf_0 : decode cX7_rateOf 0 = .ok (.aload_n 0, 1) := by decide +kernel
theorem dX7_rateOf_1 : decode cX7_rateOf 1 = .ok (.invokevirtual 91, 3) := by decide +kernel
theorem dX7_rateOf_4 : decode cX7_rateOf 4 = .ok (.iconst 0, 1) := by decide +kernel
theorem dX7_rateOf_5 : decode cX7_rateOf 5 = .ok (.istore_n 2, 1) := by decide +kernel
theorem dX7_rateOf_6 : decode cX7_rateOf 6 = .ok (.iconst 0, 1) := by decide +kernel
theorem dX7_rateOf_7 : decode cX7_rateOf 7 = .ok (.istore_n 3, 1) := by decide +kernel
theorem dX7_rateOf_8 : decode cX7_rateOf 8 = .ok (.iload_n 3, 1) := by decide +kernel
theorem dX7_rateOf_9 : decode cX7_rateOf 9 = .ok (.aload_n 0, 1) := by decide +kernel
theorem dX7_rateOf_10 : decode cX7_rateOf 10 = .ok (.getfield 81, 3) := by decide +kernel
theorem dX7_rateOf_13 : decode cX7_rateOf 13 = .ok (.if_icmp .ge 32, 3) := by decide +kernel
theorem dX7_rateOf_16 : decode cX7_rateOf 16 = .ok (.iload_n 2, 1) := by decide +kernel
theorem dX7_rateOf_17 : decode cX7_rateOf 17 = .ok (.aload_n 0, 1) := by decide +kernel
theorem dX7_rateOf_18 : decode cX7_rateOf 18 = .ok (.getfield 25, 3) := by decide +kernel
theorem dX7_rateOf_21 : decode cX7_rateOf 21 = .ok (.iload_n 3, 1) := by decide +kernel
theorem dX7_rateOf_22 : decode cX7_rateOf 22 = .ok (.iaload, 1) := by decide +kernel
theorem dX7_rateOf_23 : decode cX7_rateOf 23 = .ok (.iload_n 1, 1) := by decide +kernel
theorem dX7_rateOf_24 : decode cX7_rateOf 24 = .ok (.if_icmp .ne 12, 3) := by decide +kernel
theorem dX7_rateOf_27 : decode cX7_rateOf 27 = .ok (.aload_n 0, 1) := by decide +kernel
theorem dX7_rateOf_28 : decode cX7_rateOf 28 = .ok (.getfield 38, 3) := by decide +kernel
theorem dX7_rateOf_31 : decode cX7_rateOf 31 = .ok (.iload_n 3, 1) := by decide +kernel
theorem dX7_rateOf_32 : decode cX7_rateOf 32 = .ok (.iaload, 1) := by decide +kernel
theorem dX7_rateOf_33 : decode cX7_rateOf 33 = .ok (.goto 4, 3) := by decide +kernel
theorem dX7_rateOf_36 : decode cX7_rateOf 36 = .ok (.iconst 0, 1) := by decide +kernel
theorem dX7_rateOf_37 : decode cX7_rateOf 37 = .ok (.iadd, 1) := by decide +kernel
theorem dX7_rateOf_38 : decode cX7_rateOf 38 = .ok (.istore_n 2, 1) := by decide +kernel
theorem dX7_rateOf_39 : decode cX7_rateOf 39 = .ok (.iinc 3 1, 3) := by decide +kernel
theorem dX7_rateOf_42 : decode cX7_rateOf 42 = .ok (.goto (-34), 3) := by decide +kernel
theorem dX7_rateOf_45 : decode cX7_rateOf 45 = .ok (.iload_n 2, 1) := by decide +kernel
theorem dX7_rateOf_46 : decode cX7_rateOf 46 = .ok (.ireturn, 1) := by decide +kernel
theorem dX7_lastsOf_0 : decode cX7_lastsOf 0 = .ok (.aload_n 0, 1) := by decide +kernel
theorem dX7_lastsOf_1 : decode cX7_lastsOf 1 = .ok (.iload_n 1, 1) := by decide +kernel
theorem dX7_lastsOf_2 : decode cX7_lastsOf 2 = .ok (.invokevirtual 94, 3) := by decide +kernel
theorem dX7_lastsOf_5 : decode cX7_lastsOf 5 = .ok (.istore_n 2, 1) := by decide +kernel
theorem dX7_lastsOf_6 : decode cX7_lastsOf 6 = .ok (.iload_n 2, 1) := by decide +kernel
theorem dX7_lastsOf_7 : decode cX7_lastsOf 7 = .ok (.ifCond .ne 9, 3) := by decide +kernel
theorem dX7_lastsOf_10 : decode cX7_lastsOf 10 = .ok (.sipush 999, 3) := by decide +kernel
theorem dX7_lastsOf_13 : decode cX7_lastsOf 13 = .ok (.goto 17, 3) := by decide +kernel
theorem dX7_lastsOf_16 : decode cX7_lastsOf 16 = .ok (.aload_n 0, 1) := by decide +kernel
theorem dX7_lastsOf_17 : decode cX7_lastsOf 17 = .ok (.getfield 7, 3) := by decide +kernel
theorem dX7_lastsOf_20 : decode cX7_lastsOf 20 = .ok (.iload_n 1, 1) := by decide +kernel
theorem dX7_lastsOf_21 : decode cX7_lastsOf 21 = .ok (.iaload, 1) := by decide +kernel
theorem dX7_lastsOf_22 : decode cX7_lastsOf 22 = .ok (.aload_n 0, 1) := by decide +kernel
theorem dX7_lastsOf_23 : decode cX7_lastsOf 23 = .ok (.iload_n 1, 1) := by decide +kernel
theorem dX7_lastsOf_24 : decode cX7_lastsOf 24 = .ok (.invokevirtual 97, 3) := by decide +kernel
theorem dX7_lastsOf_27 : decode cX7_lastsOf 27 = .ok (.isub, 1) := by decide +kernel
theorem dX7_lastsOf_28 : decode cX7_lastsOf 28 = .ok (.iload_n 2, 1) := by decide +kernel
theorem dX7_lastsOf_29 : decode cX7_lastsOf 29 = .ok (.idiv, 1) := by decide +kernel
theorem dX7_lastsOf_30 : decode cX7_lastsOf 30 = .ok (.istore_n 3, 1) := by decide +kernel
theorem dX7_lastsOf_31 : decode cX7_lastsOf 31 = .ok (.iload_n 3, 1) := by decide +kernel
theorem dX7_lastsOf_32 : decode cX7_lastsOf 32 = .ok (.sipush 999, 3) := by decide +kernel
theorem dX7_lastsOf_35 : decode cX7_lastsOf 35 = .ok (.if_icmp .le 9, 3) := by decide +kernel
theorem dX7_lastsOf_38 : decode cX7_lastsOf 38 = .ok (.sipush 999, 3) := by decide +kernel
theorem dX7_lastsOf_41 : decode cX7_lastsOf 41 = .ok (.goto 4, 3) := by decide +kernel
theorem dX7_lastsOf_44 : decode cX7_lastsOf 44 = .ok (.iload_n 3, 1) := by decide +kernel
theorem dX7_lastsOf_45 : decode cX7_lastsOf 45 = .ok (.ireturn, 1) := by decide +kernel
theorem dX7_firstOn_0 : decode cX7_firstOn 0 = .ok (.iconst 0, 1) := by decide +kernel
theorem dX7_firstOn_1 : decode cX7_firstOn 1 = .ok (.istore_n 2, 1) := by decide +kernel
theorem dX7_firstOn_2 : decode cX7_firstOn 2 = .ok (.iload_n 2, 1) := by decide +kernel
theorem dX7_firstOn_3 : decode cX7_firstOn 3 = .ok (.aload_n 0, 1) := by decide +kernel
theorem dX7_firstOn_4 : decode cX7_firstOn 4 = .ok (.getfield 81, 3) := by decide +kernel
theorem dX7_firstOn_7 : decode cX7_firstOn 7 = .ok (.if_icmp .ge 21, 3) := by decide +kernel
theorem dX7_firstOn_10 : decode cX7_firstOn 10 = .ok (.aload_n 0, 1) := by decide +kernel
theorem dX7_firstOn_11 : decode cX7_firstOn 11 = .ok (.getfield 25, 3) := by decide +kernel
theorem dX7_firstOn_14 : decode cX7_firstOn 14 = .ok (.iload_n 2, 1) := by decide +kernel
theorem dX7_firstOn_15 : decode cX7_firstOn 15 = .ok (.iaload, 1) := by decide +kernel
theorem dX7_firstOn_16 : decode cX7_firstOn 16 = .ok (.iload_n 1, 1) := by decide +kernel
theorem dX7_firstOn_17 : decode cX7_firstOn 17 = .ok (.if_icmp .ne 5, 3) := by decide +kernel
theorem dX7_firstOn_20 : decode cX7_firstOn 20 = .ok (.iload_n 2, 1) := by decide +kernel
theorem dX7_firstOn_21 : decode cX7_firstOn 21 = .ok (.ireturn, 1) := by decide +kernel
theorem dX7_firstOn_22 : decode cX7_firstOn 22 = .ok (.iinc 2 1, 3) := by decide +kernel
theorem dX7_firstOn_25 : decode cX7_firstOn 25 = .ok (.goto (-23), 3) := by decide +kernel
theorem dX7_firstOn_28 : decode cX7_firstOn 28 = .ok (.iconst (-1), 1) := by decide +kernel
theorem dX7_firstOn_29 : decode cX7_firstOn 29 = .ok (.ireturn, 1) := by decide +kernel
theorem dX7_manyOn_0 : decode cX7_manyOn 0 = .ok (.iconst 0, 1) := by decide +kernel
theorem dX7_manyOn_1 : decode cX7_manyOn 1 = .ok (.istore_n 2, 1) := by decide +kernel
theorem dX7_manyOn_2 : decode cX7_manyOn 2 = .ok (.iconst 0, 1) := by decide +kernel
theorem dX7_manyOn_3 : decode cX7_manyOn 3 = .ok (.istore_n 3, 1) := by decide +kernel
theorem dX7_manyOn_4 : decode cX7_manyOn 4 = .ok (.iload_n 3, 1) := by decide +kernel
theorem dX7_manyOn_5 : decode cX7_manyOn 5 = .ok (.aload_n 0, 1) := by decide +kernel
theorem dX7_manyOn_6 : decode cX7_manyOn 6 = .ok (.getfield 81, 3) := by decide +kernel
theorem dX7_manyOn_9 : decode cX7_manyOn 9 = .ok (.if_icmp .ge 27, 3) := by decide +kernel
theorem dX7_manyOn_12 : decode cX7_manyOn 12 = .ok (.iload_n 2, 1) := by decide +kernel
theorem dX7_manyOn_13 : decode cX7_manyOn 13 = .ok (.aload_n 0, 1) := by decide +kernel
theorem dX7_manyOn_14 : decode cX7_manyOn 14 = .ok (.getfield 25, 3) := by decide +kernel
theorem dX7_manyOn_17 : decode cX7_manyOn 17 = .ok (.iload_n 3, 1) := by decide +kernel
theorem dX7_manyOn_18 : decode cX7_manyOn 18 = .ok (.iaload, 1) := by decide +kernel
theorem dX7_manyOn_19 : decode cX7_manyOn 19 = .ok (.iload_n 1, 1) := by decide +kernel
theorem dX7_manyOn_20 : decode cX7_manyOn 20 = .ok (.if_icmp .ne 7, 3) := by decide +kernel
theorem dX7_manyOn_23 : decode cX7_manyOn 23 = .ok (.iconst 1, 1) := by decide +kernel
theorem dX7_manyOn_24 : decode cX7_manyOn 24 = .ok (.goto 4, 3) := by decide +kernel
theorem dX7_manyOn_27 : decode cX7_manyOn 27 = .ok (.iconst 0, 1) := by decide +kernel
theorem dX7_manyOn_28 : decode cX7_manyOn 28 = .ok (.iadd, 1) := by decide +kernel
theorem dX7_manyOn_29 : decode cX7_manyOn 29 = .ok (.istore_n 2, 1) := by decide +kernel
theorem dX7_manyOn_30 : decode cX7_manyOn 30 = .ok (.iinc 3 1, 3) := by decide +kernel
theorem dX7_manyOn_33 : decode cX7_manyOn 33 = .ok (.goto (-29), 3) := by decide +kernel
theorem dX7_manyOn_36 : decode cX7_manyOn 36 = .ok (.iload_n 2, 1) := by decide +kernel
theorem dX7_manyOn_37 : decode cX7_manyOn 37 = .ok (.ireturn, 1) := by decide +kernel
theorem dX7_cell_0 : decode cX7_cell 0 = .ok (.bipush 61, 2) := by decide +kernel
theorem dX7_cell_2 : decode cX7_cell 2 = .ok (.iload_n 1, 1) := by decide +kernel
theorem dX7_cell_3 : decode cX7_cell 3 = .ok (.imul, 1) := by decide +kernel
theorem dX7_cell_4 : decode cX7_cell 4 = .ok (.iload_n 2, 1) := by decide +kernel
theorem dX7_cell_5 : decode cX7_cell 5 = .ok (.iadd, 1) := by decide +kernel
theorem dX7_cell_6 : decode cX7_cell 6 = .ok (.ireturn, 1) := by decide +kernel
theorem dX7_costOf_0 : decode cX7_costOf 0 = .ok (.iload_n 3, 1) := by decide +kernel
theorem dX7_costOf_1 : decode cX7_costOf 1 = .ok (.ifCond .le 18, 3) := by decide +kernel
theorem dX7_costOf_4 : decode cX7_costOf 4 = .ok (.aload_n 0, 1) := by decide +kernel
theorem dX7_costOf_5 : decode cX7_costOf 5 = .ok (.getfield 13, 3) := by decide +kernel
theorem dX7_costOf_8 : decode cX7_costOf 8 = .ok (.iload_n 1, 1) := by decide +kernel
theorem dX7_costOf_9 : decode cX7_costOf 9 = .ok (.iaload, 1) := by decide +kernel
theorem dX7_costOf_10 : decode cX7_costOf 10 = .ok (.iconst 1, 1) := by decide +kernel
theorem dX7_costOf_11 : decode cX7_costOf 11 = .ok (.if_icmp .ne 8, 3) := by decide +kernel
theorem dX7_costOf_14 : decode cX7_costOf 14 = .ok (.ldc 100, 2) := by decide +kernel
theorem dX7_costOf_16 : decode cX7_costOf 16 = .ok (.goto 4, 3) := by decide +kernel
theorem dX7_costOf_19 : decode cX7_costOf 19 = .ok (.iconst 0, 1) := by decide +kernel
theorem dX7_costOf_20 : decode cX7_costOf 20 = .ok (.istore 4, 2) := by decide +kernel
theorem dX7_costOf_22 : decode cX7_costOf 22 = .ok (.iload_n 2, 1) := by decide +kernel
theorem dX7_costOf_23 : decode cX7_costOf 23 = .ok (.istore 5, 2) := by decide +kernel
theorem dX7_costOf_25 : decode cX7_costOf 25 = .ok (.iload 5, 2) := by decide +kernel
theorem dX7_costOf_27 : decode cX7_costOf 27 = .ok (.iload_n 2, 1) := by decide +kernel
theorem dX7_costOf_28 : decode cX7_costOf 28 = .ok (.iload_n 3, 1) := by decide +kernel
theorem dX7_costOf_29 : decode cX7_costOf 29 = .ok (.iadd, 1) := by decide +kernel
theorem dX7_costOf_30 : decode cX7_costOf 30 = .ok (.if_icmp .ge 52, 3) := by decide +kernel
theorem dX7_costOf_33 : decode cX7_costOf 33 = .ok (.iload 4, 2) := by decide +kernel
theorem dX7_costOf_35 : decode cX7_costOf 35 = .ok (.aload_n 0, 1) := by decide +kernel
theorem dX7_costOf_36 : decode cX7_costOf 36 = .ok (.getfield 25, 3) := by decide +kernel
theorem dX7_costOf_39 : decode cX7_costOf 39 = .ok (.iload 5, 2) := by decide +kernel
theorem dX7_costOf_41 : decode cX7_costOf 41 = .ok (.iaload, 1) := by decide +kernel
theorem dX7_costOf_42 : decode cX7_costOf 42 = .ok (.iload_n 1, 1) := by decide +kernel
theorem dX7_costOf_43 : decode cX7_costOf 43 = .ok (.if_icmp .eq 29, 3) := by decide +kernel
theorem dX7_costOf_46 : decode cX7_costOf 46 = .ok (.aload_n 0, 1) := by decide +kernel
theorem dX7_costOf_47 : decode cX7_costOf 47 = .ok (.getfield 25, 3) := by decide +kernel
theorem dX7_costOf_50 : decode cX7_costOf 50 = .ok (.iload 5, 2) := by decide +kernel
theorem dX7_costOf_52 : decode cX7_costOf 52 = .ok (.iaload, 1) := by decide +kernel
theorem dX7_costOf_53 : decode cX7_costOf 53 = .ok (.iconst (-1), 1) := by decide +kernel
theorem dX7_costOf_54 : decode cX7_costOf 54 = .ok (.if_icmp .eq 18, 3) := by decide +kernel
theorem dX7_costOf_57 : decode cX7_costOf 57 = .ok (.bipush 100, 2) := by decide +kernel
theorem dX7_costOf_59 : decode cX7_costOf 59 = .ok (.aload_n 0, 1) := by decide +kernel
theorem dX7_costOf_60 : decode cX7_costOf 60 = .ok (.getfield 22, 3) := by decide +kernel
theorem dX7_costOf_63 : decode cX7_costOf 63 = .ok (.iload 5, 2) := by decide +kernel
theorem dX7_costOf_65 : decode cX7_costOf 65 = .ok (.iaload, 1) := by decide +kernel
theorem dX7_costOf_66 : decode cX7_costOf 66 = .ok (.imul, 1) := by decide +kernel
theorem dX7_costOf_67 : decode cX7_costOf 67 = .ok (.iconst 1, 1) := by decide +kernel
theorem dX7_costOf_68 : decode cX7_costOf 68 = .ok (.iadd, 1) := by decide +kernel
theorem dX7_costOf_69 : decode cX7_costOf 69 = .ok (.goto 4, 3) := by decide +kernel
theorem dX7_costOf_72 : decode cX7_costOf 72 = .ok (.iconst 0, 1) := by decide +kernel
theorem dX7_costOf_73 : decode cX7_costOf 73 = .ok (.iadd, 1) := by decide +kernel
theorem dX7_costOf_74 : decode cX7_costOf 74 = .ok (.istore 4, 2) := by decide +kernel
theorem dX7_costOf_76 : decode cX7_costOf 76 = .ok (.iinc 5 1, 3) := by decide +kernel
theorem dX7_costOf_79 : decode cX7_costOf 79 = .ok (.goto (-54), 3) := by decide +kernel
theorem dX7_costOf_82 : decode cX7_costOf 82 = .ok (.iload 4, 2) := by decide +kernel
theorem dX7_costOf_84 : decode cX7_costOf 84 = .ok (.ireturn, 1) := by decide +kernel
theorem dX7_mostOn_0 : decode cX7_mostOn 0 = .ok (.iconst 0, 1) := by decide +kernel
theorem dX7_mostOn_1 : decode cX7_mostOn 1 = .ok (.istore_n 3, 1) := by decide +kernel
theorem dX7_mostOn_2 : decode cX7_mostOn 2 = .ok (.aload_n 0, 1) := by decide +kernel
theorem dX7_mostOn_3 : decode cX7_mostOn 3 = .ok (.getfield 7, 3) := by decide +kernel
theorem dX7_mostOn_6 : decode cX7_mostOn 6 = .ok (.iload_n 1, 1) := by decide +kernel
theorem dX7_mostOn_7 : decode cX7_mostOn 7 = .ok (.iaload, 1) := by decide +kernel
theorem dX7_mostOn_8 : decode cX7_mostOn 8 = .ok (.istore 4, 2) := by decide +kernel
theorem dX7_mostOn_10 : decode cX7_mostOn 10 = .ok (.aload_n 0, 1) := by decide +kernel
theorem dX7_mostOn_11 : decode cX7_mostOn 11 = .ok (.getfield 13, 3) := by decide +kernel
theorem dX7_mostOn_14 : decode cX7_mostOn 14 = .ok (.iload_n 1, 1) := by decide +kernel
theorem dX7_mostOn_15 : decode cX7_mostOn 15 = .ok (.iaload, 1) := by decide +kernel
theorem dX7_mostOn_16 : decode cX7_mostOn 16 = .ok (.iconst 2, 1) := by decide +kernel
theorem dX7_mostOn_17 : decode cX7_mostOn 17 = .ok (.if_icmp .eq 45, 3) := by decide +kernel
theorem dX7_mostOn_20 : decode cX7_mostOn 20 = .ok (.iload_n 2, 1) := by decide +kernel
theorem dX7_mostOn_21 : decode cX7_mostOn 21 = .ok (.iload_n 3, 1) := by decide +kernel
theorem dX7_mostOn_22 : decode cX7_mostOn 22 = .ok (.iadd, 1) := by decide +kernel
theorem dX7_mostOn_23 : decode cX7_mostOn 23 = .ok (.aload_n 0, 1) := by decide +kernel
theorem dX7_mostOn_24 : decode cX7_mostOn 24 = .ok (.getfield 81, 3) := by decide +kernel
theorem dX7_mostOn_27 : decode cX7_mostOn 27 = .ok (.if_icmp .ge 35, 3) := by decide +kernel
theorem dX7_mostOn_30 : decode cX7_mostOn 30 = .ok (.aload_n 0, 1) := by decide +kernel
theorem dX7_mostOn_31 : decode cX7_mostOn 31 = .ok (.getfield 50, 3) := by decide +kernel
theorem dX7_mostOn_34 : decode cX7_mostOn 34 = .ok (.iload_n 2, 1) := by decide +kernel
theorem dX7_mostOn_35 : decode cX7_mostOn 35 = .ok (.iload_n 3, 1) := by decide +kernel
theorem dX7_mostOn_36 : decode cX7_mostOn 36 = .ok (.iadd, 1) := by decide +kernel
theorem dX7_mostOn_37 : decode cX7_mostOn 37 = .ok (.iaload, 1) := by decide +kernel
theorem dX7_mostOn_38 : decode cX7_mostOn 38 = .ok (.iload 4, 2) := by decide +kernel
theorem dX7_mostOn_40 : decode cX7_mostOn 40 = .ok (.if_icmp .gt 22, 3) := by decide +kernel
theorem dX7_mostOn_43 : decode cX7_mostOn 43 = .ok (.iload 4, 2) := by decide +kernel
theorem dX7_mostOn_45 : decode cX7_mostOn 45 = .ok (.aload_n 0, 1) := by decide +kernel
theorem dX7_mostOn_46 : decode cX7_mostOn 46 = .ok (.getfield 50, 3) := by decide +kernel
theorem dX7_mostOn_49 : decode cX7_mostOn 49 = .ok (.iload_n 2, 1) := by decide +kernel
theorem dX7_mostOn_50 : decode cX7_mostOn 50 = .ok (.iload_n 3, 1) := by decide +kernel
theorem dX7_mostOn_51 : decode cX7_mostOn 51 = .ok (.iadd, 1) := by decide +kernel
theorem dX7_mostOn_52 : decode cX7_mostOn 52 = .ok (.iaload, 1) := by decide +kernel
theorem dX7_mostOn_53 : decode cX7_mostOn 53 = .ok (.isub, 1) := by decide +kernel
theorem dX7_mostOn_54 : decode cX7_mostOn 54 = .ok (.istore 4, 2) := by decide +kernel
theorem dX7_mostOn_56 : decode cX7_mostOn 56 = .ok (.iinc 3 1, 3) := by decide +kernel
theorem dX7_mostOn_59 : decode cX7_mostOn 59 = .ok (.goto (-49), 3) := by decide +kernel
theorem dX7_mostOn_62 : decode cX7_mostOn 62 = .ok (.iload_n 3, 1) := by decide +kernel
theorem dX7_mostOn_63 : decode cX7_mostOn 63 = .ok (.ireturn, 1) := by decide +kernel
theorem dX7_cuts_0 : decode cX7_cuts 0 = .ok (.aload_n 0, 1) := by decide +kernel
theorem dX7_cuts_1 : decode cX7_cuts 1 = .ok (.invokevirtual 91, 3) := by decide +kernel
theorem dX7_cuts_4 : decode cX7_cuts 4 = .ok (.iconst 0, 1) := by decide +kernel
theorem dX7_cuts_5 : decode cX7_cuts 5 = .ok (.istore_n 2, 1) := by decide +kernel
theorem dX7_cuts_6 : decode cX7_cuts 6 = .ok (.iload_n 2, 1) := by decide +kernel
theorem dX7_cuts_7 : decode cX7_cuts 7 = .ok (.aload_n 0, 1) := by decide +kernel
theorem dX7_cuts_8 : decode cX7_cuts 8 = .ok (.getfield 81, 3) := by decide +kernel
theorem dX7_cuts_11 : decode cX7_cuts 11 = .ok (.if_icmp .ge 30, 3) := by decide +kernel
theorem dX7_cuts_14 : decode cX7_cuts 14 = .ok (.aload_n 0, 1) := by decide +kernel
theorem dX7_cuts_15 : decode cX7_cuts 15 = .ok (.getfield 50, 3) := by decide +kernel
theorem dX7_cuts_18 : decode cX7_cuts 18 = .ok (.iload_n 2, 1) := by decide +kernel
theorem dX7_cuts_19 : decode cX7_cuts 19 = .ok (.aload_n 0, 1) := by decide +kernel
theorem dX7_cuts_20 : decode cX7_cuts 20 = .ok (.getfield 22, 3) := by decide +kernel
theorem dX7_cuts_23 : decode cX7_cuts 23 = .ok (.iload_n 2, 1) := by decide +kernel
theorem dX7_cuts_24 : decode cX7_cuts 24 = .ok (.iaload, 1) := by decide +kernel
theorem dX7_cuts_25 : decode cX7_cuts 25 = .ok (.iload_n 1, 1) := by decide +kernel
theorem dX7_cuts_26 : decode cX7_cuts 26 = .ok (.aload_n 0, 1) := by decide +kernel
theorem dX7_cuts_27 : decode cX7_cuts 27 = .ok (.getfield 38, 3) := by decide +kernel
theorem dX7_cuts_30 : decode cX7_cuts 30 = .ok (.iload_n 2, 1) := by decide +kernel
theorem dX7_cuts_31 : decode cX7_cuts 31 = .ok (.iaload, 1) := by decide +kernel
theorem dX7_cuts_32 : decode cX7_cuts 32 = .ok (.imul, 1) := by decide +kernel
theorem dX7_cuts_33 : decode cX7_cuts 33 = .ok (.iadd, 1) := by decide +kernel
theorem dX7_cuts_34 : decode cX7_cuts 34 = .ok (.iastore, 1) := by decide +kernel
theorem dX7_cuts_35 : decode cX7_cuts 35 = .ok (.iinc 2 1, 3) := by decide +kernel
theorem dX7_cuts_38 : decode cX7_cuts 38 = .ok (.goto (-32), 3) := by decide +kernel
theorem dX7_cuts_41 : decode cX7_cuts 41 = .ok (.iconst 0, 1) := by decide +kernel
theorem dX7_cuts_42 : decode cX7_cuts 42 = .ok (.istore_n 2, 1) := by decide +kernel
theorem dX7_cuts_43 : decode cX7_cuts 43 = .ok (.iload_n 2, 1) := by decide +kernel
theorem dX7_cuts_44 : decode cX7_cuts 44 = .ok (.aload_n 0, 1) := by decide +kernel
theorem dX7_cuts_45 : decode cX7_cuts 45 = .ok (.getfield 81, 3) := by decide +kernel
theorem dX7_cuts_48 : decode cX7_cuts 48 = .ok (.if_icmp .gt 37, 3) := by decide +kernel
theorem dX7_cuts_51 : decode cX7_cuts 51 = .ok (.aload_n 0, 1) := by decide +kernel
theorem dX7_cuts_52 : decode cX7_cuts 52 = .ok (.getfield 44, 3) := by decide +kernel
theorem dX7_cuts_55 : decode cX7_cuts 55 = .ok (.aload_n 0, 1) := by decide +kernel
theorem dX7_cuts_56 : decode cX7_cuts 56 = .ok (.aload_n 0, 1) := by decide +kernel
theorem dX7_cuts_57 : decode cX7_cuts 57 = .ok (.getfield 71, 3) := by decide +kernel
theorem dX7_cuts_60 : decode cX7_cuts 60 = .ok (.iload_n 2, 1) := by decide +kernel
theorem dX7_cuts_61 : decode cX7_cuts 61 = .ok (.invokevirtual 101, 3) := by decide +kernel
theorem dX7_cuts_64 : decode cX7_cuts 64 = .ok (.iload_n 2, 1) := by decide +kernel
theorem dX7_cuts_65 : decode cX7_cuts 65 = .ok (.aload_n 0, 1) := by decide +kernel
theorem dX7_cuts_66 : decode cX7_cuts 66 = .ok (.getfield 81, 3) := by decide +kernel
theorem dX7_cuts_69 : decode cX7_cuts 69 = .ok (.if_icmp .ne 7, 3) := by decide +kernel
theorem dX7_cuts_72 : decode cX7_cuts 72 = .ok (.iconst 0, 1) := by decide +kernel
theorem dX7_cuts_73 : decode cX7_cuts 73 = .ok (.goto 5, 3) := by decide +kernel
theorem dX7_cuts_76 : decode cX7_cuts 76 = .ok (.ldc 105, 2) := by decide +kernel
theorem dX7_cuts_78 : decode cX7_cuts 78 = .ok (.iastore, 1) := by decide +kernel
theorem dX7_cuts_79 : decode cX7_cuts 79 = .ok (.iinc 2 1, 3) := by decide +kernel
theorem dX7_cuts_82 : decode cX7_cuts 82 = .ok (.goto (-39), 3) := by decide +kernel
theorem dX7_cuts_85 : decode cX7_cuts 85 = .ok (.aload_n 0, 1) := by decide +kernel
theorem dX7_cuts_86 : decode cX7_cuts 86 = .ok (.getfield 71, 3) := by decide +kernel
theorem dX7_cuts_89 : decode cX7_cuts 89 = .ok (.iconst 1, 1) := by decide +kernel
theorem dX7_cuts_90 : decode cX7_cuts 90 = .ok (.isub, 1) := by decide +kernel
theorem dX7_cuts_91 : decode cX7_cuts 91 = .ok (.istore_n 2, 1) := by decide +kernel
theorem dX7_cuts_92 : decode cX7_cuts 92 = .ok (.iload_n 2, 1) := by decide +kernel
theorem dX7_cuts_93 : decode cX7_cuts 93 = .ok (.ifCond .lt 31, 3) := by decide +kernel
theorem dX7_cuts_96 : decode cX7_cuts 96 = .ok (.iconst 0, 1) := by decide +kernel
theorem dX7_cuts_97 : decode cX7_cuts 97 = .ok (.istore_n 3, 1) := by decide +kernel
theorem dX7_cuts_98 : decode cX7_cuts 98 = .ok (.iload_n 3, 1) := by decide +kernel
theorem dX7_cuts_99 : decode cX7_cuts 99 = .ok (.aload_n 0, 1) := by decide +kernel
theorem dX7_cuts_100 : decode cX7_cuts 100 = .ok (.getfield 81, 3) := by decide +kernel
theorem dX7_cuts_103 : decode cX7_cuts 103 = .ok (.if_icmp .gt 15, 3) := by decide +kernel
theorem dX7_cuts_106 : decode cX7_cuts 106 = .ok (.aload_n 0, 1) := by decide +kernel
theorem dX7_cuts_107 : decode cX7_cuts 107 = .ok (.iload_n 2, 1) := by decide +kernel
theorem dX7_cuts_108 : decode cX7_cuts 108 = .ok (.iload_n 3, 1) := by decide +kernel
theorem dX7_cuts_109 : decode cX7_cuts 109 = .ok (.invokevirtual 106, 3) := by decide +kernel
theorem dX7_cuts_112 : decode cX7_cuts 112 = .ok (.iinc 3 1, 3) := by decide +kernel
theorem dX7_cuts_115 : decode cX7_cuts 115 = .ok (.goto (-17), 3) := by decide +kernel
theorem dX7_cuts_118 : decode cX7_cuts 118 = .ok (.iinc 2 (-1), 3) := by decide +kernel
theorem dX7_cuts_121 : decode cX7_cuts 121 = .ok (.goto (-29), 3) := by decide +kernel
theorem dX7_cuts_124 : decode cX7_cuts 124 = .ok (.aload_n 0, 1) := by decide +kernel
theorem dX7_cuts_125 : decode cX7_cuts 125 = .ok (.getfield 44, 3) := by decide +kernel
theorem dX7_cuts_128 : decode cX7_cuts 128 = .ok (.iconst 0, 1) := by decide +kernel
theorem dX7_cuts_129 : decode cX7_cuts 129 = .ok (.iaload, 1) := by decide +kernel
theorem dX7_cuts_130 : decode cX7_cuts 130 = .ok (.ldc 105, 2) := by decide +kernel
theorem dX7_cuts_132 : decode cX7_cuts 132 = .ok (.if_icmp .lt 5, 3) := by decide +kernel
theorem dX7_cuts_135 : decode cX7_cuts 135 = .ok (.iconst 0, 1) := by decide +kernel
theorem dX7_cuts_136 : decode cX7_cuts 136 = .ok (.ireturn, 1) := by decide +kernel
theorem dX7_cuts_137 : decode cX7_cuts 137 = .ok (.iconst 0, 1) := by decide +kernel
theorem dX7_cuts_138 : decode cX7_cuts 138 = .ok (.istore_n 2, 1) := by decide +kernel
theorem dX7_cuts_139 : decode cX7_cuts 139 = .ok (.iconst 0, 1) := by decide +kernel
theorem dX7_cuts_140 : decode cX7_cuts 140 = .ok (.istore_n 3, 1) := by decide +kernel
theorem dX7_cuts_141 : decode cX7_cuts 141 = .ok (.iload_n 3, 1) := by decide +kernel
theorem dX7_cuts_142 : decode cX7_cuts 142 = .ok (.aload_n 0, 1) := by decide +kernel
theorem dX7_cuts_143 : decode cX7_cuts 143 = .ok (.getfield 71, 3) := by decide +kernel
theorem dX7_cuts_146 : decode cX7_cuts 146 = .ok (.if_icmp .ge 96, 3) := by decide +kernel
theorem dX7_cuts_149 : decode cX7_cuts 149 = .ok (.aload_n 0, 1) := by decide +kernel
theorem dX7_cuts_150 : decode cX7_cuts 150 = .ok (.iload_n 3, 1) := by decide +kernel
theorem dX7_cuts_151 : decode cX7_cuts 151 = .ok (.iload_n 2, 1) := by decide +kernel
theorem dX7_cuts_152 : decode cX7_cuts 152 = .ok (.invokevirtual 110, 3) := by decide +kernel
theorem dX7_cuts_155 : decode cX7_cuts 155 = .ok (.istore 4, 2) := by decide +kernel
theorem dX7_cuts_157 : decode cX7_cuts 157 = .ok (.aload_n 0, 1) := by decide +kernel
theorem dX7_cuts_158 : decode cX7_cuts 158 = .ok (.getfield 44, 3) := by decide +kernel
theorem dX7_cuts_161 : decode cX7_cuts 161 = .ok (.aload_n 0, 1) := by decide +kernel
theorem dX7_cuts_162 : decode cX7_cuts 162 = .ok (.iload_n 3, 1) := by decide +kernel
theorem dX7_cuts_163 : decode cX7_cuts 163 = .ok (.iconst 1, 1) := by decide +kernel
theorem dX7_cuts_164 : decode cX7_cuts 164 = .ok (.iadd, 1) := by decide +kernel
theorem dX7_cuts_165 : decode cX7_cuts 165 = .ok (.iload_n 2, 1) := by decide +kernel
theorem dX7_cuts_166 : decode cX7_cuts 166 = .ok (.iload 4, 2) := by decide +kernel
theorem dX7_cuts_168 : decode cX7_cuts 168 = .ok (.iadd, 1) := by decide +kernel
theorem dX7_cuts_169 : decode cX7_cuts 169 = .ok (.invokevirtual 101, 3) := by decide +kernel
theorem dX7_cuts_172 : decode cX7_cuts 172 = .ok (.iaload, 1) := by decide +kernel
theorem dX7_cuts_173 : decode cX7_cuts 173 = .ok (.ldc 105, 2) := by decide +kernel
theorem dX7_cuts_175 : decode cX7_cuts 175 = .ok (.if_icmp .ge 42, 3) := by decide +kernel
theorem dX7_cuts_178 : decode cX7_cuts 178 = .ok (.aload_n 0, 1) := by decide +kernel
theorem dX7_cuts_179 : decode cX7_cuts 179 = .ok (.iload_n 3, 1) := by decide +kernel
theorem dX7_cuts_180 : decode cX7_cuts 180 = .ok (.iload_n 2, 1) := by decide +kernel
theorem dX7_cuts_181 : decode cX7_cuts 181 = .ok (.iload 4, 2) := by decide +kernel
theorem dX7_cuts_183 : decode cX7_cuts 183 = .ok (.invokevirtual 113, 3) := by decide +kernel
theorem dX7_cuts_186 : decode cX7_cuts 186 = .ok (.aload_n 0, 1) := by decide +kernel
theorem dX7_cuts_187 : decode cX7_cuts 187 = .ok (.getfield 44, 3) := by decide +kernel
theorem dX7_cuts_190 : decode cX7_cuts 190 = .ok (.aload_n 0, 1) := by decide +kernel
theorem dX7_cuts_191 : decode cX7_cuts 191 = .ok (.iload_n 3, 1) := by decide +kernel
theorem dX7_cuts_192 : decode cX7_cuts 192 = .ok (.iconst 1, 1) := by decide +kernel
theorem dX7_cuts_193 : decode cX7_cuts 193 = .ok (.iadd, 1) := by decide +kernel
theorem dX7_cuts_194 : decode cX7_cuts 194 = .ok (.iload_n 2, 1) := by decide +kernel
theorem dX7_cuts_195 : decode cX7_cuts 195 = .ok (.iload 4, 2) := by decide +kernel
theorem dX7_cuts_197 : decode cX7_cuts 197 = .ok (.iadd, 1) := by decide +kernel
theorem dX7_cuts_198 : decode cX7_cuts 198 = .ok (.invokevirtual 101, 3) := by decide +kernel
theorem dX7_cuts_201 : decode cX7_cuts 201 = .ok (.iaload, 1) := by decide +kernel
theorem dX7_cuts_202 : decode cX7_cuts 202 = .ok (.iadd, 1) := by decide +kernel
theorem dX7_cuts_203 : decode cX7_cuts 203 = .ok (.aload_n 0, 1) := by decide +kernel
theorem dX7_cuts_204 : decode cX7_cuts 204 = .ok (.getfield 44, 3) := by decide +kernel
theorem dX7_cuts_207 : decode cX7_cuts 207 = .ok (.aload_n 0, 1) := by decide +kernel
theorem dX7_cuts_208 : decode cX7_cuts 208 = .ok (.iload_n 3, 1) := by decide +kernel
theorem dX7_cuts_209 : decode cX7_cuts 209 = .ok (.iload_n 2, 1) := by decide +kernel
theorem dX7_cuts_210 : decode cX7_cuts 210 = .ok (.invokevirtual 101, 3) := by decide +kernel
theorem dX7_cuts_213 : decode cX7_cuts 213 = .ok (.iaload, 1) := by decide +kernel
theorem dX7_cuts_214 : decode cX7_cuts 214 = .ok (.if_icmp .eq 9, 3) := by decide +kernel
theorem dX7_cuts_217 : decode cX7_cuts 217 = .ok (.iinc 4 (-1), 3) := by decide +kernel
theorem dX7_cuts_220 : decode cX7_cuts 220 = .ok (.goto (-63), 3) := by decide +kernel
theorem dX7_cuts_223 : decode cX7_cuts 223 = .ok (.aload_n 0, 1) := by decide +kernel
theorem dX7_cuts_224 : decode cX7_cuts 224 = .ok (.getfield 47, 3) := by decide +kernel
theorem dX7_cuts_227 : decode cX7_cuts 227 = .ok (.iload_n 3, 1) := by decide +kernel
theorem dX7_cuts_228 : decode cX7_cuts 228 = .ok (.iload 4, 2) := by decide +kernel
theorem dX7_cuts_230 : decode cX7_cuts 230 = .ok (.iastore, 1) := by decide +kernel
theorem dX7_cuts_231 : decode cX7_cuts 231 = .ok (.iload_n 2, 1) := by decide +kernel
theorem dX7_cuts_232 : decode cX7_cuts 232 = .ok (.iload 4, 2) := by decide +kernel
theorem dX7_cuts_234 : decode cX7_cuts 234 = .ok (.iadd, 1) := by decide +kernel
theorem dX7_cuts_235 : decode cX7_cuts 235 = .ok (.istore_n 2, 1) := by decide +kernel
theorem dX7_cuts_236 : decode cX7_cuts 236 = .ok (.iinc 3 1, 3) := by decide +kernel
theorem dX7_cuts_239 : decode cX7_cuts 239 = .ok (.goto (-98), 3) := by decide +kernel
theorem dX7_cuts_242 : decode cX7_cuts 242 = .ok (.iconst 1, 1) := by decide +kernel
theorem dX7_cuts_243 : decode cX7_cuts 243 = .ok (.ireturn, 1) := by decide +kernel
theorem dX7_laysLeast_0 : decode cX7_laysLeast 0 = .ok (.ldc 105, 2) := by decide +kernel
theorem dX7_laysLeast_2 : decode cX7_laysLeast 2 = .ok (.istore_n 3, 1) := by decide +kernel
theorem dX7_laysLeast_3 : decode cX7_laysLeast 3 = .ok (.aload_n 0, 1) := by decide +kernel
theorem dX7_laysLeast_4 : decode cX7_laysLeast 4 = .ok (.iload_n 1, 1) := by decide +kernel
theorem dX7_laysLeast_5 : decode cX7_laysLeast 5 = .ok (.iload_n 2, 1) := by decide +kernel
theorem dX7_laysLeast_6 : decode cX7_laysLeast 6 = .ok (.invokevirtual 110, 3) := by decide +kernel
theorem dX7_laysLeast_9 : decode cX7_laysLeast 9 = .ok (.istore 4, 2) := by decide +kernel
theorem dX7_laysLeast_11 : decode cX7_laysLeast 11 = .ok (.iload 4, 2) := by decide +kernel
theorem dX7_laysLeast_13 : decode cX7_laysLeast 13 = .ok (.ifCond .lt 61, 3) := by decide +kernel
theorem dX7_laysLeast_16 : decode cX7_laysLeast 16 = .ok (.aload_n 0, 1) := by decide +kernel
theorem dX7_laysLeast_17 : decode cX7_laysLeast 17 = .ok (.getfield 44, 3) := by decide +kernel
theorem dX7_laysLeast_20 : decode cX7_laysLeast 20 = .ok (.aload_n 0, 1) := by decide +kernel
theorem dX7_laysLeast_21 : decode cX7_laysLeast 21 = .ok (.iload_n 1, 1) := by decide +kernel
theorem dX7_laysLeast_22 : decode cX7_laysLeast 22 = .ok (.iconst 1, 1) := by decide +kernel
theorem dX7_laysLeast_23 : decode cX7_laysLeast 23 = .ok (.iadd, 1) := by decide +kernel
theorem dX7_laysLeast_24 : decode cX7_laysLeast 24 = .ok (.iload_n 2, 1) := by decide +kernel
theorem dX7_laysLeast_25 : decode cX7_laysLeast 25 = .ok (.iload 4, 2) := by decide +kernel
theorem dX7_laysLeast_27 : decode cX7_laysLeast 27 = .ok (.iadd, 1) := by decide +kernel
theorem dX7_laysLeast_28 : decode cX7_laysLeast 28 = .ok (.invokevirtual 101, 3) := by decide +kernel
theorem dX7_laysLeast_31 : decode cX7_laysLeast 31 = .ok (.iaload, 1) := by decide +kernel
theorem dX7_laysLeast_32 : decode cX7_laysLeast 32 = .ok (.istore 5, 2) := by decide +kernel
theorem dX7_laysLeast_34 : decode cX7_laysLeast 34 = .ok (.iload 5, 2) := by decide +kernel
theorem dX7_laysLeast_36 : decode cX7_laysLeast 36 = .ok (.ldc 105, 2) := by decide +kernel
theorem dX7_laysLeast_38 : decode cX7_laysLeast 38 = .ok (.if_icmp .ge 30, 3) := by decide +kernel
theorem dX7_laysLeast_41 : decode cX7_laysLeast 41 = .ok (.aload_n 0, 1) := by decide +kernel
theorem dX7_laysLeast_42 : decode cX7_laysLeast 42 = .ok (.iload_n 1, 1) := by decide +kernel
theorem dX7_laysLeast_43 : decode cX7_laysLeast 43 = .ok (.iload_n 2, 1) := by decide +kernel
theorem dX7_laysLeast_44 : decode cX7_laysLeast 44 = .ok (.iload 4, 2) := by decide +kernel
theorem dX7_laysLeast_46 : decode cX7_laysLeast 46 = .ok (.invokevirtual 113, 3) := by decide +kernel
theorem dX7_laysLeast_49 : decode cX7_laysLeast 49 = .ok (.iload 5, 2) := by decide +kernel
theorem dX7_laysLeast_51 : decode cX7_laysLeast 51 = .ok (.iadd, 1) := by decide +kernel
theorem dX7_laysLeast_52 : decode cX7_laysLeast 52 = .ok (.iload_n 3, 1) := by decide +kernel
theorem dX7_laysLeast_53 : decode cX7_laysLeast 53 = .ok (.if_icmp .ge 15, 3) := by decide +kernel
theorem dX7_laysLeast_56 : decode cX7_laysLeast 56 = .ok (.aload_n 0, 1) := by decide +kernel
theorem dX7_laysLeast_57 : decode cX7_laysLeast 57 = .ok (.iload_n 1, 1) := by decide +kernel
theorem dX7_laysLeast_58 : decode cX7_laysLeast 58 = .ok (.iload_n 2, 1) := by decide +kernel
theorem dX7_laysLeast_59 : decode cX7_laysLeast 59 = .ok (.iload 4, 2) := by decide +kernel
theorem dX7_laysLeast_61 : decode cX7_laysLeast 61 = .ok (.invokevirtual 113, 3) := by decide +kernel
theorem dX7_laysLeast_64 : decode cX7_laysLeast 64 = .ok (.iload 5, 2) := by decide +kernel
theorem dX7_laysLeast_66 : decode cX7_laysLeast 66 = .ok (.iadd, 1) := by decide +kernel
theorem dX7_laysLeast_67 : decode cX7_laysLeast 67 = .ok (.istore_n 3, 1) := by decide +kernel
theorem dX7_laysLeast_68 : decode cX7_laysLeast 68 = .ok (.iinc 4 (-1), 3) := by decide +kernel
theorem dX7_laysLeast_71 : decode cX7_laysLeast 71 = .ok (.goto (-60), 3) := by decide +kernel
theorem dX7_laysLeast_74 : decode cX7_laysLeast 74 = .ok (.aload_n 0, 1) := by decide +kernel
theorem dX7_laysLeast_75 : decode cX7_laysLeast 75 = .ok (.getfield 44, 3) := by decide +kernel
theorem dX7_laysLeast_78 : decode cX7_laysLeast 78 = .ok (.aload_n 0, 1) := by decide +kernel
theorem dX7_laysLeast_79 : decode cX7_laysLeast 79 = .ok (.iload_n 1, 1) := by decide +kernel
theorem dX7_laysLeast_80 : decode cX7_laysLeast 80 = .ok (.iload_n 2, 1) := by decide +kernel
theorem dX7_laysLeast_81 : decode cX7_laysLeast 81 = .ok (.invokevirtual 101, 3) := by decide +kernel
theorem dX7_laysLeast_84 : decode cX7_laysLeast 84 = .ok (.iload_n 3, 1) := by decide +kernel
theorem dX7_laysLeast_85 : decode cX7_laysLeast 85 = .ok (.iastore, 1) := by decide +kernel
theorem dX7_laysLeast_86 : decode cX7_laysLeast 86 = .ok (.return_, 1) := by decide +kernel
theorem dX7_isYears_0 : decode cX7_isYears 0 = .ok (.iload_n 0, 1) := by decide +kernel
theorem dX7_isYears_1 : decode cX7_isYears 1 = .ok (.iconst 0, 1) := by decide +kernel
theorem dX7_isYears_2 : decode cX7_isYears 2 = .ok (.sipush 999, 3) := by decide +kernel
theorem dX7_isYears_5 : decode cX7_isYears 5 = .ok (.invokestatic 74, 3) := by decide +kernel
theorem dX7_isYears_8 : decode cX7_isYears 8 = .ok (.ireturn, 1) := by decide +kernel
theorem dX7_cut_0 : decode cX7_cut 0 = .ok (.aload_n 0, 1) := by decide +kernel
theorem dX7_cut_1 : decode cX7_cut 1 = .ok (.iconst 0, 1) := by decide +kernel
theorem dX7_cut_2 : decode cX7_cut 2 = .ok (.putfield 68, 3) := by decide +kernel
theorem dX7_cut_5 : decode cX7_cut 5 = .ok (.aload_n 0, 1) := by decide +kernel
theorem dX7_cut_6 : decode cX7_cut 6 = .ok (.iload_n 2, 1) := by decide +kernel
theorem dX7_cut_7 : decode cX7_cut 7 = .ok (.invokevirtual 117, 3) := by decide +kernel
theorem dX7_cut_10 : decode cX7_cut 10 = .ok (.ifCond .eq 27, 3) := by decide +kernel
theorem dX7_cut_13 : decode cX7_cut 13 = .ok (.iload_n 1, 1) := by decide +kernel
theorem dX7_cut_14 : decode cX7_cut 14 = .ok (.invokestatic 121, 3) := by decide +kernel
theorem dX7_cut_17 : decode cX7_cut 17 = .ok (.ifCond .eq 20, 3) := by decide +kernel
theorem dX7_cut_20 : decode cX7_cut 20 = .ok (.aload_n 0, 1) := by decide +kernel
theorem dX7_cut_21 : decode cX7_cut 21 = .ok (.iload_n 1, 1) := by decide +kernel
theorem dX7_cut_22 : decode cX7_cut 22 = .ok (.invokevirtual 124, 3) := by decide +kernel
theorem dX7_cut_25 : decode cX7_cut 25 = .ok (.ifCond .eq 12, 3) := by decide +kernel
theorem dX7_cut_28 : decode cX7_cut 28 = .ok (.aload_n 0, 1) := by decide +kernel
theorem dX7_cut_29 : decode cX7_cut 29 = .ok (.getfield 47, 3) := by decide +kernel
theorem dX7_cut_32 : decode cX7_cut 32 = .ok (.iload_n 2, 1) := by decide +kernel
theorem dX7_cut_33 : decode cX7_cut 33 = .ok (.iaload, 1) := by decide +kernel
theorem dX7_cut_34 : decode cX7_cut 34 = .ok (.goto 4, 3) := by decide +kernel
theorem dX7_cut_37 : decode cX7_cut 37 = .ok (.iconst (-1), 1) := by decide +kernel
theorem dX7_cut_38 : decode cX7_cut 38 = .ok (.ireturn, 1) := by decide +kernel
theorem dX7_price_0 : decode cX7_price 0 = .ok (.aload_n 0, 1) := by decide +kernel
theorem dX7_price_1 : decode cX7_price 1 = .ok (.iconst 0, 1) := by decide +kernel
theorem dX7_price_2 : decode cX7_price 2 = .ok (.putfield 68, 3) := by decide +kernel
theorem dX7_price_5 : decode cX7_price 5 = .ok (.iload_n 1, 1) := by decide +kernel
theorem dX7_price_6 : decode cX7_price 6 = .ok (.invokestatic 121, 3) := by decide +kernel
theorem dX7_price_9 : decode cX7_price 9 = .ok (.ifCond .eq 20, 3) := by decide +kernel
theorem dX7_price_12 : decode cX7_price 12 = .ok (.iload_n 2, 1) := by decide +kernel
theorem dX7_price_13 : decode cX7_price 13 = .ok (.iconst 0, 1) := by decide +kernel
theorem dX7_price_14 : decode cX7_price 14 = .ok (.iconst 2, 1) := by decide +kernel
theorem dX7_price_15 : decode cX7_price 15 = .ok (.invokestatic 74, 3) := by decide +kernel
theorem dX7_price_18 : decode cX7_price 18 = .ok (.ifCond .eq 11, 3) := by decide +kernel
theorem dX7_price_21 : decode cX7_price 21 = .ok (.aload_n 0, 1) := by decide +kernel
theorem dX7_price_22 : decode cX7_price 22 = .ok (.iload_n 1, 1) := by decide +kernel
theorem dX7_price_23 : decode cX7_price 23 = .ok (.invokevirtual 124, 3) := by decide +kernel
theorem dX7_price_26 : decode cX7_price 26 = .ok (.ifCond .ne 5, 3) := by decide +kernel
theorem dX7_price_29 : decode cX7_price 29 = .ok (.iconst (-1), 1) := by decide +kernel
theorem dX7_price_30 : decode cX7_price 30 = .ok (.ireturn, 1) := by decide +kernel
theorem dX7_price_31 : decode cX7_price 31 = .ok (.iload_n 2, 1) := by decide +kernel
theorem dX7_price_32 : decode cX7_price 32 = .ok (.ifCond .ne 15, 3) := by decide +kernel
theorem dX7_price_35 : decode cX7_price 35 = .ok (.aload_n 0, 1) := by decide +kernel
theorem dX7_price_36 : decode cX7_price 36 = .ok (.getfield 44, 3) := by decide +kernel
theorem dX7_price_39 : decode cX7_price 39 = .ok (.iconst 0, 1) := by decide +kernel
theorem dX7_price_40 : decode cX7_price 40 = .ok (.iaload, 1) := by decide +kernel
theorem dX7_price_41 : decode cX7_price 41 = .ok (.ldc 100, 2) := by decide +kernel
theorem dX7_price_43 : decode cX7_price 43 = .ok (.idiv, 1) := by decide +kernel
theorem dX7_price_44 : decode cX7_price 44 = .ok (.goto 32, 3) := by decide +kernel
theorem dX7_price_47 : decode cX7_price 47 = .ok (.iload_n 2, 1) := by decide +kernel
theorem dX7_price_48 : decode cX7_price 48 = .ok (.iconst 1, 1) := by decide +kernel
theorem dX7_price_49 : decode cX7_price 49 = .ok (.if_icmp .ne 18, 3) := by decide +kernel
theorem dX7_price_52 : decode cX7_price 52 = .ok (.aload_n 0, 1) := by decide +kernel
theorem dX7_price_53 : decode cX7_price 53 = .ok (.getfield 44, 3) := by decide +kernel
theorem dX7_price_56 : decode cX7_price 56 = .ok (.iconst 0, 1) := by decide +kernel
theorem dX7_price_57 : decode cX7_price 57 = .ok (.iaload, 1) := by decide +kernel
theorem dX7_price_58 : decode cX7_price 58 = .ok (.ldc 100, 2) := by decide +kernel
theorem dX7_price_60 : decode cX7_price 60 = .ok (.irem, 1) := by decide +kernel
theorem dX7_price_61 : decode cX7_price 61 = .ok (.bipush 100, 2) := by decide +kernel
theorem dX7_price_63 : decode cX7_price 63 = .ok (.idiv, 1) := by decide +kernel
theorem dX7_price_64 : decode cX7_price 64 = .ok (.goto 12, 3) := by decide +kernel
theorem dX7_price_67 : decode cX7_price 67 = .ok (.aload_n 0, 1) := by decide +kernel
theorem dX7_price_68 : decode cX7_price 68 = .ok (.getfield 44, 3) := by decide +kernel
theorem dX7_price_71 : decode cX7_price 71 = .ok (.iconst 0, 1) := by decide +kernel
theorem dX7_price_72 : decode cX7_price 72 = .ok (.iaload, 1) := by decide +kernel
theorem dX7_price_73 : decode cX7_price 73 = .ok (.bipush 100, 2) := by decide +kernel
theorem dX7_price_75 : decode cX7_price 75 = .ok (.irem, 1) := by decide +kernel
theorem dX7_price_76 : decode cX7_price 76 = .ok (.ireturn, 1) := by decide +kernel
theorem dX7_fits_0 : decode cX7_fits 0 = .ok (.aload_n 0, 1) := by decide +kernel
theorem dX7_fits_1 : decode cX7_fits 1 = .ok (.invokevirtual 91, 3) := by decide +kernel
theorem dX7_fits_4 : decode cX7_fits 4 = .ok (.iconst 0, 1) := by decide +kernel
theorem dX7_fits_5 : decode cX7_fits 5 = .ok (.istore_n 3, 1) := by decide +kernel
theorem dX7_fits_6 : decode cX7_fits 6 = .ok (.iconst 0, 1) := by decide +kernel
theorem dX7_fits_7 : decode cX7_fits 7 = .ok (.istore 4, 2) := by decide +kernel
theorem dX7_fits_9 : decode cX7_fits 9 = .ok (.iload 4, 2) := by decide +kernel
theorem dX7_fits_11 : decode cX7_fits 11 = .ok (.aload_n 0, 1) := by decide +kernel
theorem dX7_fits_12 : decode cX7_fits 12 = .ok (.getfield 71, 3) := by decide +kernel
theorem dX7_fits_15 : decode cX7_fits 15 = .ok (.if_icmp .ge 101, 3) := by decide +kernel
theorem dX7_fits_18 : decode cX7_fits 18 = .ok (.aload_n 0, 1) := by decide +kernel
theorem dX7_fits_19 : decode cX7_fits 19 = .ok (.getfield 13, 3) := by decide +kernel
theorem dX7_fits_22 : decode cX7_fits 22 = .ok (.iload 4, 2) := by decide +kernel
theorem dX7_fits_24 : decode cX7_fits 24 = .ok (.iaload, 1) := by decide +kernel
theorem dX7_fits_25 : decode cX7_fits 25 = .ok (.ifCond .eq 18, 3) := by decide +kernel
theorem dX7_fits_28 : decode cX7_fits 28 = .ok (.iload_n 2, 1) := by decide +kernel
theorem dX7_fits_29 : decode cX7_fits 29 = .ok (.ifCond .eq 24, 3) := by decide +kernel
theorem dX7_fits_32 : decode cX7_fits 32 = .ok (.aload_n 0, 1) := by decide +kernel
theorem dX7_fits_33 : decode cX7_fits 33 = .ok (.getfield 13, 3) := by decide +kernel
theorem dX7_fits_36 : decode cX7_fits 36 = .ok (.iload 4, 2) := by decide +kernel
theorem dX7_fits_38 : decode cX7_fits 38 = .ok (.iaload, 1) := by decide +kernel
theorem dX7_fits_39 : decode cX7_fits 39 = .ok (.iconst 1, 1) := by decide +kernel
theorem dX7_fits_40 : decode cX7_fits 40 = .ok (.if_icmp .ne 13, 3) := by decide +kernel
theorem dX7_fits_43 : decode cX7_fits 43 = .ok (.aload_n 0, 1) := by decide +kernel
theorem dX7_fits_44 : decode cX7_fits 44 = .ok (.getfield 7, 3) := by decide +kernel
theorem dX7_fits_47 : decode cX7_fits 47 = .ok (.iload 4, 2) := by decide +kernel
theorem dX7_fits_49 : decode cX7_fits 49 = .ok (.iaload, 1) := by decide +kernel
theorem dX7_fits_50 : decode cX7_fits 50 = .ok (.goto 4, 3) := by decide +kernel
theorem dX7_fits_53 : decode cX7_fits 53 = .ok (.iconst 0, 1) := by decide +kernel
theorem dX7_fits_54 : decode cX7_fits 54 = .ok (.istore 5, 2) := by decide +kernel
theorem dX7_fits_56 : decode cX7_fits 56 = .ok (.iload_n 3, 1) := by decide +kernel
theorem dX7_fits_57 : decode cX7_fits 57 = .ok (.aload_n 0, 1) := by decide +kernel
theorem dX7_fits_58 : decode cX7_fits 58 = .ok (.getfield 81, 3) := by decide +kernel
theorem dX7_fits_61 : decode cX7_fits 61 = .ok (.if_icmp .ge 49, 3) := by decide +kernel
theorem dX7_fits_64 : decode cX7_fits 64 = .ok (.aload_n 0, 1) := by decide +kernel
theorem dX7_fits_65 : decode cX7_fits 65 = .ok (.getfield 22, 3) := by decide +kernel
theorem dX7_fits_68 : decode cX7_fits 68 = .ok (.iload_n 3, 1) := by decide +kernel
theorem dX7_fits_69 : decode cX7_fits 69 = .ok (.iaload, 1) := by decide +kernel
theorem dX7_fits_70 : decode cX7_fits 70 = .ok (.iload_n 1, 1) := by decide +kernel
theorem dX7_fits_71 : decode cX7_fits 71 = .ok (.aload_n 0, 1) := by decide +kernel
theorem dX7_fits_72 : decode cX7_fits 72 = .ok (.getfield 38, 3) := by decide +kernel
theorem dX7_fits_75 : decode cX7_fits 75 = .ok (.iload_n 3, 1) := by decide +kernel
theorem dX7_fits_76 : decode cX7_fits 76 = .ok (.iaload, 1) := by decide +kernel
theorem dX7_fits_77 : decode cX7_fits 77 = .ok (.imul, 1) := by decide +kernel
theorem dX7_fits_78 : decode cX7_fits 78 = .ok (.iadd, 1) := by decide +kernel
theorem dX7_fits_79 : decode cX7_fits 79 = .ok (.iload 5, 2) := by decide +kernel
theorem dX7_fits_81 : decode cX7_fits 81 = .ok (.if_icmp .gt 29, 3) := by decide +kernel
theorem dX7_fits_84 : decode cX7_fits 84 = .ok (.iload 5, 2) := by decide +kernel
theorem dX7_fits_86 : decode cX7_fits 86 = .ok (.aload_n 0, 1) := by decide +kernel
theorem dX7_fits_87 : decode cX7_fits 87 = .ok (.getfield 22, 3) := by decide +kernel
theorem dX7_fits_90 : decode cX7_fits 90 = .ok (.iload_n 3, 1) := by decide +kernel
theorem dX7_fits_91 : decode cX7_fits 91 = .ok (.iaload, 1) := by decide +kernel
theorem dX7_fits_92 : decode cX7_fits 92 = .ok (.iload_n 1, 1) := by decide +kernel
theorem dX7_fits_93 : decode cX7_fits 93 = .ok (.aload_n 0, 1) := by decide +kernel
theorem dX7_fits_94 : decode cX7_fits 94 = .ok (.getfield 38, 3) := by decide +kernel
theorem dX7_fits_97 : decode cX7_fits 97 = .ok (.iload_n 3, 1) := by decide +kernel
theorem dX7_fits_98 : decode cX7_fits 98 = .ok (.iaload, 1) := by decide +kernel
theorem dX7_fits_99 : decode cX7_fits 99 = .ok (.imul, 1) := by decide +kernel
theorem dX7_fits_100 : decode cX7_fits 100 = .ok (.iadd, 1) := by decide +kernel
theorem dX7_fits_101 : decode cX7_fits 101 = .ok (.isub, 1) := by decide +kernel
theorem dX7_fits_102 : decode cX7_fits 102 = .ok (.istore 5, 2) := by decide +kernel
theorem dX7_fits_104 : decode cX7_fits 104 = .ok (.iinc 3 1, 3) := by decide +kernel
theorem dX7_fits_107 : decode cX7_fits 107 = .ok (.goto (-51), 3) := by decide +kernel
theorem dX7_fits_110 : decode cX7_fits 110 = .ok (.iinc 4 1, 3) := by decide +kernel
theorem dX7_fits_113 : decode cX7_fits 113 = .ok (.goto (-104), 3) := by decide +kernel
theorem dX7_fits_116 : decode cX7_fits 116 = .ok (.iload_n 3, 1) := by decide +kernel
theorem dX7_fits_117 : decode cX7_fits 117 = .ok (.aload_n 0, 1) := by decide +kernel
theorem dX7_fits_118 : decode cX7_fits 118 = .ok (.getfield 81, 3) := by decide +kernel
theorem dX7_fits_121 : decode cX7_fits 121 = .ok (.if_icmp .ne 7, 3) := by decide +kernel
theorem dX7_fits_124 : decode cX7_fits 124 = .ok (.iconst 1, 1) := by decide +kernel
theorem dX7_fits_125 : decode cX7_fits 125 = .ok (.goto 4, 3) := by decide +kernel
theorem dX7_fits_128 : decode cX7_fits 128 = .ok (.iconst 0, 1) := by decide +kernel
theorem dX7_fits_129 : decode cX7_fits 129 = .ok (.ireturn, 1) := by decide +kernel
theorem dX7_best_0 : decode cX7_best 0 = .ok (.aload_n 0, 1) := by decide +kernel
theorem dX7_best_1 : decode cX7_best 1 = .ok (.iconst 0, 1) := by decide +kernel
theorem dX7_best_2 : decode cX7_best 2 = .ok (.putfield 68, 3) := by decide +kernel
theorem dX7_best_5 : decode cX7_best 5 = .ok (.sipush 999, 3) := by decide +kernel
theorem dX7_best_8 : decode cX7_best 8 = .ok (.istore_n 2, 1) := by decide +kernel
theorem dX7_best_9 : decode cX7_best 9 = .ok (.iload_n 2, 1) := by decide +kernel
theorem dX7_best_10 : decode cX7_best 10 = .ok (.ifCond .lt 26, 3) := by decide +kernel
theorem dX7_best_13 : decode cX7_best 13 = .ok (.aload_n 0, 1) := by decide +kernel
theorem dX7_best_14 : decode cX7_best 14 = .ok (.iload_n 2, 1) := by decide +kernel
theorem dX7_best_15 : decode cX7_best 15 = .ok (.iload_n 1, 1) := by decide +kernel
theorem dX7_best_16 : decode cX7_best 16 = .ok (.ifCond .ne 7, 3) := by decide +kernel
theorem dX7_best_19 : decode cX7_best 19 = .ok (.iconst 1, 1) := by decide +kernel
theorem dX7_best_20 : decode cX7_best 20 = .ok (.goto 4, 3) := by decide +kernel
theorem dX7_best_23 : decode cX7_best 23 = .ok (.iconst 0, 1) := by decide +kernel
theorem dX7_best_24 : decode cX7_best 24 = .ok (.invokevirtual 127, 3) := by decide +kernel
theorem dX7_best_27 : decode cX7_best 27 = .ok (.ifCond .ne 9, 3) := by decide +kernel
theorem dX7_best_30 : decode cX7_best 30 = .ok (.iinc 2 (-1), 3) := by decide +kernel
theorem dX7_best_33 : decode cX7_best 33 = .ok (.goto (-24), 3) := by decide +kernel
theorem dX7_best_36 : decode cX7_best 36 = .ok (.iload_n 2, 1) := by decide +kernel
theorem dX7_best_37 : decode cX7_best 37 = .ok (.ireturn, 1) := by decide +kernel
theorem dX7_tight_0 : decode cX7_tight 0 = .ok (.aload_n 0, 1) := by decide +kernel
theorem dX7_tight_1 : decode cX7_tight 1 = .ok (.iconst 0, 1) := by decide +kernel
theorem dX7_tight_2 : decode cX7_tight 2 = .ok (.putfield 68, 3) := by decide +kernel
theorem dX7_tight_5 : decode cX7_tight 5 = .ok (.iconst 0, 1) := by decide +kernel
theorem dX7_tight_6 : decode cX7_tight 6 = .ok (.istore_n 1, 1) := by decide +kernel
theorem dX7_tight_7 : decode cX7_tight 7 = .ok (.iconst (-1), 1) := by decide +kernel
theorem dX7_tight_8 : decode cX7_tight 8 = .ok (.istore_n 2, 1) := by decide +kernel
theorem dX7_tight_9 : decode cX7_tight 9 = .ok (.iconst 0, 1) := by decide +kernel
theorem dX7_tight_10 : decode cX7_tight 10 = .ok (.istore_n 3, 1) := by decide +kernel
theorem dX7_tight_11 : decode cX7_tight 11 = .ok (.iload_n 3, 1) := by decide +kernel
theorem dX7_tight_12 : decode cX7_tight 12 = .ok (.aload_n 0, 1) := by decide +kernel
theorem dX7_tight_13 : decode cX7_tight 13 = .ok (.getfield 71, 3) := by decide +kernel
theorem dX7_tight_16 : decode cX7_tight 16 = .ok (.if_icmp .ge 68, 3) := by decide +kernel
theorem dX7_tight_19 : decode cX7_tight 19 = .ok (.aload_n 0, 1) := by decide +kernel
theorem dX7_tight_20 : decode cX7_tight 20 = .ok (.getfield 13, 3) := by decide +kernel
theorem dX7_tight_23 : decode cX7_tight 23 = .ok (.iload_n 3, 1) := by decide +kernel
theorem dX7_tight_24 : decode cX7_tight 24 = .ok (.iaload, 1) := by decide +kernel
theorem dX7_tight_25 : decode cX7_tight 25 = .ok (.ifCond .ne 12, 3) := by decide +kernel
theorem dX7_tight_28 : decode cX7_tight 28 = .ok (.aload_n 0, 1) := by decide +kernel
theorem dX7_tight_29 : decode cX7_tight 29 = .ok (.getfield 7, 3) := by decide +kernel
theorem dX7_tight_32 : decode cX7_tight 32 = .ok (.iload_n 3, 1) := by decide +kernel
theorem dX7_tight_33 : decode cX7_tight 33 = .ok (.iaload, 1) := by decide +kernel
theorem dX7_tight_34 : decode cX7_tight 34 = .ok (.goto 4, 3) := by decide +kernel
theorem dX7_tight_37 : decode cX7_tight 37 = .ok (.iconst 0, 1) := by decide +kernel
theorem dX7_tight_38 : decode cX7_tight 38 = .ok (.istore 4, 2) := by decide +kernel
theorem dX7_tight_40 : decode cX7_tight 40 = .ok (.iload_n 1, 1) := by decide +kernel
theorem dX7_tight_41 : decode cX7_tight 41 = .ok (.aload_n 0, 1) := by decide +kernel
theorem dX7_tight_42 : decode cX7_tight 42 = .ok (.getfield 81, 3) := by decide +kernel
theorem dX7_tight_45 : decode cX7_tight 45 = .ok (.if_icmp .ge 33, 3) := by decide +kernel
theorem dX7_tight_48 : decode cX7_tight 48 = .ok (.aload_n 0, 1) := by decide +kernel
theorem dX7_tight_49 : decode cX7_tight 49 = .ok (.getfield 22, 3) := by decide +kernel
theorem dX7_tight_52 : decode cX7_tight 52 = .ok (.iload_n 1, 1) := by decide +kernel
theorem dX7_tight_53 : decode cX7_tight 53 = .ok (.iaload, 1) := by decide +kernel
theorem dX7_tight_54 : decode cX7_tight 54 = .ok (.iload 4, 2) := by decide +kernel
theorem dX7_tight_56 : decode cX7_tight 56 = .ok (.if_icmp .gt 22, 3) := by decide +kernel
theorem dX7_tight_59 : decode cX7_tight 59 = .ok (.iload 4, 2) := by decide +kernel
theorem dX7_tight_61 : decode cX7_tight 61 = .ok (.aload_n 0, 1) := by decide +kernel
theorem dX7_tight_62 : decode cX7_tight 62 = .ok (.getfield 22, 3) := by decide +kernel
theorem dX7_tight_65 : decode cX7_tight 65 = .ok (.iload_n 1, 1) := by decide +kernel
theorem dX7_tight_66 : decode cX7_tight 66 = .ok (.iaload, 1) := by decide +kernel
theorem dX7_tight_67 : decode cX7_tight 67 = .ok (.isub, 1) := by decide +kernel
theorem dX7_tight_68 : decode cX7_tight 68 = .ok (.istore 4, 2) := by decide +kernel
theorem dX7_tight_70 : decode cX7_tight 70 = .ok (.iload_n 3, 1) := by decide +kernel
theorem dX7_tight_71 : decode cX7_tight 71 = .ok (.istore_n 2, 1) := by decide +kernel
theorem dX7_tight_72 : decode cX7_tight 72 = .ok (.iinc 1 1, 3) := by decide +kernel
theorem dX7_tight_75 : decode cX7_tight 75 = .ok (.goto (-35), 3) := by decide +kernel
theorem dX7_tight_78 : decode cX7_tight 78 = .ok (.iinc 3 1, 3) := by decide +kernel
theorem dX7_tight_81 : decode cX7_tight 81 = .ok (.goto (-70), 3) := by decide +kernel
theorem dX7_tight_84 : decode cX7_tight 84 = .ok (.iload_n 1, 1) := by decide +kernel
theorem dX7_tight_85 : decode cX7_tight 85 = .ok (.aload_n 0, 1) := by decide +kernel
theorem dX7_tight_86 : decode cX7_tight 86 = .ok (.getfield 81, 3) := by decide +kernel
theorem dX7_tight_89 : decode cX7_tight 89 = .ok (.if_icmp .ne 7, 3) := by decide +kernel
theorem dX7_tight_92 : decode cX7_tight 92 = .ok (.iload_n 2, 1) := by decide +kernel
theorem dX7_tight_93 : decode cX7_tight 93 = .ok (.goto 4, 3) := by decide +kernel
theorem dX7_tight_96 : decode cX7_tight 96 = .ok (.iconst (-1), 1) := by decide +kernel
theorem dX7_tight_97 : decode cX7_tight 97 = .ok (.ireturn, 1) := by decide +kernel
theorem dX7_opens_0 : decode cX7_opens 0 = .ok (.aload_n 0, 1) := by decide +kernel
theorem dX7_opens_1 : decode cX7_opens 1 = .ok (.getfield 81, 3) := by decide +kernel
theorem dX7_opens_4 : decode cX7_opens 4 = .ok (.istore_n 2, 1) := by decide +kernel
theorem dX7_opens_5 : decode cX7_opens 5 = .ok (.iload_n 2, 1) := by decide +kernel
theorem dX7_opens_6 : decode cX7_opens 6 = .ok (.iload_n 1, 1) := by decide +kernel
theorem dX7_opens_7 : decode cX7_opens 7 = .ok (.if_icmp .le 65, 3) := by decide +kernel
theorem dX7_opens_10 : decode cX7_opens 10 = .ok (.aload_n 0, 1) := by decide +kernel
theorem dX7_opens_11 : decode cX7_opens 11 = .ok (.getfield 19, 3) := by decide +kernel
theorem dX7_opens_14 : decode cX7_opens 14 = .ok (.iload_n 2, 1) := by decide +kernel
theorem dX7_opens_15 : decode cX7_opens 15 = .ok (.aload_n 0, 1) := by decide +kernel
theorem dX7_opens_16 : decode cX7_opens 16 = .ok (.getfield 19, 3) := by decide +kernel
theorem dX7_opens_19 : decode cX7_opens 19 = .ok (.iload_n 2, 1) := by decide +kernel
theorem dX7_opens_20 : decode cX7_opens 20 = .ok (.iconst 1, 1) := by decide +kernel
theorem dX7_opens_21 : decode cX7_opens 21 = .ok (.isub, 1) := by decide +kernel
theorem dX7_opens_22 : decode cX7_opens 22 = .ok (.iaload, 1) := by decide +kernel
theorem dX7_opens_23 : decode cX7_opens 23 = .ok (.iastore, 1) := by decide +kernel
theorem dX7_opens_24 : decode cX7_opens 24 = .ok (.aload_n 0, 1) := by decide +kernel
theorem dX7_opens_25 : decode cX7_opens 25 = .ok (.getfield 22, 3) := by decide +kernel
theorem dX7_opens_28 : decode cX7_opens 28 = .ok (.iload_n 2, 1) := by decide +kernel
theorem dX7_opens_29 : decode cX7_opens 29 = .ok (.aload_n 0, 1) := by decide +kernel
theorem dX7_opens_30 : decode cX7_opens 30 = .ok (.getfield 22, 3) := by decide +kernel
theorem dX7_opens_33 : decode cX7_opens 33 = .ok (.iload_n 2, 1) := by decide +kernel
theorem dX7_opens_34 : decode cX7_opens 34 = .ok (.iconst 1, 1) := by decide +kernel
theorem dX7_opens_35 : decode cX7_opens 35 = .ok (.isub, 1) := by decide +kernel
theorem dX7_opens_36 : decode cX7_opens 36 = .ok (.iaload, 1) := by decide +kernel
theorem dX7_opens_37 : decode cX7_opens 37 = .ok (.iastore, 1) := by decide +kernel
theorem dX7_opens_38 : decode cX7_opens 38 = .ok (.aload_n 0, 1) := by decide +kernel
theorem dX7_opens_39 : decode cX7_opens 39 = .ok (.getfield 25, 3) := by decide +kernel
theorem dX7_opens_42 : decode cX7_opens 42 = .ok (.iload_n 2, 1) := by decide +kernel
theorem dX7_opens_43 : decode cX7_opens 43 = .ok (.aload_n 0, 1) := by decide +kernel
theorem dX7_opens_44 : decode cX7_opens 44 = .ok (.getfield 25, 3) := by decide +kernel
theorem dX7_opens_47 : decode cX7_opens 47 = .ok (.iload_n 2, 1) := by decide +kernel
theorem dX7_opens_48 : decode cX7_opens 48 = .ok (.iconst 1, 1) := by decide +kernel
theorem dX7_opens_49 : decode cX7_opens 49 = .ok (.isub, 1) := by decide +kernel
theorem dX7_opens_50 : decode cX7_opens 50 = .ok (.iaload, 1) := by decide +kernel
theorem dX7_opens_51 : decode cX7_opens 51 = .ok (.iastore, 1) := by decide +kernel
theorem dX7_opens_52 : decode cX7_opens 52 = .ok (.aload_n 0, 1) := by decide +kernel
theorem dX7_opens_53 : decode cX7_opens 53 = .ok (.getfield 28, 3) := by decide +kernel
theorem dX7_opens_56 : decode cX7_opens 56 = .ok (.iload_n 2, 1) := by decide +kernel
theorem dX7_opens_57 : decode cX7_opens 57 = .ok (.aload_n 0, 1) := by decide +kernel
theorem dX7_opens_58 : decode cX7_opens 58 = .ok (.getfield 28, 3) := by decide +kernel
theorem dX7_opens_61 : decode cX7_opens 61 = .ok (.iload_n 2, 1) := by decide +kernel
theorem dX7_opens_62 : decode cX7_opens 62 = .ok (.iconst 1, 1) := by decide +kernel
theorem dX7_opens_63 : decode cX7_opens 63 = .ok (.isub, 1) := by decide +kernel
theorem dX7_opens_64 : decode cX7_opens 64 = .ok (.iaload, 1) := by decide +kernel
theorem dX7_opens_65 : decode cX7_opens 65 = .ok (.iastore, 1) := by decide +kernel
theorem dX7_opens_66 : decode cX7_opens 66 = .ok (.iinc 2 (-1), 3) := by decide +kernel
theorem dX7_opens_69 : decode cX7_opens 69 = .ok (.goto (-64), 3) := by decide +kernel
theorem dX7_opens_72 : decode cX7_opens 72 = .ok (.aload_n 0, 1) := by decide +kernel
theorem dX7_opens_73 : decode cX7_opens 73 = .ok (.dup, 1) := by decide +kernel
theorem dX7_opens_74 : decode cX7_opens 74 = .ok (.getfield 81, 3) := by decide +kernel
theorem dX7_opens_77 : decode cX7_opens 77 = .ok (.iconst 1, 1) := by decide +kernel
theorem dX7_opens_78 : decode cX7_opens 78 = .ok (.iadd, 1) := by decide +kernel
theorem dX7_opens_79 : decode cX7_opens 79 = .ok (.putfield 81, 3) := by decide +kernel
theorem dX7_opens_82 : decode cX7_opens 82 = .ok (.return_, 1) := by decide +kernel
theorem dX7_closes_0 : decode cX7_closes 0 = .ok (.aload_n 0, 1) := by decide +kernel
theorem dX7_closes_1 : decode cX7_closes 1 = .ok (.dup, 1) := by decide +kernel
theorem dX7_closes_2 : decode cX7_closes 2 = .ok (.getfield 81, 3) := by decide +kernel
theorem dX7_closes_5 : decode cX7_closes 5 = .ok (.iconst 1, 1) := by decide +kernel
theorem dX7_closes_6 : decode cX7_closes 6 = .ok (.isub, 1) := by decide +kernel
theorem dX7_closes_7 : decode cX7_closes 7 = .ok (.putfield 81, 3) := by decide +kernel
theorem dX7_closes_10 : decode cX7_closes 10 = .ok (.iload_n 1, 1) := by decide +kernel
theorem dX7_closes_11 : decode cX7_closes 11 = .ok (.istore_n 2, 1) := by decide +kernel
theorem dX7_closes_12 : decode cX7_closes 12 = .ok (.iload_n 2, 1) := by decide +kernel
theorem dX7_closes_13 : decode cX7_closes 13 = .ok (.aload_n 0, 1) := by decide +kernel
theorem dX7_closes_14 : decode cX7_closes 14 = .ok (.getfield 81, 3) := by decide +kernel
theorem dX7_closes_17 : decode cX7_closes 17 = .ok (.if_icmp .ge 65, 3) := by decide +kernel
theorem dX7_closes_20 : decode cX7_closes 20 = .ok (.aload_n 0, 1) := by decide +kernel
theorem dX7_closes_21 : decode cX7_closes 21 = .ok (.getfield 19, 3) := by decide +kernel
theorem dX7_closes_24 : decode cX7_closes 24 = .ok (.iload_n 2, 1) := by decide +kernel
theorem dX7_closes_25 : decode cX7_closes 25 = .ok (.aload_n 0, 1) := by decide +kernel
theorem dX7_closes_26 : decode cX7_closes 26 = .ok (.getfield 19, 3) := by decide +kernel
theorem dX7_closes_29 : decode cX7_closes 29 = .ok (.iload_n 2, 1) := by decide +kernel
theorem dX7_closes_30 : decode cX7_closes 30 = .ok (.iconst 1, 1) := by decide +kernel
theorem dX7_closes_31 : decode cX7_closes 31 = .ok (.iadd, 1) := by decide +kernel
theorem dX7_closes_32 : decode cX7_closes 32 = .ok (.iaload, 1) := by decide +kernel
theorem dX7_closes_33 : decode cX7_closes 33 = .ok (.iastore, 1) := by decide +kernel
theorem dX7_closes_34 : decode cX7_closes 34 = .ok (.aload_n 0, 1) := by decide +kernel
theorem dX7_closes_35 : decode cX7_closes 35 = .ok (.getfield 22, 3) := by decide +kernel
theorem dX7_closes_38 : decode cX7_closes 38 = .ok (.iload_n 2, 1) := by decide +kernel
theorem dX7_closes_39 : decode cX7_closes 39 = .ok (.aload_n 0, 1) := by decide +kernel
theorem dX7_closes_40 : decode cX7_closes 40 = .ok (.getfield 22, 3) := by decide +kernel
theorem dX7_closes_43 : decode cX7_closes 43 = .ok (.iload_n 2, 1) := by decide +kernel
theorem dX7_closes_44 : decode cX7_closes 44 = .ok (.iconst 1, 1) := by decide +kernel
theorem dX7_closes_45 : decode cX7_closes 45 = .ok (.iadd, 1) := by decide +kernel
theorem dX7_closes_46 : decode cX7_closes 46 = .ok (.iaload, 1) := by decide +kernel
theorem dX7_closes_47 : decode cX7_closes 47 = .ok (.iastore, 1) := by decide +kernel
theorem dX7_closes_48 : decode cX7_closes 48 = .ok (.aload_n 0, 1) := by decide +kernel
theorem dX7_closes_49 : decode cX7_closes 49 = .ok (.getfield 25, 3) := by decide +kernel
theorem dX7_closes_52 : decode cX7_closes 52 = .ok (.iload_n 2, 1) := by decide +kernel
theorem dX7_closes_53 : decode cX7_closes 53 = .ok (.aload_n 0, 1) := by decide +kernel
theorem dX7_closes_54 : decode cX7_closes 54 = .ok (.getfield 25, 3) := by decide +kernel
theorem dX7_closes_57 : decode cX7_closes 57 = .ok (.iload_n 2, 1) := by decide +kernel
theorem dX7_closes_58 : decode cX7_closes 58 = .ok (.iconst 1, 1) := by decide +kernel
theorem dX7_closes_59 : decode cX7_closes 59 = .ok (.iadd, 1) := by decide +kernel
theorem dX7_closes_60 : decode cX7_closes 60 = .ok (.iaload, 1) := by decide +kernel
theorem dX7_closes_61 : decode cX7_closes 61 = .ok (.iastore, 1) := by decide +kernel
theorem dX7_closes_62 : decode cX7_closes 62 = .ok (.aload_n 0, 1) := by decide +kernel
theorem dX7_closes_63 : decode cX7_closes 63 = .ok (.getfield 28, 3) := by decide +kernel
theorem dX7_closes_66 : decode cX7_closes 66 = .ok (.iload_n 2, 1) := by decide +kernel
theorem dX7_closes_67 : decode cX7_closes 67 = .ok (.aload_n 0, 1) := by decide +kernel
theorem dX7_closes_68 : decode cX7_closes 68 = .ok (.getfield 28, 3) := by decide +kernel
theorem dX7_closes_71 : decode cX7_closes 71 = .ok (.iload_n 2, 1) := by decide +kernel
theorem dX7_closes_72 : decode cX7_closes 72 = .ok (.iconst 1, 1) := by decide +kernel
theorem dX7_closes_73 : decode cX7_closes 73 = .ok (.iadd, 1) := by decide +kernel
theorem dX7_closes_74 : decode cX7_closes 74 = .ok (.iaload, 1) := by decide +kernel
theorem dX7_closes_75 : decode cX7_closes 75 = .ok (.iastore, 1) := by decide +kernel
theorem dX7_closes_76 : decode cX7_closes 76 = .ok (.iinc 2 1, 3) := by decide +kernel
theorem dX7_closes_79 : decode cX7_closes 79 = .ok (.goto (-67), 3) := by decide +kernel
theorem dX7_closes_82 : decode cX7_closes 82 = .ok (.return_, 1) := by decide +kernel
theorem dX7_behind_0 : decode cX7_behind 0 = .ok (.iconst 0, 1) := by decide +kernel
theorem dX7_behind_1 : decode cX7_behind 1 = .ok (.istore_n 2, 1) := by decide +kernel
theorem dX7_behind_2 : decode cX7_behind 2 = .ok (.iload_n 2, 1) := by decide +kernel
theorem dX7_behind_3 : decode cX7_behind 3 = .ok (.aload_n 0, 1) := by decide +kernel
theorem dX7_behind_4 : decode cX7_behind 4 = .ok (.getfield 81, 3) := by decide +kernel
theorem dX7_behind_7 : decode cX7_behind 7 = .ok (.if_icmp .ge 19, 3) := by decide +kernel
theorem dX7_behind_10 : decode cX7_behind 10 = .ok (.aload_n 0, 1) := by decide +kernel
theorem dX7_behind_11 : decode cX7_behind 11 = .ok (.getfield 19, 3) := by decide +kernel
theorem dX7_behind_14 : decode cX7_behind 14 = .ok (.iload_n 2, 1) := by decide +kernel
theorem dX7_behind_15 : decode cX7_behind 15 = .ok (.iaload, 1) := by decide +kernel
theorem dX7_behind_16 : decode cX7_behind 16 = .ok (.iload_n 1, 1) := by decide +kernel
theorem dX7_behind_17 : decode cX7_behind 17 = .ok (.if_icmp .gt 9, 3) := by decide +kernel
theorem dX7_behind_20 : decode cX7_behind 20 = .ok (.iinc 2 1, 3) := by decide +kernel
theorem dX7_behind_23 : decode cX7_behind 23 = .ok (.goto (-21), 3) := by decide +kernel
theorem dX7_behind_26 : decode cX7_behind 26 = .ok (.iload_n 2, 1) := by decide +kernel
theorem dX7_behind_27 : decode cX7_behind 27 = .ok (.ireturn, 1) := by decide +kernel
theorem dX7_comes_0 : decode cX7_comes 0 = .ok (.aload_n 0, 1) := by decide +kernel
theorem dX7_comes_1 : decode cX7_comes 1 = .ok (.iload_n 1, 1) := by decide +kernel
theorem dX7_comes_2 : decode cX7_comes 2 = .ok (.invokevirtual 131, 3) := by decide +kernel
theorem dX7_comes_5 : decode cX7_comes 5 = .ok (.aload_n 0, 1) := by decide +kernel
theorem dX7_comes_6 : decode cX7_comes 6 = .ok (.getfield 19, 3) := by decide +kernel
theorem dX7_comes_9 : decode cX7_comes 9 = .ok (.iload_n 1, 1) := by decide +kernel
theorem dX7_comes_10 : decode cX7_comes 10 = .ok (.iload_n 2, 1) := by decide +kernel
theorem dX7_comes_11 : decode cX7_comes 11 = .ok (.iastore, 1) := by decide +kernel
theorem dX7_comes_12 : decode cX7_comes 12 = .ok (.aload_n 0, 1) := by decide +kernel
theorem dX7_comes_13 : decode cX7_comes 13 = .ok (.getfield 22, 3) := by decide +kernel
theorem dX7_comes_16 : decode cX7_comes 16 = .ok (.iload_n 1, 1) := by decide +kernel
theorem dX7_comes_17 : decode cX7_comes 17 = .ok (.iload_n 3, 1) := by decide +kernel
theorem dX7_comes_18 : decode cX7_comes 18 = .ok (.iastore, 1) := by decide +kernel
theorem dX7_comes_19 : decode cX7_comes 19 = .ok (.aload_n 0, 1) := by decide +kernel
theorem dX7_comes_20 : decode cX7_comes 20 = .ok (.getfield 25, 3) := by decide +kernel
theorem dX7_comes_23 : decode cX7_comes 23 = .ok (.iload_n 1, 1) := by decide +kernel
theorem dX7_comes_24 : decode cX7_comes 24 = .ok (.iconst (-1), 1) := by decide +kernel
theorem dX7_comes_25 : decode cX7_comes 25 = .ok (.iastore, 1) := by decide +kernel
theorem dX7_comes_26 : decode cX7_comes 26 = .ok (.aload_n 0, 1) := by decide +kernel
theorem dX7_comes_27 : decode cX7_comes 27 = .ok (.getfield 28, 3) := by decide +kernel
theorem dX7_comes_30 : decode cX7_comes 30 = .ok (.iload_n 1, 1) := by decide +kernel
theorem dX7_comes_31 : decode cX7_comes 31 = .ok (.iconst 0, 1) := by decide +kernel
theorem dX7_comes_32 : decode cX7_comes 32 = .ok (.iastore, 1) := by decide +kernel
theorem dX7_comes_33 : decode cX7_comes 33 = .ok (.return_, 1) := by decide +kernel
theorem dX7_laysGoals_0 : decode cX7_laysGoals 0 = .ok (.iconst 0, 1) := by decide +kernel
theorem dX7_laysGoals_1 : decode cX7_laysGoals 1 = .ok (.istore_n 1, 1) := by decide +kernel
theorem dX7_laysGoals_2 : decode cX7_laysGoals 2 = .ok (.iconst 0, 1) := by decide +kernel
theorem dX7_laysGoals_3 : decode cX7_laysGoals 3 = .ok (.istore_n 2, 1) := by decide +kernel
theorem dX7_laysGoals_4 : decode cX7_laysGoals 4 = .ok (.iload_n 2, 1) := by decide +kernel
theorem dX7_laysGoals_5 : decode cX7_laysGoals 5 = .ok (.aload_n 0, 1) := by decide +kernel
theorem dX7_laysGoals_6 : decode cX7_laysGoals 6 = .ok (.getfield 71, 3) := by decide +kernel
theorem dX7_laysGoals_9 : decode cX7_laysGoals 9 = .ok (.if_icmp .ge 37, 3) := by decide +kernel
theorem dX7_laysGoals_12 : decode cX7_laysGoals 12 = .ok (.iconst 0, 1) := by decide +kernel
theorem dX7_laysGoals_13 : decode cX7_laysGoals 13 = .ok (.istore_n 3, 1) := by decide +kernel
theorem dX7_laysGoals_14 : decode cX7_laysGoals 14 = .ok (.iload_n 3, 1) := by decide +kernel
theorem dX7_laysGoals_15 : decode cX7_laysGoals 15 = .ok (.aload_n 0, 1) := by decide +kernel
theorem dX7_laysGoals_16 : decode cX7_laysGoals 16 = .ok (.getfield 47, 3) := by decide +kernel
theorem dX7_laysGoals_19 : decode cX7_laysGoals 19 = .ok (.iload_n 2, 1) := by decide +kernel
theorem dX7_laysGoals_20 : decode cX7_laysGoals 20 = .ok (.iaload, 1) := by decide +kernel
theorem dX7_laysGoals_21 : decode cX7_laysGoals 21 = .ok (.if_icmp .ge 19, 3) := by decide +kernel
theorem dX7_laysGoals_24 : decode cX7_laysGoals 24 = .ok (.aload_n 0, 1) := by decide +kernel
theorem dX7_laysGoals_25 : decode cX7_laysGoals 25 = .ok (.getfield 53, 3) := by decide +kernel
theorem dX7_laysGoals_28 : decode cX7_laysGoals 28 = .ok (.iload_n 1, 1) := by decide +kernel
theorem dX7_laysGoals_29 : decode cX7_laysGoals 29 = .ok (.iload_n 2, 1) := by decide +kernel
theorem dX7_laysGoals_30 : decode cX7_laysGoals 30 = .ok (.iastore, 1) := by decide +kernel
theorem dX7_laysGoals_31 : decode cX7_laysGoals 31 = .ok (.iinc 1 1, 3) := by decide +kernel
theorem dX7_laysGoals_34 : decode cX7_laysGoals 34 = .ok (.iinc 3 1, 3) := by decide +kernel
theorem dX7_laysGoals_37 : decode cX7_laysGoals 37 = .ok (.goto (-23), 3) := by decide +kernel
theorem dX7_laysGoals_40 : decode cX7_laysGoals 40 = .ok (.iinc 2 1, 3) := by decide +kernel
theorem dX7_laysGoals_43 : decode cX7_laysGoals 43 = .ok (.goto (-39), 3) := by decide +kernel
theorem dX7_laysGoals_46 : decode cX7_laysGoals 46 = .ok (.return_, 1) := by decide +kernel
theorem dX7_book_0 : decode cX7_book 0 = .ok (.aload_n 0, 1) := by decide +kernel
theorem dX7_book_1 : decode cX7_book 1 = .ok (.iconst 0, 1) := by decide +kernel
theorem dX7_book_2 : decode cX7_book 2 = .ok (.putfield 68, 3) := by decide +kernel
theorem dX7_book_5 : decode cX7_book 5 = .ok (.aload_n 0, 1) := by decide +kernel
theorem dX7_book_6 : decode cX7_book 6 = .ok (.getfield 81, 3) := by decide +kernel
theorem dX7_book_9 : decode cX7_book 9 = .ok (.bipush 60, 2) := by decide +kernel
theorem dX7_book_11 : decode cX7_book 11 = .ok (.if_icmp .eq 21, 3) := by decide +kernel
theorem dX7_book_14 : decode cX7_book 14 = .ok (.aload_n 0, 1) := by decide +kernel
theorem dX7_book_15 : decode cX7_book 15 = .ok (.iload_n 1, 1) := by decide +kernel
theorem dX7_book_16 : decode cX7_book 16 = .ok (.invokevirtual 135, 3) := by decide +kernel
theorem dX7_book_19 : decode cX7_book 19 = .ok (.ifCond .eq 13, 3) := by decide +kernel
theorem dX7_book_22 : decode cX7_book 22 = .ok (.iload_n 2, 1) := by decide +kernel
theorem dX7_book_23 : decode cX7_book 23 = .ok (.iconst 1, 1) := by decide +kernel
theorem dX7_book_24 : decode cX7_book 24 = .ok (.bipush 40, 2) := by decide +kernel
theorem dX7_book_26 : decode cX7_book 26 = .ok (.invokestatic 74, 3) := by decide +kernel
theorem dX7_book_29 : decode cX7_book 29 = .ok (.ifCond .ne 5, 3) := by decide +kernel
theorem dX7_book_32 : decode cX7_book 32 = .ok (.iconst (-1), 1) := by decide +kernel
theorem dX7_book_33 : decode cX7_book 33 = .ok (.ireturn, 1) := by decide +kernel
theorem dX7_book_34 : decode cX7_book 34 = .ok (.aload_n 0, 1) := by decide +kernel
theorem dX7_book_35 : decode cX7_book 35 = .ok (.iload_n 1, 1) := by decide +kernel
theorem dX7_book_36 : decode cX7_book 36 = .ok (.invokevirtual 138, 3) := by decide +kernel
theorem dX7_book_39 : decode cX7_book 39 = .ok (.istore_n 3, 1) := by decide +kernel
theorem dX7_book_40 : decode cX7_book 40 = .ok (.aload_n 0, 1) := by decide +kernel
theorem dX7_book_41 : decode cX7_book 41 = .ok (.iload_n 3, 1) := by decide +kernel
theorem dX7_book_42 : decode cX7_book 42 = .ok (.iload_n 1, 1) := by decide +kernel
theorem dX7_book_43 : decode cX7_book 43 = .ok (.iload_n 2, 1) := by decide +kernel
theorem dX7_book_44 : decode cX7_book 44 = .ok (.invokevirtual 141, 3) := by decide +kernel
theorem dX7_book_47 : decode cX7_book 47 = .ok (.aload_n 0, 1) := by decide +kernel
theorem dX7_book_48 : decode cX7_book 48 = .ok (.iconst 0, 1) := by decide +kernel
theorem dX7_book_49 : decode cX7_book 49 = .ok (.invokevirtual 124, 3) := by decide +kernel
theorem dX7_book_52 : decode cX7_book 52 = .ok (.ifCond .ne 10, 3) := by decide +kernel
theorem dX7_book_55 : decode cX7_book 55 = .ok (.aload_n 0, 1) := by decide +kernel
theorem dX7_book_56 : decode cX7_book 56 = .ok (.iload_n 3, 1) := by decide +kernel
theorem dX7_book_57 : decode cX7_book 57 = .ok (.invokevirtual 145, 3) := by decide +kernel
theorem dX7_book_60 : decode cX7_book 60 = .ok (.iconst (-1), 1) := by decide +kernel
theorem dX7_book_61 : decode cX7_book 61 = .ok (.ireturn, 1) := by decide +kernel
theorem dX7_book_62 : decode cX7_book 62 = .ok (.aload_n 0, 1) := by decide +kernel
theorem dX7_book_63 : decode cX7_book 63 = .ok (.invokevirtual 148, 3) := by decide +kernel
theorem dX7_book_66 : decode cX7_book 66 = .ok (.aload_n 0, 1) := by decide +kernel
theorem dX7_book_67 : decode cX7_book 67 = .ok (.getfield 53, 3) := by decide +kernel
theorem dX7_book_70 : decode cX7_book 70 = .ok (.iload_n 3, 1) := by decide +kernel
theorem dX7_book_71 : decode cX7_book 71 = .ok (.iaload, 1) := by decide +kernel
theorem dX7_book_72 : decode cX7_book 72 = .ok (.istore 4, 2) := by decide +kernel
theorem dX7_book_74 : decode cX7_book 74 = .ok (.iload_n 3, 1) := by decide +kernel
theorem dX7_book_75 : decode cX7_book 75 = .ok (.istore 5, 2) := by decide +kernel
theorem dX7_book_77 : decode cX7_book 77 = .ok (.iload 5, 2) := by decide +kernel
theorem dX7_book_79 : decode cX7_book 79 = .ok (.aload_n 0, 1) := by decide +kernel
theorem dX7_book_80 : decode cX7_book 80 = .ok (.getfield 81, 3) := by decide +kernel
theorem dX7_book_83 : decode cX7_book 83 = .ok (.iconst 1, 1) := by decide +kernel
theorem dX7_book_84 : decode cX7_book 84 = .ok (.isub, 1) := by decide +kernel
theorem dX7_book_85 : decode cX7_book 85 = .ok (.if_icmp .ge 25, 3) := by decide +kernel
theorem dX7_book_88 : decode cX7_book 88 = .ok (.aload_n 0, 1) := by decide +kernel
theorem dX7_book_89 : decode cX7_book 89 = .ok (.getfield 53, 3) := by decide +kernel
theorem dX7_book_92 : decode cX7_book 92 = .ok (.iload 5, 2) := by decide +kernel
theorem dX7_book_94 : decode cX7_book 94 = .ok (.aload_n 0, 1) := by decide +kernel
theorem dX7_book_95 : decode cX7_book 95 = .ok (.getfield 53, 3) := by decide +kernel
theorem dX7_book_98 : decode cX7_book 98 = .ok (.iload 5, 2) := by decide +kernel
theorem dX7_book_100 : decode cX7_book 100 = .ok (.iconst 1, 1) := by decide +kernel
theorem dX7_book_101 : decode cX7_book 101 = .ok (.iadd, 1) := by decide +kernel
theorem dX7_book_102 : decode cX7_book 102 = .ok (.iaload, 1) := by decide +kernel
theorem dX7_book_103 : decode cX7_book 103 = .ok (.iastore, 1) := by decide +kernel
theorem dX7_book_104 : decode cX7_book 104 = .ok (.iinc 5 1, 3) := by decide +kernel
theorem dX7_book_107 : decode cX7_book 107 = .ok (.goto (-30), 3) := by decide +kernel
theorem dX7_book_110 : decode cX7_book 110 = .ok (.aload_n 0, 1) := by decide +kernel
theorem dX7_book_111 : decode cX7_book 111 = .ok (.iload_n 3, 1) := by decide +kernel
theorem dX7_book_112 : decode cX7_book 112 = .ok (.invokevirtual 145, 3) := by decide +kernel
theorem dX7_book_115 : decode cX7_book 115 = .ok (.aload_n 0, 1) := by decide +kernel
theorem dX7_book_116 : decode cX7_book 116 = .ok (.invokevirtual 151, 3) := by decide +kernel
theorem dX7_book_119 : decode cX7_book 119 = .ok (.aload_n 0, 1) := by decide +kernel
theorem dX7_book_120 : decode cX7_book 120 = .ok (.getfield 81, 3) := by decide +kernel
theorem dX7_book_123 : decode cX7_book 123 = .ok (.iconst 1, 1) := by decide +kernel
theorem dX7_book_124 : decode cX7_book 124 = .ok (.isub, 1) := by decide +kernel
theorem dX7_book_125 : decode cX7_book 125 = .ok (.istore 5, 2) := by decide +kernel
theorem dX7_book_127 : decode cX7_book 127 = .ok (.iload 5, 2) := by decide +kernel
theorem dX7_book_129 : decode cX7_book 129 = .ok (.ifCond .lt 39, 3) := by decide +kernel
theorem dX7_book_132 : decode cX7_book 132 = .ok (.aload_n 0, 1) := by decide +kernel
theorem dX7_book_133 : decode cX7_book 133 = .ok (.getfield 53, 3) := by decide +kernel
theorem dX7_book_136 : decode cX7_book 136 = .ok (.iload 5, 2) := by decide +kernel
theorem dX7_book_138 : decode cX7_book 138 = .ok (.iaload, 1) := by decide +kernel
theorem dX7_book_139 : decode cX7_book 139 = .ok (.aload_n 0, 1) := by decide +kernel
theorem dX7_book_140 : decode cX7_book 140 = .ok (.getfield 25, 3) := by decide +kernel
theorem dX7_book_143 : decode cX7_book 143 = .ok (.iload 5, 2) := by decide +kernel
theorem dX7_book_145 : decode cX7_book 145 = .ok (.iaload, 1) := by decide +kernel
theorem dX7_book_146 : decode cX7_book 146 = .ok (.if_icmp .le 16, 3) := by decide +kernel
theorem dX7_book_149 : decode cX7_book 149 = .ok (.aload_n 0, 1) := by decide +kernel
theorem dX7_book_150 : decode cX7_book 150 = .ok (.iload 5, 2) := by decide +kernel
theorem dX7_book_152 : decode cX7_book 152 = .ok (.aload_n 0, 1) := by decide +kernel
theorem dX7_book_153 : decode cX7_book 153 = .ok (.getfield 53, 3) := by decide +kernel
theorem dX7_book_156 : decode cX7_book 156 = .ok (.iload 5, 2) := by decide +kernel
theorem dX7_book_158 : decode cX7_book 158 = .ok (.iaload, 1) := by decide +kernel
theorem dX7_book_159 : decode cX7_book 159 = .ok (.invokevirtual 154, 3) := by decide +kernel
theorem dX7_book_162 : decode cX7_book 162 = .ok (.iinc 5 (-1), 3) := by decide +kernel
theorem dX7_book_165 : decode cX7_book 165 = .ok (.goto (-38), 3) := by decide +kernel
theorem dX7_book_168 : decode cX7_book 168 = .ok (.iconst 0, 1) := by decide +kernel
theorem dX7_book_169 : decode cX7_book 169 = .ok (.istore 5, 2) := by decide +kernel
theorem dX7_book_171 : decode cX7_book 171 = .ok (.iload 5, 2) := by decide +kernel
theorem dX7_book_173 : decode cX7_book 173 = .ok (.aload_n 0, 1) := by decide +kernel
theorem dX7_book_174 : decode cX7_book 174 = .ok (.getfield 81, 3) := by decide +kernel
theorem dX7_book_177 : decode cX7_book 177 = .ok (.if_icmp .ge 39, 3) := by decide +kernel
theorem dX7_book_180 : decode cX7_book 180 = .ok (.aload_n 0, 1) := by decide +kernel
theorem dX7_book_181 : decode cX7_book 181 = .ok (.getfield 53, 3) := by decide +kernel
theorem dX7_book_184 : decode cX7_book 184 = .ok (.iload 5, 2) := by decide +kernel
theorem dX7_book_186 : decode cX7_book 186 = .ok (.iaload, 1) := by decide +kernel
theorem dX7_book_187 : decode cX7_book 187 = .ok (.aload_n 0, 1) := by decide +kernel
theorem dX7_book_188 : decode cX7_book 188 = .ok (.getfield 25, 3) := by decide +kernel
theorem dX7_book_191 : decode cX7_book 191 = .ok (.iload 5, 2) := by decide +kernel
theorem dX7_book_193 : decode cX7_book 193 = .ok (.iaload, 1) := by decide +kernel
theorem dX7_book_194 : decode cX7_book 194 = .ok (.if_icmp .ge 16, 3) := by decide +kernel
theorem dX7_book_197 : decode cX7_book 197 = .ok (.aload_n 0, 1) := by decide +kernel
theorem dX7_book_198 : decode cX7_book 198 = .ok (.iload 5, 2) := by decide +kernel
theorem dX7_book_200 : decode cX7_book 200 = .ok (.aload_n 0, 1) := by decide +kernel
theorem dX7_book_201 : decode cX7_book 201 = .ok (.getfield 53, 3) := by decide +kernel
theorem dX7_book_204 : decode cX7_book 204 = .ok (.iload 5, 2) := by decide +kernel
theorem dX7_book_206 : decode cX7_book 206 = .ok (.iaload, 1) := by decide +kernel
theorem dX7_book_207 : decode cX7_book 207 = .ok (.invokevirtual 154, 3) := by decide +kernel
theorem dX7_book_210 : decode cX7_book 210 = .ok (.iinc 5 1, 3) := by decide +kernel
theorem dX7_book_213 : decode cX7_book 213 = .ok (.goto (-42), 3) := by decide +kernel
theorem dX7_book_216 : decode cX7_book 216 = .ok (.aload_n 0, 1) := by decide +kernel
theorem dX7_book_217 : decode cX7_book 217 = .ok (.iload_n 3, 1) := by decide +kernel
theorem dX7_book_218 : decode cX7_book 218 = .ok (.iload_n 1, 1) := by decide +kernel
theorem dX7_book_219 : decode cX7_book 219 = .ok (.iload_n 2, 1) := by decide +kernel
theorem dX7_book_220 : decode cX7_book 220 = .ok (.invokevirtual 141, 3) := by decide +kernel
theorem dX7_book_223 : decode cX7_book 223 = .ok (.aload_n 0, 1) := by decide +kernel
theorem dX7_book_224 : decode cX7_book 224 = .ok (.getfield 25, 3) := by decide +kernel
theorem dX7_book_227 : decode cX7_book 227 = .ok (.iload_n 3, 1) := by decide +kernel
theorem dX7_book_228 : decode cX7_book 228 = .ok (.iload 4, 2) := by decide +kernel
theorem dX7_book_230 : decode cX7_book 230 = .ok (.iastore, 1) := by decide +kernel
theorem dX7_book_231 : decode cX7_book 231 = .ok (.aload_n 0, 1) := by decide +kernel
theorem dX7_book_232 : decode cX7_book 232 = .ok (.iconst 0, 1) := by decide +kernel
theorem dX7_book_233 : decode cX7_book 233 = .ok (.iload_n 3, 1) := by decide +kernel
theorem dX7_book_234 : decode cX7_book 234 = .ok (.iconst (-1), 1) := by decide +kernel
theorem dX7_book_235 : decode cX7_book 235 = .ok (.iload 4, 2) := by decide +kernel
theorem dX7_book_237 : decode cX7_book 237 = .ok (.invokevirtual 157, 3) := by decide +kernel
theorem dX7_book_240 : decode cX7_book 240 = .ok (.iload_n 3, 1) := by decide +kernel
theorem dX7_book_241 : decode cX7_book 241 = .ok (.ireturn, 1) := by decide +kernel
theorem dX7_gone_0 : decode cX7_gone 0 = .ok (.aload_n 0, 1) := by decide +kernel
theorem dX7_gone_1 : decode cX7_gone 1 = .ok (.iconst 0, 1) := by decide +kernel
theorem dX7_gone_2 : decode cX7_gone 2 = .ok (.putfield 68, 3) := by decide +kernel
theorem dX7_gone_5 : decode cX7_gone 5 = .ok (.aload_n 0, 1) := by decide +kernel
theorem dX7_gone_6 : decode cX7_gone 6 = .ok (.iload_n 1, 1) := by decide +kernel
theorem dX7_gone_7 : decode cX7_gone 7 = .ok (.invokevirtual 161, 3) := by decide +kernel
theorem dX7_gone_10 : decode cX7_gone 10 = .ok (.ifCond .ne 5, 3) := by decide +kernel
theorem dX7_gone_13 : decode cX7_gone 13 = .ok (.iconst (-1), 1) := by decide +kernel
theorem dX7_gone_14 : decode cX7_gone 14 = .ok (.ireturn, 1) := by decide +kernel
theorem dX7_gone_15 : decode cX7_gone 15 = .ok (.aload_n 0, 1) := by decide +kernel
theorem dX7_gone_16 : decode cX7_gone 16 = .ok (.getfield 25, 3) := by decide +kernel
theorem dX7_gone_19 : decode cX7_gone 19 = .ok (.iload_n 1, 1) := by decide +kernel
theorem dX7_gone_20 : decode cX7_gone 20 = .ok (.iaload, 1) := by decide +kernel
theorem dX7_gone_21 : decode cX7_gone 21 = .ok (.istore_n 2, 1) := by decide +kernel
theorem dX7_gone_22 : decode cX7_gone 22 = .ok (.aload_n 0, 1) := by decide +kernel
theorem dX7_gone_23 : decode cX7_gone 23 = .ok (.iconst 3, 1) := by decide +kernel
theorem dX7_gone_24 : decode cX7_gone 24 = .ok (.iload_n 1, 1) := by decide +kernel
theorem dX7_gone_25 : decode cX7_gone 25 = .ok (.iload_n 2, 1) := by decide +kernel
theorem dX7_gone_26 : decode cX7_gone 26 = .ok (.iconst (-1), 1) := by decide +kernel
theorem dX7_gone_27 : decode cX7_gone 27 = .ok (.invokevirtual 157, 3) := by decide +kernel
theorem dX7_gone_30 : decode cX7_gone 30 = .ok (.aload_n 0, 1) := by decide +kernel
theorem dX7_gone_31 : decode cX7_gone 31 = .ok (.iload_n 1, 1) := by decide +kernel
theorem dX7_gone_32 : decode cX7_gone 32 = .ok (.invokevirtual 145, 3) := by decide +kernel
theorem dX7_gone_35 : decode cX7_gone 35 = .ok (.aload_n 0, 1) := by decide +kernel
theorem dX7_gone_36 : decode cX7_gone 36 = .ok (.invokevirtual 151, 3) := by decide +kernel
theorem dX7_gone_39 : decode cX7_gone 39 = .ok (.iload_n 2, 1) := by decide +kernel
theorem dX7_gone_40 : decode cX7_gone 40 = .ok (.ireturn, 1) := by decide +kernel
theorem dX7_more_0 : decode cX7_more 0 = .ok (.aload_n 0, 1) := by decide +kernel
theorem dX7_more_1 : decode cX7_more 1 = .ok (.iconst 0, 1) := by decide +kernel
theorem dX7_more_2 : decode cX7_more 2 = .ok (.putfield 68, 3) := by decide +kernel
theorem dX7_more_5 : decode cX7_more 5 = .ok (.aload_n 0, 1) := by decide +kernel
theorem dX7_more_6 : decode cX7_more 6 = .ok (.iload_n 1, 1) := by decide +kernel
theorem dX7_more_7 : decode cX7_more 7 = .ok (.invokevirtual 135, 3) := by decide +kernel
theorem dX7_more_10 : decode cX7_more 10 = .ok (.ifCond .eq 13, 3) := by decide +kernel
theorem dX7_more_13 : decode cX7_more 13 = .ok (.iload_n 2, 1) := by decide +kernel
theorem dX7_more_14 : decode cX7_more 14 = .ok (.iconst 1, 1) := by decide +kernel
theorem dX7_more_15 : decode cX7_more 15 = .ok (.bipush 40, 2) := by decide +kernel
theorem dX7_more_17 : decode cX7_more 17 = .ok (.invokestatic 74, 3) := by decide +kernel
theorem dX7_more_20 : decode cX7_more 20 = .ok (.ifCond .ne 5, 3) := by decide +kernel
theorem dX7_more_23 : decode cX7_more 23 = .ok (.iconst (-1), 1) := by decide +kernel
theorem dX7_more_24 : decode cX7_more 24 = .ok (.ireturn, 1) := by decide +kernel
theorem dX7_more_25 : decode cX7_more 25 = .ok (.aload_n 0, 1) := by decide +kernel
theorem dX7_more_26 : decode cX7_more 26 = .ok (.iload_n 1, 1) := by decide +kernel
theorem dX7_more_27 : decode cX7_more 27 = .ok (.invokevirtual 138, 3) := by decide +kernel
theorem dX7_more_30 : decode cX7_more 30 = .ok (.istore_n 3, 1) := by decide +kernel
theorem dX7_more_31 : decode cX7_more 31 = .ok (.iconst 0, 1) := by decide +kernel
theorem dX7_more_32 : decode cX7_more 32 = .ok (.istore 4, 2) := by decide +kernel
theorem dX7_more_34 : decode cX7_more 34 = .ok (.iconst 1, 1) := by decide +kernel
theorem dX7_more_35 : decode cX7_more 35 = .ok (.istore 5, 2) := by decide +kernel
theorem dX7_more_37 : decode cX7_more 37 = .ok (.iload 5, 2) := by decide +kernel
theorem dX7_more_39 : decode cX7_more 39 = .ok (.ifCond .eq 55, 3) := by decide +kernel
theorem dX7_more_42 : decode cX7_more 42 = .ok (.aload_n 0, 1) := by decide +kernel
theorem dX7_more_43 : decode cX7_more 43 = .ok (.getfield 81, 3) := by decide +kernel
theorem dX7_more_46 : decode cX7_more 46 = .ok (.bipush 60, 2) := by decide +kernel
theorem dX7_more_48 : decode cX7_more 48 = .ok (.if_icmp .ge 46, 3) := by decide +kernel
theorem dX7_more_51 : decode cX7_more 51 = .ok (.aload_n 0, 1) := by decide +kernel
theorem dX7_more_52 : decode cX7_more 52 = .ok (.iload_n 3, 1) := by decide +kernel
theorem dX7_more_53 : decode cX7_more 53 = .ok (.iload_n 1, 1) := by decide +kernel
theorem dX7_more_54 : decode cX7_more 54 = .ok (.iload_n 2, 1) := by decide +kernel
theorem dX7_more_55 : decode cX7_more 55 = .ok (.invokevirtual 141, 3) := by decide +kernel
theorem dX7_more_58 : decode cX7_more 58 = .ok (.aload_n 0, 1) := by decide +kernel
theorem dX7_more_59 : decode cX7_more 59 = .ok (.iconst 0, 1) := by decide +kernel
theorem dX7_more_60 : decode cX7_more 60 = .ok (.iconst 1, 1) := by decide +kernel
theorem dX7_more_61 : decode cX7_more 61 = .ok (.invokevirtual 127, 3) := by decide +kernel
theorem dX7_more_64 : decode cX7_more 64 = .ok (.istore 5, 2) := by decide +kernel
theorem dX7_more_66 : decode cX7_more 66 = .ok (.iload 4, 2) := by decide +kernel
theorem dX7_more_68 : decode cX7_more 68 = .ok (.iload 5, 2) := by decide +kernel
theorem dX7_more_70 : decode cX7_more 70 = .ok (.ifCond .eq 7, 3) := by decide +kernel
theorem dX7_more_73 : decode cX7_more 73 = .ok (.iconst 1, 1) := by decide +kernel
theorem dX7_more_74 : decode cX7_more 74 = .ok (.goto 4, 3) := by decide +kernel
theorem dX7_more_77 : decode cX7_more 77 = .ok (.iconst 0, 1) := by decide +kernel
theorem dX7_more_78 : decode cX7_more 78 = .ok (.iadd, 1) := by decide +kernel
theorem dX7_more_79 : decode cX7_more 79 = .ok (.istore 4, 2) := by decide +kernel
theorem dX7_more_81 : decode cX7_more 81 = .ok (.iload 5, 2) := by decide +kernel
theorem dX7_more_83 : decode cX7_more 83 = .ok (.ifCond .ne (-46), 3) := by decide +kernel
theorem dX7_more_86 : decode cX7_more 86 = .ok (.aload_n 0, 1) := by decide +kernel
theorem dX7_more_87 : decode cX7_more 87 = .ok (.iload_n 3, 1) := by decide +kernel
theorem dX7_more_88 : decode cX7_more 88 = .ok (.invokevirtual 145, 3) := by decide +kernel
theorem dX7_more_91 : decode cX7_more 91 = .ok (.goto (-54), 3) := by decide +kernel
theorem dX7_more_94 : decode cX7_more 94 = .ok (.iconst 0, 1) := by decide +kernel
theorem dX7_more_95 : decode cX7_more 95 = .ok (.istore 6, 2) := by decide +kernel
theorem dX7_more_97 : decode cX7_more 97 = .ok (.iload 6, 2) := by decide +kernel
theorem dX7_more_99 : decode cX7_more 99 = .ok (.iload 4, 2) := by decide +kernel
theorem dX7_more_101 : decode cX7_more 101 = .ok (.if_icmp .ge 14, 3) := by decide +kernel
theorem dX7_more_104 : decode cX7_more 104 = .ok (.aload_n 0, 1) := by decide +kernel
theorem dX7_more_105 : decode cX7_more 105 = .ok (.iload_n 3, 1) := by decide +kernel
theorem dX7_more_106 : decode cX7_more 106 = .ok (.invokevirtual 145, 3) := by decide +kernel
theorem dX7_more_109 : decode cX7_more 109 = .ok (.iinc 6 1, 3) := by decide +kernel
theorem dX7_more_112 : decode cX7_more 112 = .ok (.goto (-15), 3) := by decide +kernel
theorem dX7_more_115 : decode cX7_more 115 = .ok (.iload 4, 2) := by decide +kernel
theorem dX7_more_117 : decode cX7_more 117 = .ok (.ireturn, 1) := by decide +kernel
theorem dX7_ends_0 : decode cX7_ends 0 = .ok (.aload_n 0, 1) := by decide +kernel
theorem dX7_ends_1 : decode cX7_ends 1 = .ok (.iconst 0, 1) := by decide +kernel
theorem dX7_ends_2 : decode cX7_ends 2 = .ok (.putfield 164, 3) := by decide +kernel
theorem dX7_ends_5 : decode cX7_ends 5 = .ok (.return_, 1) := by decide +kernel
theorem dX7_moves_0 : decode cX7_moves 0 = .ok (.aload_n 0, 1) := by decide +kernel
theorem dX7_moves_1 : decode cX7_moves 1 = .ok (.iload_n 2, 1) := by decide +kernel
theorem dX7_moves_2 : decode cX7_moves 2 = .ok (.aload_n 0, 1) := by decide +kernel
theorem dX7_moves_3 : decode cX7_moves 3 = .ok (.getfield 25, 3) := by decide +kernel
theorem dX7_moves_6 : decode cX7_moves 6 = .ok (.iload_n 1, 1) := by decide +kernel
theorem dX7_moves_7 : decode cX7_moves 7 = .ok (.iaload, 1) := by decide +kernel
theorem dX7_moves_8 : decode cX7_moves 8 = .ok (.if_icmp .le 7, 3) := by decide +kernel
theorem dX7_moves_11 : decode cX7_moves 11 = .ok (.iconst 1, 1) := by decide +kernel
theorem dX7_moves_12 : decode cX7_moves 12 = .ok (.goto 4, 3) := by decide +kernel
theorem dX7_moves_15 : decode cX7_moves 15 = .ok (.iconst 2, 1) := by decide +kernel
theorem dX7_moves_16 : decode cX7_moves 16 = .ok (.iload_n 1, 1) := by decide +kernel
theorem dX7_moves_17 : decode cX7_moves 17 = .ok (.aload_n 0, 1) := by decide +kernel
theorem dX7_moves_18 : decode cX7_moves 18 = .ok (.getfield 25, 3) := by decide +kernel
theorem dX7_moves_21 : decode cX7_moves 21 = .ok (.iload_n 1, 1) := by decide +kernel
theorem dX7_moves_22 : decode cX7_moves 22 = .ok (.iaload, 1) := by decide +kernel
theorem dX7_moves_23 : decode cX7_moves 23 = .ok (.iload_n 2, 1) := by decide +kernel
theorem dX7_moves_24 : decode cX7_moves 24 = .ok (.invokevirtual 157, 3) := by decide +kernel
theorem dX7_moves_27 : decode cX7_moves 27 = .ok (.aload_n 0, 1) := by decide +kernel
theorem dX7_moves_28 : decode cX7_moves 28 = .ok (.getfield 25, 3) := by decide +kernel
theorem dX7_moves_31 : decode cX7_moves 31 = .ok (.iload_n 1, 1) := by decide +kernel
theorem dX7_moves_32 : decode cX7_moves 32 = .ok (.iload_n 2, 1) := by decide +kernel
theorem dX7_moves_33 : decode cX7_moves 33 = .ok (.iastore, 1) := by decide +kernel
theorem dX7_moves_34 : decode cX7_moves 34 = .ok (.aload_n 0, 1) := by decide +kernel
theorem dX7_moves_35 : decode cX7_moves 35 = .ok (.getfield 28, 3) := by decide +kernel
theorem dX7_moves_38 : decode cX7_moves 38 = .ok (.iload_n 1, 1) := by decide +kernel
theorem dX7_moves_39 : decode cX7_moves 39 = .ok (.dup2, 1) := by decide +kernel
theorem dX7_moves_40 : decode cX7_moves 40 = .ok (.iaload, 1) := by decide +kernel
theorem dX7_moves_41 : decode cX7_moves 41 = .ok (.iconst 1, 1) := by decide +kernel
theorem dX7_moves_42 : decode cX7_moves 42 = .ok (.iadd, 1) := by decide +kernel
theorem dX7_moves_43 : decode cX7_moves 43 = .ok (.iastore, 1) := by decide +kernel
theorem dX7_moves_44 : decode cX7_moves 44 = .ok (.aload_n 0, 1) := by decide +kernel
theorem dX7_moves_45 : decode cX7_moves 45 = .ok (.dup, 1) := by decide +kernel
theorem dX7_moves_46 : decode cX7_moves 46 = .ok (.getfield 168, 3) := by decide +kernel
theorem dX7_moves_49 : decode cX7_moves 49 = .ok (.iconst 1, 1) := by decide +kernel
theorem dX7_moves_50 : decode cX7_moves 50 = .ok (.iadd, 1) := by decide +kernel
theorem dX7_moves_51 : decode cX7_moves 51 = .ok (.putfield 168, 3) := by decide +kernel
theorem dX7_moves_54 : decode cX7_moves 54 = .ok (.return_, 1) := by decide +kernel
theorem dX7_plans_0 : decode cX7_plans 0 = .ok (.aload_n 0, 1) := by decide +kernel
theorem dX7_plans_1 : decode cX7_plans 1 = .ok (.getfield 56, 3) := by decide +kernel
theorem dX7_plans_4 : decode cX7_plans 4 = .ok (.aload_n 0, 1) := by decide +kernel
theorem dX7_plans_5 : decode cX7_plans 5 = .ok (.getfield 171, 3) := by decide +kernel
theorem dX7_plans_8 : decode cX7_plans 8 = .ok (.iload_n 1, 1) := by decide +kernel
theorem dX7_plans_9 : decode cX7_plans 9 = .ok (.iastore, 1) := by decide +kernel
theorem dX7_plans_10 : decode cX7_plans 10 = .ok (.aload_n 0, 1) := by decide +kernel
theorem dX7_plans_11 : decode cX7_plans 11 = .ok (.getfield 59, 3) := by decide +kernel
theorem dX7_plans_14 : decode cX7_plans 14 = .ok (.aload_n 0, 1) := by decide +kernel
theorem dX7_plans_15 : decode cX7_plans 15 = .ok (.getfield 171, 3) := by decide +kernel
theorem dX7_plans_18 : decode cX7_plans 18 = .ok (.aload_n 0, 1) := by decide +kernel
theorem dX7_plans_19 : decode cX7_plans 19 = .ok (.getfield 25, 3) := by decide +kernel
theorem dX7_plans_22 : decode cX7_plans 22 = .ok (.iload_n 1, 1) := by decide +kernel
theorem dX7_plans_23 : decode cX7_plans 23 = .ok (.iaload, 1) := by decide +kernel
theorem dX7_plans_24 : decode cX7_plans 24 = .ok (.iastore, 1) := by decide +kernel
theorem dX7_plans_25 : decode cX7_plans 25 = .ok (.aload_n 0, 1) := by decide +kernel
theorem dX7_plans_26 : decode cX7_plans 26 = .ok (.getfield 62, 3) := by decide +kernel
theorem dX7_plans_29 : decode cX7_plans 29 = .ok (.aload_n 0, 1) := by decide +kernel
theorem dX7_plans_30 : decode cX7_plans 30 = .ok (.getfield 171, 3) := by decide +kernel
theorem dX7_plans_33 : decode cX7_plans 33 = .ok (.aload_n 0, 1) := by decide +kernel
theorem dX7_plans_34 : decode cX7_plans 34 = .ok (.getfield 53, 3) := by decide +kernel
theorem dX7_plans_37 : decode cX7_plans 37 = .ok (.iload_n 1, 1) := by decide +kernel
theorem dX7_plans_38 : decode cX7_plans 38 = .ok (.iaload, 1) := by decide +kernel
theorem dX7_plans_39 : decode cX7_plans 39 = .ok (.iastore, 1) := by decide +kernel
theorem dX7_plans_40 : decode cX7_plans 40 = .ok (.aload_n 0, 1) := by decide +kernel
theorem dX7_plans_41 : decode cX7_plans 41 = .ok (.dup, 1) := by decide +kernel
theorem dX7_plans_42 : decode cX7_plans 42 = .ok (.getfield 171, 3) := by decide +kernel
theorem dX7_plans_45 : decode cX7_plans 45 = .ok (.iconst 1, 1) := by decide +kernel
theorem dX7_plans_46 : decode cX7_plans 46 = .ok (.iadd, 1) := by decide +kernel
theorem dX7_plans_47 : decode cX7_plans 47 = .ok (.putfield 171, 3) := by decide +kernel
theorem dX7_plans_50 : decode cX7_plans 50 = .ok (.return_, 1) := by decide +kernel
theorem dX7_plan_0 : decode cX7_plan 0 = .ok (.aload_n 0, 1) := by decide +kernel
theorem dX7_plan_1 : decode cX7_plan 1 = .ok (.iconst 0, 1) := by decide +kernel
theorem dX7_plan_2 : decode cX7_plan 2 = .ok (.putfield 68, 3) := by decide +kernel
theorem dX7_plan_5 : decode cX7_plan 5 = .ok (.iload_n 1, 1) := by decide +kernel
theorem dX7_plan_6 : decode cX7_plan 6 = .ok (.invokestatic 121, 3) := by decide +kernel
theorem dX7_plan_9 : decode cX7_plan 9 = .ok (.ifCond .eq 11, 3) := by decide +kernel
theorem dX7_plan_12 : decode cX7_plan 12 = .ok (.aload_n 0, 1) := by decide +kernel
theorem dX7_plan_13 : decode cX7_plan 13 = .ok (.iload_n 1, 1) := by decide +kernel
theorem dX7_plan_14 : decode cX7_plan 14 = .ok (.invokevirtual 124, 3) := by decide +kernel
theorem dX7_plan_17 : decode cX7_plan 17 = .ok (.ifCond .ne 5, 3) := by decide +kernel
theorem dX7_plan_20 : decode cX7_plan 20 = .ok (.iconst (-1), 1) := by decide +kernel
theorem dX7_plan_21 : decode cX7_plan 21 = .ok (.ireturn, 1) := by decide +kernel
theorem dX7_plan_22 : decode cX7_plan 22 = .ok (.aload_n 0, 1) := by decide +kernel
theorem dX7_plan_23 : decode cX7_plan 23 = .ok (.invokevirtual 148, 3) := by decide +kernel
theorem dX7_plan_26 : decode cX7_plan 26 = .ok (.aload_n 0, 1) := by decide +kernel
theorem dX7_plan_27 : decode cX7_plan 27 = .ok (.iconst 0, 1) := by decide +kernel
theorem dX7_plan_28 : decode cX7_plan 28 = .ok (.putfield 171, 3) := by decide +kernel
theorem dX7_plan_31 : decode cX7_plan 31 = .ok (.aload_n 0, 1) := by decide +kernel
theorem dX7_plan_32 : decode cX7_plan 32 = .ok (.iconst 0, 1) := by decide +kernel
theorem dX7_plan_33 : decode cX7_plan 33 = .ok (.putfield 174, 3) := by decide +kernel
theorem dX7_plan_36 : decode cX7_plan 36 = .ok (.aload_n 0, 1) := by decide +kernel
theorem dX7_plan_37 : decode cX7_plan 37 = .ok (.iload_n 1, 1) := by decide +kernel
theorem dX7_plan_38 : decode cX7_plan 38 = .ok (.putfield 177, 3) := by decide +kernel
theorem dX7_plan_41 : decode cX7_plan 41 = .ok (.aload_n 0, 1) := by decide +kernel
theorem dX7_plan_42 : decode cX7_plan 42 = .ok (.getfield 81, 3) := by decide +kernel
theorem dX7_plan_45 : decode cX7_plan 45 = .ok (.iconst 1, 1) := by decide +kernel
theorem dX7_plan_46 : decode cX7_plan 46 = .ok (.isub, 1) := by decide +kernel
theorem dX7_plan_47 : decode cX7_plan 47 = .ok (.istore_n 2, 1) := by decide +kernel
theorem dX7_plan_48 : decode cX7_plan 48 = .ok (.iload_n 2, 1) := by decide +kernel
theorem dX7_plan_49 : decode cX7_plan 49 = .ok (.ifCond .lt 41, 3) := by decide +kernel
theorem dX7_plan_52 : decode cX7_plan 52 = .ok (.aload_n 0, 1) := by decide +kernel
theorem dX7_plan_53 : decode cX7_plan 53 = .ok (.getfield 65, 3) := by decide +kernel
theorem dX7_plan_56 : decode cX7_plan 56 = .ok (.iload_n 2, 1) := by decide +kernel
theorem dX7_plan_57 : decode cX7_plan 57 = .ok (.aload_n 0, 1) := by decide +kernel
theorem dX7_plan_58 : decode cX7_plan 58 = .ok (.getfield 53, 3) := by decide +kernel
theorem dX7_plan_61 : decode cX7_plan 61 = .ok (.iload_n 2, 1) := by decide +kernel
theorem dX7_plan_62 : decode cX7_plan 62 = .ok (.iaload, 1) := by decide +kernel
theorem dX7_plan_63 : decode cX7_plan 63 = .ok (.iastore, 1) := by decide +kernel
theorem dX7_plan_64 : decode cX7_plan 64 = .ok (.aload_n 0, 1) := by decide +kernel
theorem dX7_plan_65 : decode cX7_plan 65 = .ok (.getfield 53, 3) := by decide +kernel
theorem dX7_plan_68 : decode cX7_plan 68 = .ok (.iload_n 2, 1) := by decide +kernel
theorem dX7_plan_69 : decode cX7_plan 69 = .ok (.iaload, 1) := by decide +kernel
theorem dX7_plan_70 : decode cX7_plan 70 = .ok (.aload_n 0, 1) := by decide +kernel
theorem dX7_plan_71 : decode cX7_plan 71 = .ok (.getfield 25, 3) := by decide +kernel
theorem dX7_plan_74 : decode cX7_plan 74 = .ok (.iload_n 2, 1) := by decide +kernel
theorem dX7_plan_75 : decode cX7_plan 75 = .ok (.iaload, 1) := by decide +kernel
theorem dX7_plan_76 : decode cX7_plan 76 = .ok (.if_icmp .le 8, 3) := by decide +kernel
theorem dX7_plan_79 : decode cX7_plan 79 = .ok (.aload_n 0, 1) := by decide +kernel
theorem dX7_plan_80 : decode cX7_plan 80 = .ok (.iload_n 2, 1) := by decide +kernel
theorem dX7_plan_81 : decode cX7_plan 81 = .ok (.invokevirtual 180, 3) := by decide +kernel
theorem dX7_plan_84 : decode cX7_plan 84 = .ok (.iinc 2 (-1), 3) := by decide +kernel
theorem dX7_plan_87 : decode cX7_plan 87 = .ok (.goto (-39), 3) := by decide +kernel
theorem dX7_plan_90 : decode cX7_plan 90 = .ok (.iconst 0, 1) := by decide +kernel
theorem dX7_plan_91 : decode cX7_plan 91 = .ok (.istore_n 2, 1) := by decide +kernel
theorem dX7_plan_92 : decode cX7_plan 92 = .ok (.iload_n 2, 1) := by decide +kernel
theorem dX7_plan_93 : decode cX7_plan 93 = .ok (.aload_n 0, 1) := by decide +kernel
theorem dX7_plan_94 : decode cX7_plan 94 = .ok (.getfield 81, 3) := by decide +kernel
theorem dX7_plan_97 : decode cX7_plan 97 = .ok (.if_icmp .ge 29, 3) := by decide +kernel
theorem dX7_plan_100 : decode cX7_plan 100 = .ok (.aload_n 0, 1) := by decide +kernel
theorem dX7_plan_101 : decode cX7_plan 101 = .ok (.getfield 53, 3) := by decide +kernel
theorem dX7_plan_104 : decode cX7_plan 104 = .ok (.iload_n 2, 1) := by decide +kernel
theorem dX7_plan_105 : decode cX7_plan 105 = .ok (.iaload, 1) := by decide +kernel
theorem dX7_plan_106 : decode cX7_plan 106 = .ok (.aload_n 0, 1) := by decide +kernel
theorem dX7_plan_107 : decode cX7_plan 107 = .ok (.getfield 25, 3) := by decide +kernel
theorem dX7_plan_110 : decode cX7_plan 110 = .ok (.iload_n 2, 1) := by decide +kernel
theorem dX7_plan_111 : decode cX7_plan 111 = .ok (.iaload, 1) := by decide +kernel
theorem dX7_plan_112 : decode cX7_plan 112 = .ok (.if_icmp .ge 8, 3) := by decide +kernel
theorem dX7_plan_115 : decode cX7_plan 115 = .ok (.aload_n 0, 1) := by decide +kernel
theorem dX7_plan_116 : decode cX7_plan 116 = .ok (.iload_n 2, 1) := by decide +kernel
theorem dX7_plan_117 : decode cX7_plan 117 = .ok (.invokevirtual 180, 3) := by decide +kernel
theorem dX7_plan_120 : decode cX7_plan 120 = .ok (.iinc 2 1, 3) := by decide +kernel
theorem dX7_plan_123 : decode cX7_plan 123 = .ok (.goto (-31), 3) := by decide +kernel
theorem dX7_plan_126 : decode cX7_plan 126 = .ok (.aload_n 0, 1) := by decide +kernel
theorem dX7_plan_127 : decode cX7_plan 127 = .ok (.aload_n 0, 1) := by decide +kernel
theorem dX7_plan_128 : decode cX7_plan 128 = .ok (.getfield 171, 3) := by decide +kernel
theorem dX7_plan_131 : decode cX7_plan 131 = .ok (.ifCond .le 7, 3) := by decide +kernel
theorem dX7_plan_134 : decode cX7_plan 134 = .ok (.iconst 1, 1) := by decide +kernel
theorem dX7_plan_135 : decode cX7_plan 135 = .ok (.goto 4, 3) := by decide +kernel
theorem dX7_plan_138 : decode cX7_plan 138 = .ok (.iconst 0, 1) := by decide +kernel
theorem dX7_plan_139 : decode cX7_plan 139 = .ok (.putfield 164, 3) := by decide +kernel
theorem dX7_plan_142 : decode cX7_plan 142 = .ok (.aload_n 0, 1) := by decide +kernel
theorem dX7_plan_143 : decode cX7_plan 143 = .ok (.getfield 171, 3) := by decide +kernel
theorem dX7_plan_146 : decode cX7_plan 146 = .ok (.ireturn, 1) := by decide +kernel
theorem dX7_drop_0 : decode cX7_drop 0 = .ok (.aload_n 0, 1) := by decide +kernel
theorem dX7_drop_1 : decode cX7_drop 1 = .ok (.iconst 0, 1) := by decide +kernel
theorem dX7_drop_2 : decode cX7_drop 2 = .ok (.putfield 68, 3) := by decide +kernel
theorem dX7_drop_5 : decode cX7_drop 5 = .ok (.aload_n 0, 1) := by decide +kernel
theorem dX7_drop_6 : decode cX7_drop 6 = .ok (.getfield 164, 3) := by decide +kernel
theorem dX7_drop_9 : decode cX7_drop 9 = .ok (.ifCond .ne 5, 3) := by decide +kernel
theorem dX7_drop_12 : decode cX7_drop 12 = .ok (.iconst (-1), 1) := by decide +kernel
theorem dX7_drop_13 : decode cX7_drop 13 = .ok (.ireturn, 1) := by decide +kernel
theorem dX7_drop_14 : decode cX7_drop 14 = .ok (.aload_n 0, 1) := by decide +kernel
theorem dX7_drop_15 : decode cX7_drop 15 = .ok (.invokevirtual 151, 3) := by decide +kernel
theorem dX7_drop_18 : decode cX7_drop 18 = .ok (.aload_n 0, 1) := by decide +kernel
theorem dX7_drop_19 : decode cX7_drop 19 = .ok (.getfield 171, 3) := by decide +kernel
theorem dX7_drop_22 : decode cX7_drop 22 = .ok (.aload_n 0, 1) := by decide +kernel
theorem dX7_drop_23 : decode cX7_drop 23 = .ok (.getfield 174, 3) := by decide +kernel
theorem dX7_drop_26 : decode cX7_drop 26 = .ok (.isub, 1) := by decide +kernel
theorem dX7_drop_27 : decode cX7_drop 27 = .ok (.ireturn, 1) := by decide +kernel
theorem dX7_goesOn_0 : decode cX7_goesOn 0 = .ok (.aload_n 0, 1) := by decide +kernel
theorem dX7_goesOn_1 : decode cX7_goesOn 1 = .ok (.getfield 56, 3) := by decide +kernel
theorem dX7_goesOn_4 : decode cX7_goesOn 4 = .ok (.aload_n 0, 1) := by decide +kernel
theorem dX7_goesOn_5 : decode cX7_goesOn 5 = .ok (.getfield 174, 3) := by decide +kernel
theorem dX7_goesOn_8 : decode cX7_goesOn 8 = .ok (.iaload, 1) := by decide +kernel
theorem dX7_goesOn_9 : decode cX7_goesOn 9 = .ok (.istore_n 1, 1) := by decide +kernel
theorem dX7_goesOn_10 : decode cX7_goesOn 10 = .ok (.aload_n 0, 1) := by decide +kernel
theorem dX7_goesOn_11 : decode cX7_goesOn 11 = .ok (.iload_n 1, 1) := by decide +kernel
theorem dX7_goesOn_12 : decode cX7_goesOn 12 = .ok (.aload_n 0, 1) := by decide +kernel
theorem dX7_goesOn_13 : decode cX7_goesOn 13 = .ok (.getfield 62, 3) := by decide +kernel
theorem dX7_goesOn_16 : decode cX7_goesOn 16 = .ok (.aload_n 0, 1) := by decide +kernel
theorem dX7_goesOn_17 : decode cX7_goesOn 17 = .ok (.getfield 174, 3) := by decide +kernel
theorem dX7_goesOn_20 : decode cX7_goesOn 20 = .ok (.iaload, 1) := by decide +kernel
theorem dX7_goesOn_21 : decode cX7_goesOn 21 = .ok (.invokevirtual 154, 3) := by decide +kernel
theorem dX7_goesOn_24 : decode cX7_goesOn 24 = .ok (.aload_n 0, 1) := by decide +kernel
theorem dX7_goesOn_25 : decode cX7_goesOn 25 = .ok (.dup, 1) := by decide +kernel
theorem dX7_goesOn_26 : decode cX7_goesOn 26 = .ok (.getfield 174, 3) := by decide +kernel
theorem dX7_goesOn_29 : decode cX7_goesOn 29 = .ok (.iconst 1, 1) := by decide +kernel
theorem dX7_goesOn_30 : decode cX7_goesOn 30 = .ok (.iadd, 1) := by decide +kernel
theorem dX7_goesOn_31 : decode cX7_goesOn 31 = .ok (.putfield 174, 3) := by decide +kernel
theorem dX7_goesOn_34 : decode cX7_goesOn 34 = .ok (.aload_n 0, 1) := by decide +kernel
theorem dX7_goesOn_35 : decode cX7_goesOn 35 = .ok (.getfield 174, 3) := by decide +kernel
theorem dX7_goesOn_38 : decode cX7_goesOn 38 = .ok (.aload_n 0, 1) := by decide +kernel
theorem dX7_goesOn_39 : decode cX7_goesOn 39 = .ok (.getfield 171, 3) := by decide +kernel
theorem dX7_goesOn_42 : decode cX7_goesOn 42 = .ok (.if_icmp .ne 7, 3) := by decide +kernel
theorem dX7_goesOn_45 : decode cX7_goesOn 45 = .ok (.aload_n 0, 1) := by decide +kernel
theorem dX7_goesOn_46 : decode cX7_goesOn 46 = .ok (.invokevirtual 151, 3) := by decide +kernel
theorem dX7_goesOn_49 : decode cX7_goesOn 49 = .ok (.iload_n 1, 1) := by decide +kernel
theorem dX7_goesOn_50 : decode cX7_goesOn 50 = .ok (.ireturn, 1) := by decide +kernel
theorem dX7_move_0 : decode cX7_move 0 = .ok (.aload_n 0, 1) := by decide +kernel
theorem dX7_move_1 : decode cX7_move 1 = .ok (.iconst 0, 1) := by decide +kernel
theorem dX7_move_2 : decode cX7_move 2 = .ok (.putfield 68, 3) := by decide +kernel
theorem dX7_move_5 : decode cX7_move 5 = .ok (.aload_n 0, 1) := by decide +kernel
theorem dX7_move_6 : decode cX7_move 6 = .ok (.getfield 164, 3) := by decide +kernel
theorem dX7_move_9 : decode cX7_move 9 = .ok (.ifCond .eq 10, 3) := by decide +kernel
theorem dX7_move_12 : decode cX7_move 12 = .ok (.aload_n 0, 1) := by decide +kernel
theorem dX7_move_13 : decode cX7_move 13 = .ok (.invokevirtual 183, 3) := by decide +kernel
theorem dX7_move_16 : decode cX7_move 16 = .ok (.goto 4, 3) := by decide +kernel
theorem dX7_move_19 : decode cX7_move 19 = .ok (.iconst (-1), 1) := by decide +kernel
theorem dX7_move_20 : decode cX7_move 20 = .ok (.ireturn, 1) := by decide +kernel
theorem dX7_day_0 : decode cX7_day 0 = .ok (.aload_n 0, 1) := by decide +kernel
theorem dX7_day_1 : decode cX7_day 1 = .ok (.iconst 0, 1) := by decide +kernel
theorem dX7_day_2 : decode cX7_day 2 = .ok (.putfield 68, 3) := by decide +kernel
theorem dX7_day_5 : decode cX7_day 5 = .ok (.aload_n 0, 1) := by decide +kernel
theorem dX7_day_6 : decode cX7_day 6 = .ok (.getfield 164, 3) := by decide +kernel
theorem dX7_day_9 : decode cX7_day 9 = .ok (.ifCond .ne 5, 3) := by decide +kernel
theorem dX7_day_12 : decode cX7_day 12 = .ok (.iconst (-1), 1) := by decide +kernel
theorem dX7_day_13 : decode cX7_day 13 = .ok (.ireturn, 1) := by decide +kernel
theorem dX7_day_14 : decode cX7_day 14 = .ok (.iconst 0, 1) := by decide +kernel
theorem dX7_day_15 : decode cX7_day 15 = .ok (.istore_n 1, 1) := by decide +kernel
theorem dX7_day_16 : decode cX7_day 16 = .ok (.aload_n 0, 1) := by decide +kernel
theorem dX7_day_17 : decode cX7_day 17 = .ok (.getfield 31, 3) := by decide +kernel
theorem dX7_day_20 : decode cX7_day 20 = .ok (.istore_n 2, 1) := by decide +kernel
theorem dX7_day_21 : decode cX7_day 21 = .ok (.aload_n 0, 1) := by decide +kernel
theorem dX7_day_22 : decode cX7_day 22 = .ok (.getfield 164, 3) := by decide +kernel
theorem dX7_day_25 : decode cX7_day 25 = .ok (.ifCond .eq 49, 3) := by decide +kernel
theorem dX7_day_28 : decode cX7_day 28 = .ok (.aload_n 0, 1) := by decide +kernel
theorem dX7_day_29 : decode cX7_day 29 = .ok (.getfield 22, 3) := by decide +kernel
theorem dX7_day_32 : decode cX7_day 32 = .ok (.aload_n 0, 1) := by decide +kernel
theorem dX7_day_33 : decode cX7_day 33 = .ok (.getfield 56, 3) := by decide +kernel
theorem dX7_day_36 : decode cX7_day 36 = .ok (.aload_n 0, 1) := by decide +kernel
theorem dX7_day_37 : decode cX7_day 37 = .ok (.getfield 174, 3) := by decide +kernel
theorem dX7_day_40 : decode cX7_day 40 = .ok (.iaload, 1) := by decide +kernel
theorem dX7_day_41 : decode cX7_day 41 = .ok (.iaload, 1) := by decide +kernel
theorem dX7_day_42 : decode cX7_day 42 = .ok (.iload_n 2, 1) := by decide +kernel
theorem dX7_day_43 : decode cX7_day 43 = .ok (.if_icmp .gt 31, 3) := by decide +kernel
theorem dX7_day_46 : decode cX7_day 46 = .ok (.iload_n 2, 1) := by decide +kernel
theorem dX7_day_47 : decode cX7_day 47 = .ok (.aload_n 0, 1) := by decide +kernel
theorem dX7_day_48 : decode cX7_day 48 = .ok (.getfield 22, 3) := by decide +kernel
theorem dX7_day_51 : decode cX7_day 51 = .ok (.aload_n 0, 1) := by decide +kernel
theorem dX7_day_52 : decode cX7_day 52 = .ok (.getfield 56, 3) := by decide +kernel
theorem dX7_day_55 : decode cX7_day 55 = .ok (.aload_n 0, 1) := by decide +kernel
theorem dX7_day_56 : decode cX7_day 56 = .ok (.getfield 174, 3) := by decide +kernel
theorem dX7_day_59 : decode cX7_day 59 = .ok (.iaload, 1) := by decide +kernel
theorem dX7_day_60 : decode cX7_day 60 = .ok (.iaload, 1) := by decide +kernel
theorem dX7_day_61 : decode cX7_day 61 = .ok (.isub, 1) := by decide +kernel
theorem dX7_day_62 : decode cX7_day 62 = .ok (.istore_n 2, 1) := by decide +kernel
theorem dX7_day_63 : decode cX7_day 63 = .ok (.aload_n 0, 1) := by decide +kernel
theorem dX7_day_64 : decode cX7_day 64 = .ok (.invokevirtual 183, 3) := by decide +kernel
theorem dX7_day_67 : decode cX7_day 67 = .ok (.istore_n 3, 1) := by decide +kernel
theorem dX7_day_68 : decode cX7_day 68 = .ok (.iinc 1 1, 3) := by decide +kernel
theorem dX7_day_71 : decode cX7_day 71 = .ok (.goto (-50), 3) := by decide +kernel
theorem dX7_day_74 : decode cX7_day 74 = .ok (.iload_n 1, 1) := by decide +kernel
theorem dX7_day_75 : decode cX7_day 75 = .ok (.ireturn, 1) := by decide +kernel
theorem dX7_dayOf_0 : decode cX7_dayOf 0 = .ok (.iconst 0, 1) := by decide +kernel
theorem dX7_dayOf_1 : decode cX7_dayOf 1 = .ok (.istore 4, 2) := by decide +kernel
theorem dX7_dayOf_3 : decode cX7_dayOf 3 = .ok (.iload_n 3, 1) := by decide +kernel
theorem dX7_dayOf_4 : decode cX7_dayOf 4 = .ok (.istore 5, 2) := by decide +kernel
theorem dX7_dayOf_6 : decode cX7_dayOf 6 = .ok (.iload_n 1, 1) := by decide +kernel
theorem dX7_dayOf_7 : decode cX7_dayOf 7 = .ok (.istore 6, 2) := by decide +kernel
theorem dX7_dayOf_9 : decode cX7_dayOf 9 = .ok (.iload 6, 2) := by decide +kernel
theorem dX7_dayOf_11 : decode cX7_dayOf 11 = .ok (.iload_n 2, 1) := by decide +kernel
theorem dX7_dayOf_12 : decode cX7_dayOf 12 = .ok (.if_icmp .gt 43, 3) := by decide +kernel
theorem dX7_dayOf_15 : decode cX7_dayOf 15 = .ok (.aload_n 0, 1) := by decide +kernel
theorem dX7_dayOf_16 : decode cX7_dayOf 16 = .ok (.getfield 22, 3) := by decide +kernel
theorem dX7_dayOf_19 : decode cX7_dayOf 19 = .ok (.aload_n 0, 1) := by decide +kernel
theorem dX7_dayOf_20 : decode cX7_dayOf 20 = .ok (.getfield 56, 3) := by decide +kernel
theorem dX7_dayOf_23 : decode cX7_dayOf 23 = .ok (.iload 6, 2) := by decide +kernel
theorem dX7_dayOf_25 : decode cX7_dayOf 25 = .ok (.iaload, 1) := by decide +kernel
theorem dX7_dayOf_26 : decode cX7_dayOf 26 = .ok (.iaload, 1) := by decide +kernel
theorem dX7_dayOf_27 : decode cX7_dayOf 27 = .ok (.istore 7, 2) := by decide +kernel
theorem dX7_dayOf_29 : decode cX7_dayOf 29 = .ok (.iload 7, 2) := by decide +kernel
theorem dX7_dayOf_31 : decode cX7_dayOf 31 = .ok (.iload 5, 2) := by decide +kernel
theorem dX7_dayOf_33 : decode cX7_dayOf 33 = .ok (.if_icmp .le 9, 3) := by decide +kernel
theorem dX7_dayOf_36 : decode cX7_dayOf 36 = .ok (.iinc 4 1, 3) := by decide +kernel
theorem dX7_dayOf_39 : decode cX7_dayOf 39 = .ok (.iload_n 3, 1) := by decide +kernel
theorem dX7_dayOf_40 : decode cX7_dayOf 40 = .ok (.istore 5, 2) := by decide +kernel
theorem dX7_dayOf_42 : decode cX7_dayOf 42 = .ok (.iload 5, 2) := by decide +kernel
theorem dX7_dayOf_44 : decode cX7_dayOf 44 = .ok (.iload 7, 2) := by decide +kernel
theorem dX7_dayOf_46 : decode cX7_dayOf 46 = .ok (.isub, 1) := by decide +kernel
theorem dX7_dayOf_47 : decode cX7_dayOf 47 = .ok (.istore 5, 2) := by decide +kernel
theorem dX7_dayOf_49 : decode cX7_dayOf 49 = .ok (.iinc 6 1, 3) := by decide +kernel
theorem dX7_dayOf_52 : decode cX7_dayOf 52 = .ok (.goto (-43), 3) := by decide +kernel
theorem dX7_dayOf_55 : decode cX7_dayOf 55 = .ok (.iload 4, 2) := by decide +kernel
theorem dX7_dayOf_57 : decode cX7_dayOf 57 = .ok (.ireturn, 1) := by decide +kernel
theorem dX7_tripOf_0 : decode cX7_tripOf 0 = .ok (.iconst 0, 1) := by decide +kernel
theorem dX7_tripOf_1 : decode cX7_tripOf 1 = .ok (.istore_n 3, 1) := by decide +kernel
theorem dX7_tripOf_2 : decode cX7_tripOf 2 = .ok (.iload_n 1, 1) := by decide +kernel
theorem dX7_tripOf_3 : decode cX7_tripOf 3 = .ok (.iconst 1, 1) := by decide +kernel
theorem dX7_tripOf_4 : decode cX7_tripOf 4 = .ok (.iadd, 1) := by decide +kernel
theorem dX7_tripOf_5 : decode cX7_tripOf 5 = .ok (.istore 4, 2) := by decide +kernel
theorem dX7_tripOf_7 : decode cX7_tripOf 7 = .ok (.iload 4, 2) := by decide +kernel
theorem dX7_tripOf_9 : decode cX7_tripOf 9 = .ok (.iload_n 2, 1) := by decide +kernel
theorem dX7_tripOf_10 : decode cX7_tripOf 10 = .ok (.if_icmp .gt 55, 3) := by decide +kernel
theorem dX7_tripOf_13 : decode cX7_tripOf 13 = .ok (.iload_n 3, 1) := by decide +kernel
theorem dX7_tripOf_14 : decode cX7_tripOf 14 = .ok (.aload_n 0, 1) := by decide +kernel
theorem dX7_tripOf_15 : decode cX7_tripOf 15 = .ok (.getfield 59, 3) := by decide +kernel
theorem dX7_tripOf_18 : decode cX7_tripOf 18 = .ok (.iload 4, 2) := by decide +kernel
theorem dX7_tripOf_20 : decode cX7_tripOf 20 = .ok (.iaload, 1) := by decide +kernel
theorem dX7_tripOf_21 : decode cX7_tripOf 21 = .ok (.aload_n 0, 1) := by decide +kernel
theorem dX7_tripOf_22 : decode cX7_tripOf 22 = .ok (.getfield 59, 3) := by decide +kernel
theorem dX7_tripOf_25 : decode cX7_tripOf 25 = .ok (.iload 4, 2) := by decide +kernel
theorem dX7_tripOf_27 : decode cX7_tripOf 27 = .ok (.iconst 1, 1) := by decide +kernel
theorem dX7_tripOf_28 : decode cX7_tripOf 28 = .ok (.isub, 1) := by decide +kernel
theorem dX7_tripOf_29 : decode cX7_tripOf 29 = .ok (.iaload, 1) := by decide +kernel
theorem dX7_tripOf_30 : decode cX7_tripOf 30 = .ok (.if_icmp .ne 22, 3) := by decide +kernel
theorem dX7_tripOf_33 : decode cX7_tripOf 33 = .ok (.aload_n 0, 1) := by decide +kernel
theorem dX7_tripOf_34 : decode cX7_tripOf 34 = .ok (.getfield 62, 3) := by decide +kernel
theorem dX7_tripOf_37 : decode cX7_tripOf 37 = .ok (.iload 4, 2) := by decide +kernel
theorem dX7_tripOf_39 : decode cX7_tripOf 39 = .ok (.iaload, 1) := by decide +kernel
theorem dX7_tripOf_40 : decode cX7_tripOf 40 = .ok (.aload_n 0, 1) := by decide +kernel
theorem dX7_tripOf_41 : decode cX7_tripOf 41 = .ok (.getfield 62, 3) := by decide +kernel
theorem dX7_tripOf_44 : decode cX7_tripOf 44 = .ok (.iload 4, 2) := by decide +kernel
theorem dX7_tripOf_46 : decode cX7_tripOf 46 = .ok (.iconst 1, 1) := by decide +kernel
theorem dX7_tripOf_47 : decode cX7_tripOf 47 = .ok (.isub, 1) := by decide +kernel
theorem dX7_tripOf_48 : decode cX7_tripOf 48 = .ok (.iaload, 1) := by decide +kernel
theorem dX7_tripOf_49 : decode cX7_tripOf 49 = .ok (.if_icmp .eq 7, 3) := by decide +kernel
theorem dX7_tripOf_52 : decode cX7_tripOf 52 = .ok (.iconst 1, 1) := by decide +kernel
theorem dX7_tripOf_53 : decode cX7_tripOf 53 = .ok (.goto 4, 3) := by decide +kernel
theorem dX7_tripOf_56 : decode cX7_tripOf 56 = .ok (.iconst 0, 1) := by decide +kernel
theorem dX7_tripOf_57 : decode cX7_tripOf 57 = .ok (.iadd, 1) := by decide +kernel
theorem dX7_tripOf_58 : decode cX7_tripOf 58 = .ok (.istore_n 3, 1) := by decide +kernel
theorem dX7_tripOf_59 : decode cX7_tripOf 59 = .ok (.iinc 4 1, 3) := by decide +kernel
theorem dX7_tripOf_62 : decode cX7_tripOf 62 = .ok (.goto (-55), 3) := by decide +kernel
theorem dX7_tripOf_65 : decode cX7_tripOf 65 = .ok (.iload_n 3, 1) := by decide +kernel
theorem dX7_tripOf_66 : decode cX7_tripOf 66 = .ok (.ireturn, 1) := by decide +kernel
theorem dX7_taken_0 : decode cX7_taken 0 = .ok (.iconst 0, 1) := by decide +kernel
theorem dX7_taken_1 : decode cX7_taken 1 = .ok (.istore_n 2, 1) := by decide +kernel
theorem dX7_taken_2 : decode cX7_taken 2 = .ok (.iconst 0, 1) := by decide +kernel
theorem dX7_taken_3 : decode cX7_taken 3 = .ok (.istore_n 3, 1) := by decide +kernel
theorem dX7_taken_4 : decode cX7_taken 4 = .ok (.iload_n 3, 1) := by decide +kernel
theorem dX7_taken_5 : decode cX7_taken 5 = .ok (.iload_n 1, 1) := by decide +kernel
theorem dX7_taken_6 : decode cX7_taken 6 = .ok (.if_icmp .ge 32, 3) := by decide +kernel
theorem dX7_taken_9 : decode cX7_taken 9 = .ok (.iload_n 2, 1) := by decide +kernel
theorem dX7_taken_10 : decode cX7_taken 10 = .ok (.aload_n 0, 1) := by decide +kernel
theorem dX7_taken_11 : decode cX7_taken 11 = .ok (.getfield 59, 3) := by decide +kernel
theorem dX7_taken_14 : decode cX7_taken 14 = .ok (.iload_n 3, 1) := by decide +kernel
theorem dX7_taken_15 : decode cX7_taken 15 = .ok (.iaload, 1) := by decide +kernel
theorem dX7_taken_16 : decode cX7_taken 16 = .ok (.aload_n 0, 1) := by decide +kernel
theorem dX7_taken_17 : decode cX7_taken 17 = .ok (.getfield 62, 3) := by decide +kernel
theorem dX7_taken_20 : decode cX7_taken 20 = .ok (.iload_n 1, 1) := by decide +kernel
theorem dX7_taken_21 : decode cX7_taken 21 = .ok (.iaload, 1) := by decide +kernel
theorem dX7_taken_22 : decode cX7_taken 22 = .ok (.if_icmp .ne 7, 3) := by decide +kernel
theorem dX7_taken_25 : decode cX7_taken 25 = .ok (.iconst 1, 1) := by decide +kernel
theorem dX7_taken_26 : decode cX7_taken 26 = .ok (.goto 4, 3) := by decide +kernel
theorem dX7_taken_29 : decode cX7_taken 29 = .ok (.iconst 0, 1) := by decide +kernel
theorem dX7_taken_30 : decode cX7_taken 30 = .ok (.iadd, 1) := by decide +kernel
theorem dX7_taken_31 : decode cX7_taken 31 = .ok (.istore_n 2, 1) := by decide +kernel
theorem dX7_taken_32 : decode cX7_taken 32 = .ok (.iinc 3 1, 3) := by decide +kernel
theorem dX7_taken_35 : decode cX7_taken 35 = .ok (.goto (-31), 3) := by decide +kernel
theorem dX7_taken_38 : decode cX7_taken 38 = .ok (.iload_n 2, 1) := by decide +kernel
theorem dX7_taken_39 : decode cX7_taken 39 = .ok (.ireturn, 1) := by decide +kernel
theorem dX7_planned_0 : decode cX7_planned 0 = .ok (.aload_n 0, 1) := by decide +kernel
theorem dX7_planned_1 : decode cX7_planned 1 = .ok (.iconst 0, 1) := by decide +kernel
theorem dX7_planned_2 : decode cX7_planned 2 = .ok (.putfield 68, 3) := by decide +kernel
theorem dX7_planned_5 : decode cX7_planned 5 = .ok (.aload_n 0, 1) := by decide +kernel
theorem dX7_planned_6 : decode cX7_planned 6 = .ok (.getfield 164, 3) := by decide +kernel
theorem dX7_planned_9 : decode cX7_planned 9 = .ok (.ifCond .eq 17, 3) := by decide +kernel
theorem dX7_planned_12 : decode cX7_planned 12 = .ok (.iload_n 1, 1) := by decide +kernel
theorem dX7_planned_13 : decode cX7_planned 13 = .ok (.iconst 0, 1) := by decide +kernel
theorem dX7_planned_14 : decode cX7_planned 14 = .ok (.aload_n 0, 1) := by decide +kernel
theorem dX7_planned_15 : decode cX7_planned 15 = .ok (.getfield 171, 3) := by decide +kernel
theorem dX7_planned_18 : decode cX7_planned 18 = .ok (.iconst 1, 1) := by decide +kernel
theorem dX7_planned_19 : decode cX7_planned 19 = .ok (.isub, 1) := by decide +kernel
theorem dX7_planned_20 : decode cX7_planned 20 = .ok (.invokestatic 74, 3) := by decide +kernel
theorem dX7_planned_23 : decode cX7_planned 23 = .ok (.ifCond .ne 5, 3) := by decide +kernel
theorem dX7_planned_26 : decode cX7_planned 26 = .ok (.iconst (-1), 1) := by decide +kernel
theorem dX7_planned_27 : decode cX7_planned 27 = .ok (.ireturn, 1) := by decide +kernel
theorem dX7_planned_28 : decode cX7_planned 28 = .ok (.iload_n 2, 1) := by decide +kernel
theorem dX7_planned_29 : decode cX7_planned 29 = .ok (.tableswitch 109 0 6 #[43, 50, 57, 64, 85, 96, 103], 43) := by decide +kernel
theorem dX7_planned_72 : decode cX7_planned 72 = .ok (.aload_n 0, 1) := by decide +kernel
theorem dX7_planned_73 : decode cX7_planned 73 = .ok (.getfield 56, 3) := by decide +kernel
theorem dX7_planned_76 : decode cX7_planned 76 = .ok (.iload_n 1, 1) := by decide +kernel
theorem dX7_planned_77 : decode cX7_planned 77 = .ok (.iaload, 1) := by decide +kernel
theorem dX7_planned_78 : decode cX7_planned 78 = .ok (.ireturn, 1) := by decide +kernel
theorem dX7_planned_79 : decode cX7_planned 79 = .ok (.aload_n 0, 1) := by decide +kernel
theorem dX7_planned_80 : decode cX7_planned 80 = .ok (.getfield 59, 3) := by decide +kernel
theorem dX7_planned_83 : decode cX7_planned 83 = .ok (.iload_n 1, 1) := by decide +kernel
theorem dX7_planned_84 : decode cX7_planned 84 = .ok (.iaload, 1) := by decide +kernel
theorem dX7_planned_85 : decode cX7_planned 85 = .ok (.ireturn, 1) := by decide +kernel
theorem dX7_planned_86 : decode cX7_planned 86 = .ok (.aload_n 0, 1) := by decide +kernel
theorem dX7_planned_87 : decode cX7_planned 87 = .ok (.getfield 62, 3) := by decide +kernel
theorem dX7_planned_90 : decode cX7_planned 90 = .ok (.iload_n 1, 1) := by decide +kernel
theorem dX7_planned_91 : decode cX7_planned 91 = .ok (.iaload, 1) := by decide +kernel
theorem dX7_planned_92 : decode cX7_planned 92 = .ok (.ireturn, 1) := by decide +kernel
theorem dX7_planned_93 : decode cX7_planned 93 = .ok (.aload_n 0, 1) := by decide +kernel
theorem dX7_planned_94 : decode cX7_planned 94 = .ok (.getfield 62, 3) := by decide +kernel
theorem dX7_planned_97 : decode cX7_planned 97 = .ok (.iload_n 1, 1) := by decide +kernel
theorem dX7_planned_98 : decode cX7_planned 98 = .ok (.iaload, 1) := by decide +kernel
theorem dX7_planned_99 : decode cX7_planned 99 = .ok (.aload_n 0, 1) := by decide +kernel
theorem dX7_planned_100 : decode cX7_planned 100 = .ok (.getfield 59, 3) := by decide +kernel
theorem dX7_planned_103 : decode cX7_planned 103 = .ok (.iload_n 1, 1) := by decide +kernel
theorem dX7_planned_104 : decode cX7_planned 104 = .ok (.iaload, 1) := by decide +kernel
theorem dX7_planned_105 : decode cX7_planned 105 = .ok (.if_icmp .le 7, 3) := by decide +kernel
theorem dX7_planned_108 : decode cX7_planned 108 = .ok (.iconst 1, 1) := by decide +kernel
theorem dX7_planned_109 : decode cX7_planned 109 = .ok (.goto 4, 3) := by decide +kernel
theorem dX7_planned_112 : decode cX7_planned 112 = .ok (.iconst 2, 1) := by decide +kernel
theorem dX7_planned_113 : decode cX7_planned 113 = .ok (.ireturn, 1) := by decide +kernel
theorem dX7_planned_114 : decode cX7_planned 114 = .ok (.aload_n 0, 1) := by decide +kernel
theorem dX7_planned_115 : decode cX7_planned 115 = .ok (.iconst 0, 1) := by decide +kernel
theorem dX7_planned_116 : decode cX7_planned 116 = .ok (.iload_n 1, 1) := by decide +kernel
theorem dX7_planned_117 : decode cX7_planned 117 = .ok (.aload_n 0, 1) := by decide +kernel
theorem dX7_planned_118 : decode cX7_planned 118 = .ok (.getfield 31, 3) := by decide +kernel
theorem dX7_planned_121 : decode cX7_planned 121 = .ok (.invokevirtual 187, 3) := by decide +kernel
theorem dX7_planned_124 : decode cX7_planned 124 = .ok (.ireturn, 1) := by decide +kernel
theorem dX7_planned_125 : decode cX7_planned 125 = .ok (.aload_n 0, 1) := by decide +kernel
theorem dX7_planned_126 : decode cX7_planned 126 = .ok (.iconst 0, 1) := by decide +kernel
theorem dX7_planned_127 : decode cX7_planned 127 = .ok (.iload_n 1, 1) := by decide +kernel
theorem dX7_planned_128 : decode cX7_planned 128 = .ok (.invokevirtual 190, 3) := by decide +kernel
theorem dX7_planned_131 : decode cX7_planned 131 = .ok (.ireturn, 1) := by decide +kernel
theorem dX7_planned_132 : decode cX7_planned 132 = .ok (.aload_n 0, 1) := by decide +kernel
theorem dX7_planned_133 : decode cX7_planned 133 = .ok (.iload_n 1, 1) := by decide +kernel
theorem dX7_planned_134 : decode cX7_planned 134 = .ok (.invokevirtual 193, 3) := by decide +kernel
theorem dX7_planned_137 : decode cX7_planned 137 = .ok (.ireturn, 1) := by decide +kernel
theorem dX7_planned_138 : decode cX7_planned 138 = .ok (.iconst (-1), 1) := by decide +kernel
theorem dX7_planned_139 : decode cX7_planned 139 = .ok (.ireturn, 1) := by decide +kernel
theorem dX7_leftWidths_0 : decode cX7_leftWidths 0 = .ok (.iconst 0, 1) := by decide +kernel
theorem dX7_leftWidths_1 : decode cX7_leftWidths 1 = .ok (.istore_n 1, 1) := by decide +kernel
theorem dX7_leftWidths_2 : decode cX7_leftWidths 2 = .ok (.aload_n 0, 1) := by decide +kernel
theorem dX7_leftWidths_3 : decode cX7_leftWidths 3 = .ok (.getfield 174, 3) := by decide +kernel
theorem dX7_leftWidths_6 : decode cX7_leftWidths 6 = .ok (.istore_n 2, 1) := by decide +kernel
theorem dX7_leftWidths_7 : decode cX7_leftWidths 7 = .ok (.iload_n 2, 1) := by decide +kernel
theorem dX7_leftWidths_8 : decode cX7_leftWidths 8 = .ok (.aload_n 0, 1) := by decide +kernel
theorem dX7_leftWidths_9 : decode cX7_leftWidths 9 = .ok (.getfield 171, 3) := by decide +kernel
theorem dX7_leftWidths_12 : decode cX7_leftWidths 12 = .ok (.if_icmp .ge 23, 3) := by decide +kernel
theorem dX7_leftWidths_15 : decode cX7_leftWidths 15 = .ok (.iload_n 1, 1) := by decide +kernel
theorem dX7_leftWidths_16 : decode cX7_leftWidths 16 = .ok (.aload_n 0, 1) := by decide +kernel
theorem dX7_leftWidths_17 : decode cX7_leftWidths 17 = .ok (.getfield 22, 3) := by decide +kernel
theorem dX7_leftWidths_20 : decode cX7_leftWidths 20 = .ok (.aload_n 0, 1) := by decide +kernel
theorem dX7_leftWidths_21 : decode cX7_leftWidths 21 = .ok (.getfield 56, 3) := by decide +kernel
theorem dX7_leftWidths_24 : decode cX7_leftWidths 24 = .ok (.iload_n 2, 1) := by decide +kernel
theorem dX7_leftWidths_25 : decode cX7_leftWidths 25 = .ok (.iaload, 1) := by decide +kernel
theorem dX7_leftWidths_26 : decode cX7_leftWidths 26 = .ok (.iaload, 1) := by decide +kernel
theorem dX7_leftWidths_27 : decode cX7_leftWidths 27 = .ok (.iadd, 1) := by decide +kernel
theorem dX7_leftWidths_28 : decode cX7_leftWidths 28 = .ok (.istore_n 1, 1) := by decide +kernel
theorem dX7_leftWidths_29 : decode cX7_leftWidths 29 = .ok (.iinc 2 1, 3) := by decide +kernel
theorem dX7_leftWidths_32 : decode cX7_leftWidths 32 = .ok (.goto (-25), 3) := by decide +kernel
theorem dX7_leftWidths_35 : decode cX7_leftWidths 35 = .ok (.iload_n 1, 1) := by decide +kernel
theorem dX7_leftWidths_36 : decode cX7_leftWidths 36 = .ok (.ireturn, 1) := by decide +kernel
theorem dX7_leftRight_0 : decode cX7_leftRight 0 = .ok (.iconst 0, 1) := by decide +kernel
theorem dX7_leftRight_1 : decode cX7_leftRight 1 = .ok (.istore_n 1, 1) := by decide +kernel
theorem dX7_leftRight_2 : decode cX7_leftRight 2 = .ok (.aload_n 0, 1) := by decide +kernel
theorem dX7_leftRight_3 : decode cX7_leftRight 3 = .ok (.getfield 174, 3) := by decide +kernel
theorem dX7_leftRight_6 : decode cX7_leftRight 6 = .ok (.istore_n 2, 1) := by decide +kernel
theorem dX7_leftRight_7 : decode cX7_leftRight 7 = .ok (.iload_n 2, 1) := by decide +kernel
theorem dX7_leftRight_8 : decode cX7_leftRight 8 = .ok (.aload_n 0, 1) := by decide +kernel
theorem dX7_leftRight_9 : decode cX7_leftRight 9 = .ok (.getfield 171, 3) := by decide +kernel
theorem dX7_leftRight_12 : decode cX7_leftRight 12 = .ok (.if_icmp .ge 32, 3) := by decide +kernel
theorem dX7_leftRight_15 : decode cX7_leftRight 15 = .ok (.iload_n 1, 1) := by decide +kernel
theorem dX7_leftRight_16 : decode cX7_leftRight 16 = .ok (.aload_n 0, 1) := by decide +kernel
theorem dX7_leftRight_17 : decode cX7_leftRight 17 = .ok (.getfield 62, 3) := by decide +kernel
theorem dX7_leftRight_20 : decode cX7_leftRight 20 = .ok (.iload_n 2, 1) := by decide +kernel
theorem dX7_leftRight_21 : decode cX7_leftRight 21 = .ok (.iaload, 1) := by decide +kernel
theorem dX7_leftRight_22 : decode cX7_leftRight 22 = .ok (.aload_n 0, 1) := by decide +kernel
theorem dX7_leftRight_23 : decode cX7_leftRight 23 = .ok (.getfield 59, 3) := by decide +kernel
theorem dX7_leftRight_26 : decode cX7_leftRight 26 = .ok (.iload_n 2, 1) := by decide +kernel
theorem dX7_leftRight_27 : decode cX7_leftRight 27 = .ok (.iaload, 1) := by decide +kernel
theorem dX7_leftRight_28 : decode cX7_leftRight 28 = .ok (.if_icmp .le 7, 3) := by decide +kernel
theorem dX7_leftRight_31 : decode cX7_leftRight 31 = .ok (.iconst 1, 1) := by decide +kernel
theorem dX7_leftRight_32 : decode cX7_leftRight 32 = .ok (.goto 4, 3) := by decide +kernel
theorem dX7_leftRight_35 : decode cX7_leftRight 35 = .ok (.iconst 0, 1) := by decide +kernel
theorem dX7_leftRight_36 : decode cX7_leftRight 36 = .ok (.iadd, 1) := by decide +kernel
theorem dX7_leftRight_37 : decode cX7_leftRight 37 = .ok (.istore_n 1, 1) := by decide +kernel
theorem dX7_leftRight_38 : decode cX7_leftRight 38 = .ok (.iinc 2 1, 3) := by decide +kernel
theorem dX7_leftRight_41 : decode cX7_leftRight 41 = .ok (.goto (-34), 3) := by decide +kernel
theorem dX7_leftRight_44 : decode cX7_leftRight 44 = .ok (.iload_n 1, 1) := by decide +kernel
theorem dX7_leftRight_45 : decode cX7_leftRight 45 = .ok (.ireturn, 1) := by decide +kernel
theorem dX7_left_0 : decode cX7_left 0 = .ok (.aload_n 0, 1) := by decide +kernel
theorem dX7_left_1 : decode cX7_left 1 = .ok (.iconst 0, 1) := by decide +kernel
theorem dX7_left_2 : decode cX7_left 2 = .ok (.putfield 68, 3) := by decide +kernel
theorem dX7_left_5 : decode cX7_left 5 = .ok (.aload_n 0, 1) := by decide +kernel
theorem dX7_left_6 : decode cX7_left 6 = .ok (.getfield 164, 3) := by decide +kernel
theorem dX7_left_9 : decode cX7_left 9 = .ok (.ifCond .ne 5, 3) := by decide +kernel
theorem dX7_left_12 : decode cX7_left 12 = .ok (.iconst (-1), 1) := by decide +kernel
theorem dX7_left_13 : decode cX7_left 13 = .ok (.ireturn, 1) := by decide +kernel
theorem dX7_left_14 : decode cX7_left 14 = .ok (.iload_n 1, 1) := by decide +kernel
theorem dX7_left_15 : decode cX7_left 15 = .ok (.tableswitch 91 0 4 #[33, 43, 48, 69, 86], 33) := by decide +kernel
theorem dX7_left_48 : decode cX7_left 48 = .ok (.aload_n 0, 1) := by decide +kernel
theorem dX7_left_49 : decode cX7_left 49 = .ok (.getfield 171, 3) := by decide +kernel
theorem dX7_left_52 : decode cX7_left 52 = .ok (.aload_n 0, 1) := by decide +kernel
theorem dX7_left_53 : decode cX7_left 53 = .ok (.getfield 174, 3) := by decide +kernel
theorem dX7_left_56 : decode cX7_left 56 = .ok (.isub, 1) := by decide +kernel
theorem dX7_left_57 : decode cX7_left 57 = .ok (.ireturn, 1) := by decide +kernel
theorem dX7_left_58 : decode cX7_left 58 = .ok (.aload_n 0, 1) := by decide +kernel
theorem dX7_left_59 : decode cX7_left 59 = .ok (.invokevirtual 196, 3) := by decide +kernel
theorem dX7_left_62 : decode cX7_left 62 = .ok (.ireturn, 1) := by decide +kernel
theorem dX7_left_63 : decode cX7_left 63 = .ok (.iconst 1, 1) := by decide +kernel
theorem dX7_left_64 : decode cX7_left 64 = .ok (.aload_n 0, 1) := by decide +kernel
theorem dX7_left_65 : decode cX7_left 65 = .ok (.aload_n 0, 1) := by decide +kernel
theorem dX7_left_66 : decode cX7_left 66 = .ok (.getfield 174, 3) := by decide +kernel
theorem dX7_left_69 : decode cX7_left 69 = .ok (.aload_n 0, 1) := by decide +kernel
theorem dX7_left_70 : decode cX7_left 70 = .ok (.getfield 171, 3) := by decide +kernel
theorem dX7_left_73 : decode cX7_left 73 = .ok (.iconst 1, 1) := by decide +kernel
theorem dX7_left_74 : decode cX7_left 74 = .ok (.isub, 1) := by decide +kernel
theorem dX7_left_75 : decode cX7_left 75 = .ok (.aload_n 0, 1) := by decide +kernel
theorem dX7_left_76 : decode cX7_left 76 = .ok (.getfield 31, 3) := by decide +kernel
theorem dX7_left_79 : decode cX7_left 79 = .ok (.invokevirtual 187, 3) := by decide +kernel
theorem dX7_left_82 : decode cX7_left 82 = .ok (.iadd, 1) := by decide +kernel
theorem dX7_left_83 : decode cX7_left 83 = .ok (.ireturn, 1) := by decide +kernel
theorem dX7_left_84 : decode cX7_left 84 = .ok (.iconst 1, 1) := by decide +kernel
theorem dX7_left_85 : decode cX7_left 85 = .ok (.aload_n 0, 1) := by decide +kernel
theorem dX7_left_86 : decode cX7_left 86 = .ok (.aload_n 0, 1) := by decide +kernel
theorem dX7_left_87 : decode cX7_left 87 = .ok (.getfield 174, 3) := by decide +kernel
theorem dX7_left_90 : decode cX7_left 90 = .ok (.aload_n 0, 1) := by decide +kernel
theorem dX7_left_91 : decode cX7_left 91 = .ok (.getfield 171, 3) := by decide +kernel
theorem dX7_left_94 : decode cX7_left 94 = .ok (.iconst 1, 1) := by decide +kernel
theorem dX7_left_95 : decode cX7_left 95 = .ok (.isub, 1) := by decide +kernel
theorem dX7_left_96 : decode cX7_left 96 = .ok (.invokevirtual 190, 3) := by decide +kernel
theorem dX7_left_99 : decode cX7_left 99 = .ok (.iadd, 1) := by decide +kernel
theorem dX7_left_100 : decode cX7_left 100 = .ok (.ireturn, 1) := by decide +kernel
theorem dX7_left_101 : decode cX7_left 101 = .ok (.aload_n 0, 1) := by decide +kernel
theorem dX7_left_102 : decode cX7_left 102 = .ok (.invokevirtual 199, 3) := by decide +kernel
theorem dX7_left_105 : decode cX7_left 105 = .ok (.ireturn, 1) := by decide +kernel
theorem dX7_left_106 : decode cX7_left 106 = .ok (.iconst (-1), 1) := by decide +kernel
theorem dX7_left_107 : decode cX7_left 107 = .ok (.ireturn, 1) := by decide +kernel
theorem dX7_enough_0 : decode cX7_enough 0 = .ok (.aload_n 0, 1) := by decide +kernel
theorem dX7_enough_1 : decode cX7_enough 1 = .ok (.iconst 0, 1) := by decide +kernel
theorem dX7_enough_2 : decode cX7_enough 2 = .ok (.putfield 68, 3) := by decide +kernel
theorem dX7_enough_5 : decode cX7_enough 5 = .ok (.bipush 40, 2) := by decide +kernel
theorem dX7_enough_7 : decode cX7_enough 7 = .ok (.istore_n 2, 1) := by decide +kernel
theorem dX7_enough_8 : decode cX7_enough 8 = .ok (.aload_n 0, 1) := by decide +kernel
theorem dX7_enough_9 : decode cX7_enough 9 = .ok (.getfield 164, 3) := by decide +kernel
theorem dX7_enough_12 : decode cX7_enough 12 = .ok (.ifCond .eq 39, 3) := by decide +kernel
theorem dX7_enough_15 : decode cX7_enough 15 = .ok (.iload_n 2, 1) := by decide +kernel
theorem dX7_enough_16 : decode cX7_enough 16 = .ok (.sipush 400, 3) := by decide +kernel
theorem dX7_enough_19 : decode cX7_enough 19 = .ok (.if_icmp .gt 32, 3) := by decide +kernel
theorem dX7_enough_22 : decode cX7_enough 22 = .ok (.iconst 1, 1) := by decide +kernel
theorem dX7_enough_23 : decode cX7_enough 23 = .ok (.aload_n 0, 1) := by decide +kernel
theorem dX7_enough_24 : decode cX7_enough 24 = .ok (.aload_n 0, 1) := by decide +kernel
theorem dX7_enough_25 : decode cX7_enough 25 = .ok (.getfield 174, 3) := by decide +kernel
theorem dX7_enough_28 : decode cX7_enough 28 = .ok (.aload_n 0, 1) := by decide +kernel
theorem dX7_enough_29 : decode cX7_enough 29 = .ok (.getfield 171, 3) := by decide +kernel
theorem dX7_enough_32 : decode cX7_enough 32 = .ok (.iconst 1, 1) := by decide +kernel
theorem dX7_enough_33 : decode cX7_enough 33 = .ok (.isub, 1) := by decide +kernel
theorem dX7_enough_34 : decode cX7_enough 34 = .ok (.iload_n 2, 1) := by decide +kernel
theorem dX7_enough_35 : decode cX7_enough 35 = .ok (.invokevirtual 187, 3) := by decide +kernel
theorem dX7_enough_38 : decode cX7_enough 38 = .ok (.iadd, 1) := by decide +kernel
theorem dX7_enough_39 : decode cX7_enough 39 = .ok (.iload_n 1, 1) := by decide +kernel
theorem dX7_enough_40 : decode cX7_enough 40 = .ok (.if_icmp .gt 5, 3) := by decide +kernel
theorem dX7_enough_43 : decode cX7_enough 43 = .ok (.iload_n 2, 1) := by decide +kernel
theorem dX7_enough_44 : decode cX7_enough 44 = .ok (.ireturn, 1) := by decide +kernel
theorem dX7_enough_45 : decode cX7_enough 45 = .ok (.iinc 2 1, 3) := by decide +kernel
theorem dX7_enough_48 : decode cX7_enough 48 = .ok (.goto (-40), 3) := by decide +kernel
theorem dX7_enough_51 : decode cX7_enough 51 = .ok (.iconst (-1), 1) := by decide +kernel
theorem dX7_enough_52 : decode cX7_enough 52 = .ok (.ireturn, 1) := by decide +kernel
theorem dX7_shelf_0 : decode cX7_shelf 0 = .ok (.aload_n 0, 1) := by decide +kernel
theorem dX7_shelf_1 : decode cX7_shelf 1 = .ok (.iconst 0, 1) := by decide +kernel
theorem dX7_shelf_2 : decode cX7_shelf 2 = .ok (.putfield 68, 3) := by decide +kernel
theorem dX7_shelf_5 : decode cX7_shelf 5 = .ok (.aload_n 0, 1) := by decide +kernel
theorem dX7_shelf_6 : decode cX7_shelf 6 = .ok (.getfield 71, 3) := by decide +kernel
theorem dX7_shelf_9 : decode cX7_shelf 9 = .ok (.bipush 12, 2) := by decide +kernel
theorem dX7_shelf_11 : decode cX7_shelf 11 = .ok (.if_icmp .eq 24, 3) := by decide +kernel
theorem dX7_shelf_14 : decode cX7_shelf 14 = .ok (.iload_n 1, 1) := by decide +kernel
theorem dX7_shelf_15 : decode cX7_shelf 15 = .ok (.bipush 10, 2) := by decide +kernel
theorem dX7_shelf_17 : decode cX7_shelf 17 = .ok (.sipush 200, 3) := by decide +kernel
theorem dX7_shelf_20 : decode cX7_shelf 20 = .ok (.invokestatic 74, 3) := by decide +kernel
theorem dX7_shelf_23 : decode cX7_shelf 23 = .ok (.ifCond .eq 12, 3) := by decide +kernel
theorem dX7_shelf_26 : decode cX7_shelf 26 = .ok (.iload_n 2, 1) := by decide +kernel
theorem dX7_shelf_27 : decode cX7_shelf 27 = .ok (.iconst 0, 1) := by decide +kernel
theorem dX7_shelf_28 : decode cX7_shelf 28 = .ok (.iconst 2, 1) := by decide +kernel
theorem dX7_shelf_29 : decode cX7_shelf 29 = .ok (.invokestatic 74, 3) := by decide +kernel
theorem dX7_shelf_32 : decode cX7_shelf 32 = .ok (.ifCond .ne 5, 3) := by decide +kernel
theorem dX7_shelf_35 : decode cX7_shelf 35 = .ok (.iconst (-1), 1) := by decide +kernel
theorem dX7_shelf_36 : decode cX7_shelf 36 = .ok (.ireturn, 1) := by decide +kernel
theorem dX7_shelf_37 : decode cX7_shelf 37 = .ok (.aload_n 0, 1) := by decide +kernel
theorem dX7_shelf_38 : decode cX7_shelf 38 = .ok (.getfield 7, 3) := by decide +kernel
theorem dX7_shelf_41 : decode cX7_shelf 41 = .ok (.aload_n 0, 1) := by decide +kernel
theorem dX7_shelf_42 : decode cX7_shelf 42 = .ok (.getfield 71, 3) := by decide +kernel
theorem dX7_shelf_45 : decode cX7_shelf 45 = .ok (.iload_n 1, 1) := by decide +kernel
theorem dX7_shelf_46 : decode cX7_shelf 46 = .ok (.iastore, 1) := by decide +kernel
theorem dX7_shelf_47 : decode cX7_shelf 47 = .ok (.aload_n 0, 1) := by decide +kernel
theorem dX7_shelf_48 : decode cX7_shelf 48 = .ok (.getfield 13, 3) := by decide +kernel
theorem dX7_shelf_51 : decode cX7_shelf 51 = .ok (.aload_n 0, 1) := by decide +kernel
theorem dX7_shelf_52 : decode cX7_shelf 52 = .ok (.getfield 71, 3) := by decide +kernel
theorem dX7_shelf_55 : decode cX7_shelf 55 = .ok (.iload_n 2, 1) := by decide +kernel
theorem dX7_shelf_56 : decode cX7_shelf 56 = .ok (.iastore, 1) := by decide +kernel
theorem dX7_shelf_57 : decode cX7_shelf 57 = .ok (.aload_n 0, 1) := by decide +kernel
theorem dX7_shelf_58 : decode cX7_shelf 58 = .ok (.dup, 1) := by decide +kernel
theorem dX7_shelf_59 : decode cX7_shelf 59 = .ok (.getfield 71, 3) := by decide +kernel
theorem dX7_shelf_62 : decode cX7_shelf 62 = .ok (.iconst 1, 1) := by decide +kernel
theorem dX7_shelf_63 : decode cX7_shelf 63 = .ok (.iadd, 1) := by decide +kernel
theorem dX7_shelf_64 : decode cX7_shelf 64 = .ok (.putfield 71, 3) := by decide +kernel
theorem dX7_shelf_67 : decode cX7_shelf 67 = .ok (.aload_n 0, 1) := by decide +kernel
theorem dX7_shelf_68 : decode cX7_shelf 68 = .ok (.invokevirtual 151, 3) := by decide +kernel
theorem dX7_shelf_71 : decode cX7_shelf 71 = .ok (.aload_n 0, 1) := by decide +kernel
theorem dX7_shelf_72 : decode cX7_shelf 72 = .ok (.getfield 71, 3) := by decide +kernel
theorem dX7_shelf_75 : decode cX7_shelf 75 = .ok (.iconst 1, 1) := by decide +kernel
theorem dX7_shelf_76 : decode cX7_shelf 76 = .ok (.isub, 1) := by decide +kernel
theorem dX7_shelf_77 : decode cX7_shelf 77 = .ok (.ireturn, 1) := by decide +kernel
theorem dX7_turn_0 : decode cX7_turn 0 = .ok (.aload_n 0, 1) := by decide +kernel
theorem dX7_turn_1 : decode cX7_turn 1 = .ok (.iconst 0, 1) := by decide +kernel
theorem dX7_turn_2 : decode cX7_turn 2 = .ok (.putfield 68, 3) := by decide +kernel
theorem dX7_turn_5 : decode cX7_turn 5 = .ok (.aload_n 0, 1) := by decide +kernel
theorem dX7_turn_6 : decode cX7_turn 6 = .ok (.iload_n 1, 1) := by decide +kernel
theorem dX7_turn_7 : decode cX7_turn 7 = .ok (.invokevirtual 117, 3) := by decide +kernel
theorem dX7_turn_10 : decode cX7_turn 10 = .ok (.ifCond .eq 22, 3) := by decide +kernel
theorem dX7_turn_13 : decode cX7_turn 13 = .ok (.iload_n 2, 1) := by decide +kernel
theorem dX7_turn_14 : decode cX7_turn 14 = .ok (.iconst 0, 1) := by decide +kernel
theorem dX7_turn_15 : decode cX7_turn 15 = .ok (.iconst 2, 1) := by decide +kernel
theorem dX7_turn_16 : decode cX7_turn 16 = .ok (.invokestatic 74, 3) := by decide +kernel
theorem dX7_turn_19 : decode cX7_turn 19 = .ok (.ifCond .eq 13, 3) := by decide +kernel
theorem dX7_turn_22 : decode cX7_turn 22 = .ok (.aload_n 0, 1) := by decide +kernel
theorem dX7_turn_23 : decode cX7_turn 23 = .ok (.getfield 13, 3) := by decide +kernel
theorem dX7_turn_26 : decode cX7_turn 26 = .ok (.iload_n 1, 1) := by decide +kernel
theorem dX7_turn_27 : decode cX7_turn 27 = .ok (.iaload, 1) := by decide +kernel
theorem dX7_turn_28 : decode cX7_turn 28 = .ok (.iload_n 2, 1) := by decide +kernel
theorem dX7_turn_29 : decode cX7_turn 29 = .ok (.if_icmp .ne 5, 3) := by decide +kernel
theorem dX7_turn_32 : decode cX7_turn 32 = .ok (.iconst 0, 1) := by decide +kernel
theorem dX7_turn_33 : decode cX7_turn 33 = .ok (.ireturn, 1) := by decide +kernel
theorem dX7_turn_34 : decode cX7_turn 34 = .ok (.aload_n 0, 1) := by decide +kernel
theorem dX7_turn_35 : decode cX7_turn 35 = .ok (.getfield 13, 3) := by decide +kernel
theorem dX7_turn_38 : decode cX7_turn 38 = .ok (.iload_n 1, 1) := by decide +kernel
theorem dX7_turn_39 : decode cX7_turn 39 = .ok (.iload_n 2, 1) := by decide +kernel
theorem dX7_turn_40 : decode cX7_turn 40 = .ok (.iastore, 1) := by decide +kernel
theorem dX7_turn_41 : decode cX7_turn 41 = .ok (.aload_n 0, 1) := by decide +kernel
theorem dX7_turn_42 : decode cX7_turn 42 = .ok (.invokevirtual 151, 3) := by decide +kernel
theorem dX7_turn_45 : decode cX7_turn 45 = .ok (.iconst 1, 1) := by decide +kernel
theorem dX7_turn_46 : decode cX7_turn 46 = .ok (.ireturn, 1) := by decide +kernel
theorem dX7_group_0 : decode cX7_group 0 = .ok (.aload_n 0, 1) := by decide +kernel
theorem dX7_group_1 : decode cX7_group 1 = .ok (.iconst 0, 1) := by decide +kernel
theorem dX7_group_2 : decode cX7_group 2 = .ok (.putfield 68, 3) := by decide +kernel
theorem dX7_group_5 : decode cX7_group 5 = .ok (.aload_n 0, 1) := by decide +kernel
theorem dX7_group_6 : decode cX7_group 6 = .ok (.getfield 78, 3) := by decide +kernel
theorem dX7_group_9 : decode cX7_group 9 = .ok (.bipush 8, 2) := by decide +kernel
theorem dX7_group_11 : decode cX7_group 11 = .ok (.if_icmp .eq 13, 3) := by decide +kernel
theorem dX7_group_14 : decode cX7_group 14 = .ok (.iload_n 1, 1) := by decide +kernel
theorem dX7_group_15 : decode cX7_group 15 = .ok (.iconst 0, 1) := by decide +kernel
theorem dX7_group_16 : decode cX7_group 16 = .ok (.bipush 99, 2) := by decide +kernel
theorem dX7_group_18 : decode cX7_group 18 = .ok (.invokestatic 74, 3) := by decide +kernel
theorem dX7_group_21 : decode cX7_group 21 = .ok (.ifCond .ne 5, 3) := by decide +kernel
theorem dX7_group_24 : decode cX7_group 24 = .ok (.iconst (-1), 1) := by decide +kernel
theorem dX7_group_25 : decode cX7_group 25 = .ok (.ireturn, 1) := by decide +kernel
theorem dX7_group_26 : decode cX7_group 26 = .ok (.aload_n 0, 1) := by decide +kernel
theorem dX7_group_27 : decode cX7_group 27 = .ok (.getfield 16, 3) := by decide +kernel
theorem dX7_group_30 : decode cX7_group 30 = .ok (.aload_n 0, 1) := by decide +kernel
theorem dX7_group_31 : decode cX7_group 31 = .ok (.getfield 78, 3) := by decide +kernel
theorem dX7_group_34 : decode cX7_group 34 = .ok (.iload_n 1, 1) := by decide +kernel
theorem dX7_group_35 : decode cX7_group 35 = .ok (.iastore, 1) := by decide +kernel
theorem dX7_group_36 : decode cX7_group 36 = .ok (.aload_n 0, 1) := by decide +kernel
theorem dX7_group_37 : decode cX7_group 37 = .ok (.dup, 1) := by decide +kernel
theorem dX7_group_38 : decode cX7_group 38 = .ok (.getfield 78, 3) := by decide +kernel
theorem dX7_group_41 : decode cX7_group 41 = .ok (.iconst 1, 1) := by decide +kernel
theorem dX7_group_42 : decode cX7_group 42 = .ok (.iadd, 1) := by decide +kernel
theorem dX7_group_43 : decode cX7_group 43 = .ok (.putfield 78, 3) := by decide +kernel
theorem dX7_group_46 : decode cX7_group 46 = .ok (.aload_n 0, 1) := by decide +kernel
theorem dX7_group_47 : decode cX7_group 47 = .ok (.invokevirtual 151, 3) := by decide +kernel
theorem dX7_group_50 : decode cX7_group 50 = .ok (.aload_n 0, 1) := by decide +kernel
theorem dX7_group_51 : decode cX7_group 51 = .ok (.getfield 78, 3) := by decide +kernel
theorem dX7_group_54 : decode cX7_group 54 = .ok (.iconst 1, 1) := by decide +kernel
theorem dX7_group_55 : decode cX7_group 55 = .ok (.isub, 1) := by decide +kernel
theorem dX7_group_56 : decode cX7_group 56 = .ok (.ireturn, 1) := by decide +kernel
theorem dX7_grow_0 : decode cX7_grow 0 = .ok (.aload_n 0, 1) := by decide +kernel
theorem dX7_grow_1 : decode cX7_grow 1 = .ok (.iconst 0, 1) := by decide +kernel
theorem dX7_grow_2 : decode cX7_grow 2 = .ok (.putfield 68, 3) := by decide +kernel
theorem dX7_grow_5 : decode cX7_grow 5 = .ok (.aload_n 0, 1) := by decide +kernel
theorem dX7_grow_6 : decode cX7_grow 6 = .ok (.iload_n 1, 1) := by decide +kernel
theorem dX7_grow_7 : decode cX7_grow 7 = .ok (.invokevirtual 135, 3) := by decide +kernel
theorem dX7_grow_10 : decode cX7_grow 10 = .ok (.ifCond .eq 23, 3) := by decide +kernel
theorem dX7_grow_13 : decode cX7_grow 13 = .ok (.iload_n 2, 1) := by decide +kernel
theorem dX7_grow_14 : decode cX7_grow 14 = .ok (.iconst 0, 1) := by decide +kernel
theorem dX7_grow_15 : decode cX7_grow 15 = .ok (.bipush 99, 2) := by decide +kernel
theorem dX7_grow_17 : decode cX7_grow 17 = .ok (.invokestatic 74, 3) := by decide +kernel
theorem dX7_grow_20 : decode cX7_grow 20 = .ok (.ifCond .eq 13, 3) := by decide +kernel
theorem dX7_grow_23 : decode cX7_grow 23 = .ok (.aload_n 0, 1) := by decide +kernel
theorem dX7_grow_24 : decode cX7_grow 24 = .ok (.getfield 16, 3) := by decide +kernel
theorem dX7_grow_27 : decode cX7_grow 27 = .ok (.iload_n 1, 1) := by decide +kernel
theorem dX7_grow_28 : decode cX7_grow 28 = .ok (.iaload, 1) := by decide +kernel
theorem dX7_grow_29 : decode cX7_grow 29 = .ok (.iload_n 2, 1) := by decide +kernel
theorem dX7_grow_30 : decode cX7_grow 30 = .ok (.if_icmp .ne 5, 3) := by decide +kernel
theorem dX7_grow_33 : decode cX7_grow 33 = .ok (.iconst 0, 1) := by decide +kernel
theorem dX7_grow_34 : decode cX7_grow 34 = .ok (.ireturn, 1) := by decide +kernel
theorem dX7_grow_35 : decode cX7_grow 35 = .ok (.aload_n 0, 1) := by decide +kernel
theorem dX7_grow_36 : decode cX7_grow 36 = .ok (.getfield 16, 3) := by decide +kernel
theorem dX7_grow_39 : decode cX7_grow 39 = .ok (.iload_n 1, 1) := by decide +kernel
theorem dX7_grow_40 : decode cX7_grow 40 = .ok (.iload_n 2, 1) := by decide +kernel
theorem dX7_grow_41 : decode cX7_grow 41 = .ok (.iastore, 1) := by decide +kernel
theorem dX7_grow_42 : decode cX7_grow 42 = .ok (.aload_n 0, 1) := by decide +kernel
theorem dX7_grow_43 : decode cX7_grow 43 = .ok (.invokevirtual 151, 3) := by decide +kernel
theorem dX7_grow_46 : decode cX7_grow 46 = .ok (.iconst 1, 1) := by decide +kernel
theorem dX7_grow_47 : decode cX7_grow 47 = .ok (.ireturn, 1) := by decide +kernel
theorem dX7_limit_0 : decode cX7_limit 0 = .ok (.aload_n 0, 1) := by decide +kernel
theorem dX7_limit_1 : decode cX7_limit 1 = .ok (.iconst 0, 1) := by decide +kernel
theorem dX7_limit_2 : decode cX7_limit 2 = .ok (.putfield 68, 3) := by decide +kernel
theorem dX7_limit_5 : decode cX7_limit 5 = .ok (.iload_n 1, 1) := by decide +kernel
theorem dX7_limit_6 : decode cX7_limit 6 = .ok (.bipush 40, 2) := by decide +kernel
theorem dX7_limit_8 : decode cX7_limit 8 = .ok (.sipush 400, 3) := by decide +kernel
theorem dX7_limit_11 : decode cX7_limit 11 = .ok (.invokestatic 74, 3) := by decide +kernel
theorem dX7_limit_14 : decode cX7_limit 14 = .ok (.ifCond .eq 11, 3) := by decide +kernel
theorem dX7_limit_17 : decode cX7_limit 17 = .ok (.aload_n 0, 1) := by decide +kernel
theorem dX7_limit_18 : decode cX7_limit 18 = .ok (.getfield 31, 3) := by decide +kernel
theorem dX7_limit_21 : decode cX7_limit 21 = .ok (.iload_n 1, 1) := by decide +kernel
theorem dX7_limit_22 : decode cX7_limit 22 = .ok (.if_icmp .ne 5, 3) := by decide +kernel
theorem dX7_limit_25 : decode cX7_limit 25 = .ok (.iconst 0, 1) := by decide +kernel
theorem dX7_limit_26 : decode cX7_limit 26 = .ok (.ireturn, 1) := by decide +kernel
theorem dX7_limit_27 : decode cX7_limit 27 = .ok (.aload_n 0, 1) := by decide +kernel
theorem dX7_limit_28 : decode cX7_limit 28 = .ok (.iload_n 1, 1) := by decide +kernel
theorem dX7_limit_29 : decode cX7_limit 29 = .ok (.putfield 31, 3) := by decide +kernel
theorem dX7_limit_32 : decode cX7_limit 32 = .ok (.iconst 1, 1) := by decide +kernel
theorem dX7_limit_33 : decode cX7_limit 33 = .ok (.ireturn, 1) := by decide +kernel
theorem dX7_allWidths_0 : decode cX7_allWidths 0 = .ok (.iconst 0, 1) := by decide +kernel
theorem dX7_allWidths_1 : decode cX7_allWidths 1 = .ok (.istore_n 1, 1) := by decide +kernel
theorem dX7_allWidths_2 : decode cX7_allWidths 2 = .ok (.iconst 0, 1) := by decide +kernel
theorem dX7_allWidths_3 : decode cX7_allWidths 3 = .ok (.istore_n 2, 1) := by decide +kernel
theorem dX7_allWidths_4 : decode cX7_allWidths 4 = .ok (.iload_n 2, 1) := by decide +kernel
theorem dX7_allWidths_5 : decode cX7_allWidths 5 = .ok (.aload_n 0, 1) := by decide +kernel
theorem dX7_allWidths_6 : decode cX7_allWidths 6 = .ok (.getfield 81, 3) := by decide +kernel
theorem dX7_allWidths_9 : decode cX7_allWidths 9 = .ok (.if_icmp .ge 18, 3) := by decide +kernel
theorem dX7_allWidths_12 : decode cX7_allWidths 12 = .ok (.iload_n 1, 1) := by decide +kernel
theorem dX7_allWidths_13 : decode cX7_allWidths 13 = .ok (.aload_n 0, 1) := by decide +kernel
theorem dX7_allWidths_14 : decode cX7_allWidths 14 = .ok (.getfield 22, 3) := by decide +kernel
theorem dX7_allWidths_17 : decode cX7_allWidths 17 = .ok (.iload_n 2, 1) := by decide +kernel
theorem dX7_allWidths_18 : decode cX7_allWidths 18 = .ok (.iaload, 1) := by decide +kernel
theorem dX7_allWidths_19 : decode cX7_allWidths 19 = .ok (.iadd, 1) := by decide +kernel
theorem dX7_allWidths_20 : decode cX7_allWidths 20 = .ok (.istore_n 1, 1) := by decide +kernel
theorem dX7_allWidths_21 : decode cX7_allWidths 21 = .ok (.iinc 2 1, 3) := by decide +kernel
theorem dX7_allWidths_24 : decode cX7_allWidths 24 = .ok (.goto (-20), 3) := by decide +kernel
theorem dX7_allWidths_27 : decode cX7_allWidths 27 = .ok (.iload_n 1, 1) := by decide +kernel
theorem dX7_allWidths_28 : decode cX7_allWidths 28 = .ok (.ireturn, 1) := by decide +kernel
theorem dX7_openLengths_0 : decode cX7_openLengths 0 = .ok (.iconst 0, 1) := by decide +kernel
theorem dX7_openLengths_1 : decode cX7_openLengths 1 = .ok (.istore_n 1, 1) := by decide +kernel
theorem dX7_openLengths_2 : decode cX7_openLengths 2 = .ok (.iconst 0, 1) := by decide +kernel
theorem dX7_openLengths_3 : decode cX7_openLengths 3 = .ok (.istore_n 2, 1) := by decide +kernel
theorem dX7_openLengths_4 : decode cX7_openLengths 4 = .ok (.iload_n 2, 1) := by decide +kernel
theorem dX7_openLengths_5 : decode cX7_openLengths 5 = .ok (.aload_n 0, 1) := by decide +kernel
theorem dX7_openLengths_6 : decode cX7_openLengths 6 = .ok (.getfield 71, 3) := by decide +kernel
theorem dX7_openLengths_9 : decode cX7_openLengths 9 = .ok (.if_icmp .ge 31, 3) := by decide +kernel
theorem dX7_openLengths_12 : decode cX7_openLengths 12 = .ok (.iload_n 1, 1) := by decide +kernel
theorem dX7_openLengths_13 : decode cX7_openLengths 13 = .ok (.aload_n 0, 1) := by decide +kernel
theorem dX7_openLengths_14 : decode cX7_openLengths 14 = .ok (.getfield 13, 3) := by decide +kernel
theorem dX7_openLengths_17 : decode cX7_openLengths 17 = .ok (.iload_n 2, 1) := by decide +kernel
theorem dX7_openLengths_18 : decode cX7_openLengths 18 = .ok (.iaload, 1) := by decide +kernel
theorem dX7_openLengths_19 : decode cX7_openLengths 19 = .ok (.ifCond .ne 12, 3) := by decide +kernel
theorem dX7_openLengths_22 : decode cX7_openLengths 22 = .ok (.aload_n 0, 1) := by decide +kernel
theorem dX7_openLengths_23 : decode cX7_openLengths 23 = .ok (.getfield 7, 3) := by decide +kernel
theorem dX7_openLengths_26 : decode cX7_openLengths 26 = .ok (.iload_n 2, 1) := by decide +kernel
theorem dX7_openLengths_27 : decode cX7_openLengths 27 = .ok (.iaload, 1) := by decide +kernel
theorem dX7_openLengths_28 : decode cX7_openLengths 28 = .ok (.goto 4, 3) := by decide +kernel
theorem dX7_openLengths_31 : decode cX7_openLengths 31 = .ok (.iconst 0, 1) := by decide +kernel
theorem dX7_openLengths_32 : decode cX7_openLengths 32 = .ok (.iadd, 1) := by decide +kernel
theorem dX7_openLengths_33 : decode cX7_openLengths 33 = .ok (.istore_n 1, 1) := by decide +kernel
theorem dX7_openLengths_34 : decode cX7_openLengths 34 = .ok (.iinc 2 1, 3) := by decide +kernel
theorem dX7_openLengths_37 : decode cX7_openLengths 37 = .ok (.goto (-33), 3) := by decide +kernel
theorem dX7_openLengths_40 : decode cX7_openLengths 40 = .ok (.iload_n 1, 1) := by decide +kernel
theorem dX7_openLengths_41 : decode cX7_openLengths 41 = .ok (.ireturn, 1) := by decide +kernel
theorem dX7_count_0 : decode cX7_count 0 = .ok (.aload_n 0, 1) := by decide +kernel
theorem dX7_count_1 : decode cX7_count 1 = .ok (.iconst 0, 1) := by decide +kernel
theorem dX7_count_2 : decode cX7_count 2 = .ok (.putfield 68, 3) := by decide +kernel
theorem dX7_count_5 : decode cX7_count 5 = .ok (.iload_n 1, 1) := by decide +kernel
theorem dX7_count_6 : decode cX7_count 6 = .ok (.tableswitch 146 0 10 #[58, 63, 68, 73, 78, 83, 88, 104, 120, 136, 141], 58) := by decide +kernel
theorem dX7_count_64 : decode cX7_count 64 = .ok (.aload_n 0, 1) := by decide +kernel
theorem dX7_count_65 : decode cX7_count 65 = .ok (.getfield 71, 3) := by decide +kernel
theorem dX7_count_68 : decode cX7_count 68 = .ok (.ireturn, 1) := by decide +kernel
theorem dX7_count_69 : decode cX7_count 69 = .ok (.aload_n 0, 1) := by decide +kernel
theorem dX7_count_70 : decode cX7_count 70 = .ok (.getfield 78, 3) := by decide +kernel
theorem dX7_count_73 : decode cX7_count 73 = .ok (.ireturn, 1) := by decide +kernel
theorem dX7_count_74 : decode cX7_count 74 = .ok (.aload_n 0, 1) := by decide +kernel
theorem dX7_count_75 : decode cX7_count 75 = .ok (.getfield 81, 3) := by decide +kernel
theorem dX7_count_78 : decode cX7_count 78 = .ok (.ireturn, 1) := by decide +kernel
theorem dX7_count_79 : decode cX7_count 79 = .ok (.aload_n 0, 1) := by decide +kernel
theorem dX7_count_80 : decode cX7_count 80 = .ok (.invokevirtual 202, 3) := by decide +kernel
theorem dX7_count_83 : decode cX7_count 83 = .ok (.ireturn, 1) := by decide +kernel
theorem dX7_count_84 : decode cX7_count 84 = .ok (.aload_n 0, 1) := by decide +kernel
theorem dX7_count_85 : decode cX7_count 85 = .ok (.invokevirtual 205, 3) := by decide +kernel
theorem dX7_count_88 : decode cX7_count 88 = .ok (.ireturn, 1) := by decide +kernel
theorem dX7_count_89 : decode cX7_count 89 = .ok (.aload_n 0, 1) := by decide +kernel
theorem dX7_count_90 : decode cX7_count 90 = .ok (.getfield 31, 3) := by decide +kernel
theorem dX7_count_93 : decode cX7_count 93 = .ok (.ireturn, 1) := by decide +kernel
theorem dX7_count_94 : decode cX7_count 94 = .ok (.aload_n 0, 1) := by decide +kernel
theorem dX7_count_95 : decode cX7_count 95 = .ok (.getfield 164, 3) := by decide +kernel
theorem dX7_count_98 : decode cX7_count 98 = .ok (.ifCond .eq 10, 3) := by decide +kernel
theorem dX7_count_101 : decode cX7_count 101 = .ok (.aload_n 0, 1) := by decide +kernel
theorem dX7_count_102 : decode cX7_count 102 = .ok (.getfield 171, 3) := by decide +kernel
theorem dX7_count_105 : decode cX7_count 105 = .ok (.goto 4, 3) := by decide +kernel
theorem dX7_count_108 : decode cX7_count 108 = .ok (.iconst 0, 1) := by decide +kernel
theorem dX7_count_109 : decode cX7_count 109 = .ok (.ireturn, 1) := by decide +kernel
theorem dX7_count_110 : decode cX7_count 110 = .ok (.aload_n 0, 1) := by decide +kernel
theorem dX7_count_111 : decode cX7_count 111 = .ok (.getfield 164, 3) := by decide +kernel
theorem dX7_count_114 : decode cX7_count 114 = .ok (.ifCond .eq 10, 3) := by decide +kernel
theorem dX7_count_117 : decode cX7_count 117 = .ok (.aload_n 0, 1) := by decide +kernel
theorem dX7_count_118 : decode cX7_count 118 = .ok (.getfield 174, 3) := by decide +kernel
theorem dX7_count_121 : decode cX7_count 121 = .ok (.goto 4, 3) := by decide +kernel
theorem dX7_count_124 : decode cX7_count 124 = .ok (.iconst 0, 1) := by decide +kernel
theorem dX7_count_125 : decode cX7_count 125 = .ok (.ireturn, 1) := by decide +kernel
theorem dX7_count_126 : decode cX7_count 126 = .ok (.aload_n 0, 1) := by decide +kernel
theorem dX7_count_127 : decode cX7_count 127 = .ok (.getfield 164, 3) := by decide +kernel
theorem dX7_count_130 : decode cX7_count 130 = .ok (.ifCond .eq 10, 3) := by decide +kernel
theorem dX7_count_133 : decode cX7_count 133 = .ok (.aload_n 0, 1) := by decide +kernel
theorem dX7_count_134 : decode cX7_count 134 = .ok (.getfield 177, 3) := by decide +kernel
theorem dX7_count_137 : decode cX7_count 137 = .ok (.goto 4, 3) := by decide +kernel
theorem dX7_count_140 : decode cX7_count 140 = .ok (.iconst (-1), 1) := by decide +kernel
theorem dX7_count_141 : decode cX7_count 141 = .ok (.ireturn, 1) := by decide +kernel
theorem dX7_count_142 : decode cX7_count 142 = .ok (.aload_n 0, 1) := by decide +kernel
theorem dX7_count_143 : decode cX7_count 143 = .ok (.getfield 84, 3) := by decide +kernel
theorem dX7_count_146 : decode cX7_count 146 = .ok (.ireturn, 1) := by decide +kernel
theorem dX7_count_147 : decode cX7_count 147 = .ok (.aload_n 0, 1) := by decide +kernel
theorem dX7_count_148 : decode cX7_count 148 = .ok (.getfield 168, 3) := by decide +kernel
theorem dX7_count_151 : decode cX7_count 151 = .ok (.ireturn, 1) := by decide +kernel
theorem dX7_count_152 : decode cX7_count 152 = .ok (.iconst (-1), 1) := by decide +kernel
theorem dX7_count_153 : decode cX7_count 153 = .ok (.ireturn, 1) := by decide +kernel
theorem dX7_on_0 : decode cX7_on 0 = .ok (.aload_n 0, 1) := by decide +kernel
theorem dX7_on_1 : decode cX7_on 1 = .ok (.aload_n 0, 1) := by decide +kernel
theorem dX7_on_2 : decode cX7_on 2 = .ok (.iload_n 1, 1) := by decide +kernel
theorem dX7_on_3 : decode cX7_on 3 = .ok (.invokevirtual 117, 3) := by decide +kernel
theorem dX7_on_6 : decode cX7_on 6 = .ok (.ifCond .eq 17, 3) := by decide +kernel
theorem dX7_on_9 : decode cX7_on 9 = .ok (.iload_n 2, 1) := by decide +kernel
theorem dX7_on_10 : decode cX7_on 10 = .ok (.iconst 0, 1) := by decide +kernel
theorem dX7_on_11 : decode cX7_on 11 = .ok (.bipush 7, 2) := by decide +kernel
theorem dX7_on_13 : decode cX7_on 13 = .ok (.invokestatic 74, 3) := by decide +kernel
theorem dX7_on_16 : decode cX7_on 16 = .ok (.ifCond .eq 7, 3) := by decide +kernel
theorem dX7_on_19 : decode cX7_on 19 = .ok (.iconst 0, 1) := by decide +kernel
theorem dX7_on_20 : decode cX7_on 20 = .ok (.goto 4, 3) := by decide +kernel
theorem dX7_on_23 : decode cX7_on 23 = .ok (.iconst 1, 1) := by decide +kernel
theorem dX7_on_24 : decode cX7_on 24 = .ok (.putfield 68, 3) := by decide +kernel
theorem dX7_on_27 : decode cX7_on 27 = .ok (.aload_n 0, 1) := by decide +kernel
theorem dX7_on_28 : decode cX7_on 28 = .ok (.getfield 68, 3) := by decide +kernel
theorem dX7_on_31 : decode cX7_on 31 = .ok (.ifCond .le 5, 3) := by decide +kernel
theorem dX7_on_34 : decode cX7_on 34 = .ok (.iconst 0, 1) := by decide +kernel
theorem dX7_on_35 : decode cX7_on 35 = .ok (.ireturn, 1) := by decide +kernel
theorem dX7_on_36 : decode cX7_on 36 = .ok (.iload_n 2, 1) := by decide +kernel
theorem dX7_on_37 : decode cX7_on 37 = .ok (.tableswitch 94 0 6 #[43, 50, 57, 63, 76, 82, 88], 43) := by decide +kernel
theorem dX7_on_80 : decode cX7_on 80 = .ok (.aload_n 0, 1) := by decide +kernel
theorem dX7_on_81 : decode cX7_on 81 = .ok (.getfield 7, 3) := by decide +kernel
theorem dX7_on_84 : decode cX7_on 84 = .ok (.iload_n 1, 1) := by decide +kernel
theorem dX7_on_85 : decode cX7_on 85 = .ok (.iaload, 1) := by decide +kernel
theorem dX7_on_86 : decode cX7_on 86 = .ok (.ireturn, 1) := by decide +kernel
theorem dX7_on_87 : decode cX7_on 87 = .ok (.aload_n 0, 1) := by decide +kernel
theorem dX7_on_88 : decode cX7_on 88 = .ok (.getfield 13, 3) := by decide +kernel
theorem dX7_on_91 : decode cX7_on 91 = .ok (.iload_n 1, 1) := by decide +kernel
theorem dX7_on_92 : decode cX7_on 92 = .ok (.iaload, 1) := by decide +kernel
theorem dX7_on_93 : decode cX7_on 93 = .ok (.ireturn, 1) := by decide +kernel
theorem dX7_on_94 : decode cX7_on 94 = .ok (.aload_n 0, 1) := by decide +kernel
theorem dX7_on_95 : decode cX7_on 95 = .ok (.iload_n 1, 1) := by decide +kernel
theorem dX7_on_96 : decode cX7_on 96 = .ok (.invokevirtual 97, 3) := by decide +kernel
theorem dX7_on_99 : decode cX7_on 99 = .ok (.ireturn, 1) := by decide +kernel
theorem dX7_on_100 : decode cX7_on 100 = .ok (.aload_n 0, 1) := by decide +kernel
theorem dX7_on_101 : decode cX7_on 101 = .ok (.getfield 7, 3) := by decide +kernel
theorem dX7_on_104 : decode cX7_on 104 = .ok (.iload_n 1, 1) := by decide +kernel
theorem dX7_on_105 : decode cX7_on 105 = .ok (.iaload, 1) := by decide +kernel
theorem dX7_on_106 : decode cX7_on 106 = .ok (.aload_n 0, 1) := by decide +kernel
theorem dX7_on_107 : decode cX7_on 107 = .ok (.iload_n 1, 1) := by decide +kernel
theorem dX7_on_108 : decode cX7_on 108 = .ok (.invokevirtual 97, 3) := by decide +kernel
theorem dX7_on_111 : decode cX7_on 111 = .ok (.isub, 1) := by decide +kernel
theorem dX7_on_112 : decode cX7_on 112 = .ok (.ireturn, 1) := by decide +kernel
theorem dX7_on_113 : decode cX7_on 113 = .ok (.aload_n 0, 1) := by decide +kernel
theorem dX7_on_114 : decode cX7_on 114 = .ok (.iload_n 1, 1) := by decide +kernel
theorem dX7_on_115 : decode cX7_on 115 = .ok (.invokevirtual 94, 3) := by decide +kernel
theorem dX7_on_118 : decode cX7_on 118 = .ok (.ireturn, 1) := by decide +kernel
theorem dX7_on_119 : decode cX7_on 119 = .ok (.aload_n 0, 1) := by decide +kernel
theorem dX7_on_120 : decode cX7_on 120 = .ok (.iload_n 1, 1) := by decide +kernel
theorem dX7_on_121 : decode cX7_on 121 = .ok (.invokevirtual 208, 3) := by decide +kernel
theorem dX7_on_124 : decode cX7_on 124 = .ok (.ireturn, 1) := by decide +kernel
theorem dX7_on_125 : decode cX7_on 125 = .ok (.aload_n 0, 1) := by decide +kernel
theorem dX7_on_126 : decode cX7_on 126 = .ok (.iload_n 1, 1) := by decide +kernel
theorem dX7_on_127 : decode cX7_on 127 = .ok (.invokevirtual 211, 3) := by decide +kernel
theorem dX7_on_130 : decode cX7_on 130 = .ok (.ireturn, 1) := by decide +kernel
theorem dX7_on_131 : decode cX7_on 131 = .ok (.aload_n 0, 1) := by decide +kernel
theorem dX7_on_132 : decode cX7_on 132 = .ok (.iload_n 1, 1) := by decide +kernel
theorem dX7_on_133 : decode cX7_on 133 = .ok (.invokevirtual 214, 3) := by decide +kernel
theorem dX7_on_136 : decode cX7_on 136 = .ok (.ireturn, 1) := by decide +kernel
theorem dX7_booksOf_0 : decode cX7_booksOf 0 = .ok (.iconst 0, 1) := by decide +kernel
theorem dX7_booksOf_1 : decode cX7_booksOf 1 = .ok (.istore_n 2, 1) := by decide +kernel
theorem dX7_booksOf_2 : decode cX7_booksOf 2 = .ok (.iconst 0, 1) := by decide +kernel
theorem dX7_booksOf_3 : decode cX7_booksOf 3 = .ok (.istore_n 3, 1) := by decide +kernel
theorem dX7_booksOf_4 : decode cX7_booksOf 4 = .ok (.iload_n 3, 1) := by decide +kernel
theorem dX7_booksOf_5 : decode cX7_booksOf 5 = .ok (.aload_n 0, 1) := by decide +kernel
theorem dX7_booksOf_6 : decode cX7_booksOf 6 = .ok (.getfield 81, 3) := by decide +kernel
theorem dX7_booksOf_9 : decode cX7_booksOf 9 = .ok (.if_icmp .ge 27, 3) := by decide +kernel
theorem dX7_booksOf_12 : decode cX7_booksOf 12 = .ok (.iload_n 2, 1) := by decide +kernel
theorem dX7_booksOf_13 : decode cX7_booksOf 13 = .ok (.aload_n 0, 1) := by decide +kernel
theorem dX7_booksOf_14 : decode cX7_booksOf 14 = .ok (.getfield 19, 3) := by decide +kernel
theorem dX7_booksOf_17 : decode cX7_booksOf 17 = .ok (.iload_n 3, 1) := by decide +kernel
theorem dX7_booksOf_18 : decode cX7_booksOf 18 = .ok (.iaload, 1) := by decide +kernel
theorem dX7_booksOf_19 : decode cX7_booksOf 19 = .ok (.iload_n 1, 1) := by decide +kernel
theorem dX7_booksOf_20 : decode cX7_booksOf 20 = .ok (.if_icmp .ne 7, 3) := by decide +kernel
theorem dX7_booksOf_23 : decode cX7_booksOf 23 = .ok (.iconst 1, 1) := by decide +kernel
theorem dX7_booksOf_24 : decode cX7_booksOf 24 = .ok (.goto 4, 3) := by decide +kernel
theorem dX7_booksOf_27 : decode cX7_booksOf 27 = .ok (.iconst 0, 1) := by decide +kernel
theorem dX7_booksOf_28 : decode cX7_booksOf 28 = .ok (.iadd, 1) := by decide +kernel
theorem dX7_booksOf_29 : decode cX7_booksOf 29 = .ok (.istore_n 2, 1) := by decide +kernel
theorem dX7_booksOf_30 : decode cX7_booksOf 30 = .ok (.iinc 3 1, 3) := by decide +kernel
theorem dX7_booksOf_33 : decode cX7_booksOf 33 = .ok (.goto (-29), 3) := by decide +kernel
theorem dX7_booksOf_36 : decode cX7_booksOf 36 = .ok (.iload_n 2, 1) := by decide +kernel
theorem dX7_booksOf_37 : decode cX7_booksOf 37 = .ok (.ireturn, 1) := by decide +kernel
theorem dX7_firstOf_0 : decode cX7_firstOf 0 = .ok (.iconst 0, 1) := by decide +kernel
theorem dX7_firstOf_1 : decode cX7_firstOf 1 = .ok (.istore_n 2, 1) := by decide +kernel
theorem dX7_firstOf_2 : decode cX7_firstOf 2 = .ok (.iload_n 2, 1) := by decide +kernel
theorem dX7_firstOf_3 : decode cX7_firstOf 3 = .ok (.aload_n 0, 1) := by decide +kernel
theorem dX7_firstOf_4 : decode cX7_firstOf 4 = .ok (.getfield 81, 3) := by decide +kernel
theorem dX7_firstOf_7 : decode cX7_firstOf 7 = .ok (.if_icmp .ge 19, 3) := by decide +kernel
theorem dX7_firstOf_10 : decode cX7_firstOf 10 = .ok (.aload_n 0, 1) := by decide +kernel
theorem dX7_firstOf_11 : decode cX7_firstOf 11 = .ok (.getfield 19, 3) := by decide +kernel
theorem dX7_firstOf_14 : decode cX7_firstOf 14 = .ok (.iload_n 2, 1) := by decide +kernel
theorem dX7_firstOf_15 : decode cX7_firstOf 15 = .ok (.iaload, 1) := by decide +kernel
theorem dX7_firstOf_16 : decode cX7_firstOf 16 = .ok (.iload_n 1, 1) := by decide +kernel
theorem dX7_firstOf_17 : decode cX7_firstOf 17 = .ok (.if_icmp .eq 9, 3) := by decide +kernel
theorem dX7_firstOf_20 : decode cX7_firstOf 20 = .ok (.iinc 2 1, 3) := by decide +kernel
theorem dX7_firstOf_23 : decode cX7_firstOf 23 = .ok (.goto (-21), 3) := by decide +kernel
theorem dX7_firstOf_26 : decode cX7_firstOf 26 = .ok (.iload_n 2, 1) := by decide +kernel
theorem dX7_firstOf_27 : decode cX7_firstOf 27 = .ok (.aload_n 0, 1) := by decide +kernel
theorem dX7_firstOf_28 : decode cX7_firstOf 28 = .ok (.getfield 81, 3) := by decide +kernel
theorem dX7_firstOf_31 : decode cX7_firstOf 31 = .ok (.if_icmp .ne 7, 3) := by decide +kernel
theorem dX7_firstOf_34 : decode cX7_firstOf 34 = .ok (.iconst (-1), 1) := by decide +kernel
theorem dX7_firstOf_35 : decode cX7_firstOf 35 = .ok (.goto 4, 3) := by decide +kernel
theorem dX7_firstOf_38 : decode cX7_firstOf 38 = .ok (.iload_n 2, 1) := by decide +kernel
theorem dX7_firstOf_39 : decode cX7_firstOf 39 = .ok (.ireturn, 1) := by decide +kernel
theorem dX7_shelvesOf_0 : decode cX7_shelvesOf 0 = .ok (.iconst 0, 1) := by decide +kernel
theorem dX7_shelvesOf_1 : decode cX7_shelvesOf 1 = .ok (.istore_n 2, 1) := by decide +kernel
theorem dX7_shelvesOf_2 : decode cX7_shelvesOf 2 = .ok (.iconst (-1), 1) := by decide +kernel
theorem dX7_shelvesOf_3 : decode cX7_shelvesOf 3 = .ok (.istore_n 3, 1) := by decide +kernel
theorem dX7_shelvesOf_4 : decode cX7_shelvesOf 4 = .ok (.iconst 0, 1) := by decide +kernel
theorem dX7_shelvesOf_5 : decode cX7_shelvesOf 5 = .ok (.istore 4, 2) := by decide +kernel
theorem dX7_shelvesOf_7 : decode cX7_shelvesOf 7 = .ok (.iload 4, 2) := by decide +kernel
theorem dX7_shelvesOf_9 : decode cX7_shelvesOf 9 = .ok (.aload_n 0, 1) := by decide +kernel
theorem dX7_shelvesOf_10 : decode cX7_shelvesOf 10 = .ok (.getfield 81, 3) := by decide +kernel
theorem dX7_shelvesOf_13 : decode cX7_shelvesOf 13 = .ok (.if_icmp .ge 42, 3) := by decide +kernel
theorem dX7_shelvesOf_16 : decode cX7_shelvesOf 16 = .ok (.aload_n 0, 1) := by decide +kernel
theorem dX7_shelvesOf_17 : decode cX7_shelvesOf 17 = .ok (.getfield 19, 3) := by decide +kernel
theorem dX7_shelvesOf_20 : decode cX7_shelvesOf 20 = .ok (.iload 4, 2) := by decide +kernel
theorem dX7_shelvesOf_22 : decode cX7_shelvesOf 22 = .ok (.iaload, 1) := by decide +kernel
theorem dX7_shelvesOf_23 : decode cX7_shelvesOf 23 = .ok (.iload_n 1, 1) := by decide +kernel
theorem dX7_shelvesOf_24 : decode cX7_shelvesOf 24 = .ok (.if_icmp .ne 25, 3) := by decide +kernel
theorem dX7_shelvesOf_27 : decode cX7_shelvesOf 27 = .ok (.aload_n 0, 1) := by decide +kernel
theorem dX7_shelvesOf_28 : decode cX7_shelvesOf 28 = .ok (.getfield 25, 3) := by decide +kernel
theorem dX7_shelvesOf_31 : decode cX7_shelvesOf 31 = .ok (.iload 4, 2) := by decide +kernel
theorem dX7_shelvesOf_33 : decode cX7_shelvesOf 33 = .ok (.iaload, 1) := by decide +kernel
theorem dX7_shelvesOf_34 : decode cX7_shelvesOf 34 = .ok (.iload_n 3, 1) := by decide +kernel
theorem dX7_shelvesOf_35 : decode cX7_shelvesOf 35 = .ok (.if_icmp .eq 14, 3) := by decide +kernel
theorem dX7_shelvesOf_38 : decode cX7_shelvesOf 38 = .ok (.aload_n 0, 1) := by decide +kernel
theorem dX7_shelvesOf_39 : decode cX7_shelvesOf 39 = .ok (.getfield 25, 3) := by decide +kernel
theorem dX7_shelvesOf_42 : decode cX7_shelvesOf 42 = .ok (.iload 4, 2) := by decide +kernel
theorem dX7_shelvesOf_44 : decode cX7_shelvesOf 44 = .ok (.iaload, 1) := by decide +kernel
theorem dX7_shelvesOf_45 : decode cX7_shelvesOf 45 = .ok (.istore_n 3, 1) := by decide +kernel
theorem dX7_shelvesOf_46 : decode cX7_shelvesOf 46 = .ok (.iinc 2 1, 3) := by decide +kernel
theorem dX7_shelvesOf_49 : decode cX7_shelvesOf 49 = .ok (.iinc 4 1, 3) := by decide +kernel
theorem dX7_shelvesOf_52 : decode cX7_shelvesOf 52 = .ok (.goto (-45), 3) := by decide +kernel
theorem dX7_shelvesOf_55 : decode cX7_shelvesOf 55 = .ok (.iload_n 2, 1) := by decide +kernel
theorem dX7_shelvesOf_56 : decode cX7_shelvesOf 56 = .ok (.ireturn, 1) := by decide +kernel
theorem dX7_in_0 : decode cX7_in 0 = .ok (.aload_n 0, 1) := by decide +kernel
theorem dX7_in_1 : decode cX7_in 1 = .ok (.aload_n 0, 1) := by decide +kernel
theorem dX7_in_2 : decode cX7_in 2 = .ok (.iload_n 1, 1) := by decide +kernel
theorem dX7_in_3 : decode cX7_in 3 = .ok (.invokevirtual 135, 3) := by decide +kernel
theorem dX7_in_6 : decode cX7_in 6 = .ok (.ifCond .eq 16, 3) := by decide +kernel
theorem dX7_in_9 : decode cX7_in 9 = .ok (.iload_n 2, 1) := by decide +kernel
theorem dX7_in_10 : decode cX7_in 10 = .ok (.iconst 0, 1) := by decide +kernel
theorem dX7_in_11 : decode cX7_in 11 = .ok (.iconst 4, 1) := by decide +kernel
theorem dX7_in_12 : decode cX7_in 12 = .ok (.invokestatic 74, 3) := by decide +kernel
theorem dX7_in_15 : decode cX7_in 15 = .ok (.ifCond .eq 7, 3) := by decide +kernel
theorem dX7_in_18 : decode cX7_in 18 = .ok (.iconst 0, 1) := by decide +kernel
theorem dX7_in_19 : decode cX7_in 19 = .ok (.goto 4, 3) := by decide +kernel
theorem dX7_in_22 : decode cX7_in 22 = .ok (.iconst 1, 1) := by decide +kernel
theorem dX7_in_23 : decode cX7_in 23 = .ok (.putfield 68, 3) := by decide +kernel
theorem dX7_in_26 : decode cX7_in 26 = .ok (.aload_n 0, 1) := by decide +kernel
theorem dX7_in_27 : decode cX7_in 27 = .ok (.getfield 68, 3) := by decide +kernel
theorem dX7_in_30 : decode cX7_in 30 = .ok (.ifCond .le 5, 3) := by decide +kernel
theorem dX7_in_33 : decode cX7_in 33 = .ok (.iconst 0, 1) := by decide +kernel
theorem dX7_in_34 : decode cX7_in 34 = .ok (.ireturn, 1) := by decide +kernel
theorem dX7_in_35 : decode cX7_in 35 = .ok (.iload_n 2, 1) := by decide +kernel
theorem dX7_in_36 : decode cX7_in 36 = .ok (.tableswitch 57 0 3 #[32, 39, 45, 51], 32) := by decide +kernel
theorem dX7_in_68 : decode cX7_in 68 = .ok (.aload_n 0, 1) := by decide +kernel
theorem dX7_in_69 : decode cX7_in 69 = .ok (.getfield 16, 3) := by decide +kernel
theorem dX7_in_72 : decode cX7_in 72 = .ok (.iload_n 1, 1) := by decide +kernel
theorem dX7_in_73 : decode cX7_in 73 = .ok (.iaload, 1) := by decide +kernel
theorem dX7_in_74 : decode cX7_in 74 = .ok (.ireturn, 1) := by decide +kernel
theorem dX7_in_75 : decode cX7_in 75 = .ok (.aload_n 0, 1) := by decide +kernel
theorem dX7_in_76 : decode cX7_in 76 = .ok (.iload_n 1, 1) := by decide +kernel
theorem dX7_in_77 : decode cX7_in 77 = .ok (.invokevirtual 217, 3) := by decide +kernel
theorem dX7_in_80 : decode cX7_in 80 = .ok (.ireturn, 1) := by decide +kernel
theorem dX7_in_81 : decode cX7_in 81 = .ok (.aload_n 0, 1) := by decide +kernel
theorem dX7_in_82 : decode cX7_in 82 = .ok (.iload_n 1, 1) := by decide +kernel
theorem dX7_in_83 : decode cX7_in 83 = .ok (.invokevirtual 87, 3) := by decide +kernel
theorem dX7_in_86 : decode cX7_in 86 = .ok (.ireturn, 1) := by decide +kernel
theorem dX7_in_87 : decode cX7_in 87 = .ok (.aload_n 0, 1) := by decide +kernel
theorem dX7_in_88 : decode cX7_in 88 = .ok (.iload_n 1, 1) := by decide +kernel
theorem dX7_in_89 : decode cX7_in 89 = .ok (.invokevirtual 220, 3) := by decide +kernel
theorem dX7_in_92 : decode cX7_in 92 = .ok (.ireturn, 1) := by decide +kernel
theorem dX7_in_93 : decode cX7_in 93 = .ok (.aload_n 0, 1) := by decide +kernel
theorem dX7_in_94 : decode cX7_in 94 = .ok (.iload_n 1, 1) := by decide +kernel
theorem dX7_in_95 : decode cX7_in 95 = .ok (.invokevirtual 223, 3) := by decide +kernel
theorem dX7_in_98 : decode cX7_in 98 = .ok (.ireturn, 1) := by decide +kernel
theorem dX7_needOf_0 : decode cX7_needOf 0 = .ok (.aload_n 0, 1) := by decide +kernel
theorem dX7_needOf_1 : decode cX7_needOf 1 = .ok (.invokevirtual 91, 3) := by decide +kernel
theorem dX7_needOf_4 : decode cX7_needOf 4 = .ok (.aload_n 0, 1) := by decide +kernel
theorem dX7_needOf_5 : decode cX7_needOf 5 = .ok (.getfield 38, 3) := by decide +kernel
theorem dX7_needOf_8 : decode cX7_needOf 8 = .ok (.iload_n 1, 1) := by decide +kernel
theorem dX7_needOf_9 : decode cX7_needOf 9 = .ok (.iaload, 1) := by decide +kernel
theorem dX7_needOf_10 : decode cX7_needOf 10 = .ok (.ireturn, 1) := by decide +kernel
theorem dX7_ahead_0 : decode cX7_ahead 0 = .ok (.iconst 0, 1) := by decide +kernel
theorem dX7_ahead_1 : decode cX7_ahead 1 = .ok (.istore_n 2, 1) := by decide +kernel
theorem dX7_ahead_2 : decode cX7_ahead 2 = .ok (.iconst 0, 1) := by decide +kernel
theorem dX7_ahead_3 : decode cX7_ahead 3 = .ok (.istore_n 3, 1) := by decide +kernel
theorem dX7_ahead_4 : decode cX7_ahead 4 = .ok (.iload_n 3, 1) := by decide +kernel
theorem dX7_ahead_5 : decode cX7_ahead 5 = .ok (.iload_n 1, 1) := by decide +kernel
theorem dX7_ahead_6 : decode cX7_ahead 6 = .ok (.if_icmp .ge 37, 3) := by decide +kernel
theorem dX7_ahead_9 : decode cX7_ahead 9 = .ok (.iload_n 2, 1) := by decide +kernel
theorem dX7_ahead_10 : decode cX7_ahead 10 = .ok (.aload_n 0, 1) := by decide +kernel
theorem dX7_ahead_11 : decode cX7_ahead 11 = .ok (.getfield 25, 3) := by decide +kernel
theorem dX7_ahead_14 : decode cX7_ahead 14 = .ok (.iload_n 3, 1) := by decide +kernel
theorem dX7_ahead_15 : decode cX7_ahead 15 = .ok (.iaload, 1) := by decide +kernel
theorem dX7_ahead_16 : decode cX7_ahead 16 = .ok (.aload_n 0, 1) := by decide +kernel
theorem dX7_ahead_17 : decode cX7_ahead 17 = .ok (.getfield 25, 3) := by decide +kernel
theorem dX7_ahead_20 : decode cX7_ahead 20 = .ok (.iload_n 1, 1) := by decide +kernel
theorem dX7_ahead_21 : decode cX7_ahead 21 = .ok (.iaload, 1) := by decide +kernel
theorem dX7_ahead_22 : decode cX7_ahead 22 = .ok (.if_icmp .ne 12, 3) := by decide +kernel
theorem dX7_ahead_25 : decode cX7_ahead 25 = .ok (.aload_n 0, 1) := by decide +kernel
theorem dX7_ahead_26 : decode cX7_ahead 26 = .ok (.getfield 22, 3) := by decide +kernel
theorem dX7_ahead_29 : decode cX7_ahead 29 = .ok (.iload_n 3, 1) := by decide +kernel
theorem dX7_ahead_30 : decode cX7_ahead 30 = .ok (.iaload, 1) := by decide +kernel
theorem dX7_ahead_31 : decode cX7_ahead 31 = .ok (.goto 4, 3) := by decide +kernel
theorem dX7_ahead_34 : decode cX7_ahead 34 = .ok (.iconst 0, 1) := by decide +kernel
theorem dX7_ahead_35 : decode cX7_ahead 35 = .ok (.iadd, 1) := by decide +kernel
theorem dX7_ahead_36 : decode cX7_ahead 36 = .ok (.istore_n 2, 1) := by decide +kernel
theorem dX7_ahead_37 : decode cX7_ahead 37 = .ok (.iinc 3 1, 3) := by decide +kernel
theorem dX7_ahead_40 : decode cX7_ahead 40 = .ok (.goto (-36), 3) := by decide +kernel
theorem dX7_ahead_43 : decode cX7_ahead 43 = .ok (.iload_n 2, 1) := by decide +kernel
theorem dX7_ahead_44 : decode cX7_ahead 44 = .ok (.ireturn, 1) := by decide +kernel
theorem dX7_of_0 : decode cX7_of 0 = .ok (.aload_n 0, 1) := by decide +kernel
theorem dX7_of_1 : decode cX7_of 1 = .ok (.aload_n 0, 1) := by decide +kernel
theorem dX7_of_2 : decode cX7_of 2 = .ok (.iload_n 1, 1) := by decide +kernel
theorem dX7_of_3 : decode cX7_of 3 = .ok (.invokevirtual 161, 3) := by decide +kernel
theorem dX7_of_6 : decode cX7_of 6 = .ok (.ifCond .eq 17, 3) := by decide +kernel
theorem dX7_of_9 : decode cX7_of 9 = .ok (.iload_n 2, 1) := by decide +kernel
theorem dX7_of_10 : decode cX7_of 10 = .ok (.iconst 0, 1) := by decide +kernel
theorem dX7_of_11 : decode cX7_of 11 = .ok (.bipush 6, 2) := by decide +kernel
theorem dX7_of_13 : decode cX7_of 13 = .ok (.invokestatic 74, 3) := by decide +kernel
theorem dX7_of_16 : decode cX7_of 16 = .ok (.ifCond .eq 7, 3) := by decide +kernel
theorem dX7_of_19 : decode cX7_of 19 = .ok (.iconst 0, 1) := by decide +kernel
theorem dX7_of_20 : decode cX7_of 20 = .ok (.goto 4, 3) := by decide +kernel
theorem dX7_of_23 : decode cX7_of 23 = .ok (.iconst 1, 1) := by decide +kernel
theorem dX7_of_24 : decode cX7_of 24 = .ok (.putfield 68, 3) := by decide +kernel
theorem dX7_of_27 : decode cX7_of 27 = .ok (.aload_n 0, 1) := by decide +kernel
theorem dX7_of_28 : decode cX7_of 28 = .ok (.getfield 68, 3) := by decide +kernel
theorem dX7_of_31 : decode cX7_of 31 = .ok (.ifCond .le 5, 3) := by decide +kernel
theorem dX7_of_34 : decode cX7_of 34 = .ok (.iconst 0, 1) := by decide +kernel
theorem dX7_of_35 : decode cX7_of 35 = .ok (.ireturn, 1) := by decide +kernel
theorem dX7_of_36 : decode cX7_of 36 = .ok (.iload_n 2, 1) := by decide +kernel
theorem dX7_of_37 : decode cX7_of 37 = .ok (.tableswitch 79 0 5 #[39, 46, 53, 59, 66, 72], 39) := by decide +kernel
theorem dX7_of_76 : decode cX7_of 76 = .ok (.aload_n 0, 1) := by decide +kernel
theorem dX7_of_77 : decode cX7_of 77 = .ok (.getfield 19, 3) := by decide +kernel
theorem dX7_of_80 : decode cX7_of 80 = .ok (.iload_n 1, 1) := by decide +kernel
theorem dX7_of_81 : decode cX7_of 81 = .ok (.iaload, 1) := by decide +kernel
theorem dX7_of_82 : decode cX7_of 82 = .ok (.ireturn, 1) := by decide +kernel
theorem dX7_of_83 : decode cX7_of 83 = .ok (.aload_n 0, 1) := by decide +kernel
theorem dX7_of_84 : decode cX7_of 84 = .ok (.getfield 22, 3) := by decide +kernel
theorem dX7_of_87 : decode cX7_of 87 = .ok (.iload_n 1, 1) := by decide +kernel
theorem dX7_of_88 : decode cX7_of 88 = .ok (.iaload, 1) := by decide +kernel
theorem dX7_of_89 : decode cX7_of 89 = .ok (.ireturn, 1) := by decide +kernel
theorem dX7_of_90 : decode cX7_of 90 = .ok (.aload_n 0, 1) := by decide +kernel
theorem dX7_of_91 : decode cX7_of 91 = .ok (.iload_n 1, 1) := by decide +kernel
theorem dX7_of_92 : decode cX7_of 92 = .ok (.invokevirtual 226, 3) := by decide +kernel
theorem dX7_of_95 : decode cX7_of 95 = .ok (.ireturn, 1) := by decide +kernel
theorem dX7_of_96 : decode cX7_of 96 = .ok (.aload_n 0, 1) := by decide +kernel
theorem dX7_of_97 : decode cX7_of 97 = .ok (.getfield 25, 3) := by decide +kernel
theorem dX7_of_100 : decode cX7_of 100 = .ok (.iload_n 1, 1) := by decide +kernel
theorem dX7_of_101 : decode cX7_of 101 = .ok (.iaload, 1) := by decide +kernel
theorem dX7_of_102 : decode cX7_of 102 = .ok (.ireturn, 1) := by decide +kernel
theorem dX7_of_103 : decode cX7_of 103 = .ok (.aload_n 0, 1) := by decide +kernel
theorem dX7_of_104 : decode cX7_of 104 = .ok (.iload_n 1, 1) := by decide +kernel
theorem dX7_of_105 : decode cX7_of 105 = .ok (.invokevirtual 229, 3) := by decide +kernel
theorem dX7_of_108 : decode cX7_of 108 = .ok (.ireturn, 1) := by decide +kernel
theorem dX7_of_109 : decode cX7_of 109 = .ok (.aload_n 0, 1) := by decide +kernel
theorem dX7_of_110 : decode cX7_of 110 = .ok (.getfield 28, 3) := by decide +kernel
theorem dX7_of_113 : decode cX7_of 113 = .ok (.iload_n 1, 1) := by decide +kernel
theorem dX7_of_114 : decode cX7_of 114 = .ok (.iaload, 1) := by decide +kernel
theorem dX7_of_115 : decode cX7_of 115 = .ok (.ireturn, 1) := by decide +kernel
theorem dX7_of_116 : decode cX7_of 116 = .ok (.aload_n 0, 1) := by decide +kernel
theorem dX7_of_117 : decode cX7_of 117 = .ok (.getfield 164, 3) := by decide +kernel
theorem dX7_of_120 : decode cX7_of 120 = .ok (.ifCond .eq 12, 3) := by decide +kernel
theorem dX7_of_123 : decode cX7_of 123 = .ok (.aload_n 0, 1) := by decide +kernel
theorem dX7_of_124 : decode cX7_of 124 = .ok (.getfield 65, 3) := by decide +kernel
theorem dX7_of_127 : decode cX7_of 127 = .ok (.iload_n 1, 1) := by decide +kernel
theorem dX7_of_128 : decode cX7_of 128 = .ok (.iaload, 1) := by decide +kernel
theorem dX7_of_129 : decode cX7_of 129 = .ok (.goto 4, 3) := by decide +kernel
theorem dX7_of_132 : decode cX7_of 132 = .ok (.iconst (-1), 1) := by decide +kernel
theorem dX7_of_133 : decode cX7_of 133 = .ok (.ireturn, 1) := by decide +kernel
theorem dX7_lasts_0 : decode cX7_lasts 0 = .ok (.aload_n 0, 1) := by decide +kernel
theorem dX7_lasts_1 : decode cX7_lasts 1 = .ok (.iconst 0, 1) := by decide +kernel
theorem dX7_lasts_2 : decode cX7_lasts 2 = .ok (.putfield 68, 3) := by decide +kernel
theorem dX7_lasts_5 : decode cX7_lasts 5 = .ok (.sipush 999, 3) := by decide +kernel
theorem dX7_lasts_8 : decode cX7_lasts 8 = .ok (.istore_n 1, 1) := by decide +kernel
theorem dX7_lasts_9 : decode cX7_lasts 9 = .ok (.iconst 0, 1) := by decide +kernel
theorem dX7_lasts_10 : decode cX7_lasts 10 = .ok (.istore_n 2, 1) := by decide +kernel
theorem dX7_lasts_11 : decode cX7_lasts 11 = .ok (.iload_n 2, 1) := by decide +kernel
theorem dX7_lasts_12 : decode cX7_lasts 12 = .ok (.aload_n 0, 1) := by decide +kernel
theorem dX7_lasts_13 : decode cX7_lasts 13 = .ok (.getfield 71, 3) := by decide +kernel
theorem dX7_lasts_16 : decode cX7_lasts 16 = .ok (.if_icmp .ge 33, 3) := by decide +kernel
theorem dX7_lasts_19 : decode cX7_lasts 19 = .ok (.aload_n 0, 1) := by decide +kernel
theorem dX7_lasts_20 : decode cX7_lasts 20 = .ok (.iload_n 2, 1) := by decide +kernel
theorem dX7_lasts_21 : decode cX7_lasts 21 = .ok (.invokevirtual 211, 3) := by decide +kernel
theorem dX7_lasts_24 : decode cX7_lasts 24 = .ok (.iconst (-1), 1) := by decide +kernel
theorem dX7_lasts_25 : decode cX7_lasts 25 = .ok (.if_icmp .eq 18, 3) := by decide +kernel
theorem dX7_lasts_28 : decode cX7_lasts 28 = .ok (.aload_n 0, 1) := by decide +kernel
theorem dX7_lasts_29 : decode cX7_lasts 29 = .ok (.iload_n 2, 1) := by decide +kernel
theorem dX7_lasts_30 : decode cX7_lasts 30 = .ok (.invokevirtual 208, 3) := by decide +kernel
theorem dX7_lasts_33 : decode cX7_lasts 33 = .ok (.iload_n 1, 1) := by decide +kernel
theorem dX7_lasts_34 : decode cX7_lasts 34 = .ok (.if_icmp .ge 9, 3) := by decide +kernel
theorem dX7_lasts_37 : decode cX7_lasts 37 = .ok (.aload_n 0, 1) := by decide +kernel
theorem dX7_lasts_38 : decode cX7_lasts 38 = .ok (.iload_n 2, 1) := by decide +kernel
theorem dX7_lasts_39 : decode cX7_lasts 39 = .ok (.invokevirtual 208, 3) := by decide +kernel
theorem dX7_lasts_42 : decode cX7_lasts 42 = .ok (.istore_n 1, 1) := by decide +kernel
theorem dX7_lasts_43 : decode cX7_lasts 43 = .ok (.iinc 2 1, 3) := by decide +kernel
theorem dX7_lasts_46 : decode cX7_lasts 46 = .ok (.goto (-35), 3) := by decide +kernel
theorem dX7_lasts_49 : decode cX7_lasts 49 = .ok (.iload_n 1, 1) := by decide +kernel
theorem dX7_lasts_50 : decode cX7_lasts 50 = .ok (.ireturn, 1) := by decide +kernel
