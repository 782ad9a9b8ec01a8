theorem dX12_last_96 : decode cX12_last 96 = .ok (.iload 4, 2) := by decide +kernel
theorem dX12_last_98 : decode cX12_last 98 = .ok (.istore 4, 2) := by decide +kernel
theorem dX12_last_100 : decode cX12_last 100 = .ok (.iinc 5 1, 3) := by decide +kernel
theorem dX12_last_103 : decode cX12_last 103 = .ok (.goto (-97), 3) := by decide +kernel
theorem dX12_last_106 : decode cX12_last 106 = .ok (.iload 4, 2) := by decide +kernel
theorem dX12_last_108 : decode cX12_last 108 = .ok (.ireturn, 1) := by decide +kernel
theorem dX12_reduces_0 : decode cX12_reduces 0 = .ok (.aload_n 0, 1) := by decide +kernel
theorem dX12_reduces_1 : decode cX12_reduces 1 = .ok (.invokevirtual 154, 3) := by decide +kernel
theorem dX12_reduces_4 : decode cX12_reduces 4 = .ok (.aload_n 0, 1) := by decide +kernel
theorem dX12_reduces_5 : decode cX12_reduces 5 = .ok (.iload_n 1, 1) := by decide +kernel
theorem dX12_reduces_6 : decode cX12_reduces 6 = .ok (.invokevirtual 161, 3) := by decide +kernel
theorem dX12_reduces_9 : decode cX12_reduces 9 = .ok (.ifCond .ne 122, 3) := by decide +kernel
theorem dX12_reduces_12 : decode cX12_reduces 12 = .ok (.iconst (-1), 1) := by decide +kernel
theorem dX12_reduces_13 : decode cX12_reduces 13 = .ok (.istore_n 3, 1) := by decide +kernel
theorem dX12_reduces_14 : decode cX12_reduces 14 = .ok (.iconst 5, 1) := by decide +kernel
theorem dX12_reduces_15 : decode cX12_reduces 15 = .ok (.istore 4, 2) := by decide +kernel
theorem dX12_reduces_17 : decode cX12_reduces 17 = .ok (.iload 4, 2) := by decide +kernel
theorem dX12_reduces_19 : decode cX12_reduces 19 = .ok (.ifCond .lt 32, 3) := by decide +kernel
theorem dX12_reduces_22 : decode cX12_reduces 22 = .ok (.aload_n 0, 1) := by decide +kernel
theorem dX12_reduces_23 : decode cX12_reduces 23 = .ok (.iload 4, 2) := by decide +kernel
theorem dX12_reduces_25 : decode cX12_reduces 25 = .ok (.iload_n 1, 1) := by decide +kernel
theorem dX12_reduces_26 : decode cX12_reduces 26 = .ok (.invokevirtual 128, 3) := by decide +kernel
theorem dX12_reduces_29 : decode cX12_reduces 29 = .ok (.ifCond .eq 14, 3) := by decide +kernel
theorem dX12_reduces_32 : decode cX12_reduces 32 = .ok (.aload_n 0, 1) := by decide +kernel
theorem dX12_reduces_33 : decode cX12_reduces 33 = .ok (.iload 4, 2) := by decide +kernel
theorem dX12_reduces_35 : decode cX12_reduces 35 = .ok (.iconst (-1), 1) := by decide +kernel
theorem dX12_reduces_36 : decode cX12_reduces 36 = .ok (.iload_n 2, 1) := by decide +kernel
theorem dX12_reduces_37 : decode cX12_reduces 37 = .ok (.invokevirtual 172, 3) := by decide +kernel
theorem dX12_reduces_40 : decode cX12_reduces 40 = .ok (.goto 4, 3) := by decide +kernel
theorem dX12_reduces_43 : decode cX12_reduces 43 = .ok (.iload_n 3, 1) := by decide +kernel
theorem dX12_reduces_44 : decode cX12_reduces 44 = .ok (.istore_n 3, 1) := by decide +kernel
theorem dX12_reduces_45 : decode cX12_reduces 45 = .ok (.iinc 4 (-1), 3) := by decide +kernel
theorem dX12_reduces_48 : decode cX12_reduces 48 = .ok (.goto (-31), 3) := by decide +kernel
theorem dX12_reduces_51 : decode cX12_reduces 51 = .ok (.bipush 35, 2) := by decide +kernel
theorem dX12_reduces_53 : decode cX12_reduces 53 = .ok (.istore 4, 2) := by decide +kernel
theorem dX12_reduces_55 : decode cX12_reduces 55 = .ok (.iload 4, 2) := by decide +kernel
theorem dX12_reduces_57 : decode cX12_reduces 57 = .ok (.ifCond .lt 60, 3) := by decide +kernel
theorem dX12_reduces_60 : decode cX12_reduces 60 = .ok (.iload_n 3, 1) := by decide +kernel
theorem dX12_reduces_61 : decode cX12_reduces 61 = .ok (.iconst (-1), 1) := by decide +kernel
theorem dX12_reduces_62 : decode cX12_reduces 62 = .ok (.if_icmp .eq 11, 3) := by decide +kernel
theorem dX12_reduces_65 : decode cX12_reduces 65 = .ok (.aload_n 0, 1) := by decide +kernel
theorem dX12_reduces_66 : decode cX12_reduces 66 = .ok (.iload_n 1, 1) := by decide +kernel
theorem dX12_reduces_67 : decode cX12_reduces 67 = .ok (.invokevirtual 176, 3) := by decide +kernel
theorem dX12_reduces_70 : decode cX12_reduces 70 = .ok (.ifCond .ne 47, 3) := by decide +kernel
theorem dX12_reduces_73 : decode cX12_reduces 73 = .ok (.aload_n 0, 1) := by decide +kernel
theorem dX12_reduces_74 : decode cX12_reduces 74 = .ok (.iload 4, 2) := by decide +kernel
theorem dX12_reduces_76 : decode cX12_reduces 76 = .ok (.bipush 6, 2) := by decide +kernel
theorem dX12_reduces_78 : decode cX12_reduces 78 = .ok (.idiv, 1) := by decide +kernel
theorem dX12_reduces_79 : decode cX12_reduces 79 = .ok (.iload 4, 2) := by decide +kernel
theorem dX12_reduces_81 : decode cX12_reduces 81 = .ok (.bipush 6, 2) := by decide +kernel
theorem dX12_reduces_83 : decode cX12_reduces 83 = .ok (.irem, 1) := by decide +kernel
theorem dX12_reduces_84 : decode cX12_reduces 84 = .ok (.iload_n 1, 1) := by decide +kernel
theorem dX12_reduces_85 : decode cX12_reduces 85 = .ok (.invokevirtual 132, 3) := by decide +kernel
theorem dX12_reduces_88 : decode cX12_reduces 88 = .ok (.ifCond .eq 21, 3) := by decide +kernel
theorem dX12_reduces_91 : decode cX12_reduces 91 = .ok (.aload_n 0, 1) := by decide +kernel
theorem dX12_reduces_92 : decode cX12_reduces 92 = .ok (.iload 4, 2) := by decide +kernel
theorem dX12_reduces_94 : decode cX12_reduces 94 = .ok (.bipush 6, 2) := by decide +kernel
theorem dX12_reduces_96 : decode cX12_reduces 96 = .ok (.idiv, 1) := by decide +kernel
theorem dX12_reduces_97 : decode cX12_reduces 97 = .ok (.iload 4, 2) := by decide +kernel
theorem dX12_reduces_99 : decode cX12_reduces 99 = .ok (.bipush 6, 2) := by decide +kernel
theorem dX12_reduces_101 : decode cX12_reduces 101 = .ok (.irem, 1) := by decide +kernel
theorem dX12_reduces_102 : decode cX12_reduces 102 = .ok (.iload_n 2, 1) := by decide +kernel
theorem dX12_reduces_103 : decode cX12_reduces 103 = .ok (.invokevirtual 172, 3) := by decide +kernel
theorem dX12_reduces_106 : decode cX12_reduces 106 = .ok (.goto 4, 3) := by decide +kernel
theorem dX12_reduces_109 : decode cX12_reduces 109 = .ok (.iload_n 3, 1) := by decide +kernel
theorem dX12_reduces_110 : decode cX12_reduces 110 = .ok (.istore_n 3, 1) := by decide +kernel
theorem dX12_reduces_111 : decode cX12_reduces 111 = .ok (.iinc 4 (-1), 3) := by decide +kernel
theorem dX12_reduces_114 : decode cX12_reduces 114 = .ok (.goto (-59), 3) := by decide +kernel
theorem dX12_reduces_117 : decode cX12_reduces 117 = .ok (.aload_n 0, 1) := by decide +kernel
theorem dX12_reduces_118 : decode cX12_reduces 118 = .ok (.getfield 97, 3) := by decide +kernel
theorem dX12_reduces_121 : decode cX12_reduces 121 = .ok (.iload_n 3, 1) := by decide +kernel
theorem dX12_reduces_122 : decode cX12_reduces 122 = .ok (.iconst 0, 1) := by decide +kernel
theorem dX12_reduces_123 : decode cX12_reduces 123 = .ok (.bastore, 1) := by decide +kernel
theorem dX12_reduces_124 : decode cX12_reduces 124 = .ok (.aload_n 0, 1) := by decide +kernel
theorem dX12_reduces_125 : decode cX12_reduces 125 = .ok (.invokevirtual 154, 3) := by decide +kernel
theorem dX12_reduces_128 : decode cX12_reduces 128 = .ok (.goto (-124), 3) := by decide +kernel
theorem dX12_reduces_131 : decode cX12_reduces 131 = .ok (.aload_n 0, 1) := by decide +kernel
theorem dX12_reduces_132 : decode cX12_reduces 132 = .ok (.invokevirtual 165, 3) := by decide +kernel
theorem dX12_reduces_135 : decode cX12_reduces 135 = .ok (.ireturn, 1) := by decide +kernel
theorem dX12_isShortAny_0 : decode cX12_isShortAny 0 = .ok (.iconst 0, 1) := by decide +kernel
theorem dX12_isShortAny_1 : decode cX12_isShortAny 1 = .ok (.istore_n 2, 1) := by decide +kernel
theorem dX12_isShortAny_2 : decode cX12_isShortAny 2 = .ok (.iconst 0, 1) := by decide +kernel
theorem dX12_isShortAny_3 : decode cX12_isShortAny 3 = .ok (.istore_n 3, 1) := by decide +kernel
theorem dX12_isShortAny_4 : decode cX12_isShortAny 4 = .ok (.iload_n 3, 1) := by decide +kernel
theorem dX12_isShortAny_5 : decode cX12_isShortAny 5 = .ok (.bipush 6, 2) := by decide +kernel
theorem dX12_isShortAny_7 : decode cX12_isShortAny 7 = .ok (.if_icmp .ge 28, 3) := by decide +kernel
theorem dX12_isShortAny_10 : decode cX12_isShortAny 10 = .ok (.iload_n 2, 1) := by decide +kernel
theorem dX12_isShortAny_11 : decode cX12_isShortAny 11 = .ok (.ifCond .ne 12, 3) := by decide +kernel
theorem dX12_isShortAny_14 : decode cX12_isShortAny 14 = .ok (.aload_n 0, 1) := by decide +kernel
theorem dX12_isShortAny_15 : decode cX12_isShortAny 15 = .ok (.iload_n 3, 1) := by decide +kernel
theorem dX12_isShortAny_16 : decode cX12_isShortAny 16 = .ok (.iload_n 1, 1) := by decide +kernel
theorem dX12_isShortAny_17 : decode cX12_isShortAny 17 = .ok (.invokevirtual 128, 3) := by decide +kernel
theorem dX12_isShortAny_20 : decode cX12_isShortAny 20 = .ok (.ifCond .eq 7, 3) := by decide +kernel
theorem dX12_isShortAny_23 : decode cX12_isShortAny 23 = .ok (.iconst 1, 1) := by decide +kernel
theorem dX12_isShortAny_24 : decode cX12_isShortAny 24 = .ok (.goto 4, 3) := by decide +kernel
theorem dX12_isShortAny_27 : decode cX12_isShortAny 27 = .ok (.iconst 0, 1) := by decide +kernel
theorem dX12_isShortAny_28 : decode cX12_isShortAny 28 = .ok (.istore_n 2, 1) := by decide +kernel
theorem dX12_isShortAny_29 : decode cX12_isShortAny 29 = .ok (.iinc 3 1, 3) := by decide +kernel
theorem dX12_isShortAny_32 : decode cX12_isShortAny 32 = .ok (.goto (-28), 3) := by decide +kernel
theorem dX12_isShortAny_35 : decode cX12_isShortAny 35 = .ok (.iload_n 2, 1) := by decide +kernel
theorem dX12_isShortAny_36 : decode cX12_isShortAny 36 = .ok (.ireturn, 1) := by decide +kernel
theorem dX12_enters_0 : decode cX12_enters 0 = .ok (.aload_n 0, 1) := by decide +kernel
theorem dX12_enters_1 : decode cX12_enters 1 = .ok (.getfield 60, 3) := by decide +kernel
theorem dX12_enters_4 : decode cX12_enters 4 = .ok (.iload_n 1, 1) := by decide +kernel
theorem dX12_enters_5 : decode cX12_enters 5 = .ok (.aload_n 0, 1) := by decide +kernel
theorem dX12_enters_6 : decode cX12_enters 6 = .ok (.getfield 30, 3) := by decide +kernel
theorem dX12_enters_9 : decode cX12_enters 9 = .ok (.aload_n 0, 1) := by decide +kernel
theorem dX12_enters_10 : decode cX12_enters 10 = .ok (.getfield 45, 3) := by decide +kernel
theorem dX12_enters_13 : decode cX12_enters 13 = .ok (.iload_n 1, 1) := by decide +kernel
theorem dX12_enters_14 : decode cX12_enters 14 = .ok (.iaload, 1) := by decide +kernel
theorem dX12_enters_15 : decode cX12_enters 15 = .ok (.baload, 1) := by decide +kernel
theorem dX12_enters_16 : decode cX12_enters 16 = .ok (.ifCond .eq 16, 3) := by decide +kernel
theorem dX12_enters_19 : decode cX12_enters 19 = .ok (.aload_n 0, 1) := by decide +kernel
theorem dX12_enters_20 : decode cX12_enters 20 = .ok (.getfield 63, 3) := by decide +kernel
theorem dX12_enters_23 : decode cX12_enters 23 = .ok (.iload_n 1, 1) := by decide +kernel
theorem dX12_enters_24 : decode cX12_enters 24 = .ok (.baload, 1) := by decide +kernel
theorem dX12_enters_25 : decode cX12_enters 25 = .ok (.ifCond .ne 7, 3) := by decide +kernel
theorem dX12_enters_28 : decode cX12_enters 28 = .ok (.iconst 1, 1) := by decide +kernel
theorem dX12_enters_29 : decode cX12_enters 29 = .ok (.goto 17, 3) := by decide +kernel
theorem dX12_enters_32 : decode cX12_enters 32 = .ok (.aload_n 0, 1) := by decide +kernel
theorem dX12_enters_33 : decode cX12_enters 33 = .ok (.getfield 51, 3) := by decide +kernel
theorem dX12_enters_36 : decode cX12_enters 36 = .ok (.iload_n 1, 1) := by decide +kernel
theorem dX12_enters_37 : decode cX12_enters 37 = .ok (.baload, 1) := by decide +kernel
theorem dX12_enters_38 : decode cX12_enters 38 = .ok (.ifCond .eq 7, 3) := by decide +kernel
theorem dX12_enters_41 : decode cX12_enters 41 = .ok (.iconst 2, 1) := by decide +kernel
theorem dX12_enters_42 : decode cX12_enters 42 = .ok (.goto 4, 3) := by decide +kernel
theorem dX12_enters_45 : decode cX12_enters 45 = .ok (.iconst 3, 1) := by decide +kernel
theorem dX12_enters_46 : decode cX12_enters 46 = .ok (.iastore, 1) := by decide +kernel
theorem dX12_enters_47 : decode cX12_enters 47 = .ok (.return_, 1) := by decide +kernel
theorem dX12_comes_0 : decode cX12_comes 0 = .ok (.aload_n 0, 1) := by decide +kernel
theorem dX12_comes_1 : decode cX12_comes 1 = .ok (.getfield 114, 3) := by decide +kernel
theorem dX12_comes_4 : decode cX12_comes 4 = .ok (.istore 10, 2) := by decide +kernel
theorem dX12_comes_6 : decode cX12_comes 6 = .ok (.aload_n 0, 1) := by decide +kernel
theorem dX12_comes_7 : decode cX12_comes 7 = .ok (.dup, 1) := by decide +kernel
theorem dX12_comes_8 : decode cX12_comes 8 = .ok (.getfield 114, 3) := by decide +kernel
theorem dX12_comes_11 : decode cX12_comes 11 = .ok (.iconst 1, 1) := by decide +kernel
theorem dX12_comes_12 : decode cX12_comes 12 = .ok (.iadd, 1) := by decide +kernel
theorem dX12_comes_13 : decode cX12_comes 13 = .ok (.putfield 114, 3) := by decide +kernel
theorem dX12_comes_16 : decode cX12_comes 16 = .ok (.aload_n 0, 1) := by decide +kernel
theorem dX12_comes_17 : decode cX12_comes 17 = .ok (.getfield 33, 3) := by decide +kernel
theorem dX12_comes_20 : decode cX12_comes 20 = .ok (.iload 10, 2) := by decide +kernel
theorem dX12_comes_22 : decode cX12_comes 22 = .ok (.iload_n 1, 1) := by decide +kernel
theorem dX12_comes_23 : decode cX12_comes 23 = .ok (.iastore, 1) := by decide +kernel
theorem dX12_comes_24 : decode cX12_comes 24 = .ok (.aload_n 0, 1) := by decide +kernel
theorem dX12_comes_25 : decode cX12_comes 25 = .ok (.getfield 36, 3) := by decide +kernel
theorem dX12_comes_28 : decode cX12_comes 28 = .ok (.iload 10, 2) := by decide +kernel
theorem dX12_comes_30 : decode cX12_comes 30 = .ok (.iload_n 2, 1) := by decide +kernel
theorem dX12_comes_31 : decode cX12_comes 31 = .ok (.iastore, 1) := by decide +kernel
theorem dX12_comes_32 : decode cX12_comes 32 = .ok (.aload_n 0, 1) := by decide +kernel
theorem dX12_comes_33 : decode cX12_comes 33 = .ok (.getfield 39, 3) := by decide +kernel
theorem dX12_comes_36 : decode cX12_comes 36 = .ok (.iload 10, 2) := by decide +kernel
theorem dX12_comes_38 : decode cX12_comes 38 = .ok (.iload_n 3, 1) := by decide +kernel
theorem dX12_comes_39 : decode cX12_comes 39 = .ok (.iastore, 1) := by decide +kernel
theorem dX12_comes_40 : decode cX12_comes 40 = .ok (.aload_n 0, 1) := by decide +kernel
theorem dX12_comes_41 : decode cX12_comes 41 = .ok (.getfield 42, 3) := by decide +kernel
theorem dX12_comes_44 : decode cX12_comes 44 = .ok (.iload 10, 2) := by decide +kernel
theorem dX12_comes_46 : decode cX12_comes 46 = .ok (.iload 4, 2) := by decide +kernel
theorem dX12_comes_48 : decode cX12_comes 48 = .ok (.iastore, 1) := by decide +kernel
theorem dX12_comes_49 : decode cX12_comes 49 = .ok (.aload_n 0, 1) := by decide +kernel
theorem dX12_comes_50 : decode cX12_comes 50 = .ok (.getfield 45, 3) := by decide +kernel
theorem dX12_comes_53 : decode cX12_comes 53 = .ok (.iload 10, 2) := by decide +kernel
theorem dX12_comes_55 : decode cX12_comes 55 = .ok (.iload 5, 2) := by decide +kernel
theorem dX12_comes_57 : decode cX12_comes 57 = .ok (.iastore, 1) := by decide +kernel
theorem dX12_comes_58 : decode cX12_comes 58 = .ok (.aload_n 0, 1) := by decide +kernel
theorem dX12_comes_59 : decode cX12_comes 59 = .ok (.getfield 48, 3) := by decide +kernel
theorem dX12_comes_62 : decode cX12_comes 62 = .ok (.iload 10, 2) := by decide +kernel
theorem dX12_comes_64 : decode cX12_comes 64 = .ok (.iload 6, 2) := by decide +kernel
theorem dX12_comes_66 : decode cX12_comes 66 = .ok (.iastore, 1) := by decide +kernel
theorem dX12_comes_67 : decode cX12_comes 67 = .ok (.aload_n 0, 1) := by decide +kernel
theorem dX12_comes_68 : decode cX12_comes 68 = .ok (.getfield 51, 3) := by decide +kernel
theorem dX12_comes_71 : decode cX12_comes 71 = .ok (.iload 10, 2) := by decide +kernel
theorem dX12_comes_73 : decode cX12_comes 73 = .ok (.iload 7, 2) := by decide +kernel
theorem dX12_comes_75 : decode cX12_comes 75 = .ok (.bastore, 1) := by decide +kernel
theorem dX12_comes_76 : decode cX12_comes 76 = .ok (.aload_n 0, 1) := by decide +kernel
theorem dX12_comes_77 : decode cX12_comes 77 = .ok (.getfield 54, 3) := by decide +kernel
theorem dX12_comes_80 : decode cX12_comes 80 = .ok (.iload 10, 2) := by decide +kernel
theorem dX12_comes_82 : decode cX12_comes 82 = .ok (.iload 8, 2) := by decide +kernel
theorem dX12_comes_84 : decode cX12_comes 84 = .ok (.iastore, 1) := by decide +kernel
theorem dX12_comes_85 : decode cX12_comes 85 = .ok (.aload_n 0, 1) := by decide +kernel
theorem dX12_comes_86 : decode cX12_comes 86 = .ok (.getfield 57, 3) := by decide +kernel
theorem dX12_comes_89 : decode cX12_comes 89 = .ok (.iload 10, 2) := by decide +kernel
theorem dX12_comes_91 : decode cX12_comes 91 = .ok (.iload 9, 2) := by decide +kernel
theorem dX12_comes_93 : decode cX12_comes 93 = .ok (.bastore, 1) := by decide +kernel
theorem dX12_comes_94 : decode cX12_comes 94 = .ok (.aload_n 0, 1) := by decide +kernel
theorem dX12_comes_95 : decode cX12_comes 95 = .ok (.getfield 66, 3) := by decide +kernel
theorem dX12_comes_98 : decode cX12_comes 98 = .ok (.iload 10, 2) := by decide +kernel
theorem dX12_comes_100 : decode cX12_comes 100 = .ok (.iconst (-1), 1) := by decide +kernel
theorem dX12_comes_101 : decode cX12_comes 101 = .ok (.iastore, 1) := by decide +kernel
theorem dX12_comes_102 : decode cX12_comes 102 = .ok (.aload_n 0, 1) := by decide +kernel
theorem dX12_comes_103 : decode cX12_comes 103 = .ok (.getfield 69, 3) := by decide +kernel
theorem dX12_comes_106 : decode cX12_comes 106 = .ok (.iload 10, 2) := by decide +kernel
theorem dX12_comes_108 : decode cX12_comes 108 = .ok (.iconst (-1), 1) := by decide +kernel
theorem dX12_comes_109 : decode cX12_comes 109 = .ok (.iastore, 1) := by decide +kernel
theorem dX12_comes_110 : decode cX12_comes 110 = .ok (.aload_n 0, 1) := by decide +kernel
theorem dX12_comes_111 : decode cX12_comes 111 = .ok (.getfield 75, 3) := by decide +kernel
theorem dX12_comes_114 : decode cX12_comes 114 = .ok (.iload 10, 2) := by decide +kernel
theorem dX12_comes_116 : decode cX12_comes 116 = .ok (.iconst (-1), 1) := by decide +kernel
theorem dX12_comes_117 : decode cX12_comes 117 = .ok (.iastore, 1) := by decide +kernel
theorem dX12_comes_118 : decode cX12_comes 118 = .ok (.aload_n 0, 1) := by decide +kernel
theorem dX12_comes_119 : decode cX12_comes 119 = .ok (.getfield 60, 3) := by decide +kernel
theorem dX12_comes_122 : decode cX12_comes 122 = .ok (.iload 10, 2) := by decide +kernel
theorem dX12_comes_124 : decode cX12_comes 124 = .ok (.iconst 0, 1) := by decide +kernel
theorem dX12_comes_125 : decode cX12_comes 125 = .ok (.iastore, 1) := by decide +kernel
theorem dX12_comes_126 : decode cX12_comes 126 = .ok (.iload 8, 2) := by decide +kernel
theorem dX12_comes_128 : decode cX12_comes 128 = .ok (.aload_n 0, 1) := by decide +kernel
theorem dX12_comes_129 : decode cX12_comes 129 = .ok (.getfield 135, 3) := by decide +kernel
theorem dX12_comes_132 : decode cX12_comes 132 = .ok (.if_icmp .gt 21, 3) := by decide +kernel
theorem dX12_comes_135 : decode cX12_comes 135 = .ok (.aload_n 0, 1) := by decide +kernel
theorem dX12_comes_136 : decode cX12_comes 136 = .ok (.iload_n 3, 1) := by decide +kernel
theorem dX12_comes_137 : decode cX12_comes 137 = .ok (.aload_n 0, 1) := by decide +kernel
theorem dX12_comes_138 : decode cX12_comes 138 = .ok (.getfield 135, 3) := by decide +kernel
theorem dX12_comes_141 : decode cX12_comes 141 = .ok (.invokevirtual 138, 3) := by decide +kernel
theorem dX12_comes_144 : decode cX12_comes 144 = .ok (.ifCond .eq 9, 3) := by decide +kernel
theorem dX12_comes_147 : decode cX12_comes 147 = .ok (.aload_n 0, 1) := by decide +kernel
theorem dX12_comes_148 : decode cX12_comes 148 = .ok (.iload 10, 2) := by decide +kernel
theorem dX12_comes_150 : decode cX12_comes 150 = .ok (.invokevirtual 179, 3) := by decide +kernel
theorem dX12_comes_153 : decode cX12_comes 153 = .ok (.iload 10, 2) := by decide +kernel
theorem dX12_comes_155 : decode cX12_comes 155 = .ok (.ireturn, 1) := by decide +kernel
theorem dX12_isAlike_0 : decode cX12_isAlike 0 = .ok (.aload_n 0, 1) := by decide +kernel
theorem dX12_isAlike_1 : decode cX12_isAlike 1 = .ok (.getfield 36, 3) := by decide +kernel
theorem dX12_isAlike_4 : decode cX12_isAlike 4 = .ok (.iload_n 1, 1) := by decide +kernel
theorem dX12_isAlike_5 : decode cX12_isAlike 5 = .ok (.iaload, 1) := by decide +kernel
theorem dX12_isAlike_6 : decode cX12_isAlike 6 = .ok (.iload_n 2, 1) := by decide +kernel
theorem dX12_isAlike_7 : decode cX12_isAlike 7 = .ok (.if_icmp .ne 83, 3) := by decide +kernel
theorem dX12_isAlike_10 : decode cX12_isAlike 10 = .ok (.aload_n 0, 1) := by decide +kernel
theorem dX12_isAlike_11 : decode cX12_isAlike 11 = .ok (.getfield 39, 3) := by decide +kernel
theorem dX12_isAlike_14 : decode cX12_isAlike 14 = .ok (.iload_n 1, 1) := by decide +kernel
theorem dX12_isAlike_15 : decode cX12_isAlike 15 = .ok (.iaload, 1) := by decide +kernel
theorem dX12_isAlike_16 : decode cX12_isAlike 16 = .ok (.iload_n 3, 1) := by decide +kernel
theorem dX12_isAlike_17 : decode cX12_isAlike 17 = .ok (.if_icmp .ne 73, 3) := by decide +kernel
theorem dX12_isAlike_20 : decode cX12_isAlike 20 = .ok (.aload_n 0, 1) := by decide +kernel
theorem dX12_isAlike_21 : decode cX12_isAlike 21 = .ok (.getfield 42, 3) := by decide +kernel
theorem dX12_isAlike_24 : decode cX12_isAlike 24 = .ok (.iload_n 1, 1) := by decide +kernel
theorem dX12_isAlike_25 : decode cX12_isAlike 25 = .ok (.iaload, 1) := by decide +kernel
theorem dX12_isAlike_26 : decode cX12_isAlike 26 = .ok (.iload 4, 2) := by decide +kernel
theorem dX12_isAlike_28 : decode cX12_isAlike 28 = .ok (.if_icmp .ne 62, 3) := by decide +kernel
theorem dX12_isAlike_31 : decode cX12_isAlike 31 = .ok (.aload_n 0, 1) := by decide +kernel
theorem dX12_isAlike_32 : decode cX12_isAlike 32 = .ok (.getfield 45, 3) := by decide +kernel
theorem dX12_isAlike_35 : decode cX12_isAlike 35 = .ok (.iload_n 1, 1) := by decide +kernel
theorem dX12_isAlike_36 : decode cX12_isAlike 36 = .ok (.iaload, 1) := by decide +kernel
theorem dX12_isAlike_37 : decode cX12_isAlike 37 = .ok (.iload 5, 2) := by decide +kernel
theorem dX12_isAlike_39 : decode cX12_isAlike 39 = .ok (.if_icmp .ne 51, 3) := by decide +kernel
theorem dX12_isAlike_42 : decode cX12_isAlike 42 = .ok (.aload_n 0, 1) := by decide +kernel
theorem dX12_isAlike_43 : decode cX12_isAlike 43 = .ok (.getfield 48, 3) := by decide +kernel
theorem dX12_isAlike_46 : decode cX12_isAlike 46 = .ok (.iload_n 1, 1) := by decide +kernel
theorem dX12_isAlike_47 : decode cX12_isAlike 47 = .ok (.iaload, 1) := by decide +kernel
theorem dX12_isAlike_48 : decode cX12_isAlike 48 = .ok (.iload 6, 2) := by decide +kernel
theorem dX12_isAlike_50 : decode cX12_isAlike 50 = .ok (.if_icmp .ne 40, 3) := by decide +kernel
theorem dX12_isAlike_53 : decode cX12_isAlike 53 = .ok (.aload_n 0, 1) := by decide +kernel
theorem dX12_isAlike_54 : decode cX12_isAlike 54 = .ok (.getfield 51, 3) := by decide +kernel
theorem dX12_isAlike_57 : decode cX12_isAlike 57 = .ok (.iload_n 1, 1) := by decide +kernel
theorem dX12_isAlike_58 : decode cX12_isAlike 58 = .ok (.baload, 1) := by decide +kernel
theorem dX12_isAlike_59 : decode cX12_isAlike 59 = .ok (.iload 7, 2) := by decide +kernel
theorem dX12_isAlike_61 : decode cX12_isAlike 61 = .ok (.if_icmp .ne 29, 3) := by decide +kernel
theorem dX12_isAlike_64 : decode cX12_isAlike 64 = .ok (.aload_n 0, 1) := by decide +kernel
theorem dX12_isAlike_65 : decode cX12_isAlike 65 = .ok (.getfield 54, 3) := by decide +kernel
theorem dX12_isAlike_68 : decode cX12_isAlike 68 = .ok (.iload_n 1, 1) := by decide +kernel
theorem dX12_isAlike_69 : decode cX12_isAlike 69 = .ok (.iaload, 1) := by decide +kernel
theorem dX12_isAlike_70 : decode cX12_isAlike 70 = .ok (.iload 8, 2) := by decide +kernel
theorem dX12_isAlike_72 : decode cX12_isAlike 72 = .ok (.if_icmp .ne 18, 3) := by decide +kernel
theorem dX12_isAlike_75 : decode cX12_isAlike 75 = .ok (.aload_n 0, 1) := by decide +kernel
theorem dX12_isAlike_76 : decode cX12_isAlike 76 = .ok (.getfield 57, 3) := by decide +kernel
theorem dX12_isAlike_79 : decode cX12_isAlike 79 = .ok (.iload_n 1, 1) := by decide +kernel
theorem dX12_isAlike_80 : decode cX12_isAlike 80 = .ok (.baload, 1) := by decide +kernel
theorem dX12_isAlike_81 : decode cX12_isAlike 81 = .ok (.iload 9, 2) := by decide +kernel
theorem dX12_isAlike_83 : decode cX12_isAlike 83 = .ok (.if_icmp .ne 7, 3) := by decide +kernel
theorem dX12_isAlike_86 : decode cX12_isAlike 86 = .ok (.iconst 1, 1) := by decide +kernel
theorem dX12_isAlike_87 : decode cX12_isAlike 87 = .ok (.goto 4, 3) := by decide +kernel
theorem dX12_isAlike_90 : decode cX12_isAlike 90 = .ok (.iconst 0, 1) := by decide +kernel
theorem dX12_isAlike_91 : decode cX12_isAlike 91 = .ok (.ireturn, 1) := by decide +kernel
theorem dX12_send_0 : decode cX12_send 0 = .ok (.iload_n 1, 1) := by decide +kernel
theorem dX12_send_1 : decode cX12_send 1 = .ok (.invokestatic 183, 3) := by decide +kernel
theorem dX12_send_4 : decode cX12_send 4 = .ok (.ifCond .eq 40, 3) := by decide +kernel
theorem dX12_send_7 : decode cX12_send 7 = .ok (.iload_n 3, 1) := by decide +kernel
theorem dX12_send_8 : decode cX12_send 8 = .ok (.invokestatic 183, 3) := by decide +kernel
theorem dX12_send_11 : decode cX12_send 11 = .ok (.ifCond .eq 33, 3) := by decide +kernel
theorem dX12_send_14 : decode cX12_send 14 = .ok (.iload_n 2, 1) := by decide +kernel
theorem dX12_send_15 : decode cX12_send 15 = .ok (.iconst 0, 1) := by decide +kernel
theorem dX12_send_16 : decode cX12_send 16 = .ok (.bipush 99, 2) := by decide +kernel
theorem dX12_send_18 : decode cX12_send 18 = .ok (.invokestatic 110, 3) := by decide +kernel
theorem dX12_send_21 : decode cX12_send 21 = .ok (.ifCond .eq 23, 3) := by decide +kernel
theorem dX12_send_24 : decode cX12_send 24 = .ok (.iload 4, 2) := by decide +kernel
theorem dX12_send_26 : decode cX12_send 26 = .ok (.invokestatic 186, 3) := by decide +kernel
theorem dX12_send_29 : decode cX12_send 29 = .ok (.ifCond .eq 15, 3) := by decide +kernel
theorem dX12_send_32 : decode cX12_send 32 = .ok (.iload 6, 2) := by decide +kernel
theorem dX12_send_34 : decode cX12_send 34 = .ok (.invokestatic 189, 3) := by decide +kernel
theorem dX12_send_37 : decode cX12_send 37 = .ok (.ifCond .eq 7, 3) := by decide +kernel
theorem dX12_send_40 : decode cX12_send 40 = .ok (.iconst 1, 1) := by decide +kernel
theorem dX12_send_41 : decode cX12_send 41 = .ok (.goto 4, 3) := by decide +kernel
theorem dX12_send_44 : decode cX12_send 44 = .ok (.iconst 0, 1) := by decide +kernel
theorem dX12_send_45 : decode cX12_send 45 = .ok (.istore 11, 2) := by decide +kernel
theorem dX12_send_47 : decode cX12_send 47 = .ok (.iload_n 1, 1) := by decide +kernel
theorem dX12_send_48 : decode cX12_send 48 = .ok (.iload_n 3, 1) := by decide +kernel
theorem dX12_send_49 : decode cX12_send 49 = .ok (.if_icmp .eq 40, 3) := by decide +kernel
theorem dX12_send_52 : decode cX12_send 52 = .ok (.iload 5, 2) := by decide +kernel
theorem dX12_send_54 : decode cX12_send 54 = .ok (.iconst 1, 1) := by decide +kernel
theorem dX12_send_55 : decode cX12_send 55 = .ok (.ldc 192, 2) := by decide +kernel
theorem dX12_send_57 : decode cX12_send 57 = .ok (.invokestatic 110, 3) := by decide +kernel
theorem dX12_send_60 : decode cX12_send 60 = .ok (.ifCond .eq 29, 3) := by decide +kernel
theorem dX12_send_63 : decode cX12_send 63 = .ok (.iload 7, 2) := by decide +kernel
theorem dX12_send_65 : decode cX12_send 65 = .ok (.iconst 0, 1) := by decide +kernel
theorem dX12_send_66 : decode cX12_send 66 = .ok (.iconst 2, 1) := by decide +kernel
theorem dX12_send_67 : decode cX12_send 67 = .ok (.invokestatic 110, 3) := by decide +kernel
theorem dX12_send_70 : decode cX12_send 70 = .ok (.ifCond .eq 19, 3) := by decide +kernel
theorem dX12_send_73 : decode cX12_send 73 = .ok (.iload 9, 2) := by decide +kernel
theorem dX12_send_75 : decode cX12_send 75 = .ok (.iconst 0, 1) := by decide +kernel
theorem dX12_send_76 : decode cX12_send 76 = .ok (.sipush 999, 3) := by decide +kernel
theorem dX12_send_79 : decode cX12_send 79 = .ok (.invokestatic 110, 3) := by decide +kernel
theorem dX12_send_82 : decode cX12_send 82 = .ok (.ifCond .eq 7, 3) := by decide +kernel
theorem dX12_send_85 : decode cX12_send 85 = .ok (.iconst 1, 1) := by decide +kernel
theorem dX12_send_86 : decode cX12_send 86 = .ok (.goto 4, 3) := by decide +kernel
theorem dX12_send_89 : decode cX12_send 89 = .ok (.iconst 0, 1) := by decide +kernel
theorem dX12_send_90 : decode cX12_send 90 = .ok (.istore 12, 2) := by decide +kernel
theorem dX12_send_92 : decode cX12_send 92 = .ok (.iload 11, 2) := by decide +kernel
theorem dX12_send_94 : decode cX12_send 94 = .ok (.ifCond .eq 17, 3) := by decide +kernel
theorem dX12_send_97 : decode cX12_send 97 = .ok (.aload_n 0, 1) := by decide +kernel
theorem dX12_send_98 : decode cX12_send 98 = .ok (.getfield 81, 3) := by decide +kernel
theorem dX12_send_101 : decode cX12_send 101 = .ok (.bipush 100, 2) := by decide +kernel
theorem dX12_send_103 : decode cX12_send 103 = .ok (.iload_n 1, 1) := by decide +kernel
theorem dX12_send_104 : decode cX12_send 104 = .ok (.imul, 1) := by decide +kernel
theorem dX12_send_105 : decode cX12_send 105 = .ok (.iload_n 2, 1) := by decide +kernel
theorem dX12_send_106 : decode cX12_send 106 = .ok (.iadd, 1) := by decide +kernel
theorem dX12_send_107 : decode cX12_send 107 = .ok (.iaload, 1) := by decide +kernel
theorem dX12_send_108 : decode cX12_send 108 = .ok (.goto 4, 3) := by decide +kernel
theorem dX12_send_111 : decode cX12_send 111 = .ok (.iconst (-1), 1) := by decide +kernel
theorem dX12_send_112 : decode cX12_send 112 = .ok (.istore 13, 2) := by decide +kernel
theorem dX12_send_114 : decode cX12_send 114 = .ok (.iload 13, 2) := by decide +kernel
theorem dX12_send_116 : decode cX12_send 116 = .ok (.iconst (-1), 1) := by decide +kernel
theorem dX12_send_117 : decode cX12_send 117 = .ok (.if_icmp .eq 31, 3) := by decide +kernel
theorem dX12_send_120 : decode cX12_send 120 = .ok (.aload_n 0, 1) := by decide +kernel
theorem dX12_send_121 : decode cX12_send 121 = .ok (.iload 13, 2) := by decide +kernel
theorem dX12_send_123 : decode cX12_send 123 = .ok (.iload_n 3, 1) := by decide +kernel
theorem dX12_send_124 : decode cX12_send 124 = .ok (.iload 4, 2) := by decide +kernel
theorem dX12_send_126 : decode cX12_send 126 = .ok (.iload 5, 2) := by decide +kernel
theorem dX12_send_128 : decode cX12_send 128 = .ok (.iload 6, 2) := by decide +kernel
theorem dX12_send_130 : decode cX12_send 130 = .ok (.iload 7, 2) := by decide +kernel
theorem dX12_send_132 : decode cX12_send 132 = .ok (.iload 8, 2) := by decide +kernel
theorem dX12_send_134 : decode cX12_send 134 = .ok (.iload 9, 2) := by decide +kernel
theorem dX12_send_136 : decode cX12_send 136 = .ok (.iload 10, 2) := by decide +kernel
theorem dX12_send_138 : decode cX12_send 138 = .ok (.invokevirtual 193, 3) := by decide +kernel
theorem dX12_send_141 : decode cX12_send 141 = .ok (.ifCond .eq 7, 3) := by decide +kernel
theorem dX12_send_144 : decode cX12_send 144 = .ok (.iconst 1, 1) := by decide +kernel
theorem dX12_send_145 : decode cX12_send 145 = .ok (.goto 4, 3) := by decide +kernel
theorem dX12_send_148 : decode cX12_send 148 = .ok (.iconst 0, 1) := by decide +kernel
theorem dX12_send_149 : decode cX12_send 149 = .ok (.istore 14, 2) := by decide +kernel
theorem dX12_send_151 : decode cX12_send 151 = .ok (.aload_n 0, 1) := by decide +kernel
theorem dX12_send_152 : decode cX12_send 152 = .ok (.iload 11, 2) := by decide +kernel
theorem dX12_send_154 : decode cX12_send 154 = .ok (.iload 12, 2) := by decide +kernel
theorem dX12_send_156 : decode cX12_send 156 = .ok (.iload 11, 2) := by decide +kernel
theorem dX12_send_158 : decode cX12_send 158 = .ok (.ifCond .eq 39, 3) := by decide +kernel
theorem dX12_send_161 : decode cX12_send 161 = .ok (.aload_n 0, 1) := by decide +kernel
theorem dX12_send_162 : decode cX12_send 162 = .ok (.getfield 23, 3) := by decide +kernel
theorem dX12_send_165 : decode cX12_send 165 = .ok (.iload_n 1, 1) := by decide +kernel
theorem dX12_send_166 : decode cX12_send 166 = .ok (.baload, 1) := by decide +kernel
theorem dX12_send_167 : decode cX12_send 167 = .ok (.ifCond .ne 30, 3) := by decide +kernel
theorem dX12_send_170 : decode cX12_send 170 = .ok (.iload 13, 2) := by decide +kernel
theorem dX12_send_172 : decode cX12_send 172 = .ok (.iconst (-1), 1) := by decide +kernel
theorem dX12_send_173 : decode cX12_send 173 = .ok (.if_icmp .ne 15, 3) := by decide +kernel
theorem dX12_send_176 : decode cX12_send 176 = .ok (.aload_n 0, 1) := by decide +kernel
theorem dX12_send_177 : decode cX12_send 177 = .ok (.getfield 114, 3) := by decide +kernel
theorem dX12_send_180 : decode cX12_send 180 = .ok (.bipush 60, 2) := by decide +kernel
theorem dX12_send_182 : decode cX12_send 182 = .ok (.if_icmp .ge 15, 3) := by decide +kernel
theorem dX12_send_185 : decode cX12_send 185 = .ok (.goto 8, 3) := by decide +kernel
theorem dX12_send_188 : decode cX12_send 188 = .ok (.iload 14, 2) := by decide +kernel
theorem dX12_send_190 : decode cX12_send 190 = .ok (.ifCond .eq 7, 3) := by decide +kernel
theorem dX12_send_193 : decode cX12_send 193 = .ok (.iconst 1, 1) := by decide +kernel
theorem dX12_send_194 : decode cX12_send 194 = .ok (.goto 4, 3) := by decide +kernel
theorem dX12_send_197 : decode cX12_send 197 = .ok (.iconst 0, 1) := by decide +kernel
theorem dX12_send_198 : decode cX12_send 198 = .ok (.invokevirtual 197, 3) := by decide +kernel
theorem dX12_send_201 : decode cX12_send 201 = .ok (.ifCond .ne 5, 3) := by decide +kernel
theorem dX12_send_204 : decode cX12_send 204 = .ok (.iconst 0, 1) := by decide +kernel
theorem dX12_send_205 : decode cX12_send 205 = .ok (.ireturn, 1) := by decide +kernel
theorem dX12_send_206 : decode cX12_send 206 = .ok (.iload 14, 2) := by decide +kernel
theorem dX12_send_208 : decode cX12_send 208 = .ok (.ifCond .eq 16, 3) := by decide +kernel
theorem dX12_send_211 : decode cX12_send 211 = .ok (.aload_n 0, 1) := by decide +kernel
theorem dX12_send_212 : decode cX12_send 212 = .ok (.dup, 1) := by decide +kernel
theorem dX12_send_213 : decode cX12_send 213 = .ok (.getfield 201, 3) := by decide +kernel
theorem dX12_send_216 : decode cX12_send 216 = .ok (.iconst 1, 1) := by decide +kernel
theorem dX12_send_217 : decode cX12_send 217 = .ok (.iadd, 1) := by decide +kernel
theorem dX12_send_218 : decode cX12_send 218 = .ok (.putfield 201, 3) := by decide +kernel
theorem dX12_send_221 : decode cX12_send 221 = .ok (.iload 13, 2) := by decide +kernel
theorem dX12_send_223 : decode cX12_send 223 = .ok (.ireturn, 1) := by decide +kernel
theorem dX12_send_224 : decode cX12_send 224 = .ok (.aload_n 0, 1) := by decide +kernel
theorem dX12_send_225 : decode cX12_send 225 = .ok (.iload_n 1, 1) := by decide +kernel
theorem dX12_send_226 : decode cX12_send 226 = .ok (.iload_n 3, 1) := by decide +kernel
theorem dX12_send_227 : decode cX12_send 227 = .ok (.iload 4, 2) := by decide +kernel
theorem dX12_send_229 : decode cX12_send 229 = .ok (.iload 5, 2) := by decide +kernel
theorem dX12_send_231 : decode cX12_send 231 = .ok (.iload 6, 2) := by decide +kernel
theorem dX12_send_233 : decode cX12_send 233 = .ok (.iload 7, 2) := by decide +kernel
theorem dX12_send_235 : decode cX12_send 235 = .ok (.iload 8, 2) := by decide +kernel
theorem dX12_send_237 : decode cX12_send 237 = .ok (.iload 9, 2) := by decide +kernel
theorem dX12_send_239 : decode cX12_send 239 = .ok (.iload 10, 2) := by decide +kernel
theorem dX12_send_241 : decode cX12_send 241 = .ok (.invokevirtual 204, 3) := by decide +kernel
theorem dX12_send_244 : decode cX12_send 244 = .ok (.istore 13, 2) := by decide +kernel
theorem dX12_send_246 : decode cX12_send 246 = .ok (.aload_n 0, 1) := by decide +kernel
theorem dX12_send_247 : decode cX12_send 247 = .ok (.getfield 81, 3) := by decide +kernel
theorem dX12_send_250 : decode cX12_send 250 = .ok (.bipush 100, 2) := by decide +kernel
theorem dX12_send_252 : decode cX12_send 252 = .ok (.iload_n 1, 1) := by decide +kernel
theorem dX12_send_253 : decode cX12_send 253 = .ok (.imul, 1) := by decide +kernel
theorem dX12_send_254 : decode cX12_send 254 = .ok (.iload_n 2, 1) := by decide +kernel
theorem dX12_send_255 : decode cX12_send 255 = .ok (.iadd, 1) := by decide +kernel
theorem dX12_send_256 : decode cX12_send 256 = .ok (.iload 13, 2) := by decide +kernel
theorem dX12_send_258 : decode cX12_send 258 = .ok (.iastore, 1) := by decide +kernel
theorem dX12_send_259 : decode cX12_send 259 = .ok (.aload_n 0, 1) := by decide +kernel
theorem dX12_send_260 : decode cX12_send 260 = .ok (.invokevirtual 208, 3) := by decide +kernel
theorem dX12_send_263 : decode cX12_send 263 = .ok (.istore 15, 2) := by decide +kernel
theorem dX12_send_265 : decode cX12_send 265 = .ok (.iload 13, 2) := by decide +kernel
theorem dX12_send_267 : decode cX12_send 267 = .ok (.ireturn, 1) := by decide +kernel
theorem dX12_doubles_0 : decode cX12_doubles 0 = .ok (.aload_n 0, 1) := by decide +kernel
theorem dX12_doubles_1 : decode cX12_doubles 1 = .ok (.iconst 0, 1) := by decide +kernel
theorem dX12_doubles_2 : decode cX12_doubles 2 = .ok (.putfield 106, 3) := by decide +kernel
theorem dX12_doubles_5 : decode cX12_doubles 5 = .ok (.aload_n 0, 1) := by decide +kernel
theorem dX12_doubles_6 : decode cX12_doubles 6 = .ok (.getfield 201, 3) := by decide +kernel
theorem dX12_doubles_9 : decode cX12_doubles 9 = .ok (.ireturn, 1) := by decide +kernel
theorem dX12_canJoin_0 : decode cX12_canJoin 0 = .ok (.iload_n 1, 1) := by decide +kernel
theorem dX12_canJoin_1 : decode cX12_canJoin 1 = .ok (.iload_n 2, 1) := by decide +kernel
theorem dX12_canJoin_2 : decode cX12_canJoin 2 = .ok (.if_icmp .eq 56, 3) := by decide +kernel
theorem dX12_canJoin_5 : decode cX12_canJoin 5 = .ok (.aload_n 0, 1) := by decide +kernel
theorem dX12_canJoin_6 : decode cX12_canJoin 6 = .ok (.iload_n 1, 1) := by decide +kernel
theorem dX12_canJoin_7 : decode cX12_canJoin 7 = .ok (.invokevirtual 211, 3) := by decide +kernel
theorem dX12_canJoin_10 : decode cX12_canJoin 10 = .ok (.ifCond .ne 48, 3) := by decide +kernel
theorem dX12_canJoin_13 : decode cX12_canJoin 13 = .ok (.aload_n 0, 1) := by decide +kernel
theorem dX12_canJoin_14 : decode cX12_canJoin 14 = .ok (.iload_n 2, 1) := by decide +kernel
theorem dX12_canJoin_15 : decode cX12_canJoin 15 = .ok (.invokevirtual 211, 3) := by decide +kernel
theorem dX12_canJoin_18 : decode cX12_canJoin 18 = .ok (.ifCond .ne 40, 3) := by decide +kernel
theorem dX12_canJoin_21 : decode cX12_canJoin 21 = .ok (.aload_n 0, 1) := by decide +kernel
theorem dX12_canJoin_22 : decode cX12_canJoin 22 = .ok (.getfield 51, 3) := by decide +kernel
theorem dX12_canJoin_25 : decode cX12_canJoin 25 = .ok (.iload_n 1, 1) := by decide +kernel
theorem dX12_canJoin_26 : decode cX12_canJoin 26 = .ok (.baload, 1) := by decide +kernel
theorem dX12_canJoin_27 : decode cX12_canJoin 27 = .ok (.ifCond .eq 31, 3) := by decide +kernel
theorem dX12_canJoin_30 : decode cX12_canJoin 30 = .ok (.aload_n 0, 1) := by decide +kernel
theorem dX12_canJoin_31 : decode cX12_canJoin 31 = .ok (.getfield 51, 3) := by decide +kernel
theorem dX12_canJoin_34 : decode cX12_canJoin 34 = .ok (.iload_n 2, 1) := by decide +kernel
theorem dX12_canJoin_35 : decode cX12_canJoin 35 = .ok (.baload, 1) := by decide +kernel
theorem dX12_canJoin_36 : decode cX12_canJoin 36 = .ok (.ifCond .eq 22, 3) := by decide +kernel
theorem dX12_canJoin_39 : decode cX12_canJoin 39 = .ok (.aload_n 0, 1) := by decide +kernel
theorem dX12_canJoin_40 : decode cX12_canJoin 40 = .ok (.getfield 39, 3) := by decide +kernel
theorem dX12_canJoin_43 : decode cX12_canJoin 43 = .ok (.iload_n 1, 1) := by decide +kernel
theorem dX12_canJoin_44 : decode cX12_canJoin 44 = .ok (.iaload, 1) := by decide +kernel
theorem dX12_canJoin_45 : decode cX12_canJoin 45 = .ok (.aload_n 0, 1) := by decide +kernel
theorem dX12_canJoin_46 : decode cX12_canJoin 46 = .ok (.getfield 39, 3) := by decide +kernel
theorem dX12_canJoin_49 : decode cX12_canJoin 49 = .ok (.iload_n 2, 1) := by decide +kernel
theorem dX12_canJoin_50 : decode cX12_canJoin 50 = .ok (.iaload, 1) := by decide +kernel
theorem dX12_canJoin_51 : decode cX12_canJoin 51 = .ok (.if_icmp .eq 7, 3) := by decide +kernel
theorem dX12_canJoin_54 : decode cX12_canJoin 54 = .ok (.iconst 1, 1) := by decide +kernel
theorem dX12_canJoin_55 : decode cX12_canJoin 55 = .ok (.goto 4, 3) := by decide +kernel
theorem dX12_canJoin_58 : decode cX12_canJoin 58 = .ok (.iconst 0, 1) := by decide +kernel
theorem dX12_canJoin_59 : decode cX12_canJoin 59 = .ok (.istore_n 3, 1) := by decide +kernel
theorem dX12_canJoin_60 : decode cX12_canJoin 60 = .ok (.iload_n 3, 1) := by decide +kernel
theorem dX12_canJoin_61 : decode cX12_canJoin 61 = .ok (.ifCond .eq 57, 3) := by decide +kernel
theorem dX12_canJoin_64 : decode cX12_canJoin 64 = .ok (.aload_n 0, 1) := by decide +kernel
theorem dX12_canJoin_65 : decode cX12_canJoin 65 = .ok (.getfield 33, 3) := by decide +kernel
theorem dX12_canJoin_68 : decode cX12_canJoin 68 = .ok (.iload_n 1, 1) := by decide +kernel
theorem dX12_canJoin_69 : decode cX12_canJoin 69 = .ok (.iaload, 1) := by decide +kernel
theorem dX12_canJoin_70 : decode cX12_canJoin 70 = .ok (.aload_n 0, 1) := by decide +kernel
theorem dX12_canJoin_71 : decode cX12_canJoin 71 = .ok (.getfield 36, 3) := by decide +kernel
theorem dX12_canJoin_74 : decode cX12_canJoin 74 = .ok (.iload_n 2, 1) := by decide +kernel
theorem dX12_canJoin_75 : decode cX12_canJoin 75 = .ok (.iaload, 1) := by decide +kernel
theorem dX12_canJoin_76 : decode cX12_canJoin 76 = .ok (.if_icmp .ne 42, 3) := by decide +kernel
theorem dX12_canJoin_79 : decode cX12_canJoin 79 = .ok (.aload_n 0, 1) := by decide +kernel
theorem dX12_canJoin_80 : decode cX12_canJoin 80 = .ok (.getfield 36, 3) := by decide +kernel
theorem dX12_canJoin_83 : decode cX12_canJoin 83 = .ok (.iload_n 1, 1) := by decide +kernel
theorem dX12_canJoin_84 : decode cX12_canJoin 84 = .ok (.iaload, 1) := by decide +kernel
theorem dX12_canJoin_85 : decode cX12_canJoin 85 = .ok (.aload_n 0, 1) := by decide +kernel
theorem dX12_canJoin_86 : decode cX12_canJoin 86 = .ok (.getfield 33, 3) := by decide +kernel
theorem dX12_canJoin_89 : decode cX12_canJoin 89 = .ok (.iload_n 2, 1) := by decide +kernel
theorem dX12_canJoin_90 : decode cX12_canJoin 90 = .ok (.iaload, 1) := by decide +kernel
theorem dX12_canJoin_91 : decode cX12_canJoin 91 = .ok (.if_icmp .ne 27, 3) := by decide +kernel
theorem dX12_canJoin_94 : decode cX12_canJoin 94 = .ok (.aload_n 0, 1) := by decide +kernel
theorem dX12_canJoin_95 : decode cX12_canJoin 95 = .ok (.getfield 69, 3) := by decide +kernel
theorem dX12_canJoin_98 : decode cX12_canJoin 98 = .ok (.iload_n 1, 1) := by decide +kernel
theorem dX12_canJoin_99 : decode cX12_canJoin 99 = .ok (.iaload, 1) := by decide +kernel
theorem dX12_canJoin_100 : decode cX12_canJoin 100 = .ok (.iconst (-1), 1) := by decide +kernel
theorem dX12_canJoin_101 : decode cX12_canJoin 101 = .ok (.if_icmp .ne 17, 3) := by decide +kernel
theorem dX12_canJoin_104 : decode cX12_canJoin 104 = .ok (.aload_n 0, 1) := by decide +kernel
theorem dX12_canJoin_105 : decode cX12_canJoin 105 = .ok (.getfield 69, 3) := by decide +kernel
theorem dX12_canJoin_108 : decode cX12_canJoin 108 = .ok (.iload_n 2, 1) := by decide +kernel
theorem dX12_canJoin_109 : decode cX12_canJoin 109 = .ok (.iaload, 1) := by decide +kernel
theorem dX12_canJoin_110 : decode cX12_canJoin 110 = .ok (.iconst (-1), 1) := by decide +kernel
theorem dX12_canJoin_111 : decode cX12_canJoin 111 = .ok (.if_icmp .ne 7, 3) := by decide +kernel
theorem dX12_canJoin_114 : decode cX12_canJoin 114 = .ok (.iconst 1, 1) := by decide +kernel
theorem dX12_canJoin_115 : decode cX12_canJoin 115 = .ok (.goto 4, 3) := by decide +kernel
theorem dX12_canJoin_118 : decode cX12_canJoin 118 = .ok (.iconst 0, 1) := by decide +kernel
theorem dX12_canJoin_119 : decode cX12_canJoin 119 = .ok (.ireturn, 1) := by decide +kernel
theorem dX12_join_0 : decode cX12_join 0 = .ok (.aload_n 0, 1) := by decide +kernel
theorem dX12_join_1 : decode cX12_join 1 = .ok (.iload_n 1, 1) := by decide +kernel
theorem dX12_join_2 : decode cX12_join 2 = .ok (.invokevirtual 214, 3) := by decide +kernel
theorem dX12_join_5 : decode cX12_join 5 = .ok (.ifCond .eq 15, 3) := by decide +kernel
theorem dX12_join_8 : decode cX12_join 8 = .ok (.aload_n 0, 1) := by decide +kernel
theorem dX12_join_9 : decode cX12_join 9 = .ok (.iload_n 2, 1) := by decide +kernel
theorem dX12_join_10 : decode cX12_join 10 = .ok (.invokevirtual 214, 3) := by decide +kernel
theorem dX12_join_13 : decode cX12_join 13 = .ok (.ifCond .eq 7, 3) := by decide +kernel
theorem dX12_join_16 : decode cX12_join 16 = .ok (.iconst 1, 1) := by decide +kernel
theorem dX12_join_17 : decode cX12_join 17 = .ok (.goto 4, 3) := by decide +kernel
theorem dX12_join_20 : decode cX12_join 20 = .ok (.iconst 0, 1) := by decide +kernel
theorem dX12_join_21 : decode cX12_join 21 = .ok (.istore_n 3, 1) := by decide +kernel
theorem dX12_join_22 : decode cX12_join 22 = .ok (.aload_n 0, 1) := by decide +kernel
theorem dX12_join_23 : decode cX12_join 23 = .ok (.iload_n 3, 1) := by decide +kernel
theorem dX12_join_24 : decode cX12_join 24 = .ok (.iload_n 3, 1) := by decide +kernel
theorem dX12_join_25 : decode cX12_join 25 = .ok (.ifCond .eq 16, 3) := by decide +kernel
theorem dX12_join_28 : decode cX12_join 28 = .ok (.aload_n 0, 1) := by decide +kernel
theorem dX12_join_29 : decode cX12_join 29 = .ok (.iload_n 1, 1) := by decide +kernel
theorem dX12_join_30 : decode cX12_join 30 = .ok (.iload_n 2, 1) := by decide +kernel
theorem dX12_join_31 : decode cX12_join 31 = .ok (.invokevirtual 217, 3) := by decide +kernel
theorem dX12_join_34 : decode cX12_join 34 = .ok (.ifCond .eq 7, 3) := by decide +kernel
theorem dX12_join_37 : decode cX12_join 37 = .ok (.iconst 1, 1) := by decide +kernel
theorem dX12_join_38 : decode cX12_join 38 = .ok (.goto 4, 3) := by decide +kernel
theorem dX12_join_41 : decode cX12_join 41 = .ok (.iconst 0, 1) := by decide +kernel
theorem dX12_join_42 : decode cX12_join 42 = .ok (.iconst 1, 1) := by decide +kernel
theorem dX12_join_43 : decode cX12_join 43 = .ok (.invokevirtual 197, 3) := by decide +kernel
theorem dX12_join_46 : decode cX12_join 46 = .ok (.ifCond .eq 23, 3) := by decide +kernel
theorem dX12_join_49 : decode cX12_join 49 = .ok (.aload_n 0, 1) := by decide +kernel
theorem dX12_join_50 : decode cX12_join 50 = .ok (.getfield 69, 3) := by decide +kernel
theorem dX12_join_53 : decode cX12_join 53 = .ok (.iload_n 1, 1) := by decide +kernel
theorem dX12_join_54 : decode cX12_join 54 = .ok (.iload_n 2, 1) := by decide +kernel
theorem dX12_join_55 : decode cX12_join 55 = .ok (.iastore, 1) := by decide +kernel
theorem dX12_join_56 : decode cX12_join 56 = .ok (.aload_n 0, 1) := by decide +kernel
theorem dX12_join_57 : decode cX12_join 57 = .ok (.getfield 69, 3) := by decide +kernel
theorem dX12_join_60 : decode cX12_join 60 = .ok (.iload_n 2, 1) := by decide +kernel
theorem dX12_join_61 : decode cX12_join 61 = .ok (.iload_n 1, 1) := by decide +kernel
theorem dX12_join_62 : decode cX12_join 62 = .ok (.iastore, 1) := by decide +kernel
theorem dX12_join_63 : decode cX12_join 63 = .ok (.aload_n 0, 1) := by decide +kernel
theorem dX12_join_64 : decode cX12_join 64 = .ok (.invokevirtual 208, 3) := by decide +kernel
theorem dX12_join_67 : decode cX12_join 67 = .ok (.istore 4, 2) := by decide +kernel
theorem dX12_join_69 : decode cX12_join 69 = .ok (.return_, 1) := by decide +kernel
theorem dX12_returns_0 : decode cX12_returns 0 = .ok (.iconst 1, 1) := by decide +kernel
theorem dX12_returns_1 : decode cX12_returns 1 = .ok (.istore_n 2, 1) := by decide +kernel
theorem dX12_returns_2 : decode cX12_returns 2 = .ok (.aload_n 0, 1) := by decide +kernel
theorem dX12_returns_3 : decode cX12_returns 3 = .ok (.getfield 60, 3) := by decide +kernel
theorem dX12_returns_6 : decode cX12_returns 6 = .ok (.iload_n 1, 1) := by decide +kernel
theorem dX12_returns_7 : decode cX12_returns 7 = .ok (.iconst 5, 1) := by decide +kernel
theorem dX12_returns_8 : decode cX12_returns 8 = .ok (.iastore, 1) := by decide +kernel
theorem dX12_returns_9 : decode cX12_returns 9 = .ok (.aload_n 0, 1) := by decide +kernel
theorem dX12_returns_10 : decode cX12_returns 10 = .ok (.getfield 69, 3) := by decide +kernel
theorem dX12_returns_13 : decode cX12_returns 13 = .ok (.iload_n 1, 1) := by decide +kernel
theorem dX12_returns_14 : decode cX12_returns 14 = .ok (.iaload, 1) := by decide +kernel
theorem dX12_returns_15 : decode cX12_returns 15 = .ok (.iconst (-1), 1) := by decide +kernel
theorem dX12_returns_16 : decode cX12_returns 16 = .ok (.if_icmp .eq 33, 3) := by decide +kernel
theorem dX12_returns_19 : decode cX12_returns 19 = .ok (.aload_n 0, 1) := by decide +kernel
theorem dX12_returns_20 : decode cX12_returns 20 = .ok (.getfield 60, 3) := by decide +kernel
theorem dX12_returns_23 : decode cX12_returns 23 = .ok (.aload_n 0, 1) := by decide +kernel
theorem dX12_returns_24 : decode cX12_returns 24 = .ok (.getfield 69, 3) := by decide +kernel
theorem dX12_returns_27 : decode cX12_returns 27 = .ok (.iload_n 1, 1) := by decide +kernel
theorem dX12_returns_28 : decode cX12_returns 28 = .ok (.iaload, 1) := by decide +kernel
theorem dX12_returns_29 : decode cX12_returns 29 = .ok (.iaload, 1) := by decide +kernel
theorem dX12_returns_30 : decode cX12_returns 30 = .ok (.iconst 5, 1) := by decide +kernel
theorem dX12_returns_31 : decode cX12_returns 31 = .ok (.if_icmp .eq 18, 3) := by decide +kernel
theorem dX12_returns_34 : decode cX12_returns 34 = .ok (.aload_n 0, 1) := by decide +kernel
theorem dX12_returns_35 : decode cX12_returns 35 = .ok (.getfield 60, 3) := by decide +kernel
theorem dX12_returns_38 : decode cX12_returns 38 = .ok (.aload_n 0, 1) := by decide +kernel
theorem dX12_returns_39 : decode cX12_returns 39 = .ok (.getfield 69, 3) := by decide +kernel
theorem dX12_returns_42 : decode cX12_returns 42 = .ok (.iload_n 1, 1) := by decide +kernel
theorem dX12_returns_43 : decode cX12_returns 43 = .ok (.iaload, 1) := by decide +kernel
theorem dX12_returns_44 : decode cX12_returns 44 = .ok (.iconst 5, 1) := by decide +kernel
theorem dX12_returns_45 : decode cX12_returns 45 = .ok (.iastore, 1) := by decide +kernel
theorem dX12_returns_46 : decode cX12_returns 46 = .ok (.iinc 2 1, 3) := by decide +kernel
theorem dX12_returns_49 : decode cX12_returns 49 = .ok (.iload_n 2, 1) := by decide +kernel
theorem dX12_returns_50 : decode cX12_returns 50 = .ok (.ireturn, 1) := by decide +kernel
theorem dX12_withdraw_0 : decode cX12_withdraw 0 = .ok (.aload_n 0, 1) := by decide +kernel
theorem dX12_withdraw_1 : decode cX12_withdraw 1 = .ok (.iload_n 1, 1) := by decide +kernel
theorem dX12_withdraw_2 : decode cX12_withdraw 2 = .ok (.invokevirtual 214, 3) := by decide +kernel
theorem dX12_withdraw_5 : decode cX12_withdraw 5 = .ok (.istore_n 2, 1) := by decide +kernel
theorem dX12_withdraw_6 : decode cX12_withdraw 6 = .ok (.aload_n 0, 1) := by decide +kernel
theorem dX12_withdraw_7 : decode cX12_withdraw 7 = .ok (.iload_n 2, 1) := by decide +kernel
theorem dX12_withdraw_8 : decode cX12_withdraw 8 = .ok (.iload_n 2, 1) := by decide +kernel
theorem dX12_withdraw_9 : decode cX12_withdraw 9 = .ok (.ifCond .eq 15, 3) := by decide +kernel
theorem dX12_withdraw_12 : decode cX12_withdraw 12 = .ok (.aload_n 0, 1) := by decide +kernel
theorem dX12_withdraw_13 : decode cX12_withdraw 13 = .ok (.iload_n 1, 1) := by decide +kernel
theorem dX12_withdraw_14 : decode cX12_withdraw 14 = .ok (.invokevirtual 211, 3) := by decide +kernel
theorem dX12_withdraw_17 : decode cX12_withdraw 17 = .ok (.ifCond .ne 7, 3) := by decide +kernel
theorem dX12_withdraw_20 : decode cX12_withdraw 20 = .ok (.iconst 1, 1) := by decide +kernel
theorem dX12_withdraw_21 : decode cX12_withdraw 21 = .ok (.goto 4, 3) := by decide +kernel
theorem dX12_withdraw_24 : decode cX12_withdraw 24 = .ok (.iconst 0, 1) := by decide +kernel
theorem dX12_withdraw_25 : decode cX12_withdraw 25 = .ok (.iconst 1, 1) := by decide +kernel
theorem dX12_withdraw_26 : decode cX12_withdraw 26 = .ok (.invokevirtual 197, 3) := by decide +kernel
theorem dX12_withdraw_29 : decode cX12_withdraw 29 = .ok (.ifCond .ne 5, 3) := by decide +kernel
theorem dX12_withdraw_32 : decode cX12_withdraw 32 = .ok (.iconst 0, 1) := by decide +kernel
theorem dX12_withdraw_33 : decode cX12_withdraw 33 = .ok (.ireturn, 1) := by decide +kernel
theorem dX12_withdraw_34 : decode cX12_withdraw 34 = .ok (.aload_n 0, 1) := by decide +kernel
theorem dX12_withdraw_35 : decode cX12_withdraw 35 = .ok (.iload_n 1, 1) := by decide +kernel
theorem dX12_withdraw_36 : decode cX12_withdraw 36 = .ok (.invokevirtual 220, 3) := by decide +kernel
theorem dX12_withdraw_39 : decode cX12_withdraw 39 = .ok (.istore_n 3, 1) := by decide +kernel
theorem dX12_withdraw_40 : decode cX12_withdraw 40 = .ok (.aload_n 0, 1) := by decide +kernel
theorem dX12_withdraw_41 : decode cX12_withdraw 41 = .ok (.invokevirtual 208, 3) := by decide +kernel
theorem dX12_withdraw_44 : decode cX12_withdraw 44 = .ok (.istore 4, 2) := by decide +kernel
theorem dX12_withdraw_46 : decode cX12_withdraw 46 = .ok (.iload_n 3, 1) := by decide +kernel
theorem dX12_withdraw_47 : decode cX12_withdraw 47 = .ok (.ireturn, 1) := by decide +kernel
theorem dX12_release_0 : decode cX12_release 0 = .ok (.aload_n 0, 1) := by decide +kernel
theorem dX12_release_1 : decode cX12_release 1 = .ok (.iload_n 1, 1) := by decide +kernel
theorem dX12_release_2 : decode cX12_release 2 = .ok (.invokevirtual 214, 3) := by decide +kernel
theorem dX12_release_5 : decode cX12_release 5 = .ok (.ifCond .eq 16, 3) := by decide +kernel
theorem dX12_release_8 : decode cX12_release 8 = .ok (.iload_n 2, 1) := by decide +kernel
theorem dX12_release_9 : decode cX12_release 9 = .ok (.iconst 0, 1) := by decide +kernel
theorem dX12_release_10 : decode cX12_release 10 = .ok (.iconst 3, 1) := by decide +kernel
theorem dX12_release_11 : decode cX12_release 11 = .ok (.invokestatic 110, 3) := by decide +kernel
theorem dX12_release_14 : decode cX12_release 14 = .ok (.ifCond .eq 7, 3) := by decide +kernel
theorem dX12_release_17 : decode cX12_release 17 = .ok (.iconst 1, 1) := by decide +kernel
theorem dX12_release_18 : decode cX12_release 18 = .ok (.goto 4, 3) := by decide +kernel
theorem dX12_release_21 : decode cX12_release 21 = .ok (.iconst 0, 1) := by decide +kernel
theorem dX12_release_22 : decode cX12_release 22 = .ok (.istore_n 3, 1) := by decide +kernel
theorem dX12_release_23 : decode cX12_release 23 = .ok (.aload_n 0, 1) := by decide +kernel
theorem dX12_release_24 : decode cX12_release 24 = .ok (.iload_n 3, 1) := by decide +kernel
theorem dX12_release_25 : decode cX12_release 25 = .ok (.iload_n 3, 1) := by decide +kernel
theorem dX12_release_26 : decode cX12_release 26 = .ok (.ifCond .eq 27, 3) := by decide +kernel
theorem dX12_release_29 : decode cX12_release 29 = .ok (.aload_n 0, 1) := by decide +kernel
theorem dX12_release_30 : decode cX12_release 30 = .ok (.getfield 60, 3) := by decide +kernel
theorem dX12_release_33 : decode cX12_release 33 = .ok (.iload_n 1, 1) := by decide +kernel
theorem dX12_release_34 : decode cX12_release 34 = .ok (.iaload, 1) := by decide +kernel
theorem dX12_release_35 : decode cX12_release 35 = .ok (.iconst 1, 1) := by decide +kernel
theorem dX12_release_36 : decode cX12_release 36 = .ok (.if_icmp .ne 17, 3) := by decide +kernel
theorem dX12_release_39 : decode cX12_release 39 = .ok (.aload_n 0, 1) := by decide +kernel
theorem dX12_release_40 : decode cX12_release 40 = .ok (.getfield 66, 3) := by decide +kernel
theorem dX12_release_43 : decode cX12_release 43 = .ok (.iload_n 1, 1) := by decide +kernel
theorem dX12_release_44 : decode cX12_release 44 = .ok (.iaload, 1) := by decide +kernel
theorem dX12_release_45 : decode cX12_release 45 = .ok (.iload_n 2, 1) := by decide +kernel
theorem dX12_release_46 : decode cX12_release 46 = .ok (.if_icmp .eq 7, 3) := by decide +kernel
theorem dX12_release_49 : decode cX12_release 49 = .ok (.iconst 1, 1) := by decide +kernel
theorem dX12_release_50 : decode cX12_release 50 = .ok (.goto 4, 3) := by decide +kernel
theorem dX12_release_53 : decode cX12_release 53 = .ok (.iconst 0, 1) := by decide +kernel
theorem dX12_release_54 : decode cX12_release 54 = .ok (.iconst 1, 1) := by decide +kernel
theorem dX12_release_55 : decode cX12_release 55 = .ok (.invokevirtual 197, 3) := by decide +kernel
theorem dX12_release_58 : decode cX12_release 58 = .ok (.ifCond .ne 5, 3) := by decide +kernel
theorem dX12_release_61 : decode cX12_release 61 = .ok (.iconst 0, 1) := by decide +kernel
theorem dX12_release_62 : decode cX12_release 62 = .ok (.ireturn, 1) := by decide +kernel
theorem dX12_release_63 : decode cX12_release 63 = .ok (.aload_n 0, 1) := by decide +kernel
theorem dX12_release_64 : decode cX12_release 64 = .ok (.getfield 66, 3) := by decide +kernel
theorem dX12_release_67 : decode cX12_release 67 = .ok (.iload_n 1, 1) := by decide +kernel
theorem dX12_release_68 : decode cX12_release 68 = .ok (.iaload, 1) := by decide +kernel
theorem dX12_release_69 : decode cX12_release 69 = .ok (.iconst (-1), 1) := by decide +kernel
theorem dX12_release_70 : decode cX12_release 70 = .ok (.if_icmp .eq 7, 3) := by decide +kernel
theorem dX12_release_73 : decode cX12_release 73 = .ok (.iconst 1, 1) := by decide +kernel
theorem dX12_release_74 : decode cX12_release 74 = .ok (.goto 4, 3) := by decide +kernel
theorem dX12_release_77 : decode cX12_release 77 = .ok (.iconst 0, 1) := by decide +kernel
theorem dX12_release_78 : decode cX12_release 78 = .ok (.istore 4, 2) := by decide +kernel
theorem dX12_release_80 : decode cX12_release 80 = .ok (.iload 4, 2) := by decide +kernel
theorem dX12_release_82 : decode cX12_release 82 = .ok (.ifCond .eq 24, 3) := by decide +kernel
theorem dX12_release_85 : decode cX12_release 85 = .ok (.aload_n 0, 1) := by decide +kernel
theorem dX12_release_86 : decode cX12_release 86 = .ok (.getfield 63, 3) := by decide +kernel
theorem dX12_release_89 : decode cX12_release 89 = .ok (.iload_n 1, 1) := by decide +kernel
theorem dX12_release_90 : decode cX12_release 90 = .ok (.iconst 1, 1) := by decide +kernel
theorem dX12_release_91 : decode cX12_release 91 = .ok (.bastore, 1) := by decide +kernel
theorem dX12_release_92 : decode cX12_release 92 = .ok (.aload_n 0, 1) := by decide +kernel
theorem dX12_release_93 : decode cX12_release 93 = .ok (.iload_n 1, 1) := by decide +kernel
theorem dX12_release_94 : decode cX12_release 94 = .ok (.invokevirtual 179, 3) := by decide +kernel
theorem dX12_release_97 : decode cX12_release 97 = .ok (.aload_n 0, 1) := by decide +kernel
theorem dX12_release_98 : decode cX12_release 98 = .ok (.invokevirtual 208, 3) := by decide +kernel
theorem dX12_release_101 : decode cX12_release 101 = .ok (.istore 5, 2) := by decide +kernel
theorem dX12_release_103 : decode cX12_release 103 = .ok (.goto 10, 3) := by decide +kernel
theorem dX12_release_106 : decode cX12_release 106 = .ok (.aload_n 0, 1) := by decide +kernel
theorem dX12_release_107 : decode cX12_release 107 = .ok (.getfield 66, 3) := by decide +kernel
theorem dX12_release_110 : decode cX12_release 110 = .ok (.iload_n 1, 1) := by decide +kernel
theorem dX12_release_111 : decode cX12_release 111 = .ok (.iload_n 2, 1) := by decide +kernel
theorem dX12_release_112 : decode cX12_release 112 = .ok (.iastore, 1) := by decide +kernel
theorem dX12_release_113 : decode cX12_release 113 = .ok (.iload 4, 2) := by decide +kernel
theorem dX12_release_115 : decode cX12_release 115 = .ok (.ireturn, 1) := by decide +kernel
theorem dX12_refuse_0 : decode cX12_refuse 0 = .ok (.aload_n 0, 1) := by decide +kernel
theorem dX12_refuse_1 : decode cX12_refuse 1 = .ok (.iload_n 1, 1) := by decide +kernel
theorem dX12_refuse_2 : decode cX12_refuse 2 = .ok (.invokevirtual 214, 3) := by decide +kernel
theorem dX12_refuse_5 : decode cX12_refuse 5 = .ok (.istore_n 2, 1) := by decide +kernel
theorem dX12_refuse_6 : decode cX12_refuse 6 = .ok (.aload_n 0, 1) := by decide +kernel
theorem dX12_refuse_7 : decode cX12_refuse 7 = .ok (.iload_n 2, 1) := by decide +kernel
theorem dX12_refuse_8 : decode cX12_refuse 8 = .ok (.iload_n 2, 1) := by decide +kernel
theorem dX12_refuse_9 : decode cX12_refuse 9 = .ok (.ifCond .eq 17, 3) := by decide +kernel
theorem dX12_refuse_12 : decode cX12_refuse 12 = .ok (.aload_n 0, 1) := by decide +kernel
theorem dX12_refuse_13 : decode cX12_refuse 13 = .ok (.getfield 60, 3) := by decide +kernel
theorem dX12_refuse_16 : decode cX12_refuse 16 = .ok (.iload_n 1, 1) := by decide +kernel
theorem dX12_refuse_17 : decode cX12_refuse 17 = .ok (.iaload, 1) := by decide +kernel
theorem dX12_refuse_18 : decode cX12_refuse 18 = .ok (.iconst 1, 1) := by decide +kernel
theorem dX12_refuse_19 : decode cX12_refuse 19 = .ok (.if_icmp .ne 7, 3) := by decide +kernel
theorem dX12_refuse_22 : decode cX12_refuse 22 = .ok (.iconst 1, 1) := by decide +kernel
theorem dX12_refuse_23 : decode cX12_refuse 23 = .ok (.goto 4, 3) := by decide +kernel
theorem dX12_refuse_26 : decode cX12_refuse 26 = .ok (.iconst 0, 1) := by decide +kernel
theorem dX12_refuse_27 : decode cX12_refuse 27 = .ok (.iconst 1, 1) := by decide +kernel
theorem dX12_refuse_28 : decode cX12_refuse 28 = .ok (.invokevirtual 197, 3) := by decide +kernel
theorem dX12_refuse_31 : decode cX12_refuse 31 = .ok (.ifCond .ne 5, 3) := by decide +kernel
theorem dX12_refuse_34 : decode cX12_refuse 34 = .ok (.iconst 0, 1) := by decide +kernel
theorem dX12_refuse_35 : decode cX12_refuse 35 = .ok (.ireturn, 1) := by decide +kernel
theorem dX12_refuse_36 : decode cX12_refuse 36 = .ok (.aload_n 0, 1) := by decide +kernel
theorem dX12_refuse_37 : decode cX12_refuse 37 = .ok (.iload_n 1, 1) := by decide +kernel
theorem dX12_refuse_38 : decode cX12_refuse 38 = .ok (.invokevirtual 220, 3) := by decide +kernel
theorem dX12_refuse_41 : decode cX12_refuse 41 = .ok (.istore_n 3, 1) := by decide +kernel
theorem dX12_refuse_42 : decode cX12_refuse 42 = .ok (.aload_n 0, 1) := by decide +kernel
theorem dX12_refuse_43 : decode cX12_refuse 43 = .ok (.invokevirtual 208, 3) := by decide +kernel
theorem dX12_refuse_46 : decode cX12_refuse 46 = .ok (.istore 4, 2) := by decide +kernel
theorem dX12_refuse_48 : decode cX12_refuse 48 = .ok (.iload_n 3, 1) := by decide +kernel
theorem dX12_refuse_49 : decode cX12_refuse 49 = .ok (.ireturn, 1) := by decide +kernel
theorem dX12_offset_0 : decode cX12_offset 0 = .ok (.aload_n 0, 1) := by decide +kernel
theorem dX12_offset_1 : decode cX12_offset 1 = .ok (.iload_n 1, 1) := by decide +kernel
theorem dX12_offset_2 : decode cX12_offset 2 = .ok (.invokestatic 186, 3) := by decide +kernel
theorem dX12_offset_5 : decode cX12_offset 5 = .ok (.iconst 1, 1) := by decide +kernel
theorem dX12_offset_6 : decode cX12_offset 6 = .ok (.iconst 1, 1) := by decide +kernel
theorem dX12_offset_7 : decode cX12_offset 7 = .ok (.invokevirtual 197, 3) := by decide +kernel
theorem dX12_offset_10 : decode cX12_offset 10 = .ok (.ifCond .ne 5, 3) := by decide +kernel
theorem dX12_offset_13 : decode cX12_offset 13 = .ok (.iconst 0, 1) := by decide +kernel
theorem dX12_offset_14 : decode cX12_offset 14 = .ok (.ireturn, 1) := by decide +kernel
theorem dX12_offset_15 : decode cX12_offset 15 = .ok (.iconst 0, 1) := by decide +kernel
theorem dX12_offset_16 : decode cX12_offset 16 = .ok (.istore_n 2, 1) := by decide +kernel
theorem dX12_offset_17 : decode cX12_offset 17 = .ok (.aload_n 0, 1) := by decide +kernel
theorem dX12_offset_18 : decode cX12_offset 18 = .ok (.iload_n 1, 1) := by decide +kernel
theorem dX12_offset_19 : decode cX12_offset 19 = .ok (.aload_n 0, 1) := by decide +kernel
theorem dX12_offset_20 : decode cX12_offset 20 = .ok (.getfield 135, 3) := by decide +kernel
theorem dX12_offset_23 : decode cX12_offset 23 = .ok (.invokevirtual 138, 3) := by decide +kernel
theorem dX12_offset_26 : decode cX12_offset 26 = .ok (.ifCond .eq 101, 3) := by decide +kernel
theorem dX12_offset_29 : decode cX12_offset 29 = .ok (.iconst 0, 1) := by decide +kernel
theorem dX12_offset_30 : decode cX12_offset 30 = .ok (.istore_n 3, 1) := by decide +kernel
theorem dX12_offset_31 : decode cX12_offset 31 = .ok (.iload_n 3, 1) := by decide +kernel
theorem dX12_offset_32 : decode cX12_offset 32 = .ok (.bipush 60, 2) := by decide +kernel
theorem dX12_offset_34 : decode cX12_offset 34 = .ok (.if_icmp .ge 86, 3) := by decide +kernel
theorem dX12_offset_37 : decode cX12_offset 37 = .ok (.aload_n 0, 1) := by decide +kernel
theorem dX12_offset_38 : decode cX12_offset 38 = .ok (.getfield 97, 3) := by decide +kernel
theorem dX12_offset_41 : decode cX12_offset 41 = .ok (.iload_n 3, 1) := by decide +kernel
theorem dX12_offset_42 : decode cX12_offset 42 = .ok (.iload_n 3, 1) := by decide +kernel
theorem dX12_offset_43 : decode cX12_offset 43 = .ok (.aload_n 0, 1) := by decide +kernel
theorem dX12_offset_44 : decode cX12_offset 44 = .ok (.getfield 114, 3) := by decide +kernel
theorem dX12_offset_47 : decode cX12_offset 47 = .ok (.if_icmp .ge 65, 3) := by decide +kernel
theorem dX12_offset_50 : decode cX12_offset 50 = .ok (.aload_n 0, 1) := by decide +kernel
theorem dX12_offset_51 : decode cX12_offset 51 = .ok (.getfield 60, 3) := by decide +kernel
theorem dX12_offset_54 : decode cX12_offset 54 = .ok (.iload_n 3, 1) := by decide +kernel
theorem dX12_offset_55 : decode cX12_offset 55 = .ok (.iaload, 1) := by decide +kernel
theorem dX12_offset_56 : decode cX12_offset 56 = .ok (.iconst 2, 1) := by decide +kernel
theorem dX12_offset_57 : decode cX12_offset 57 = .ok (.if_icmp .ne 55, 3) := by decide +kernel
theorem dX12_offset_60 : decode cX12_offset 60 = .ok (.aload_n 0, 1) := by decide +kernel
theorem dX12_offset_61 : decode cX12_offset 61 = .ok (.getfield 39, 3) := by decide +kernel
theorem dX12_offset_64 : decode cX12_offset 64 = .ok (.iload_n 3, 1) := by decide +kernel
theorem dX12_offset_65 : decode cX12_offset 65 = .ok (.iaload, 1) := by decide +kernel
theorem dX12_offset_66 : decode cX12_offset 66 = .ok (.iload_n 1, 1) := by decide +kernel
theorem dX12_offset_67 : decode cX12_offset 67 = .ok (.if_icmp .ne 45, 3) := by decide +kernel
theorem dX12_offset_70 : decode cX12_offset 70 = .ok (.aload_n 0, 1) := by decide +kernel
theorem dX12_offset_71 : decode cX12_offset 71 = .ok (.getfield 69, 3) := by decide +kernel
theorem dX12_offset_74 : decode cX12_offset 74 = .ok (.iload_n 3, 1) := by decide +kernel
theorem dX12_offset_75 : decode cX12_offset 75 = .ok (.iaload, 1) := by decide +kernel
theorem dX12_offset_76 : decode cX12_offset 76 = .ok (.iconst (-1), 1) := by decide +kernel
theorem dX12_offset_77 : decode cX12_offset 77 = .ok (.if_icmp .ne 35, 3) := by decide +kernel
theorem dX12_offset_80 : decode cX12_offset 80 = .ok (.aload_n 0, 1) := by decide +kernel
theorem dX12_offset_81 : decode cX12_offset 81 = .ok (.getfield 23, 3) := by decide +kernel
theorem dX12_offset_84 : decode cX12_offset 84 = .ok (.aload_n 0, 1) := by decide +kernel
theorem dX12_offset_85 : decode cX12_offset 85 = .ok (.getfield 33, 3) := by decide +kernel
theorem dX12_offset_88 : decode cX12_offset 88 = .ok (.iload_n 3, 1) := by decide +kernel
theorem dX12_offset_89 : decode cX12_offset 89 = .ok (.iaload, 1) := by decide +kernel
theorem dX12_offset_90 : decode cX12_offset 90 = .ok (.baload, 1) := by decide +kernel
theorem dX12_offset_91 : decode cX12_offset 91 = .ok (.ifCond .ne 21, 3) := by decide +kernel
theorem dX12_offset_94 : decode cX12_offset 94 = .ok (.aload_n 0, 1) := by decide +kernel
theorem dX12_offset_95 : decode cX12_offset 95 = .ok (.getfield 23, 3) := by decide +kernel
theorem dX12_offset_98 : decode cX12_offset 98 = .ok (.aload_n 0, 1) := by decide +kernel
theorem dX12_offset_99 : decode cX12_offset 99 = .ok (.getfield 36, 3) := by decide +kernel
theorem dX12_offset_102 : decode cX12_offset 102 = .ok (.iload_n 3, 1) := by decide +kernel
theorem dX12_offset_103 : decode cX12_offset 103 = .ok (.iaload, 1) := by decide +kernel
theorem dX12_offset_104 : decode cX12_offset 104 = .ok (.baload, 1) := by decide +kernel
theorem dX12_offset_105 : decode cX12_offset 105 = .ok (.ifCond .ne 7, 3) := by decide +kernel
theorem dX12_offset_108 : decode cX12_offset 108 = .ok (.iconst 1, 1) := by decide +kernel
theorem dX12_offset_109 : decode cX12_offset 109 = .ok (.goto 4, 3) := by decide +kernel
theorem dX12_offset_112 : decode cX12_offset 112 = .ok (.iconst 0, 1) := by decide +kernel
theorem dX12_offset_113 : decode cX12_offset 113 = .ok (.bastore, 1) := by decide +kernel
theorem dX12_offset_114 : decode cX12_offset 114 = .ok (.iinc 3 1, 3) := by decide +kernel
theorem dX12_offset_117 : decode cX12_offset 117 = .ok (.goto (-86), 3) := by decide +kernel
theorem dX12_offset_120 : decode cX12_offset 120 = .ok (.aload_n 0, 1) := by decide +kernel
theorem dX12_offset_121 : decode cX12_offset 121 = .ok (.iload_n 1, 1) := by decide +kernel
theorem dX12_offset_122 : decode cX12_offset 122 = .ok (.iconst 1, 1) := by decide +kernel
theorem dX12_offset_123 : decode cX12_offset 123 = .ok (.invokevirtual 224, 3) := by decide +kernel
theorem dX12_offset_126 : decode cX12_offset 126 = .ok (.istore_n 2, 1) := by decide +kernel
theorem dX12_offset_127 : decode cX12_offset 127 = .ok (.aload_n 0, 1) := by decide +kernel
theorem dX12_offset_128 : decode cX12_offset 128 = .ok (.invokevirtual 208, 3) := by decide +kernel
theorem dX12_offset_131 : decode cX12_offset 131 = .ok (.istore_n 3, 1) := by decide +kernel
theorem dX12_offset_132 : decode cX12_offset 132 = .ok (.iload_n 2, 1) := by decide +kernel
theorem dX12_offset_133 : decode cX12_offset 133 = .ok (.ireturn, 1) := by decide +kernel
theorem dX12_recall_0 : decode cX12_recall 0 = .ok (.aload_n 0, 1) := by decide +kernel
theorem dX12_recall_1 : decode cX12_recall 1 = .ok (.iload_n 1, 1) := by decide +kernel
theorem dX12_recall_2 : decode cX12_recall 2 = .ok (.invokevirtual 214, 3) := by decide +kernel
theorem dX12_recall_5 : decode cX12_recall 5 = .ok (.istore_n 2, 1) := by decide +kernel
theorem dX12_recall_6 : decode cX12_recall 6 = .ok (.aload_n 0, 1) := by decide +kernel
theorem dX12_recall_7 : decode cX12_recall 7 = .ok (.iload_n 2, 1) := by decide +kernel
theorem dX12_recall_8 : decode cX12_recall 8 = .ok (.iload_n 2, 1) := by decide +kernel
theorem dX12_recall_9 : decode cX12_recall 9 = .ok (.ifCond .eq 42, 3) := by decide +kernel
theorem dX12_recall_12 : decode cX12_recall 12 = .ok (.aload_n 0, 1) := by decide +kernel
theorem dX12_recall_13 : decode cX12_recall 13 = .ok (.getfield 60, 3) := by decide +kernel
theorem dX12_recall_16 : decode cX12_recall 16 = .ok (.iload_n 1, 1) := by decide +kernel
theorem dX12_recall_17 : decode cX12_recall 17 = .ok (.iaload, 1) := by decide +kernel
theorem dX12_recall_18 : decode cX12_recall 18 = .ok (.iconst 4, 1) := by decide +kernel
theorem dX12_recall_19 : decode cX12_recall 19 = .ok (.if_icmp .ne 32, 3) := by decide +kernel
theorem dX12_recall_22 : decode cX12_recall 22 = .ok (.aload_n 0, 1) := by decide +kernel
theorem dX12_recall_23 : decode cX12_recall 23 = .ok (.getfield 135, 3) := by decide +kernel
theorem dX12_recall_26 : decode cX12_recall 26 = .ok (.aload_n 0, 1) := by decide +kernel
theorem dX12_recall_27 : decode cX12_recall 27 = .ok (.getfield 72, 3) := by decide +kernel
theorem dX12_recall_30 : decode cX12_recall 30 = .ok (.iload_n 1, 1) := by decide +kernel
theorem dX12_recall_31 : decode cX12_recall 31 = .ok (.iaload, 1) := by decide +kernel
theorem dX12_recall_32 : decode cX12_recall 32 = .ok (.iconst 3, 1) := by decide +kernel
theorem dX12_recall_33 : decode cX12_recall 33 = .ok (.iadd, 1) := by decide +kernel
theorem dX12_recall_34 : decode cX12_recall 34 = .ok (.if_icmp .gt 17, 3) := by decide +kernel
theorem dX12_recall_37 : decode cX12_recall 37 = .ok (.aload_n 0, 1) := by decide +kernel
theorem dX12_recall_38 : decode cX12_recall 38 = .ok (.getfield 75, 3) := by decide +kernel
theorem dX12_recall_41 : decode cX12_recall 41 = .ok (.iload_n 1, 1) := by decide +kernel
theorem dX12_recall_42 : decode cX12_recall 42 = .ok (.iaload, 1) := by decide +kernel
theorem dX12_recall_43 : decode cX12_recall 43 = .ok (.iconst (-1), 1) := by decide +kernel
theorem dX12_recall_44 : decode cX12_recall 44 = .ok (.if_icmp .ne 7, 3) := by decide +kernel
theorem dX12_recall_47 : decode cX12_recall 47 = .ok (.iconst 1, 1) := by decide +kernel
theorem dX12_recall_48 : decode cX12_recall 48 = .ok (.goto 4, 3) := by decide +kernel
theorem dX12_recall_51 : decode cX12_recall 51 = .ok (.iconst 0, 1) := by decide +kernel
theorem dX12_recall_52 : decode cX12_recall 52 = .ok (.iconst 1, 1) := by decide +kernel
theorem dX12_recall_53 : decode cX12_recall 53 = .ok (.invokevirtual 197, 3) := by decide +kernel
theorem dX12_recall_56 : decode cX12_recall 56 = .ok (.ifCond .ne 5, 3) := by decide +kernel
theorem dX12_recall_59 : decode cX12_recall 59 = .ok (.iconst 0, 1) := by decide +kernel
theorem dX12_recall_60 : decode cX12_recall 60 = .ok (.ireturn, 1) := by decide +kernel
theorem dX12_recall_61 : decode cX12_recall 61 = .ok (.aload_n 0, 1) := by decide +kernel
theorem dX12_recall_62 : decode cX12_recall 62 = .ok (.getfield 75, 3) := by decide +kernel
theorem dX12_recall_65 : decode cX12_recall 65 = .ok (.iload_n 1, 1) := by decide +kernel
theorem dX12_recall_66 : decode cX12_recall 66 = .ok (.aload_n 0, 1) := by decide +kernel
theorem dX12_recall_67 : decode cX12_recall 67 = .ok (.getfield 135, 3) := by decide +kernel
theorem dX12_recall_70 : decode cX12_recall 70 = .ok (.iastore, 1) := by decide +kernel
theorem dX12_recall_71 : decode cX12_recall 71 = .ok (.aload_n 0, 1) := by decide +kernel
theorem dX12_recall_72 : decode cX12_recall 72 = .ok (.getfield 135, 3) := by decide +kernel
theorem dX12_recall_75 : decode cX12_recall 75 = .ok (.iconst 2, 1) := by decide +kernel
theorem dX12_recall_76 : decode cX12_recall 76 = .ok (.iadd, 1) := by decide +kernel
theorem dX12_recall_77 : decode cX12_recall 77 = .ok (.ireturn, 1) := by decide +kernel
theorem dX12_answer_0 : decode cX12_answer 0 = .ok (.aload_n 0, 1) := by decide +kernel
theorem dX12_answer_1 : decode cX12_answer 1 = .ok (.iload_n 1, 1) := by decide +kernel
theorem dX12_answer_2 : decode cX12_answer 2 = .ok (.invokevirtual 214, 3) := by decide +kernel
theorem dX12_answer_5 : decode cX12_answer 5 = .ok (.istore_n 3, 1) := by decide +kernel
theorem dX12_answer_6 : decode cX12_answer 6 = .ok (.iload_n 3, 1) := by decide +kernel
theorem dX12_answer_7 : decode cX12_answer 7 = .ok (.ifCond .eq 54, 3) := by decide +kernel
theorem dX12_answer_10 : decode cX12_answer 10 = .ok (.aload_n 0, 1) := by decide +kernel
theorem dX12_answer_11 : decode cX12_answer 11 = .ok (.getfield 75, 3) := by decide +kernel
theorem dX12_answer_14 : decode cX12_answer 14 = .ok (.iload_n 1, 1) := by decide +kernel
theorem dX12_answer_15 : decode cX12_answer 15 = .ok (.iaload, 1) := by decide +kernel
theorem dX12_answer_16 : decode cX12_answer 16 = .ok (.iconst (-1), 1) := by decide +kernel
theorem dX12_answer_17 : decode cX12_answer 17 = .ok (.if_icmp .eq 44, 3) := by decide +kernel
theorem dX12_answer_20 : decode cX12_answer 20 = .ok (.aload_n 0, 1) := by decide +kernel
theorem dX12_answer_21 : decode cX12_answer 21 = .ok (.getfield 78, 3) := by decide +kernel
theorem dX12_answer_24 : decode cX12_answer 24 = .ok (.iload_n 1, 1) := by decide +kernel
theorem dX12_answer_25 : decode cX12_answer 25 = .ok (.baload, 1) := by decide +kernel
theorem dX12_answer_26 : decode cX12_answer 26 = .ok (.ifCond .ne 35, 3) := by decide +kernel
theorem dX12_answer_29 : decode cX12_answer 29 = .ok (.aload_n 0, 1) := by decide +kernel
theorem dX12_answer_30 : decode cX12_answer 30 = .ok (.getfield 135, 3) := by decide +kernel
theorem dX12_answer_33 : decode cX12_answer 33 = .ok (.aload_n 0, 1) := by decide +kernel
theorem dX12_answer_34 : decode cX12_answer 34 = .ok (.getfield 75, 3) := by decide +kernel
theorem dX12_answer_37 : decode cX12_answer 37 = .ok (.iload_n 1, 1) := by decide +kernel
theorem dX12_answer_38 : decode cX12_answer 38 = .ok (.iaload, 1) := by decide +kernel
theorem dX12_answer_39 : decode cX12_answer 39 = .ok (.iconst 2, 1) := by decide +kernel
theorem dX12_answer_40 : decode cX12_answer 40 = .ok (.iadd, 1) := by decide +kernel
theorem dX12_answer_41 : decode cX12_answer 41 = .ok (.if_icmp .gt 20, 3) := by decide +kernel
theorem dX12_answer_44 : decode cX12_answer 44 = .ok (.iload_n 2, 1) := by decide +kernel
theorem dX12_answer_45 : decode cX12_answer 45 = .ok (.ifCond .eq 12, 3) := by decide +kernel
theorem dX12_answer_48 : decode cX12_answer 48 = .ok (.aload_n 0, 1) := by decide +kernel
theorem dX12_answer_49 : decode cX12_answer 49 = .ok (.getfield 114, 3) := by decide +kernel
theorem dX12_answer_52 : decode cX12_answer 52 = .ok (.bipush 60, 2) := by decide +kernel
theorem dX12_answer_54 : decode cX12_answer 54 = .ok (.if_icmp .ge 7, 3) := by decide +kernel
theorem dX12_answer_57 : decode cX12_answer 57 = .ok (.iconst 1, 1) := by decide +kernel
theorem dX12_answer_58 : decode cX12_answer 58 = .ok (.goto 4, 3) := by decide +kernel
theorem dX12_answer_61 : decode cX12_answer 61 = .ok (.iconst 0, 1) := by decide +kernel
theorem dX12_answer_62 : decode cX12_answer 62 = .ok (.istore 4, 2) := by decide +kernel
theorem dX12_answer_64 : decode cX12_answer 64 = .ok (.aload_n 0, 1) := by decide +kernel
theorem dX12_answer_65 : decode cX12_answer 65 = .ok (.iload_n 3, 1) := by decide +kernel
theorem dX12_answer_66 : decode cX12_answer 66 = .ok (.iload 4, 2) := by decide +kernel
theorem dX12_answer_68 : decode cX12_answer 68 = .ok (.iconst 1, 1) := by decide +kernel
theorem dX12_answer_69 : decode cX12_answer 69 = .ok (.invokevirtual 197, 3) := by decide +kernel
theorem dX12_answer_72 : decode cX12_answer 72 = .ok (.ifCond .ne 5, 3) := by decide +kernel
theorem dX12_answer_75 : decode cX12_answer 75 = .ok (.iconst 0, 1) := by decide +kernel
theorem dX12_answer_76 : decode cX12_answer 76 = .ok (.ireturn, 1) := by decide +kernel
theorem dX12_answer_77 : decode cX12_answer 77 = .ok (.aload_n 0, 1) := by decide +kernel
theorem dX12_answer_78 : decode cX12_answer 78 = .ok (.getfield 78, 3) := by decide +kernel
theorem dX12_answer_81 : decode cX12_answer 81 = .ok (.iload_n 1, 1) := by decide +kernel
theorem dX12_answer_82 : decode cX12_answer 82 = .ok (.iconst 1, 1) := by decide +kernel
theorem dX12_answer_83 : decode cX12_answer 83 = .ok (.bastore, 1) := by decide +kernel
theorem dX12_answer_84 : decode cX12_answer 84 = .ok (.iload_n 2, 1) := by decide +kernel
theorem dX12_answer_85 : decode cX12_answer 85 = .ok (.ifCond .ne 5, 3) := by decide +kernel
theorem dX12_answer_88 : decode cX12_answer 88 = .ok (.iconst (-1), 1) := by decide +kernel
theorem dX12_answer_89 : decode cX12_answer 89 = .ok (.ireturn, 1) := by decide +kernel
theorem dX12_answer_90 : decode cX12_answer 90 = .ok (.aload_n 0, 1) := by decide +kernel
theorem dX12_answer_91 : decode cX12_answer 91 = .ok (.aload_n 0, 1) := by decide +kernel
theorem dX12_answer_92 : decode cX12_answer 92 = .ok (.getfield 36, 3) := by decide +kernel
theorem dX12_answer_95 : decode cX12_answer 95 = .ok (.iload_n 1, 1) := by decide +kernel
theorem dX12_answer_96 : decode cX12_answer 96 = .ok (.iaload, 1) := by decide +kernel
theorem dX12_answer_97 : decode cX12_answer 97 = .ok (.aload_n 0, 1) := by decide +kernel
theorem dX12_answer_98 : decode cX12_answer 98 = .ok (.getfield 33, 3) := by decide +kernel
theorem dX12_answer_101 : decode cX12_answer 101 = .ok (.iload_n 1, 1) := by decide +kernel
theorem dX12_answer_102 : decode cX12_answer 102 = .ok (.iaload, 1) := by decide +kernel
theorem dX12_answer_103 : decode cX12_answer 103 = .ok (.aload_n 0, 1) := by decide +kernel
theorem dX12_answer_104 : decode cX12_answer 104 = .ok (.getfield 39, 3) := by decide +kernel
theorem dX12_answer_107 : decode cX12_answer 107 = .ok (.iload_n 1, 1) := by decide +kernel
theorem dX12_answer_108 : decode cX12_answer 108 = .ok (.iaload, 1) := by decide +kernel
theorem dX12_answer_109 : decode cX12_answer 109 = .ok (.aload_n 0, 1) := by decide +kernel
theorem dX12_answer_110 : decode cX12_answer 110 = .ok (.getfield 42, 3) := by decide +kernel
theorem dX12_answer_113 : decode cX12_answer 113 = .ok (.iload_n 1, 1) := by decide +kernel
theorem dX12_answer_114 : decode cX12_answer 114 = .ok (.iaload, 1) := by decide +kernel
theorem dX12_answer_115 : decode cX12_answer 115 = .ok (.iconst 0, 1) := by decide +kernel
theorem dX12_answer_116 : decode cX12_answer 116 = .ok (.iconst 2, 1) := by decide +kernel
theorem dX12_answer_117 : decode cX12_answer 117 = .ok (.iconst 1, 1) := by decide +kernel
theorem dX12_answer_118 : decode cX12_answer 118 = .ok (.aload_n 0, 1) := by decide +kernel
theorem dX12_answer_119 : decode cX12_answer 119 = .ok (.getfield 135, 3) := by decide +kernel
theorem dX12_answer_122 : decode cX12_answer 122 = .ok (.iconst 1, 1) := by decide +kernel
theorem dX12_answer_123 : decode cX12_answer 123 = .ok (.invokevirtual 204, 3) := by decide +kernel
theorem dX12_answer_126 : decode cX12_answer 126 = .ok (.istore 5, 2) := by decide +kernel
theorem dX12_answer_128 : decode cX12_answer 128 = .ok (.aload_n 0, 1) := by decide +kernel
theorem dX12_answer_129 : decode cX12_answer 129 = .ok (.invokevirtual 208, 3) := by decide +kernel
theorem dX12_answer_132 : decode cX12_answer 132 = .ok (.istore 6, 2) := by decide +kernel
theorem dX12_answer_134 : decode cX12_answer 134 = .ok (.iload 5, 2) := by decide +kernel
theorem dX12_answer_136 : decode cX12_answer 136 = .ok (.ireturn, 1) := by decide +kernel
theorem dX12_fund_0 : decode cX12_fund 0 = .ok (.aload_n 0, 1) := by decide +kernel
theorem dX12_fund_1 : decode cX12_fund 1 = .ok (.iload_n 1, 1) := by decide +kernel
theorem dX12_fund_2 : decode cX12_fund 2 = .ok (.invokestatic 183, 3) := by decide +kernel
theorem dX12_fund_5 : decode cX12_fund 5 = .ok (.ifCond .eq 14, 3) := by decide +kernel
theorem dX12_fund_8 : decode cX12_fund 8 = .ok (.iload_n 2, 1) := by decide +kernel
theorem dX12_fund_9 : decode cX12_fund 9 = .ok (.invokestatic 186, 3) := by decide +kernel
theorem dX12_fund_12 : decode cX12_fund 12 = .ok (.ifCond .eq 7, 3) := by decide +kernel
theorem dX12_fund_15 : decode cX12_fund 15 = .ok (.iconst 1, 1) := by decide +kernel
theorem dX12_fund_16 : decode cX12_fund 16 = .ok (.goto 4, 3) := by decide +kernel
theorem dX12_fund_19 : decode cX12_fund 19 = .ok (.iconst 0, 1) := by decide +kernel
theorem dX12_fund_20 : decode cX12_fund 20 = .ok (.iload_n 3, 1) := by decide +kernel
theorem dX12_fund_21 : decode cX12_fund 21 = .ok (.iconst 1, 1) := by decide +kernel
theorem dX12_fund_22 : decode cX12_fund 22 = .ok (.ldc 192, 2) := by decide +kernel
theorem dX12_fund_24 : decode cX12_fund 24 = .ok (.invokestatic 110, 3) := by decide +kernel
theorem dX12_fund_27 : decode cX12_fund 27 = .ok (.iconst 1, 1) := by decide +kernel
theorem dX12_fund_28 : decode cX12_fund 28 = .ok (.invokevirtual 197, 3) := by decide +kernel
theorem dX12_fund_31 : decode cX12_fund 31 = .ok (.ifCond .ne 5, 3) := by decide +kernel
theorem dX12_fund_34 : decode cX12_fund 34 = .ok (.lconst 0, 1) := by decide +kernel
theorem dX12_fund_35 : decode cX12_fund 35 = .ok (.lreturn, 1) := by decide +kernel
theorem dX12_fund_36 : decode cX12_fund 36 = .ok (.aload_n 0, 1) := by decide +kernel
theorem dX12_fund_37 : decode cX12_fund 37 = .ok (.iconst (-1), 1) := by decide +kernel
theorem dX12_fund_38 : decode cX12_fund 38 = .ok (.iload_n 1, 1) := by decide +kernel
theorem dX12_fund_39 : decode cX12_fund 39 = .ok (.iload_n 2, 1) := by decide +kernel
theorem dX12_fund_40 : decode cX12_fund 40 = .ok (.iload_n 3, 1) := by decide +kernel
theorem dX12_fund_41 : decode cX12_fund 41 = .ok (.i2l, 1) := by decide +kernel
theorem dX12_fund_42 : decode cX12_fund 42 = .ok (.iconst (-1), 1) := by decide +kernel
theorem dX12_fund_43 : decode cX12_fund 43 = .ok (.invokevirtual 141, 3) := by decide +kernel
theorem dX12_fund_46 : decode cX12_fund 46 = .ok (.aload_n 0, 1) := by decide +kernel
theorem dX12_fund_47 : decode cX12_fund 47 = .ok (.invokevirtual 208, 3) := by decide +kernel
theorem dX12_fund_50 : decode cX12_fund 50 = .ok (.istore 4, 2) := by decide +kernel
theorem dX12_fund_52 : decode cX12_fund 52 = .ok (.aload_n 0, 1) := by decide +kernel
theorem dX12_fund_53 : decode cX12_fund 53 = .ok (.getfield 7, 3) := by decide +kernel
theorem dX12_fund_56 : decode cX12_fund 56 = .ok (.iload_n 1, 1) := by decide +kernel
theorem dX12_fund_57 : decode cX12_fund 57 = .ok (.iload_n 2, 1) := by decide +kernel
theorem dX12_fund_58 : decode cX12_fund 58 = .ok (.invokestatic 120, 3) := by decide +kernel
theorem dX12_fund_61 : decode cX12_fund 61 = .ok (.laload, 1) := by decide +kernel
theorem dX12_fund_62 : decode cX12_fund 62 = .ok (.lreturn, 1) := by decide +kernel
theorem dX12_line_0 : decode cX12_line 0 = .ok (.aload_n 0, 1) := by decide +kernel
theorem dX12_line_1 : decode cX12_line 1 = .ok (.iload_n 1, 1) := by decide +kernel
theorem dX12_line_2 : decode cX12_line 2 = .ok (.invokestatic 183, 3) := by decide +kernel
theorem dX12_line_5 : decode cX12_line 5 = .ok (.ifCond .eq 14, 3) := by decide +kernel
theorem dX12_line_8 : decode cX12_line 8 = .ok (.iload_n 2, 1) := by decide +kernel
theorem dX12_line_9 : decode cX12_line 9 = .ok (.invokestatic 186, 3) := by decide +kernel
theorem dX12_line_12 : decode cX12_line 12 = .ok (.ifCond .eq 7, 3) := by decide +kernel
theorem dX12_line_15 : decode cX12_line 15 = .ok (.iconst 1, 1) := by decide +kernel
theorem dX12_line_16 : decode cX12_line 16 = .ok (.goto 4, 3) := by decide +kernel
theorem dX12_line_19 : decode cX12_line 19 = .ok (.iconst 0, 1) := by decide +kernel
theorem dX12_line_20 : decode cX12_line 20 = .ok (.iload_n 3, 1) := by decide +kernel
theorem dX12_line_21 : decode cX12_line 21 = .ok (.iconst 0, 1) := by decide +kernel
theorem dX12_line_22 : decode cX12_line 22 = .ok (.ldc 192, 2) := by decide +kernel
theorem dX12_line_24 : decode cX12_line 24 = .ok (.invokestatic 110, 3) := by decide +kernel
theorem dX12_line_27 : decode cX12_line 27 = .ok (.iconst 1, 1) := by decide +kernel
theorem dX12_line_28 : decode cX12_line 28 = .ok (.invokevirtual 197, 3) := by decide +kernel
theorem dX12_line_31 : decode cX12_line 31 = .ok (.ifCond .ne 5, 3) := by decide +kernel
