/-! decode rows -/
theorem dX11_init_0 : decode cX11_init 0 = .ok (.aload_n 0, 1) := by decide +kernel
theorem dX11_init_1 : decode cX11_init 1 = .ok (.invokespecial 3, 3) := by decide +kernel
theorem dX11_init_4 : decode cX11_init 4 = .ok (.aload_n 0, 1) := by decide +kernel
theorem dX11_init_5 : decode cX11_init 5 = .ok (.new 9, 3) := by decide +kernel
theorem dX11_init_8 : decode cX11_init 8 = .ok (.dup, 1) := by decide +kernel
theorem dX11_init_9 : decode cX11_init 9 = .ok (.invokespecial 11, 3) := by decide +kernel
theorem dX11_init_12 : decode cX11_init 12 = .ok (.putfield 12, 3) := by decide +kernel
theorem dX11_init_15 : decode cX11_init 15 = .ok (.aload_n 0, 1) := by decide +kernel
theorem dX11_init_16 : decode cX11_init 16 = .ok (.new 16, 3) := by decide +kernel
theorem dX11_init_19 : decode cX11_init 19 = .ok (.dup, 1) := by decide +kernel
theorem dX11_init_20 : decode cX11_init 20 = .ok (.aload_n 0, 1) := by decide +kernel
theorem dX11_init_21 : decode cX11_init 21 = .ok (.getfield 12, 3) := by decide +kernel
theorem dX11_init_24 : decode cX11_init 24 = .ok (.invokespecial 18, 3) := by decide +kernel
theorem dX11_init_27 : decode cX11_init 27 = .ok (.putfield 21, 3) := by decide +kernel
theorem dX11_init_30 : decode cX11_init 30 = .ok (.aload_n 0, 1) := by decide +kernel
theorem dX11_init_31 : decode cX11_init 31 = .ok (.new 25, 3) := by decide +kernel
theorem dX11_init_34 : decode cX11_init 34 = .ok (.dup, 1) := by decide +kernel
theorem dX11_init_35 : decode cX11_init 35 = .ok (.invokespecial 27, 3) := by decide +kernel
theorem dX11_init_38 : decode cX11_init 38 = .ok (.putfield 28, 3) := by decide +kernel
theorem dX11_init_41 : decode cX11_init 41 = .ok (.aload_n 0, 1) := by decide +kernel
theorem dX11_init_42 : decode cX11_init 42 = .ok (.new 32, 3) := by decide +kernel
theorem dX11_init_45 : decode cX11_init 45 = .ok (.dup, 1) := by decide +kernel
theorem dX11_init_46 : decode cX11_init 46 = .ok (.invokespecial 34, 3) := by decide +kernel
theorem dX11_init_49 : decode cX11_init 49 = .ok (.putfield 35, 3) := by decide +kernel
theorem dX11_init_52 : decode cX11_init 52 = .ok (.aload_n 0, 1) := by decide +kernel
theorem dX11_init_53 : decode cX11_init 53 = .ok (.new 39, 3) := by decide +kernel
theorem dX11_init_56 : decode cX11_init 56 = .ok (.dup, 1) := by decide +kernel
theorem dX11_init_57 : decode cX11_init 57 = .ok (.aload_n 0, 1) := by decide +kernel
theorem dX11_init_58 : decode cX11_init 58 = .ok (.getfield 12, 3) := by decide +kernel
theorem dX11_init_61 : decode cX11_init 61 = .ok (.aload_n 0, 1) := by decide +kernel
theorem dX11_init_62 : decode cX11_init 62 = .ok (.getfield 21, 3) := by decide +kernel
theorem dX11_init_65 : decode cX11_init 65 = .ok (.aload_n 0, 1) := by decide +kernel
theorem dX11_init_66 : decode cX11_init 66 = .ok (.getfield 28, 3) := by decide +kernel
theorem dX11_init_69 : decode cX11_init 69 = .ok (.aload_n 0, 1) := by decide +kernel
theorem dX11_init_70 : decode cX11_init 70 = .ok (.getfield 35, 3) := by decide +kernel
theorem dX11_init_73 : decode cX11_init 73 = .ok (.invokespecial 41, 3) := by decide +kernel
theorem dX11_init_76 : decode cX11_init 76 = .ok (.putfield 44, 3) := by decide +kernel
theorem dX11_init_79 : decode cX11_init 79 = .ok (.aload_n 0, 1) := by decide +kernel
theorem dX11_init_80 : decode cX11_init 80 = .ok (.new 48, 3) := by decide +kernel
theorem dX11_init_83 : decode cX11_init 83 = .ok (.dup, 1) := by decide +kernel
theorem dX11_init_84 : decode cX11_init 84 = .ok (.invokespecial 50, 3) := by decide +kernel
theorem dX11_init_87 : decode cX11_init 87 = .ok (.putfield 51, 3) := by decide +kernel
theorem dX11_init_90 : decode cX11_init 90 = .ok (.aload_n 0, 1) := by decide +kernel
theorem dX11_init_91 : decode cX11_init 91 = .ok (.new 55, 3) := by decide +kernel
theorem dX11_init_94 : decode cX11_init 94 = .ok (.dup, 1) := by decide +kernel
theorem dX11_init_95 : decode cX11_init 95 = .ok (.invokespecial 57, 3) := by decide +kernel
theorem dX11_init_98 : decode cX11_init 98 = .ok (.putfield 58, 3) := by decide +kernel
theorem dX11_init_101 : decode cX11_init 101 = .ok (.aload_n 0, 1) := by decide +kernel
theorem dX11_init_102 : decode cX11_init 102 = .ok (.new 62, 3) := by decide +kernel
theorem dX11_init_105 : decode cX11_init 105 = .ok (.dup, 1) := by decide +kernel
theorem dX11_init_106 : decode cX11_init 106 = .ok (.invokespecial 64, 3) := by decide +kernel
theorem dX11_init_109 : decode cX11_init 109 = .ok (.putfield 65, 3) := by decide +kernel
theorem dX11_init_112 : decode cX11_init 112 = .ok (.aload_n 0, 1) := by decide +kernel
theorem dX11_init_113 : decode cX11_init 113 = .ok (.new 69, 3) := by decide +kernel
theorem dX11_init_116 : decode cX11_init 116 = .ok (.dup, 1) := by decide +kernel
theorem dX11_init_117 : decode cX11_init 117 = .ok (.invokespecial 71, 3) := by decide +kernel
theorem dX11_init_120 : decode cX11_init 120 = .ok (.putfield 72, 3) := by decide +kernel
theorem dX11_init_123 : decode cX11_init 123 = .ok (.aload_n 0, 1) := by decide +kernel
theorem dX11_init_124 : decode cX11_init 124 = .ok (.bipush 8, 2) := by decide +kernel
theorem dX11_init_126 : decode cX11_init 126 = .ok (.anewarray 76, 3) := by decide +kernel
theorem dX11_init_129 : decode cX11_init 129 = .ok (.putfield 78, 3) := by decide +kernel
theorem dX11_init_132 : decode cX11_init 132 = .ok (.aload_n 0, 1) := by decide +kernel
theorem dX11_init_133 : decode cX11_init 133 = .ok (.sipush 400, 3) := by decide +kernel
theorem dX11_init_136 : decode cX11_init 136 = .ok (.newarray .int, 2) := by decide +kernel
theorem dX11_init_138 : decode cX11_init 138 = .ok (.putfield 82, 3) := by decide +kernel
theorem dX11_init_141 : decode cX11_init 141 = .ok (.aload_n 0, 1) := by decide +kernel
theorem dX11_init_142 : decode cX11_init 142 = .ok (.iconst 4, 1) := by decide +kernel
theorem dX11_init_143 : decode cX11_init 143 = .ok (.anewarray 9, 3) := by decide +kernel
theorem dX11_init_146 : decode cX11_init 146 = .ok (.putfield 86, 3) := by decide +kernel
theorem dX11_init_149 : decode cX11_init 149 = .ok (.aload_n 0, 1) := by decide +kernel
theorem dX11_init_150 : decode cX11_init 150 = .ok (.bipush 8, 2) := by decide +kernel
theorem dX11_init_152 : decode cX11_init 152 = .ok (.newarray .int, 2) := by decide +kernel
theorem dX11_init_154 : decode cX11_init 154 = .ok (.putfield 90, 3) := by decide +kernel
theorem dX11_init_157 : decode cX11_init 157 = .ok (.aload_n 0, 1) := by decide +kernel
theorem dX11_init_158 : decode cX11_init 158 = .ok (.bipush 12, 2) := by decide +kernel
theorem dX11_init_160 : decode cX11_init 160 = .ok (.newarray .int, 2) := by decide +kernel
theorem dX11_init_162 : decode cX11_init 162 = .ok (.putfield 93, 3) := by decide +kernel
theorem dX11_init_165 : decode cX11_init 165 = .ok (.return_, 1) := by decide +kernel
theorem dX11_road_0 : decode cX11_road 0 = .ok (.iload_n 1, 1) := by decide +kernel
theorem dX11_road_1 : decode cX11_road 1 = .ok (.invokestatic 96, 3) := by decide +kernel
theorem dX11_road_4 : decode cX11_road 4 = .ok (.ifCond .eq 26, 3) := by decide +kernel
theorem dX11_road_7 : decode cX11_road 7 = .ok (.iload_n 2, 1) := by decide +kernel
theorem dX11_road_8 : decode cX11_road 8 = .ok (.invokestatic 96, 3) := by decide +kernel
theorem dX11_road_11 : decode cX11_road 11 = .ok (.ifCond .eq 19, 3) := by decide +kernel
theorem dX11_road_14 : decode cX11_road 14 = .ok (.iload_n 1, 1) := by decide +kernel
theorem dX11_road_15 : decode cX11_road 15 = .ok (.iload_n 2, 1) := by decide +kernel
theorem dX11_road_16 : decode cX11_road 16 = .ok (.if_icmp .eq 14, 3) := by decide +kernel
theorem dX11_road_19 : decode cX11_road 19 = .ok (.iload_n 3, 1) := by decide +kernel
theorem dX11_road_20 : decode cX11_road 20 = .ok (.iconst 1, 1) := by decide +kernel
theorem dX11_road_21 : decode cX11_road 21 = .ok (.if_icmp .lt 9, 3) := by decide +kernel
theorem dX11_road_24 : decode cX11_road 24 = .ok (.iload_n 3, 1) := by decide +kernel
theorem dX11_road_25 : decode cX11_road 25 = .ok (.bipush 9, 2) := by decide +kernel
theorem dX11_road_27 : decode cX11_road 27 = .ok (.if_icmp .le 5, 3) := by decide +kernel
theorem dX11_road_30 : decode cX11_road 30 = .ok (.iconst (-1), 1) := by decide +kernel
theorem dX11_road_31 : decode cX11_road 31 = .ok (.ireturn, 1) := by decide +kernel
theorem dX11_road_32 : decode cX11_road 32 = .ok (.aload_n 0, 1) := by decide +kernel
theorem dX11_road_33 : decode cX11_road 33 = .ok (.getfield 12, 3) := by decide +kernel
theorem dX11_road_36 : decode cX11_road 36 = .ok (.getfield 100, 3) := by decide +kernel
theorem dX11_road_39 : decode cX11_road 39 = .ok (.bipush 16, 2) := by decide +kernel
theorem dX11_road_41 : decode cX11_road 41 = .ok (.if_icmp .ge 20, 3) := by decide +kernel
theorem dX11_road_44 : decode cX11_road 44 = .ok (.aload_n 0, 1) := by decide +kernel
theorem dX11_road_45 : decode cX11_road 45 = .ok (.getfield 12, 3) := by decide +kernel
theorem dX11_road_48 : decode cX11_road 48 = .ok (.getfield 104, 3) := by decide +kernel
theorem dX11_road_51 : decode cX11_road 51 = .ok (.iload_n 1, 1) := by decide +kernel
theorem dX11_road_52 : decode cX11_road 52 = .ok (.bipush 8, 2) := by decide +kernel
theorem dX11_road_54 : decode cX11_road 54 = .ok (.imul, 1) := by decide +kernel
theorem dX11_road_55 : decode cX11_road 55 = .ok (.iload_n 2, 1) := by decide +kernel
theorem dX11_road_56 : decode cX11_road 56 = .ok (.iadd, 1) := by decide +kernel
theorem dX11_road_57 : decode cX11_road 57 = .ok (.iaload, 1) := by decide +kernel
theorem dX11_road_58 : decode cX11_road 58 = .ok (.ifCond .eq 5, 3) := by decide +kernel
theorem dX11_road_61 : decode cX11_road 61 = .ok (.iconst (-1), 1) := by decide +kernel
theorem dX11_road_62 : decode cX11_road 62 = .ok (.ireturn, 1) := by decide +kernel
theorem dX11_road_63 : decode cX11_road 63 = .ok (.aload_n 0, 1) := by decide +kernel
theorem dX11_road_64 : decode cX11_road 64 = .ok (.getfield 12, 3) := by decide +kernel
theorem dX11_road_67 : decode cX11_road 67 = .ok (.getfield 104, 3) := by decide +kernel
theorem dX11_road_70 : decode cX11_road 70 = .ok (.iload_n 1, 1) := by decide +kernel
theorem dX11_road_71 : decode cX11_road 71 = .ok (.bipush 8, 2) := by decide +kernel
theorem dX11_road_73 : decode cX11_road 73 = .ok (.imul, 1) := by decide +kernel
theorem dX11_road_74 : decode cX11_road 74 = .ok (.iload_n 2, 1) := by decide +kernel
theorem dX11_road_75 : decode cX11_road 75 = .ok (.iadd, 1) := by decide +kernel
theorem dX11_road_76 : decode cX11_road 76 = .ok (.iload_n 3, 1) := by decide +kernel
theorem dX11_road_77 : decode cX11_road 77 = .ok (.iastore, 1) := by decide +kernel
theorem dX11_road_78 : decode cX11_road 78 = .ok (.aload_n 0, 1) := by decide +kernel
theorem dX11_road_79 : decode cX11_road 79 = .ok (.getfield 12, 3) := by decide +kernel
theorem dX11_road_82 : decode cX11_road 82 = .ok (.getfield 104, 3) := by decide +kernel
theorem dX11_road_85 : decode cX11_road 85 = .ok (.iload_n 2, 1) := by decide +kernel
theorem dX11_road_86 : decode cX11_road 86 = .ok (.bipush 8, 2) := by decide +kernel
theorem dX11_road_88 : decode cX11_road 88 = .ok (.imul, 1) := by decide +kernel
theorem dX11_road_89 : decode cX11_road 89 = .ok (.iload_n 1, 1) := by decide +kernel
theorem dX11_road_90 : decode cX11_road 90 = .ok (.iadd, 1) := by decide +kernel
theorem dX11_road_91 : decode cX11_road 91 = .ok (.iload_n 3, 1) := by decide +kernel
theorem dX11_road_92 : decode cX11_road 92 = .ok (.iastore, 1) := by decide +kernel
theorem dX11_road_93 : decode cX11_road 93 = .ok (.aload_n 0, 1) := by decide +kernel
theorem dX11_road_94 : decode cX11_road 94 = .ok (.getfield 28, 3) := by decide +kernel
theorem dX11_road_97 : decode cX11_road 97 = .ok (.aload_n 0, 1) := by decide +kernel
theorem dX11_road_98 : decode cX11_road 98 = .ok (.getfield 12, 3) := by decide +kernel
theorem dX11_road_101 : decode cX11_road 101 = .ok (.getfield 104, 3) := by decide +kernel
theorem dX11_road_104 : decode cX11_road 104 = .ok (.invokevirtual 107, 3) := by decide +kernel
theorem dX11_road_107 : decode cX11_road 107 = .ok (.aload_n 0, 1) := by decide +kernel
theorem dX11_road_108 : decode cX11_road 108 = .ok (.getfield 12, 3) := by decide +kernel
theorem dX11_road_111 : decode cX11_road 111 = .ok (.dup, 1) := by decide +kernel
theorem dX11_road_112 : decode cX11_road 112 = .ok (.getfield 100, 3) := by decide +kernel
theorem dX11_road_115 : decode cX11_road 115 = .ok (.dup_x1, 1) := by decide +kernel
theorem dX11_road_116 : decode cX11_road 116 = .ok (.iconst 1, 1) := by decide +kernel
theorem dX11_road_117 : decode cX11_road 117 = .ok (.iadd, 1) := by decide +kernel
theorem dX11_road_118 : decode cX11_road 118 = .ok (.putfield 100, 3) := by decide +kernel
theorem dX11_road_121 : decode cX11_road 121 = .ok (.ireturn, 1) := by decide +kernel
theorem dX11_person_0 : decode cX11_person 0 = .ok (.aload_n 0, 1) := by decide +kernel
theorem dX11_person_1 : decode cX11_person 1 = .ok (.getfield 12, 3) := by decide +kernel
theorem dX11_person_4 : decode cX11_person 4 = .ok (.getfield 111, 3) := by decide +kernel
theorem dX11_person_7 : decode cX11_person 7 = .ok (.bipush 12, 2) := by decide +kernel
theorem dX11_person_9 : decode cX11_person 9 = .ok (.if_icmp .ge 10, 3) := by decide +kernel
theorem dX11_person_12 : decode cX11_person 12 = .ok (.iload_n 1, 1) := by decide +kernel
theorem dX11_person_13 : decode cX11_person 13 = .ok (.invokestatic 96, 3) := by decide +kernel
theorem dX11_person_16 : decode cX11_person 16 = .ok (.ifCond .ne 5, 3) := by decide +kernel
theorem dX11_person_19 : decode cX11_person 19 = .ok (.iconst (-1), 1) := by decide +kernel
theorem dX11_person_20 : decode cX11_person 20 = .ok (.ireturn, 1) := by decide +kernel
theorem dX11_person_21 : decode cX11_person 21 = .ok (.aload_n 0, 1) := by decide +kernel
theorem dX11_person_22 : decode cX11_person 22 = .ok (.getfield 12, 3) := by decide +kernel
theorem dX11_person_25 : decode cX11_person 25 = .ok (.getfield 114, 3) := by decide +kernel
theorem dX11_person_28 : decode cX11_person 28 = .ok (.aload_n 0, 1) := by decide +kernel
theorem dX11_person_29 : decode cX11_person 29 = .ok (.getfield 12, 3) := by decide +kernel
theorem dX11_person_32 : decode cX11_person 32 = .ok (.getfield 111, 3) := by decide +kernel
theorem dX11_person_35 : decode cX11_person 35 = .ok (.iload_n 1, 1) := by decide +kernel
theorem dX11_person_36 : decode cX11_person 36 = .ok (.iastore, 1) := by decide +kernel
theorem dX11_person_37 : decode cX11_person 37 = .ok (.aload_n 0, 1) := by decide +kernel
theorem dX11_person_38 : decode cX11_person 38 = .ok (.iconst (-1), 1) := by decide +kernel
theorem dX11_person_39 : decode cX11_person 39 = .ok (.invokevirtual 117, 3) := by decide +kernel
theorem dX11_person_42 : decode cX11_person 42 = .ok (.aload_n 0, 1) := by decide +kernel
theorem dX11_person_43 : decode cX11_person 43 = .ok (.getfield 12, 3) := by decide +kernel
theorem dX11_person_46 : decode cX11_person 46 = .ok (.dup, 1) := by decide +kernel
theorem dX11_person_47 : decode cX11_person 47 = .ok (.getfield 111, 3) := by decide +kernel
theorem dX11_person_50 : decode cX11_person 50 = .ok (.dup_x1, 1) := by decide +kernel
theorem dX11_person_51 : decode cX11_person 51 = .ok (.iconst 1, 1) := by decide +kernel
theorem dX11_person_52 : decode cX11_person 52 = .ok (.iadd, 1) := by decide +kernel
theorem dX11_person_53 : decode cX11_person 53 = .ok (.putfield 111, 3) := by decide +kernel
theorem dX11_person_56 : decode cX11_person 56 = .ok (.ireturn, 1) := by decide +kernel
theorem dX11_change_0 : decode cX11_change 0 = .ok (.aload_n 0, 1) := by decide +kernel
theorem dX11_change_1 : decode cX11_change 1 = .ok (.getfield 12, 3) := by decide +kernel
theorem dX11_change_4 : decode cX11_change 4 = .ok (.getfield 121, 3) := by decide +kernel
theorem dX11_change_7 : decode cX11_change 7 = .ok (.bipush 60, 2) := by decide +kernel
theorem dX11_change_9 : decode cX11_change 9 = .ok (.if_icmp .ge 23, 3) := by decide +kernel
theorem dX11_change_12 : decode cX11_change 12 = .ok (.iload_n 1, 1) := by decide +kernel
theorem dX11_change_13 : decode cX11_change 13 = .ok (.invokestatic 124, 3) := by decide +kernel
theorem dX11_change_16 : decode cX11_change 16 = .ok (.ifCond .eq 16, 3) := by decide +kernel
theorem dX11_change_19 : decode cX11_change 19 = .ok (.aload_n 0, 1) := by decide +kernel
theorem dX11_change_20 : decode cX11_change 20 = .ok (.iload_n 3, 1) := by decide +kernel
theorem dX11_change_21 : decode cX11_change 21 = .ok (.invokevirtual 127, 3) := by decide +kernel
theorem dX11_change_24 : decode cX11_change 24 = .ok (.ifCond .eq 8, 3) := by decide +kernel
theorem dX11_change_27 : decode cX11_change 27 = .ok (.iload 4, 2) := by decide +kernel
theorem dX11_change_29 : decode cX11_change 29 = .ok (.ifCond .ge 5, 3) := by decide +kernel
theorem dX11_change_32 : decode cX11_change 32 = .ok (.iconst (-1), 1) := by decide +kernel
theorem dX11_change_33 : decode cX11_change 33 = .ok (.ireturn, 1) := by decide +kernel
theorem dX11_change_34 : decode cX11_change 34 = .ok (.iload_n 2, 1) := by decide +kernel
theorem dX11_change_35 : decode cX11_change 35 = .ok (.ifCond .ne 20, 3) := by decide +kernel
theorem dX11_change_38 : decode cX11_change 38 = .ok (.iload 4, 2) := by decide +kernel
theorem dX11_change_40 : decode cX11_change 40 = .ok (.bipush 10, 2) := by decide +kernel
theorem dX11_change_42 : decode cX11_change 42 = .ok (.if_icmp .ge 7, 3) := by decide +kernel
theorem dX11_change_45 : decode cX11_change 45 = .ok (.iconst 1, 1) := by decide +kernel
theorem dX11_change_46 : decode cX11_change 46 = .ok (.goto 4, 3) := by decide +kernel
theorem dX11_change_49 : decode cX11_change 49 = .ok (.iconst 0, 1) := by decide +kernel
theorem dX11_change_50 : decode cX11_change 50 = .ok (.istore 7, 2) := by decide +kernel
theorem dX11_change_52 : decode cX11_change 52 = .ok (.goto 54, 3) := by decide +kernel
theorem dX11_change_55 : decode cX11_change 55 = .ok (.iload_n 2, 1) := by decide +kernel
theorem dX11_change_56 : decode cX11_change 56 = .ok (.iconst 1, 1) := by decide +kernel
theorem dX11_change_57 : decode cX11_change 57 = .ok (.if_icmp .ne 30, 3) := by decide +kernel
theorem dX11_change_60 : decode cX11_change 60 = .ok (.iload 4, 2) := by decide +kernel
theorem dX11_change_62 : decode cX11_change 62 = .ok (.bipush 6, 2) := by decide +kernel
theorem dX11_change_64 : decode cX11_change 64 = .ok (.if_icmp .ge 17, 3) := by decide +kernel
theorem dX11_change_67 : decode cX11_change 67 = .ok (.aload_n 0, 1) := by decide +kernel
theorem dX11_change_68 : decode cX11_change 68 = .ok (.iload_n 3, 1) := by decide +kernel
theorem dX11_change_69 : decode cX11_change 69 = .ok (.iload 5, 2) := by decide +kernel
theorem dX11_change_71 : decode cX11_change 71 = .ok (.invokevirtual 130, 3) := by decide +kernel
theorem dX11_change_74 : decode cX11_change 74 = .ok (.ifCond .eq 7, 3) := by decide +kernel
theorem dX11_change_77 : decode cX11_change 77 = .ok (.iconst 1, 1) := by decide +kernel
theorem dX11_change_78 : decode cX11_change 78 = .ok (.goto 4, 3) := by decide +kernel
theorem dX11_change_81 : decode cX11_change 81 = .ok (.iconst 0, 1) := by decide +kernel
theorem dX11_change_82 : decode cX11_change 82 = .ok (.istore 7, 2) := by decide +kernel
theorem dX11_change_84 : decode cX11_change 84 = .ok (.goto 22, 3) := by decide +kernel
theorem dX11_change_87 : decode cX11_change 87 = .ok (.iload_n 2, 1) := by decide +kernel
theorem dX11_change_88 : decode cX11_change 88 = .ok (.iconst 2, 1) := by decide +kernel
theorem dX11_change_89 : decode cX11_change 89 = .ok (.if_icmp .ne 14, 3) := by decide +kernel
theorem dX11_change_92 : decode cX11_change 92 = .ok (.iload 4, 2) := by decide +kernel
theorem dX11_change_94 : decode cX11_change 94 = .ok (.bipush 8, 2) := by decide +kernel
theorem dX11_change_96 : decode cX11_change 96 = .ok (.if_icmp .ge 7, 3) := by decide +kernel
theorem dX11_change_99 : decode cX11_change 99 = .ok (.iconst 1, 1) := by decide +kernel
theorem dX11_change_100 : decode cX11_change 100 = .ok (.goto 4, 3) := by decide +kernel
theorem dX11_change_103 : decode cX11_change 103 = .ok (.iconst 0, 1) := by decide +kernel
theorem dX11_change_104 : decode cX11_change 104 = .ok (.istore 7, 2) := by decide +kernel
theorem dX11_change_106 : decode cX11_change 106 = .ok (.iload 7, 2) := by decide +kernel
theorem dX11_change_108 : decode cX11_change 108 = .ok (.ifCond .ne 5, 3) := by decide +kernel
theorem dX11_change_111 : decode cX11_change 111 = .ok (.iconst (-1), 1) := by decide +kernel
theorem dX11_change_112 : decode cX11_change 112 = .ok (.ireturn, 1) := by decide +kernel
theorem dX11_change_113 : decode cX11_change 113 = .ok (.aload_n 0, 1) := by decide +kernel
theorem dX11_change_114 : decode cX11_change 114 = .ok (.aload_n 0, 1) := by decide +kernel
theorem dX11_change_115 : decode cX11_change 115 = .ok (.getfield 12, 3) := by decide +kernel
theorem dX11_change_118 : decode cX11_change 118 = .ok (.iload_n 1, 1) := by decide +kernel
theorem dX11_change_119 : decode cX11_change 119 = .ok (.iload_n 2, 1) := by decide +kernel
theorem dX11_change_120 : decode cX11_change 120 = .ok (.iload_n 3, 1) := by decide +kernel
theorem dX11_change_121 : decode cX11_change 121 = .ok (.iload 4, 2) := by decide +kernel
theorem dX11_change_123 : decode cX11_change 123 = .ok (.iload_n 2, 1) := by decide +kernel
theorem dX11_change_124 : decode cX11_change 124 = .ok (.iconst 1, 1) := by decide +kernel
theorem dX11_change_125 : decode cX11_change 125 = .ok (.if_icmp .ne 8, 3) := by decide +kernel
theorem dX11_change_128 : decode cX11_change 128 = .ok (.iload 5, 2) := by decide +kernel
theorem dX11_change_130 : decode cX11_change 130 = .ok (.goto 4, 3) := by decide +kernel
theorem dX11_change_133 : decode cX11_change 133 = .ok (.iconst 0, 1) := by decide +kernel
theorem dX11_change_134 : decode cX11_change 134 = .ok (.iload 6, 2) := by decide +kernel
theorem dX11_change_136 : decode cX11_change 136 = .ok (.invokevirtual 134, 3) := by decide +kernel
theorem dX11_change_139 : decode cX11_change 139 = .ok (.invokevirtual 117, 3) := by decide +kernel
theorem dX11_change_142 : decode cX11_change 142 = .ok (.aload_n 0, 1) := by decide +kernel
theorem dX11_change_143 : decode cX11_change 143 = .ok (.getfield 12, 3) := by decide +kernel
theorem dX11_change_146 : decode cX11_change 146 = .ok (.getfield 121, 3) := by decide +kernel
theorem dX11_change_149 : decode cX11_change 149 = .ok (.ireturn, 1) := by decide +kernel
theorem dX11_knows_0 : decode cX11_knows 0 = .ok (.aload_n 0, 1) := by decide +kernel
theorem dX11_knows_1 : decode cX11_knows 1 = .ok (.iload_n 1, 1) := by decide +kernel
theorem dX11_knows_2 : decode cX11_knows 2 = .ok (.iload_n 2, 1) := by decide +kernel
theorem dX11_knows_3 : decode cX11_knows 3 = .ok (.invokevirtual 130, 3) := by decide +kernel
theorem dX11_knows_6 : decode cX11_knows 6 = .ok (.ifCond .eq 20, 3) := by decide +kernel
theorem dX11_knows_9 : decode cX11_knows 9 = .ok (.aload_n 0, 1) := by decide +kernel
theorem dX11_knows_10 : decode cX11_knows 10 = .ok (.getfield 12, 3) := by decide +kernel
theorem dX11_knows_13 : decode cX11_knows 13 = .ok (.getfield 138, 3) := by decide +kernel
theorem dX11_knows_16 : decode cX11_knows 16 = .ok (.iload_n 1, 1) := by decide +kernel
theorem dX11_knows_17 : decode cX11_knows 17 = .ok (.iaload, 1) := by decide +kernel
theorem dX11_knows_18 : decode cX11_knows 18 = .ok (.iload_n 2, 1) := by decide +kernel
theorem dX11_knows_19 : decode cX11_knows 19 = .ok (.invokestatic 141, 3) := by decide +kernel
theorem dX11_knows_22 : decode cX11_knows 22 = .ok (.iload_n 3, 1) := by decide +kernel
theorem dX11_knows_23 : decode cX11_knows 23 = .ok (.if_icmp .ne 5, 3) := by decide +kernel
theorem dX11_knows_26 : decode cX11_knows 26 = .ok (.iconst 0, 1) := by decide +kernel
theorem dX11_knows_27 : decode cX11_knows 27 = .ok (.ireturn, 1) := by decide +kernel
theorem dX11_knows_28 : decode cX11_knows 28 = .ok (.aload_n 0, 1) := by decide +kernel
theorem dX11_knows_29 : decode cX11_knows 29 = .ok (.getfield 12, 3) := by decide +kernel
theorem dX11_knows_32 : decode cX11_knows 32 = .ok (.getfield 138, 3) := by decide +kernel
theorem dX11_knows_35 : decode cX11_knows 35 = .ok (.iload_n 1, 1) := by decide +kernel
theorem dX11_knows_36 : decode cX11_knows 36 = .ok (.dup2, 1) := by decide +kernel
theorem dX11_knows_37 : decode cX11_knows 37 = .ok (.iaload, 1) := by decide +kernel
theorem dX11_knows_38 : decode cX11_knows 38 = .ok (.iconst 1, 1) := by decide +kernel
theorem dX11_knows_39 : decode cX11_knows 39 = .ok (.iload_n 2, 1) := by decide +kernel
theorem dX11_knows_40 : decode cX11_knows 40 = .ok (.ishl, 1) := by decide +kernel
theorem dX11_knows_41 : decode cX11_knows 41 = .ok (.ixor, 1) := by decide +kernel
theorem dX11_knows_42 : decode cX11_knows 42 = .ok (.iastore, 1) := by decide +kernel
theorem dX11_knows_43 : decode cX11_knows 43 = .ok (.iconst 1, 1) := by decide +kernel
theorem dX11_knows_44 : decode cX11_knows 44 = .ok (.ireturn, 1) := by decide +kernel
theorem dX11_worth_0 : decode cX11_worth 0 = .ok (.iload_n 1, 1) := by decide +kernel
theorem dX11_worth_1 : decode cX11_worth 1 = .ok (.ifCond .lt 19, 3) := by decide +kernel
theorem dX11_worth_4 : decode cX11_worth 4 = .ok (.iload_n 1, 1) := by decide +kernel
theorem dX11_worth_5 : decode cX11_worth 5 = .ok (.bipush 16, 2) := by decide +kernel
theorem dX11_worth_7 : decode cX11_worth 7 = .ok (.if_icmp .gt 13, 3) := by decide +kernel
theorem dX11_worth_10 : decode cX11_worth 10 = .ok (.iload_n 2, 1) := by decide +kernel
theorem dX11_worth_11 : decode cX11_worth 11 = .ok (.ifCond .lt 9, 3) := by decide +kernel
theorem dX11_worth_14 : decode cX11_worth 14 = .ok (.iload_n 2, 1) := by decide +kernel
theorem dX11_worth_15 : decode cX11_worth 15 = .ok (.bipush 99, 2) := by decide +kernel
theorem dX11_worth_17 : decode cX11_worth 17 = .ok (.if_icmp .le 5, 3) := by decide +kernel
theorem dX11_worth_20 : decode cX11_worth 20 = .ok (.iconst (-1), 1) := by decide +kernel
theorem dX11_worth_21 : decode cX11_worth 21 = .ok (.ireturn, 1) := by decide +kernel
theorem dX11_worth_22 : decode cX11_worth 22 = .ok (.aload_n 0, 1) := by decide +kernel
theorem dX11_worth_23 : decode cX11_worth 23 = .ok (.getfield 12, 3) := by decide +kernel
theorem dX11_worth_26 : decode cX11_worth 26 = .ok (.getfield 144, 3) := by decide +kernel
theorem dX11_worth_29 : decode cX11_worth 29 = .ok (.iload_n 1, 1) := by decide +kernel
theorem dX11_worth_30 : decode cX11_worth 30 = .ok (.iaload, 1) := by decide +kernel
theorem dX11_worth_31 : decode cX11_worth 31 = .ok (.istore_n 3, 1) := by decide +kernel
theorem dX11_worth_32 : decode cX11_worth 32 = .ok (.aload_n 0, 1) := by decide +kernel
theorem dX11_worth_33 : decode cX11_worth 33 = .ok (.getfield 12, 3) := by decide +kernel
theorem dX11_worth_36 : decode cX11_worth 36 = .ok (.getfield 144, 3) := by decide +kernel
theorem dX11_worth_39 : decode cX11_worth 39 = .ok (.iload_n 1, 1) := by decide +kernel
theorem dX11_worth_40 : decode cX11_worth 40 = .ok (.iload_n 2, 1) := by decide +kernel
theorem dX11_worth_41 : decode cX11_worth 41 = .ok (.iastore, 1) := by decide +kernel
theorem dX11_worth_42 : decode cX11_worth 42 = .ok (.iload_n 3, 1) := by decide +kernel
theorem dX11_worth_43 : decode cX11_worth 43 = .ok (.ireturn, 1) := by decide +kernel
theorem dX11_feed_0 : decode cX11_feed 0 = .ok (.aload_n 0, 1) := by decide +kernel
theorem dX11_feed_1 : decode cX11_feed 1 = .ok (.getfield 147, 3) := by decide +kernel
theorem dX11_feed_4 : decode cX11_feed 4 = .ok (.sipush 380, 3) := by decide +kernel
theorem dX11_feed_7 : decode cX11_feed 7 = .ok (.if_icmp .le 5, 3) := by decide +kernel
theorem dX11_feed_10 : decode cX11_feed 10 = .ok (.iconst (-1), 1) := by decide +kernel
theorem dX11_feed_11 : decode cX11_feed 11 = .ok (.ireturn, 1) := by decide +kernel
theorem dX11_feed_12 : decode cX11_feed 12 = .ok (.aload_n 0, 1) := by decide +kernel
theorem dX11_feed_13 : decode cX11_feed 13 = .ok (.iload_n 1, 1) := by decide +kernel
theorem dX11_feed_14 : decode cX11_feed 14 = .ok (.invokevirtual 150, 3) := by decide +kernel
theorem dX11_feed_17 : decode cX11_feed 17 = .ok (.aload_n 0, 1) := by decide +kernel
theorem dX11_feed_18 : decode cX11_feed 18 = .ok (.iload_n 2, 1) := by decide +kernel
theorem dX11_feed_19 : decode cX11_feed 19 = .ok (.invokevirtual 150, 3) := by decide +kernel
theorem dX11_feed_22 : decode cX11_feed 22 = .ok (.aload_n 0, 1) := by decide +kernel
theorem dX11_feed_23 : decode cX11_feed 23 = .ok (.iload_n 3, 1) := by decide +kernel
theorem dX11_feed_24 : decode cX11_feed 24 = .ok (.invokevirtual 150, 3) := by decide +kernel
theorem dX11_feed_27 : decode cX11_feed 27 = .ok (.aload_n 0, 1) := by decide +kernel
theorem dX11_feed_28 : decode cX11_feed 28 = .ok (.iload 4, 2) := by decide +kernel
theorem dX11_feed_30 : decode cX11_feed 30 = .ok (.invokevirtual 150, 3) := by decide +kernel
theorem dX11_feed_33 : decode cX11_feed 33 = .ok (.aload_n 0, 1) := by decide +kernel
theorem dX11_feed_34 : decode cX11_feed 34 = .ok (.iload 5, 2) := by decide +kernel
theorem dX11_feed_36 : decode cX11_feed 36 = .ok (.invokevirtual 150, 3) := by decide +kernel
theorem dX11_feed_39 : decode cX11_feed 39 = .ok (.aload_n 0, 1) := by decide +kernel
theorem dX11_feed_40 : decode cX11_feed 40 = .ok (.getfield 147, 3) := by decide +kernel
theorem dX11_feed_43 : decode cX11_feed 43 = .ok (.ireturn, 1) := by decide +kernel
theorem dX11_end_0 : decode cX11_end 0 = .ok (.iload_n 1, 1) := by decide +kernel
theorem dX11_end_1 : decode cX11_end 1 = .ok (.ifCond .lt 11, 3) := by decide +kernel
theorem dX11_end_4 : decode cX11_end 4 = .ok (.iload_n 1, 1) := by decide +kernel
theorem dX11_end_5 : decode cX11_end 5 = .ok (.aload_n 0, 1) := by decide +kernel
theorem dX11_end_6 : decode cX11_end 6 = .ok (.getfield 147, 3) := by decide +kernel
theorem dX11_end_9 : decode cX11_end 9 = .ok (.if_icmp .le 5, 3) := by decide +kernel
theorem dX11_end_12 : decode cX11_end 12 = .ok (.iconst (-1), 1) := by decide +kernel
theorem dX11_end_13 : decode cX11_end 13 = .ok (.ireturn, 1) := by decide +kernel
theorem dX11_end_14 : decode cX11_end 14 = .ok (.aload_n 0, 1) := by decide +kernel
theorem dX11_end_15 : decode cX11_end 15 = .ok (.iload_n 1, 1) := by decide +kernel
theorem dX11_end_16 : decode cX11_end 16 = .ok (.putfield 147, 3) := by decide +kernel
theorem dX11_end_19 : decode cX11_end 19 = .ok (.iload_n 1, 1) := by decide +kernel
theorem dX11_end_20 : decode cX11_end 20 = .ok (.ireturn, 1) := by decide +kernel
theorem dX11_cover_0 : decode cX11_cover 0 = .ok (.aload_n 0, 1) := by decide +kernel
theorem dX11_cover_1 : decode cX11_cover 1 = .ok (.getfield 153, 3) := by decide +kernel
theorem dX11_cover_4 : decode cX11_cover 4 = .ok (.bipush 8, 2) := by decide +kernel
theorem dX11_cover_6 : decode cX11_cover 6 = .ok (.if_icmp .lt 5, 3) := by decide +kernel
theorem dX11_cover_9 : decode cX11_cover 9 = .ok (.iconst (-1), 1) := by decide +kernel
theorem dX11_cover_10 : decode cX11_cover 10 = .ok (.ireturn, 1) := by decide +kernel
theorem dX11_cover_11 : decode cX11_cover 11 = .ok (.aload_n 0, 1) := by decide +kernel
theorem dX11_cover_12 : decode cX11_cover 12 = .ok (.getfield 65, 3) := by decide +kernel
theorem dX11_cover_15 : decode cX11_cover 15 = .ok (.aload_n 0, 1) := by decide +kernel
theorem dX11_cover_16 : decode cX11_cover 16 = .ok (.getfield 82, 3) := by decide +kernel
theorem dX11_cover_19 : decode cX11_cover 19 = .ok (.aload_n 0, 1) := by decide +kernel
theorem dX11_cover_20 : decode cX11_cover 20 = .ok (.getfield 147, 3) := by decide +kernel
theorem dX11_cover_23 : decode cX11_cover 23 = .ok (.invokevirtual 156, 3) := by decide +kernel
theorem dX11_cover_26 : decode cX11_cover 26 = .ok (.istore_n 1, 1) := by decide +kernel
theorem dX11_cover_27 : decode cX11_cover 27 = .ok (.aload_n 0, 1) := by decide +kernel
theorem dX11_cover_28 : decode cX11_cover 28 = .ok (.iconst 0, 1) := by decide +kernel
theorem dX11_cover_29 : decode cX11_cover 29 = .ok (.putfield 147, 3) := by decide +kernel
theorem dX11_cover_32 : decode cX11_cover 32 = .ok (.iload_n 1, 1) := by decide +kernel
theorem dX11_cover_33 : decode cX11_cover 33 = .ok (.ifCond .eq 8, 3) := by decide +kernel
theorem dX11_cover_36 : decode cX11_cover 36 = .ok (.bipush (-2), 2) := by decide +kernel
theorem dX11_cover_38 : decode cX11_cover 38 = .ok (.iload_n 1, 1) := by decide +kernel
theorem dX11_cover_39 : decode cX11_cover 39 = .ok (.isub, 1) := by decide +kernel
theorem dX11_cover_40 : decode cX11_cover 40 = .ok (.ireturn, 1) := by decide +kernel
theorem dX11_cover_41 : decode cX11_cover 41 = .ok (.aload_n 0, 1) := by decide +kernel
theorem dX11_cover_42 : decode cX11_cover 42 = .ok (.getfield 78, 3) := by decide +kernel
theorem dX11_cover_45 : decode cX11_cover 45 = .ok (.aload_n 0, 1) := by decide +kernel
theorem dX11_cover_46 : decode cX11_cover 46 = .ok (.getfield 153, 3) := by decide +kernel
theorem dX11_cover_49 : decode cX11_cover 49 = .ok (.aload_n 0, 1) := by decide +kernel
theorem dX11_cover_50 : decode cX11_cover 50 = .ok (.getfield 65, 3) := by decide +kernel
theorem dX11_cover_53 : decode cX11_cover 53 = .ok (.aload_n 0, 1) := by decide +kernel
theorem dX11_cover_54 : decode cX11_cover 54 = .ok (.getfield 153, 3) := by decide +kernel
theorem dX11_cover_57 : decode cX11_cover 57 = .ok (.invokevirtual 160, 3) := by decide +kernel
theorem dX11_cover_60 : decode cX11_cover 60 = .ok (.aastore, 1) := by decide +kernel
theorem dX11_cover_61 : decode cX11_cover 61 = .ok (.aload_n 0, 1) := by decide +kernel
theorem dX11_cover_62 : decode cX11_cover 62 = .ok (.dup, 1) := by decide +kernel
theorem dX11_cover_63 : decode cX11_cover 63 = .ok (.getfield 153, 3) := by decide +kernel
theorem dX11_cover_66 : decode cX11_cover 66 = .ok (.dup_x1, 1) := by decide +kernel
theorem dX11_cover_67 : decode cX11_cover 67 = .ok (.iconst 1, 1) := by decide +kernel
theorem dX11_cover_68 : decode cX11_cover 68 = .ok (.iadd, 1) := by decide +kernel
theorem dX11_cover_69 : decode cX11_cover 69 = .ok (.putfield 153, 3) := by decide +kernel
theorem dX11_cover_72 : decode cX11_cover 72 = .ok (.ireturn, 1) := by decide +kernel
theorem dX11_marks_0 : decode cX11_marks 0 = .ok (.aload_n 0, 1) := by decide +kernel
theorem dX11_marks_1 : decode cX11_marks 1 = .ok (.iload_n 1, 1) := by decide +kernel
theorem dX11_marks_2 : decode cX11_marks 2 = .ok (.invokevirtual 127, 3) := by decide +kernel
theorem dX11_marks_5 : decode cX11_marks 5 = .ok (.ifCond .eq 10, 3) := by decide +kernel
theorem dX11_marks_8 : decode cX11_marks 8 = .ok (.iload_n 2, 1) := by decide +kernel
theorem dX11_marks_9 : decode cX11_marks 9 = .ok (.invokestatic 124, 3) := by decide +kernel
theorem dX11_marks_12 : decode cX11_marks 12 = .ok (.ifCond .ne 5, 3) := by decide +kernel
theorem dX11_marks_15 : decode cX11_marks 15 = .ok (.iconst (-1), 1) := by decide +kernel
theorem dX11_marks_16 : decode cX11_marks 16 = .ok (.ireturn, 1) := by decide +kernel
theorem dX11_marks_17 : decode cX11_marks 17 = .ok (.aload_n 0, 1) := by decide +kernel
theorem dX11_marks_18 : decode cX11_marks 18 = .ok (.getfield 21, 3) := by decide +kernel
theorem dX11_marks_21 : decode cX11_marks 21 = .ok (.iload_n 2, 1) := by decide +kernel
theorem dX11_marks_22 : decode cX11_marks 22 = .ok (.invokevirtual 164, 3) := by decide +kernel
theorem dX11_marks_25 : decode cX11_marks 25 = .ok (.iload_n 1, 1) := by decide +kernel
theorem dX11_marks_26 : decode cX11_marks 26 = .ok (.invokevirtual 168, 3) := by decide +kernel
theorem dX11_marks_29 : decode cX11_marks 29 = .ok (.ireturn, 1) := by decide +kernel
theorem dX11_ties_0 : decode cX11_ties 0 = .ok (.aload_n 0, 1) := by decide +kernel
theorem dX11_ties_1 : decode cX11_ties 1 = .ok (.iload_n 1, 1) := by decide +kernel
theorem dX11_ties_2 : decode cX11_ties 2 = .ok (.invokevirtual 127, 3) := by decide +kernel
theorem dX11_ties_5 : decode cX11_ties 5 = .ok (.ifCond .eq 20, 3) := by decide +kernel
theorem dX11_ties_8 : decode cX11_ties 8 = .ok (.iload_n 2, 1) := by decide +kernel
theorem dX11_ties_9 : decode cX11_ties 9 = .ok (.ifCond .lt 16, 3) := by decide +kernel
theorem dX11_ties_12 : decode cX11_ties 12 = .ok (.iload_n 2, 1) := by decide +kernel
theorem dX11_ties_13 : decode cX11_ties 13 = .ok (.bipush 6, 2) := by decide +kernel
theorem dX11_ties_15 : decode cX11_ties 15 = .ok (.if_icmp .ge 10, 3) := by decide +kernel
theorem dX11_ties_18 : decode cX11_ties 18 = .ok (.iload_n 3, 1) := by decide +kernel
theorem dX11_ties_19 : decode cX11_ties 19 = .ok (.invokestatic 124, 3) := by decide +kernel
theorem dX11_ties_22 : decode cX11_ties 22 = .ok (.ifCond .ne 5, 3) := by decide +kernel
theorem dX11_ties_25 : decode cX11_ties 25 = .ok (.iconst (-1), 1) := by decide +kernel
theorem dX11_ties_26 : decode cX11_ties 26 = .ok (.ireturn, 1) := by decide +kernel
theorem dX11_ties_27 : decode cX11_ties 27 = .ok (.aload_n 0, 1) := by decide +kernel
theorem dX11_ties_28 : decode cX11_ties 28 = .ok (.getfield 21, 3) := by decide +kernel
theorem dX11_ties_31 : decode cX11_ties 31 = .ok (.iload_n 3, 1) := by decide +kernel
theorem dX11_ties_32 : decode cX11_ties 32 = .ok (.invokevirtual 164, 3) := by decide +kernel
theorem dX11_ties_35 : decode cX11_ties 35 = .ok (.getfield 174, 3) := by decide +kernel
theorem dX11_ties_38 : decode cX11_ties 38 = .ok (.iload_n 2, 1) := by decide +kernel
theorem dX11_ties_39 : decode cX11_ties 39 = .ok (.bipush 12, 2) := by decide +kernel
theorem dX11_ties_41 : decode cX11_ties 41 = .ok (.imul, 1) := by decide +kernel
theorem dX11_ties_42 : decode cX11_ties 42 = .ok (.iload_n 1, 1) := by decide +kernel
theorem dX11_ties_43 : decode cX11_ties 43 = .ok (.iadd, 1) := by decide +kernel
theorem dX11_ties_44 : decode cX11_ties 44 = .ok (.iaload, 1) := by decide +kernel
theorem dX11_ties_45 : decode cX11_ties 45 = .ok (.ireturn, 1) := by decide +kernel
theorem dX11_lives_0 : decode cX11_lives 0 = .ok (.aload_n 0, 1) := by decide +kernel
theorem dX11_lives_1 : decode cX11_lives 1 = .ok (.iload_n 1, 1) := by decide +kernel
theorem dX11_lives_2 : decode cX11_lives 2 = .ok (.invokevirtual 127, 3) := by decide +kernel
theorem dX11_lives_5 : decode cX11_lives 5 = .ok (.ifCond .eq 10, 3) := by decide +kernel
theorem dX11_lives_8 : decode cX11_lives 8 = .ok (.iload_n 2, 1) := by decide +kernel
theorem dX11_lives_9 : decode cX11_lives 9 = .ok (.invokestatic 124, 3) := by decide +kernel
theorem dX11_lives_12 : decode cX11_lives 12 = .ok (.ifCond .ne 5, 3) := by decide +kernel
theorem dX11_lives_15 : decode cX11_lives 15 = .ok (.iconst (-1), 1) := by decide +kernel
theorem dX11_lives_16 : decode cX11_lives 16 = .ok (.ireturn, 1) := by decide +kernel
theorem dX11_lives_17 : decode cX11_lives 17 = .ok (.aload_n 0, 1) := by decide +kernel
theorem dX11_lives_18 : decode cX11_lives 18 = .ok (.getfield 21, 3) := by decide +kernel
theorem dX11_lives_21 : decode cX11_lives 21 = .ok (.iload_n 2, 1) := by decide +kernel
theorem dX11_lives_22 : decode cX11_lives 22 = .ok (.invokevirtual 164, 3) := by decide +kernel
theorem dX11_lives_25 : decode cX11_lives 25 = .ok (.getfield 177, 3) := by decide +kernel
theorem dX11_lives_28 : decode cX11_lives 28 = .ok (.iload_n 1, 1) := by decide +kernel
theorem dX11_lives_29 : decode cX11_lives 29 = .ok (.iaload, 1) := by decide +kernel
theorem dX11_lives_30 : decode cX11_lives 30 = .ok (.ireturn, 1) := by decide +kernel
theorem dX11_sees_0 : decode cX11_sees 0 = .ok (.aload_n 0, 1) := by decide +kernel
theorem dX11_sees_1 : decode cX11_sees 1 = .ok (.iload_n 1, 1) := by decide +kernel
theorem dX11_sees_2 : decode cX11_sees 2 = .ok (.invokevirtual 127, 3) := by decide +kernel
theorem dX11_sees_5 : decode cX11_sees 5 = .ok (.ifCond .eq 10, 3) := by decide +kernel
theorem dX11_sees_8 : decode cX11_sees 8 = .ok (.iload_n 2, 1) := by decide +kernel
theorem dX11_sees_9 : decode cX11_sees 9 = .ok (.invokestatic 124, 3) := by decide +kernel
theorem dX11_sees_12 : decode cX11_sees 12 = .ok (.ifCond .ne 5, 3) := by decide +kernel
theorem dX11_sees_15 : decode cX11_sees 15 = .ok (.iconst (-1), 1) := by decide +kernel
theorem dX11_sees_16 : decode cX11_sees 16 = .ok (.ireturn, 1) := by decide +kernel
theorem dX11_sees_17 : decode cX11_sees 17 = .ok (.aload_n 0, 1) := by decide +kernel
theorem dX11_sees_18 : decode cX11_sees 18 = .ok (.iload_n 1, 1) := by decide +kernel
theorem dX11_sees_19 : decode cX11_sees 19 = .ok (.aload_n 0, 1) := by decide +kernel
theorem dX11_sees_20 : decode cX11_sees 20 = .ok (.getfield 21, 3) := by decide +kernel
theorem dX11_sees_23 : decode cX11_sees 23 = .ok (.iload_n 2, 1) := by decide +kernel
theorem dX11_sees_24 : decode cX11_sees 24 = .ok (.invokevirtual 164, 3) := by decide +kernel
theorem dX11_sees_27 : decode cX11_sees 27 = .ok (.invokevirtual 180, 3) := by decide +kernel
theorem dX11_sees_30 : decode cX11_sees 30 = .ok (.ireturn, 1) := by decide +kernel
theorem dX11_far_0 : decode cX11_far 0 = .ok (.iload_n 1, 1) := by decide +kernel
theorem dX11_far_1 : decode cX11_far 1 = .ok (.invokestatic 96, 3) := by decide +kernel
theorem dX11_far_4 : decode cX11_far 4 = .ok (.ifCond .eq 10, 3) := by decide +kernel
theorem dX11_far_7 : decode cX11_far 7 = .ok (.iload_n 2, 1) := by decide +kernel
theorem dX11_far_8 : decode cX11_far 8 = .ok (.invokestatic 96, 3) := by decide +kernel
theorem dX11_far_11 : decode cX11_far 11 = .ok (.ifCond .ne 5, 3) := by decide +kernel
theorem dX11_far_14 : decode cX11_far 14 = .ok (.iconst (-1), 1) := by decide +kernel
theorem dX11_far_15 : decode cX11_far 15 = .ok (.ireturn, 1) := by decide +kernel
theorem dX11_far_16 : decode cX11_far 16 = .ok (.aload_n 0, 1) := by decide +kernel
theorem dX11_far_17 : decode cX11_far 17 = .ok (.getfield 28, 3) := by decide +kernel
theorem dX11_far_20 : decode cX11_far 20 = .ok (.getfield 184, 3) := by decide +kernel
theorem dX11_far_23 : decode cX11_far 23 = .ok (.iload_n 1, 1) := by decide +kernel
theorem dX11_far_24 : decode cX11_far 24 = .ok (.bipush 8, 2) := by decide +kernel
theorem dX11_far_26 : decode cX11_far 26 = .ok (.imul, 1) := by decide +kernel
theorem dX11_far_27 : decode cX11_far 27 = .ok (.iload_n 2, 1) := by decide +kernel
theorem dX11_far_28 : decode cX11_far 28 = .ok (.iadd, 1) := by decide +kernel
theorem dX11_far_29 : decode cX11_far 29 = .ok (.iaload, 1) := by decide +kernel
theorem dX11_far_30 : decode cX11_far 30 = .ok (.istore_n 3, 1) := by decide +kernel
theorem dX11_far_31 : decode cX11_far 31 = .ok (.iload_n 3, 1) := by decide +kernel
theorem dX11_far_32 : decode cX11_far 32 = .ok (.sipush 1000, 3) := by decide +kernel
theorem dX11_far_35 : decode cX11_far 35 = .ok (.if_icmp .ne 8, 3) := by decide +kernel
theorem dX11_far_38 : decode cX11_far 38 = .ok (.bipush (-2), 2) := by decide +kernel
theorem dX11_far_40 : decode cX11_far 40 = .ok (.goto 4, 3) := by decide +kernel
theorem dX11_far_43 : decode cX11_far 43 = .ok (.iload_n 3, 1) := by decide +kernel
theorem dX11_far_44 : decode cX11_far 44 = .ok (.ireturn, 1) := by decide +kernel
theorem dX11_fits_0 : decode cX11_fits 0 = .ok (.aload_n 0, 1) := by decide +kernel
theorem dX11_fits_1 : decode cX11_fits 1 = .ok (.iload_n 1, 1) := by decide +kernel
theorem dX11_fits_2 : decode cX11_fits 2 = .ok (.invokevirtual 187, 3) := by decide +kernel
theorem dX11_fits_5 : decode cX11_fits 5 = .ok (.astore 6, 2) := by decide +kernel
theorem dX11_fits_7 : decode cX11_fits 7 = .ok (.aload 6, 2) := by decide +kernel
theorem dX11_fits_9 : decode cX11_fits 9 = .ok (.ifnull 26, 3) := by decide +kernel
theorem dX11_fits_12 : decode cX11_fits 12 = .ok (.aload_n 0, 1) := by decide +kernel
theorem dX11_fits_13 : decode cX11_fits 13 = .ok (.iload_n 2, 1) := by decide +kernel
theorem dX11_fits_14 : decode cX11_fits 14 = .ok (.invokevirtual 127, 3) := by decide +kernel
theorem dX11_fits_17 : decode cX11_fits 17 = .ok (.ifCond .eq 18, 3) := by decide +kernel
theorem dX11_fits_20 : decode cX11_fits 20 = .ok (.iload_n 3, 1) := by decide +kernel
theorem dX11_fits_21 : decode cX11_fits 21 = .ok (.invokestatic 124, 3) := by decide +kernel
theorem dX11_fits_24 : decode cX11_fits 24 = .ok (.ifCond .eq 11, 3) := by decide +kernel
theorem dX11_fits_27 : decode cX11_fits 27 = .ok (.iload 4, 2) := by decide +kernel
theorem dX11_fits_29 : decode cX11_fits 29 = .ok (.invokestatic 124, 3) := by decide +kernel
theorem dX11_fits_32 : decode cX11_fits 32 = .ok (.ifCond .ne 6, 3) := by decide +kernel
theorem dX11_fits_35 : decode cX11_fits 35 = .ok (.bipush (-2), 2) := by decide +kernel
theorem dX11_fits_37 : decode cX11_fits 37 = .ok (.ireturn, 1) := by decide +kernel
theorem dX11_fits_38 : decode cX11_fits 38 = .ok (.iload 5, 2) := by decide +kernel
theorem dX11_fits_40 : decode cX11_fits 40 = .ok (.iconst (-1), 1) := by decide +kernel
theorem dX11_fits_41 : decode cX11_fits 41 = .ok (.if_icmp .eq 15, 3) := by decide +kernel
theorem dX11_fits_44 : decode cX11_fits 44 = .ok (.aload_n 0, 1) := by decide +kernel
theorem dX11_fits_45 : decode cX11_fits 45 = .ok (.iload 5, 2) := by decide +kernel
theorem dX11_fits_47 : decode cX11_fits 47 = .ok (.invokevirtual 127, 3) := by decide +kernel
theorem dX11_fits_50 : decode cX11_fits 50 = .ok (.ifCond .ne 6, 3) := by decide +kernel
theorem dX11_fits_53 : decode cX11_fits 53 = .ok (.bipush (-2), 2) := by decide +kernel
theorem dX11_fits_55 : decode cX11_fits 55 = .ok (.ireturn, 1) := by decide +kernel
theorem dX11_fits_56 : decode cX11_fits 56 = .ok (.aload_n 0, 1) := by decide +kernel
theorem dX11_fits_57 : decode cX11_fits 57 = .ok (.aload 6, 2) := by decide +kernel
theorem dX11_fits_59 : decode cX11_fits 59 = .ok (.iload_n 2, 1) := by decide +kernel
theorem dX11_fits_60 : decode cX11_fits 60 = .ok (.iload_n 3, 1) := by decide +kernel
theorem dX11_fits_61 : decode cX11_fits 61 = .ok (.iload 4, 2) := by decide +kernel
theorem dX11_fits_63 : decode cX11_fits 63 = .ok (.iload 5, 2) := by decide +kernel
theorem dX11_fits_65 : decode cX11_fits 65 = .ok (.invokevirtual 190, 3) := by decide +kernel
theorem dX11_fits_68 : decode cX11_fits 68 = .ok (.ireturn, 1) := by decide +kernel
theorem dX11_stale_0 : decode cX11_stale 0 = .ok (.aload_n 0, 1) := by decide +kernel
theorem dX11_stale_1 : decode cX11_stale 1 = .ok (.iload_n 1, 1) := by decide +kernel
theorem dX11_stale_2 : decode cX11_stale 2 = .ok (.invokevirtual 187, 3) := by decide +kernel
theorem dX11_stale_5 : decode cX11_stale 5 = .ok (.astore 5, 2) := by decide +kernel
theorem dX11_stale_7 : decode cX11_stale 7 = .ok (.aload 5, 2) := by decide +kernel
theorem dX11_stale_9 : decode cX11_stale 9 = .ok (.ifnull 27, 3) := by decide +kernel
theorem dX11_stale_12 : decode cX11_stale 12 = .ok (.aload_n 0, 1) := by decide +kernel
theorem dX11_stale_13 : decode cX11_stale 13 = .ok (.iload_n 2, 1) := by decide +kernel
theorem dX11_stale_14 : decode cX11_stale 14 = .ok (.invokevirtual 127, 3) := by decide +kernel
theorem dX11_stale_17 : decode cX11_stale 17 = .ok (.ifCond .eq 19, 3) := by decide +kernel
theorem dX11_stale_20 : decode cX11_stale 20 = .ok (.aload_n 0, 1) := by decide +kernel
theorem dX11_stale_21 : decode cX11_stale 21 = .ok (.iload_n 3, 1) := by decide +kernel
theorem dX11_stale_22 : decode cX11_stale 22 = .ok (.invokevirtual 127, 3) := by decide +kernel
theorem dX11_stale_25 : decode cX11_stale 25 = .ok (.ifCond .eq 11, 3) := by decide +kernel
theorem dX11_stale_28 : decode cX11_stale 28 = .ok (.iload 4, 2) := by decide +kernel
theorem dX11_stale_30 : decode cX11_stale 30 = .ok (.invokestatic 124, 3) := by decide +kernel
theorem dX11_stale_33 : decode cX11_stale 33 = .ok (.ifCond .ne 5, 3) := by decide +kernel
theorem dX11_stale_36 : decode cX11_stale 36 = .ok (.iconst (-1), 1) := by decide +kernel
theorem dX11_stale_37 : decode cX11_stale 37 = .ok (.ireturn, 1) := by decide +kernel
theorem dX11_stale_38 : decode cX11_stale 38 = .ok (.iload 4, 2) := by decide +kernel
theorem dX11_stale_40 : decode cX11_stale 40 = .ok (.bipush 99, 2) := by decide +kernel
theorem dX11_stale_42 : decode cX11_stale 42 = .ok (.iadd, 1) := by decide +kernel
theorem dX11_stale_43 : decode cX11_stale 43 = .ok (.sipush 999, 3) := by decide +kernel
theorem dX11_stale_46 : decode cX11_stale 46 = .ok (.invokestatic 194, 3) := by decide +kernel
theorem dX11_stale_49 : decode cX11_stale 49 = .ok (.istore 6, 2) := by decide +kernel
theorem dX11_stale_51 : decode cX11_stale 51 = .ok (.iload 4, 2) := by decide +kernel
theorem dX11_stale_53 : decode cX11_stale 53 = .ok (.istore 7, 2) := by decide +kernel
theorem dX11_stale_55 : decode cX11_stale 55 = .ok (.iload 7, 2) := by decide +kernel
theorem dX11_stale_57 : decode cX11_stale 57 = .ok (.iload 6, 2) := by decide +kernel
theorem dX11_stale_59 : decode cX11_stale 59 = .ok (.if_icmp .gt 30, 3) := by decide +kernel
theorem dX11_stale_62 : decode cX11_stale 62 = .ok (.aload_n 0, 1) := by decide +kernel
theorem dX11_stale_63 : decode cX11_stale 63 = .ok (.aload 5, 2) := by decide +kernel
theorem dX11_stale_65 : decode cX11_stale 65 = .ok (.iload_n 2, 1) := by decide +kernel
theorem dX11_stale_66 : decode cX11_stale 66 = .ok (.iload 4, 2) := by decide +kernel
theorem dX11_stale_68 : decode cX11_stale 68 = .ok (.iload 7, 2) := by decide +kernel
theorem dX11_stale_70 : decode cX11_stale 70 = .ok (.iconst (-1), 1) := by decide +kernel
theorem dX11_stale_71 : decode cX11_stale 71 = .ok (.invokevirtual 190, 3) := by decide +kernel
theorem dX11_stale_74 : decode cX11_stale 74 = .ok (.iconst 1, 1) := by decide +kernel
theorem dX11_stale_75 : decode cX11_stale 75 = .ok (.iload_n 3, 1) := by decide +kernel
theorem dX11_stale_76 : decode cX11_stale 76 = .ok (.ishl, 1) := by decide +kernel
theorem dX11_stale_77 : decode cX11_stale 77 = .ok (.if_icmp .eq 6, 3) := by decide +kernel
theorem dX11_stale_80 : decode cX11_stale 80 = .ok (.iload 7, 2) := by decide +kernel
theorem dX11_stale_82 : decode cX11_stale 82 = .ok (.ireturn, 1) := by decide +kernel
theorem dX11_stale_83 : decode cX11_stale 83 = .ok (.iinc 7 1, 3) := by decide +kernel
theorem dX11_stale_86 : decode cX11_stale 86 = .ok (.goto (-31), 3) := by decide +kernel
theorem dX11_stale_89 : decode cX11_stale 89 = .ok (.bipush (-2), 2) := by decide +kernel
theorem dX11_stale_91 : decode cX11_stale 91 = .ok (.ireturn, 1) := by decide +kernel
theorem dX11_alone_0 : decode cX11_alone 0 = .ok (.aload_n 0, 1) := by decide +kernel
theorem dX11_alone_1 : decode cX11_alone 1 = .ok (.iload_n 1, 1) := by decide +kernel
theorem dX11_alone_2 : decode cX11_alone 2 = .ok (.invokevirtual 187, 3) := by decide +kernel
theorem dX11_alone_5 : decode cX11_alone 5 = .ok (.astore 5, 2) := by decide +kernel
theorem dX11_alone_7 : decode cX11_alone 7 = .ok (.aload 5, 2) := by decide +kernel
theorem dX11_alone_9 : decode cX11_alone 9 = .ok (.ifnull 27, 3) := by decide +kernel
theorem dX11_alone_12 : decode cX11_alone 12 = .ok (.aload_n 0, 1) := by decide +kernel
theorem dX11_alone_13 : decode cX11_alone 13 = .ok (.iload_n 2, 1) := by decide +kernel
theorem dX11_alone_14 : decode cX11_alone 14 = .ok (.invokevirtual 127, 3) := by decide +kernel
theorem dX11_alone_17 : decode cX11_alone 17 = .ok (.ifCond .eq 19, 3) := by decide +kernel
theorem dX11_alone_20 : decode cX11_alone 20 = .ok (.aload_n 0, 1) := by decide +kernel
theorem dX11_alone_21 : decode cX11_alone 21 = .ok (.iload_n 3, 1) := by decide +kernel
theorem dX11_alone_22 : decode cX11_alone 22 = .ok (.invokevirtual 127, 3) := by decide +kernel
theorem dX11_alone_25 : decode cX11_alone 25 = .ok (.ifCond .eq 11, 3) := by decide +kernel
theorem dX11_alone_28 : decode cX11_alone 28 = .ok (.iload 4, 2) := by decide +kernel
theorem dX11_alone_30 : decode cX11_alone 30 = .ok (.invokestatic 124, 3) := by decide +kernel
theorem dX11_alone_33 : decode cX11_alone 33 = .ok (.ifCond .ne 5, 3) := by decide +kernel
theorem dX11_alone_36 : decode cX11_alone 36 = .ok (.iconst (-1), 1) := by decide +kernel
theorem dX11_alone_37 : decode cX11_alone 37 = .ok (.ireturn, 1) := by decide +kernel
theorem dX11_alone_38 : decode cX11_alone 38 = .ok (.iload 4, 2) := by decide +kernel
theorem dX11_alone_40 : decode cX11_alone 40 = .ok (.bipush 99, 2) := by decide +kernel
theorem dX11_alone_42 : decode cX11_alone 42 = .ok (.iadd, 1) := by decide +kernel
theorem dX11_alone_43 : decode cX11_alone 43 = .ok (.sipush 999, 3) := by decide +kernel
theorem dX11_alone_46 : decode cX11_alone 46 = .ok (.invokestatic 194, 3) := by decide +kernel
theorem dX11_alone_49 : decode cX11_alone 49 = .ok (.istore 6, 2) := by decide +kernel
theorem dX11_alone_51 : decode cX11_alone 51 = .ok (.iconst 0, 1) := by decide +kernel
theorem dX11_alone_52 : decode cX11_alone 52 = .ok (.istore 7, 2) := by decide +kernel
theorem dX11_alone_54 : decode cX11_alone 54 = .ok (.iload 4, 2) := by decide +kernel
theorem dX11_alone_56 : decode cX11_alone 56 = .ok (.istore 8, 2) := by decide +kernel
theorem dX11_alone_58 : decode cX11_alone 58 = .ok (.iload 8, 2) := by decide +kernel
theorem dX11_alone_60 : decode cX11_alone 60 = .ok (.iload 6, 2) := by decide +kernel
theorem dX11_alone_62 : decode cX11_alone 62 = .ok (.if_icmp .gt 30, 3) := by decide +kernel
theorem dX11_alone_65 : decode cX11_alone 65 = .ok (.aload_n 0, 1) := by decide +kernel
theorem dX11_alone_66 : decode cX11_alone 66 = .ok (.aload 5, 2) := by decide +kernel
theorem dX11_alone_68 : decode cX11_alone 68 = .ok (.iload_n 2, 1) := by decide +kernel
theorem dX11_alone_69 : decode cX11_alone 69 = .ok (.iload 4, 2) := by decide +kernel
theorem dX11_alone_71 : decode cX11_alone 71 = .ok (.iload 8, 2) := by decide +kernel
theorem dX11_alone_73 : decode cX11_alone 73 = .ok (.iconst (-1), 1) := by decide +kernel
theorem dX11_alone_74 : decode cX11_alone 74 = .ok (.invokevirtual 190, 3) := by decide +kernel
theorem dX11_alone_77 : decode cX11_alone 77 = .ok (.iconst 1, 1) := by decide +kernel
theorem dX11_alone_78 : decode cX11_alone 78 = .ok (.iload_n 3, 1) := by decide +kernel
theorem dX11_alone_79 : decode cX11_alone 79 = .ok (.ishl, 1) := by decide +kernel
theorem dX11_alone_80 : decode cX11_alone 80 = .ok (.if_icmp .ne 6, 3) := by decide +kernel
theorem dX11_alone_83 : decode cX11_alone 83 = .ok (.iinc 7 1, 3) := by decide +kernel
theorem dX11_alone_86 : decode cX11_alone 86 = .ok (.iinc 8 1, 3) := by decide +kernel
theorem dX11_alone_89 : decode cX11_alone 89 = .ok (.goto (-31), 3) := by decide +kernel
theorem dX11_alone_92 : decode cX11_alone 92 = .ok (.iload 7, 2) := by decide +kernel
theorem dX11_alone_94 : decode cX11_alone 94 = .ok (.ireturn, 1) := by decide +kernel
theorem dX11_tellers_0 : decode cX11_tellers 0 = .ok (.aload_n 0, 1) := by decide +kernel
theorem dX11_tellers_1 : decode cX11_tellers 1 = .ok (.iload_n 1, 1) := by decide +kernel
theorem dX11_tellers_2 : decode cX11_tellers 2 = .ok (.invokevirtual 187, 3) := by decide +kernel
theorem dX11_tellers_5 : decode cX11_tellers 5 = .ok (.astore 4, 2) := by decide +kernel
theorem dX11_tellers_7 : decode cX11_tellers 7 = .ok (.aload 4, 2) := by decide +kernel
theorem dX11_tellers_9 : decode cX11_tellers 9 = .ok (.ifnull 18, 3) := by decide +kernel
theorem dX11_tellers_12 : decode cX11_tellers 12 = .ok (.aload_n 0, 1) := by decide +kernel
theorem dX11_tellers_13 : decode cX11_tellers 13 = .ok (.iload_n 2, 1) := by decide +kernel
theorem dX11_tellers_14 : decode cX11_tellers 14 = .ok (.invokevirtual 127, 3) := by decide +kernel
theorem dX11_tellers_17 : decode cX11_tellers 17 = .ok (.ifCond .eq 10, 3) := by decide +kernel
theorem dX11_tellers_20 : decode cX11_tellers 20 = .ok (.iload_n 3, 1) := by decide +kernel
theorem dX11_tellers_21 : decode cX11_tellers 21 = .ok (.invokestatic 124, 3) := by decide +kernel
theorem dX11_tellers_24 : decode cX11_tellers 24 = .ok (.ifCond .ne 5, 3) := by decide +kernel
theorem dX11_tellers_27 : decode cX11_tellers 27 = .ok (.iconst (-1), 1) := by decide +kernel
theorem dX11_tellers_28 : decode cX11_tellers 28 = .ok (.ireturn, 1) := by decide +kernel
theorem dX11_tellers_29 : decode cX11_tellers 29 = .ok (.iconst 0, 1) := by decide +kernel
theorem dX11_tellers_30 : decode cX11_tellers 30 = .ok (.istore 5, 2) := by decide +kernel
theorem dX11_tellers_32 : decode cX11_tellers 32 = .ok (.iconst 0, 1) := by decide +kernel
theorem dX11_tellers_33 : decode cX11_tellers 33 = .ok (.istore 6, 2) := by decide +kernel
theorem dX11_tellers_35 : decode cX11_tellers 35 = .ok (.iload 6, 2) := by decide +kernel
theorem dX11_tellers_37 : decode cX11_tellers 37 = .ok (.aload_n 0, 1) := by decide +kernel
theorem dX11_tellers_38 : decode cX11_tellers 38 = .ok (.getfield 12, 3) := by decide +kernel
theorem dX11_tellers_41 : decode cX11_tellers 41 = .ok (.getfield 111, 3) := by decide +kernel
theorem dX11_tellers_44 : decode cX11_tellers 44 = .ok (.if_icmp .ge 32, 3) := by decide +kernel
theorem dX11_tellers_47 : decode cX11_tellers 47 = .ok (.aload_n 0, 1) := by decide +kernel
theorem dX11_tellers_48 : decode cX11_tellers 48 = .ok (.aload 4, 2) := by decide +kernel
theorem dX11_tellers_50 : decode cX11_tellers 50 = .ok (.iload_n 2, 1) := by decide +kernel
theorem dX11_tellers_51 : decode cX11_tellers 51 = .ok (.iload_n 3, 1) := by decide +kernel
theorem dX11_tellers_52 : decode cX11_tellers 52 = .ok (.iload_n 3, 1) := by decide +kernel
theorem dX11_tellers_53 : decode cX11_tellers 53 = .ok (.iload 6, 2) := by decide +kernel
theorem dX11_tellers_55 : decode cX11_tellers 55 = .ok (.invokevirtual 190, 3) := by decide +kernel
theorem dX11_tellers_58 : decode cX11_tellers 58 = .ok (.ifCond .eq 12, 3) := by decide +kernel
theorem dX11_tellers_61 : decode cX11_tellers 61 = .ok (.iload 5, 2) := by decide +kernel
theorem dX11_tellers_63 : decode cX11_tellers 63 = .ok (.iconst 1, 1) := by decide +kernel
theorem dX11_tellers_64 : decode cX11_tellers 64 = .ok (.iload 6, 2) := by decide +kernel
theorem dX11_tellers_66 : decode cX11_tellers 66 = .ok (.ishl, 1) := by decide +kernel
theorem dX11_tellers_67 : decode cX11_tellers 67 = .ok (.ior, 1) := by decide +kernel
theorem dX11_tellers_68 : decode cX11_tellers 68 = .ok (.istore 5, 2) := by decide +kernel
theorem dX11_tellers_70 : decode cX11_tellers 70 = .ok (.iinc 6 1, 3) := by decide +kernel
theorem dX11_tellers_73 : decode cX11_tellers 73 = .ok (.goto (-38), 3) := by decide +kernel
theorem dX11_tellers_76 : decode cX11_tellers 76 = .ok (.iload 5, 2) := by decide +kernel
theorem dX11_tellers_78 : decode cX11_tellers 78 = .ok (.ireturn, 1) := by decide +kernel
theorem dX11_lied_0 : decode cX11_lied 0 = .ok (.aload_n 0, 1) := by decide +kernel
theorem dX11_lied_1 : decode cX11_lied 1 = .ok (.iload_n 1, 1) := by decide +kernel
theorem dX11_lied_2 : decode cX11_lied 2 = .ok (.invokevirtual 187, 3) := by decide +kernel
theorem dX11_lied_5 : decode cX11_lied 5 = .ok (.astore 4, 2) := by decide +kernel
theorem dX11_lied_7 : decode cX11_lied 7 = .ok (.aload 4, 2) := by decide +kernel
theorem dX11_lied_9 : decode cX11_lied 9 = .ok (.ifnull 18, 3) := by decide +kernel
theorem dX11_lied_12 : decode cX11_lied 12 = .ok (.aload_n 0, 1) := by decide +kernel
theorem dX11_lied_13 : decode cX11_lied 13 = .ok (.iload_n 2, 1) := by decide +kernel
theorem dX11_lied_14 : decode cX11_lied 14 = .ok (.invokevirtual 127, 3) := by decide +kernel
theorem dX11_lied_17 : decode cX11_lied 17 = .ok (.ifCond .eq 10, 3) := by decide +kernel
theorem dX11_lied_20 : decode cX11_lied 20 = .ok (.iload_n 3, 1) := by decide +kernel
theorem dX11_lied_21 : decode cX11_lied 21 = .ok (.invokestatic 124, 3) := by decide +kernel
theorem dX11_lied_24 : decode cX11_lied 24 = .ok (.ifCond .ne 5, 3) := by decide +kernel
theorem dX11_lied_27 : decode cX11_lied 27 = .ok (.iconst (-1), 1) := by decide +kernel
theorem dX11_lied_28 : decode cX11_lied 28 = .ok (.ireturn, 1) := by decide +kernel
theorem dX11_lied_29 : decode cX11_lied 29 = .ok (.aload_n 0, 1) := by decide +kernel
theorem dX11_lied_30 : decode cX11_lied 30 = .ok (.aload 4, 2) := by decide +kernel
theorem dX11_lied_32 : decode cX11_lied 32 = .ok (.iload_n 2, 1) := by decide +kernel
theorem dX11_lied_33 : decode cX11_lied 33 = .ok (.iload_n 3, 1) := by decide +kernel
theorem dX11_lied_34 : decode cX11_lied 34 = .ok (.iload_n 3, 1) := by decide +kernel
theorem dX11_lied_35 : decode cX11_lied 35 = .ok (.iconst (-1), 1) := by decide +kernel
theorem dX11_lied_36 : decode cX11_lied 36 = .ok (.invokevirtual 190, 3) := by decide +kernel
theorem dX11_lied_39 : decode cX11_lied 39 = .ok (.istore 5, 2) := by decide +kernel
theorem dX11_lied_41 : decode cX11_lied 41 = .ok (.iconst 0, 1) := by decide +kernel
theorem dX11_lied_42 : decode cX11_lied 42 = .ok (.istore 6, 2) := by decide +kernel
theorem dX11_lied_44 : decode cX11_lied 44 = .ok (.iconst 0, 1) := by decide +kernel
theorem dX11_lied_45 : decode cX11_lied 45 = .ok (.istore 7, 2) := by decide +kernel
theorem dX11_lied_47 : decode cX11_lied 47 = .ok (.iload 7, 2) := by decide +kernel
theorem dX11_lied_49 : decode cX11_lied 49 = .ok (.aload_n 0, 1) := by decide +kernel
theorem dX11_lied_50 : decode cX11_lied 50 = .ok (.getfield 12, 3) := by decide +kernel
theorem dX11_lied_53 : decode cX11_lied 53 = .ok (.getfield 111, 3) := by decide +kernel
theorem dX11_lied_56 : decode cX11_lied 56 = .ok (.if_icmp .ge 49, 3) := by decide +kernel
theorem dX11_lied_59 : decode cX11_lied 59 = .ok (.aload_n 0, 1) := by decide +kernel
theorem dX11_lied_60 : decode cX11_lied 60 = .ok (.aload 4, 2) := by decide +kernel
theorem dX11_lied_62 : decode cX11_lied 62 = .ok (.iload_n 2, 1) := by decide +kernel
theorem dX11_lied_63 : decode cX11_lied 63 = .ok (.iload_n 3, 1) := by decide +kernel
theorem dX11_lied_64 : decode cX11_lied 64 = .ok (.iload_n 3, 1) := by decide +kernel
theorem dX11_lied_65 : decode cX11_lied 65 = .ok (.iload 7, 2) := by decide +kernel
theorem dX11_lied_67 : decode cX11_lied 67 = .ok (.invokevirtual 190, 3) := by decide +kernel
theorem dX11_lied_70 : decode cX11_lied 70 = .ok (.iload 5, 2) := by decide +kernel
theorem dX11_lied_72 : decode cX11_lied 72 = .ok (.aload_n 0, 1) := by decide +kernel
theorem dX11_lied_73 : decode cX11_lied 73 = .ok (.iload 7, 2) := by decide +kernel
theorem dX11_lied_75 : decode cX11_lied 75 = .ok (.aload_n 0, 1) := by decide +kernel
theorem dX11_lied_76 : decode cX11_lied 76 = .ok (.getfield 21, 3) := by decide +kernel
theorem dX11_lied_79 : decode cX11_lied 79 = .ok (.iload_n 3, 1) := by decide +kernel
theorem dX11_lied_80 : decode cX11_lied 80 = .ok (.invokevirtual 164, 3) := by decide +kernel
theorem dX11_lied_83 : decode cX11_lied 83 = .ok (.invokevirtual 180, 3) := by decide +kernel
theorem dX11_lied_86 : decode cX11_lied 86 = .ok (.iand, 1) := by decide +kernel
theorem dX11_lied_87 : decode cX11_lied 87 = .ok (.if_icmp .eq 12, 3) := by decide +kernel
theorem dX11_lied_90 : decode cX11_lied 90 = .ok (.iload 6, 2) := by decide +kernel
theorem dX11_lied_92 : decode cX11_lied 92 = .ok (.iconst 1, 1) := by decide +kernel
theorem dX11_lied_93 : decode cX11_lied 93 = .ok (.iload 7, 2) := by decide +kernel
theorem dX11_lied_95 : decode cX11_lied 95 = .ok (.ishl, 1) := by decide +kernel
theorem dX11_lied_96 : decode cX11_lied 96 = .ok (.ior, 1) := by decide +kernel
theorem dX11_lied_97 : decode cX11_lied 97 = .ok (.istore 6, 2) := by decide +kernel
theorem dX11_lied_99 : decode cX11_lied 99 = .ok (.iinc 7 1, 3) := by decide +kernel
theorem dX11_lied_102 : decode cX11_lied 102 = .ok (.goto (-55), 3) := by decide +kernel
theorem dX11_lied_105 : decode cX11_lied 105 = .ok (.iload 6, 2) := by decide +kernel
theorem dX11_lied_107 : decode cX11_lied 107 = .ok (.ireturn, 1) := by decide +kernel
theorem dX11_mends_0 : decode cX11_mends 0 = .ok (.aload_n 0, 1) := by decide +kernel
theorem dX11_mends_1 : decode cX11_mends 1 = .ok (.iload_n 1, 1) := by decide +kernel
theorem dX11_mends_2 : decode cX11_mends 2 = .ok (.invokevirtual 187, 3) := by decide +kernel
theorem dX11_mends_5 : decode cX11_mends 5 = .ok (.astore 5, 2) := by decide +kernel
theorem dX11_mends_7 : decode cX11_mends 7 = .ok (.aload 5, 2) := by decide +kernel
theorem dX11_mends_9 : decode cX11_mends 9 = .ok (.ifnull 27, 3) := by decide +kernel
theorem dX11_mends_12 : decode cX11_mends 12 = .ok (.aload_n 0, 1) := by decide +kernel
theorem dX11_mends_13 : decode cX11_mends 13 = .ok (.iload_n 2, 1) := by decide +kernel
theorem dX11_mends_14 : decode cX11_mends 14 = .ok (.invokevirtual 127, 3) := by decide +kernel
theorem dX11_mends_17 : decode cX11_mends 17 = .ok (.ifCond .eq 19, 3) := by decide +kernel
theorem dX11_mends_20 : decode cX11_mends 20 = .ok (.aload_n 0, 1) := by decide +kernel
theorem dX11_mends_21 : decode cX11_mends 21 = .ok (.iload_n 3, 1) := by decide +kernel
theorem dX11_mends_22 : decode cX11_mends 22 = .ok (.invokevirtual 127, 3) := by decide +kernel
theorem dX11_mends_25 : decode cX11_mends 25 = .ok (.ifCond .eq 11, 3) := by decide +kernel
theorem dX11_mends_28 : decode cX11_mends 28 = .ok (.iload 4, 2) := by decide +kernel
theorem dX11_mends_30 : decode cX11_mends 30 = .ok (.invokestatic 124, 3) := by decide +kernel
theorem dX11_mends_33 : decode cX11_mends 33 = .ok (.ifCond .ne 5, 3) := by decide +kernel
theorem dX11_mends_36 : decode cX11_mends 36 = .ok (.iconst (-1), 1) := by decide +kernel
theorem dX11_mends_37 : decode cX11_mends 37 = .ok (.ireturn, 1) := by decide +kernel
theorem dX11_mends_38 : decode cX11_mends 38 = .ok (.aload_n 0, 1) := by decide +kernel
theorem dX11_mends_39 : decode cX11_mends 39 = .ok (.getfield 21, 3) := by decide +kernel
theorem dX11_mends_42 : decode cX11_mends 42 = .ok (.iload 4, 2) := by decide +kernel
theorem dX11_mends_44 : decode cX11_mends 44 = .ok (.invokevirtual 164, 3) := by decide +kernel
theorem dX11_mends_47 : decode cX11_mends 47 = .ok (.astore 6, 2) := by decide +kernel
theorem dX11_mends_49 : decode cX11_mends 49 = .ok (.aload_n 0, 1) := by decide +kernel
theorem dX11_mends_50 : decode cX11_mends 50 = .ok (.getfield 35, 3) := by decide +kernel
theorem dX11_mends_53 : decode cX11_mends 53 = .ok (.aload 5, 2) := by decide +kernel
theorem dX11_mends_55 : decode cX11_mends 55 = .ok (.iload_n 2, 1) := by decide +kernel
theorem dX11_mends_56 : decode cX11_mends 56 = .ok (.aload 6, 2) := by decide +kernel
theorem dX11_mends_58 : decode cX11_mends 58 = .ok (.aload_n 0, 1) := by decide +kernel
theorem dX11_mends_59 : decode cX11_mends 59 = .ok (.invokevirtual 200, 3) := by decide +kernel
theorem dX11_mends_62 : decode cX11_mends 62 = .ok (.invokevirtual 204, 3) := by decide +kernel
theorem dX11_mends_65 : decode cX11_mends 65 = .ok (.istore 7, 2) := by decide +kernel
theorem dX11_mends_67 : decode cX11_mends 67 = .ok (.iload 7, 2) := by decide +kernel
theorem dX11_mends_69 : decode cX11_mends 69 = .ok (.iconst 1, 1) := by decide +kernel
theorem dX11_mends_70 : decode cX11_mends 70 = .ok (.iload_n 3, 1) := by decide +kernel
theorem dX11_mends_71 : decode cX11_mends 71 = .ok (.ishl, 1) := by decide +kernel
theorem dX11_mends_72 : decode cX11_mends 72 = .ok (.if_icmp .ne 6, 3) := by decide +kernel
theorem dX11_mends_75 : decode cX11_mends 75 = .ok (.bipush 32, 2) := by decide +kernel
theorem dX11_mends_77 : decode cX11_mends 77 = .ok (.ireturn, 1) := by decide +kernel
theorem dX11_mends_78 : decode cX11_mends 78 = .ok (.bipush (-2), 2) := by decide +kernel
theorem dX11_mends_80 : decode cX11_mends 80 = .ok (.istore 8, 2) := by decide +kernel
theorem dX11_mends_82 : decode cX11_mends 82 = .ok (.iconst 0, 1) := by decide +kernel
theorem dX11_mends_83 : decode cX11_mends 83 = .ok (.istore 9, 2) := by decide +kernel
theorem dX11_mends_85 : decode cX11_mends 85 = .ok (.iconst 0, 1) := by decide +kernel
theorem dX11_mends_86 : decode cX11_mends 86 = .ok (.istore 10, 2) := by decide +kernel
theorem dX11_mends_88 : decode cX11_mends 88 = .ok (.iload 10, 2) := by decide +kernel
theorem dX11_mends_90 : decode cX11_mends 90 = .ok (.bipush 32, 2) := by decide +kernel
theorem dX11_mends_92 : decode cX11_mends 92 = .ok (.if_icmp .ge 147, 3) := by decide +kernel
theorem dX11_mends_95 : decode cX11_mends 95 = .ok (.iload 10, 2) := by decide +kernel
theorem dX11_mends_97 : decode cX11_mends 97 = .ok (.bipush 16, 2) := by decide +kernel
theorem dX11_mends_99 : decode cX11_mends 99 = .ok (.if_icmp .lt 7, 3) := by decide +kernel
theorem dX11_mends_102 : decode cX11_mends 102 = .ok (.iconst 1, 1) := by decide +kernel
theorem dX11_mends_103 : decode cX11_mends 103 = .ok (.goto 4, 3) := by decide +kernel
theorem dX11_mends_106 : decode cX11_mends 106 = .ok (.iconst 0, 1) := by decide +kernel
theorem dX11_mends_107 : decode cX11_mends 107 = .ok (.istore 11, 2) := by decide +kernel
theorem dX11_mends_109 : decode cX11_mends 109 = .ok (.aload 6, 2) := by decide +kernel
theorem dX11_mends_111 : decode cX11_mends 111 = .ok (.iload 11, 2) := by decide +kernel
theorem dX11_mends_113 : decode cX11_mends 113 = .ok (.ifCond .eq 11, 3) := by decide +kernel
theorem dX11_mends_116 : decode cX11_mends 116 = .ok (.iload 10, 2) := by decide +kernel
theorem dX11_mends_118 : decode cX11_mends 118 = .ok (.bipush 16, 2) := by decide +kernel
theorem dX11_mends_120 : decode cX11_mends 120 = .ok (.isub, 1) := by decide +kernel
theorem dX11_mends_121 : decode cX11_mends 121 = .ok (.goto 5, 3) := by decide +kernel
theorem dX11_mends_124 : decode cX11_mends 124 = .ok (.iload 10, 2) := by decide +kernel
theorem dX11_mends_126 : decode cX11_mends 126 = .ok (.iload_n 2, 1) := by decide +kernel
theorem dX11_mends_127 : decode cX11_mends 127 = .ok (.invokevirtual 208, 3) := by decide +kernel
theorem dX11_mends_130 : decode cX11_mends 130 = .ok (.istore 12, 2) := by decide +kernel
theorem dX11_mends_132 : decode cX11_mends 132 = .ok (.iload 11, 2) := by decide +kernel
theorem dX11_mends_134 : decode cX11_mends 134 = .ok (.ifCond .eq 30, 3) := by decide +kernel
theorem dX11_mends_137 : decode cX11_mends 137 = .ok (.aload_n 0, 1) := by decide +kernel
theorem dX11_mends_138 : decode cX11_mends 138 = .ok (.getfield 12, 3) := by decide +kernel
theorem dX11_mends_141 : decode cX11_mends 141 = .ok (.getfield 144, 3) := by decide +kernel
theorem dX11_mends_144 : decode cX11_mends 144 = .ok (.iload 10, 2) := by decide +kernel
theorem dX11_mends_146 : decode cX11_mends 146 = .ok (.bipush 16, 2) := by decide +kernel
theorem dX11_mends_148 : decode cX11_mends 148 = .ok (.isub, 1) := by decide +kernel
theorem dX11_mends_149 : decode cX11_mends 149 = .ok (.iaload, 1) := by decide +kernel
theorem dX11_mends_150 : decode cX11_mends 150 = .ok (.aload_n 0, 1) := by decide +kernel
theorem dX11_mends_151 : decode cX11_mends 151 = .ok (.getfield 12, 3) := by decide +kernel
theorem dX11_mends_154 : decode cX11_mends 154 = .ok (.getfield 144, 3) := by decide +kernel
theorem dX11_mends_157 : decode cX11_mends 157 = .ok (.bipush 16, 2) := by decide +kernel
theorem dX11_mends_159 : decode cX11_mends 159 = .ok (.iaload, 1) := by decide +kernel
theorem dX11_mends_160 : decode cX11_mends 160 = .ok (.iadd, 1) := by decide +kernel
theorem dX11_mends_161 : decode cX11_mends 161 = .ok (.goto 13, 3) := by decide +kernel
theorem dX11_mends_164 : decode cX11_mends 164 = .ok (.aload_n 0, 1) := by decide +kernel
theorem dX11_mends_165 : decode cX11_mends 165 = .ok (.getfield 12, 3) := by decide +kernel
theorem dX11_mends_168 : decode cX11_mends 168 = .ok (.getfield 144, 3) := by decide +kernel
theorem dX11_mends_171 : decode cX11_mends 171 = .ok (.iload 10, 2) := by decide +kernel
theorem dX11_mends_173 : decode cX11_mends 173 = .ok (.iaload, 1) := by decide +kernel
theorem dX11_mends_174 : decode cX11_mends 174 = .ok (.istore 13, 2) := by decide +kernel
theorem dX11_mends_176 : decode cX11_mends 176 = .ok (.iload 7, 2) := by decide +kernel
theorem dX11_mends_178 : decode cX11_mends 178 = .ok (.iload 11, 2) := by decide +kernel
theorem dX11_mends_180 : decode cX11_mends 180 = .ok (.ifCond .eq 10, 3) := by decide +kernel
theorem dX11_mends_183 : decode cX11_mends 183 = .ok (.iload 12, 2) := by decide +kernel
theorem dX11_mends_185 : decode cX11_mends 185 = .ok (.iconst (-1), 1) := by decide +kernel
theorem dX11_mends_186 : decode cX11_mends 186 = .ok (.ixor, 1) := by decide +kernel
theorem dX11_mends_187 : decode cX11_mends 187 = .ok (.goto 5, 3) := by decide +kernel
theorem dX11_mends_190 : decode cX11_mends 190 = .ok (.iload 12, 2) := by decide +kernel
theorem dX11_mends_192 : decode cX11_mends 192 = .ok (.iand, 1) := by decide +kernel
theorem dX11_mends_193 : decode cX11_mends 193 = .ok (.iconst 1, 1) := by decide +kernel
theorem dX11_mends_194 : decode cX11_mends 194 = .ok (.iload_n 3, 1) := by decide +kernel
theorem dX11_mends_195 : decode cX11_mends 195 = .ok (.ishl, 1) := by decide +kernel
theorem dX11_mends_196 : decode cX11_mends 196 = .ok (.if_icmp .ne 7, 3) := by decide +kernel
theorem dX11_mends_199 : decode cX11_mends 199 = .ok (.iconst 1, 1) := by decide +kernel
theorem dX11_mends_200 : decode cX11_mends 200 = .ok (.goto 4, 3) := by decide +kernel
theorem dX11_mends_203 : decode cX11_mends 203 = .ok (.iconst 0, 1) := by decide +kernel
theorem dX11_mends_204 : decode cX11_mends 204 = .ok (.istore 14, 2) := by decide +kernel
theorem dX11_mends_206 : decode cX11_mends 206 = .ok (.iload 14, 2) := by decide +kernel
theorem dX11_mends_208 : decode cX11_mends 208 = .ok (.ifCond .eq 25, 3) := by decide +kernel
theorem dX11_mends_211 : decode cX11_mends 211 = .ok (.iload 8, 2) := by decide +kernel
theorem dX11_mends_213 : decode cX11_mends 213 = .ok (.bipush (-2), 2) := by decide +kernel
theorem dX11_mends_215 : decode cX11_mends 215 = .ok (.if_icmp .eq 10, 3) := by decide +kernel
theorem dX11_mends_218 : decode cX11_mends 218 = .ok (.iload 13, 2) := by decide +kernel
theorem dX11_mends_220 : decode cX11_mends 220 = .ok (.iload 9, 2) := by decide +kernel
theorem dX11_mends_222 : decode cX11_mends 222 = .ok (.if_icmp .ge 11, 3) := by decide +kernel
theorem dX11_mends_225 : decode cX11_mends 225 = .ok (.iload 10, 2) := by decide +kernel
theorem dX11_mends_227 : decode cX11_mends 227 = .ok (.istore 8, 2) := by decide +kernel
theorem dX11_mends_229 : decode cX11_mends 229 = .ok (.iload 13, 2) := by decide +kernel
theorem dX11_mends_231 : decode cX11_mends 231 = .ok (.istore 9, 2) := by decide +kernel
theorem dX11_mends_233 : decode cX11_mends 233 = .ok (.iinc 10 1, 3) := by decide +kernel
theorem dX11_mends_236 : decode cX11_mends 236 = .ok (.goto (-148), 3) := by decide +kernel
theorem dX11_mends_239 : decode cX11_mends 239 = .ok (.iload 8, 2) := by decide +kernel
theorem dX11_mends_241 : decode cX11_mends 241 = .ok (.ireturn, 1) := by decide +kernel
theorem dX11_asked_0 : decode cX11_asked 0 = .ok (.aload_n 0, 1) := by decide +kernel
theorem dX11_asked_1 : decode cX11_asked 1 = .ok (.iload_n 1, 1) := by decide +kernel
theorem dX11_asked_2 : decode cX11_asked 2 = .ok (.invokevirtual 187, 3) := by decide +kernel
theorem dX11_asked_5 : decode cX11_asked 5 = .ok (.astore 7, 2) := by decide +kernel
theorem dX11_asked_7 : decode cX11_asked 7 = .ok (.aload 7, 2) := by decide +kernel
theorem dX11_asked_9 : decode cX11_asked 9 = .ok (.ifnull 26, 3) := by decide +kernel
theorem dX11_asked_12 : decode cX11_asked 12 = .ok (.aload_n 0, 1) := by decide +kernel
theorem dX11_asked_13 : decode cX11_asked 13 = .ok (.iload_n 2, 1) := by decide +kernel
theorem dX11_asked_14 : decode cX11_asked 14 = .ok (.invokevirtual 127, 3) := by decide +kernel
theorem dX11_asked_17 : decode cX11_asked 17 = .ok (.ifCond .eq 18, 3) := by decide +kernel
theorem dX11_asked_20 : decode cX11_asked 20 = .ok (.iload_n 3, 1) := by decide +kernel
theorem dX11_asked_21 : decode cX11_asked 21 = .ok (.invokestatic 124, 3) := by decide +kernel
theorem dX11_asked_24 : decode cX11_asked 24 = .ok (.ifCond .eq 11, 3) := by decide +kernel
theorem dX11_asked_27 : decode cX11_asked 27 = .ok (.iload 4, 2) := by decide +kernel
theorem dX11_asked_29 : decode cX11_asked 29 = .ok (.invokestatic 124, 3) := by decide +kernel
theorem dX11_asked_32 : decode cX11_asked 32 = .ok (.ifCond .ne 6, 3) := by decide +kernel
theorem dX11_asked_35 : decode cX11_asked 35 = .ok (.bipush (-2), 2) := by decide +kernel
theorem dX11_asked_37 : decode cX11_asked 37 = .ok (.ireturn, 1) := by decide +kernel
theorem dX11_asked_38 : decode cX11_asked 38 = .ok (.iload 5, 2) := by decide +kernel
theorem dX11_asked_40 : decode cX11_asked 40 = .ok (.invokestatic 96, 3) := by decide +kernel
theorem dX11_asked_43 : decode cX11_asked 43 = .ok (.ifCond .eq 14, 3) := by decide +kernel
theorem dX11_asked_46 : decode cX11_asked 46 = .ok (.iload 6, 2) := by decide +kernel
theorem dX11_asked_48 : decode cX11_asked 48 = .ok (.ifCond .lt 9, 3) := by decide +kernel
theorem dX11_asked_51 : decode cX11_asked 51 = .ok (.iload 6, 2) := by decide +kernel
theorem dX11_asked_53 : decode cX11_asked 53 = .ok (.iconst 2, 1) := by decide +kernel
theorem dX11_asked_54 : decode cX11_asked 54 = .ok (.if_icmp .le 6, 3) := by decide +kernel
theorem dX11_asked_57 : decode cX11_asked 57 = .ok (.bipush (-2), 2) := by decide +kernel
theorem dX11_asked_59 : decode cX11_asked 59 = .ok (.ireturn, 1) := by decide +kernel
theorem dX11_asked_60 : decode cX11_asked 60 = .ok (.aload_n 0, 1) := by decide +kernel
theorem dX11_asked_61 : decode cX11_asked 61 = .ok (.getfield 44, 3) := by decide +kernel
theorem dX11_asked_64 : decode cX11_asked 64 = .ok (.aload 7, 2) := by decide +kernel
theorem dX11_asked_66 : decode cX11_asked 66 = .ok (.iload_n 2, 1) := by decide +kernel
theorem dX11_asked_67 : decode cX11_asked 67 = .ok (.iload_n 3, 1) := by decide +kernel
theorem dX11_asked_68 : decode cX11_asked 68 = .ok (.iload 4, 2) := by decide +kernel
theorem dX11_asked_70 : decode cX11_asked 70 = .ok (.iload 5, 2) := by decide +kernel
theorem dX11_asked_72 : decode cX11_asked 72 = .ok (.invokevirtual 211, 3) := by decide +kernel
theorem dX11_asked_75 : decode cX11_asked 75 = .ok (.iload 6, 2) := by decide +kernel
theorem dX11_asked_77 : decode cX11_asked 77 = .ok (.ifCond .ne 11, 3) := by decide +kernel
theorem dX11_asked_80 : decode cX11_asked 80 = .ok (.aload_n 0, 1) := by decide +kernel
theorem dX11_asked_81 : decode cX11_asked 81 = .ok (.getfield 44, 3) := by decide +kernel
theorem dX11_asked_84 : decode cX11_asked 84 = .ok (.getfield 215, 3) := by decide +kernel
theorem dX11_asked_87 : decode cX11_asked 87 = .ok (.ireturn, 1) := by decide +kernel
theorem dX11_asked_88 : decode cX11_asked 88 = .ok (.iload 6, 2) := by decide +kernel
theorem dX11_asked_90 : decode cX11_asked 90 = .ok (.iconst 1, 1) := by decide +kernel
theorem dX11_asked_91 : decode cX11_asked 91 = .ok (.if_icmp .ne 13, 3) := by decide +kernel
theorem dX11_asked_94 : decode cX11_asked 94 = .ok (.aload_n 0, 1) := by decide +kernel
theorem dX11_asked_95 : decode cX11_asked 95 = .ok (.getfield 44, 3) := by decide +kernel
theorem dX11_asked_98 : decode cX11_asked 98 = .ok (.getfield 218, 3) := by decide +kernel
theorem dX11_asked_101 : decode cX11_asked 101 = .ok (.goto 10, 3) := by decide +kernel
theorem dX11_asked_104 : decode cX11_asked 104 = .ok (.aload_n 0, 1) := by decide +kernel
theorem dX11_asked_105 : decode cX11_asked 105 = .ok (.getfield 44, 3) := by decide +kernel
theorem dX11_asked_108 : decode cX11_asked 108 = .ok (.getfield 221, 3) := by decide +kernel
theorem dX11_asked_111 : decode cX11_asked 111 = .ok (.ireturn, 1) := by decide +kernel
theorem dX11_letter_0 : decode cX11_letter 0 = .ok (.aload_n 0, 1) := by decide +kernel
theorem dX11_letter_1 : decode cX11_letter 1 = .ok (.iload_n 2, 1) := by decide +kernel
theorem dX11_letter_2 : decode cX11_letter 2 = .ok (.invokevirtual 187, 3) := by decide +kernel
theorem dX11_letter_5 : decode cX11_letter 5 = .ok (.astore 5, 2) := by decide +kernel
theorem dX11_letter_7 : decode cX11_letter 7 = .ok (.aload_n 0, 1) := by decide +kernel
theorem dX11_letter_8 : decode cX11_letter 8 = .ok (.getfield 12, 3) := by decide +kernel
theorem dX11_letter_11 : decode cX11_letter 11 = .ok (.getfield 224, 3) := by decide +kernel
theorem dX11_letter_14 : decode cX11_letter 14 = .ok (.bipush 8, 2) := by decide +kernel
theorem dX11_letter_16 : decode cX11_letter 16 = .ok (.if_icmp .ge 8, 3) := by decide +kernel
theorem dX11_letter_19 : decode cX11_letter 19 = .ok (.aload 5, 2) := by decide +kernel
theorem dX11_letter_21 : decode cX11_letter 21 = .ok (.ifnonnull 5, 3) := by decide +kernel
theorem dX11_letter_24 : decode cX11_letter 24 = .ok (.iconst (-1), 1) := by decide +kernel
theorem dX11_letter_25 : decode cX11_letter 25 = .ok (.ireturn, 1) := by decide +kernel
theorem dX11_letter_26 : decode cX11_letter 26 = .ok (.aload_n 0, 1) := by decide +kernel
theorem dX11_letter_27 : decode cX11_letter 27 = .ok (.iload_n 1, 1) := by decide +kernel
theorem dX11_letter_28 : decode cX11_letter 28 = .ok (.iload_n 3, 1) := by decide +kernel
theorem dX11_letter_29 : decode cX11_letter 29 = .ok (.invokevirtual 130, 3) := by decide +kernel
theorem dX11_letter_32 : decode cX11_letter 32 = .ok (.ifCond .eq 11, 3) := by decide +kernel
theorem dX11_letter_35 : decode cX11_letter 35 = .ok (.iload 4, 2) := by decide +kernel
theorem dX11_letter_37 : decode cX11_letter 37 = .ok (.invokestatic 96, 3) := by decide +kernel
theorem dX11_letter_40 : decode cX11_letter 40 = .ok (.ifCond .ne 5, 3) := by decide +kernel
theorem dX11_letter_43 : decode cX11_letter 43 = .ok (.iconst (-1), 1) := by decide +kernel
theorem dX11_letter_44 : decode cX11_letter 44 = .ok (.ireturn, 1) := by decide +kernel
theorem dX11_letter_45 : decode cX11_letter 45 = .ok (.aload_n 0, 1) := by decide +kernel
theorem dX11_letter_46 : decode cX11_letter 46 = .ok (.getfield 12, 3) := by decide +kernel
theorem dX11_letter_49 : decode cX11_letter 49 = .ok (.getfield 227, 3) := by decide +kernel
theorem dX11_letter_52 : decode cX11_letter 52 = .ok (.aload_n 0, 1) := by decide +kernel
theorem dX11_letter_53 : decode cX11_letter 53 = .ok (.getfield 12, 3) := by decide +kernel
theorem dX11_letter_56 : decode cX11_letter 56 = .ok (.getfield 224, 3) := by decide +kernel
theorem dX11_letter_59 : decode cX11_letter 59 = .ok (.aaload, 1) := by decide +kernel
theorem dX11_letter_60 : decode cX11_letter 60 = .ok (.aload 5, 2) := by decide +kernel
theorem dX11_letter_62 : decode cX11_letter 62 = .ok (.iload_n 1, 1) := by decide +kernel
theorem dX11_letter_63 : decode cX11_letter 63 = .ok (.iload_n 3, 1) := by decide +kernel
theorem dX11_letter_64 : decode cX11_letter 64 = .ok (.iload 4, 2) := by decide +kernel
theorem dX11_letter_66 : decode cX11_letter 66 = .ok (.aload_n 0, 1) := by decide +kernel
theorem dX11_letter_67 : decode cX11_letter 67 = .ok (.getfield 12, 3) := by decide +kernel
theorem dX11_letter_70 : decode cX11_letter 70 = .ok (.getfield 231, 3) := by decide +kernel
theorem dX11_letter_73 : decode cX11_letter 73 = .ok (.invokevirtual 234, 3) := by decide +kernel
theorem dX11_letter_76 : decode cX11_letter 76 = .ok (.aload_n 0, 1) := by decide +kernel
theorem dX11_letter_77 : decode cX11_letter 77 = .ok (.getfield 12, 3) := by decide +kernel
theorem dX11_letter_80 : decode cX11_letter 80 = .ok (.dup, 1) := by decide +kernel
theorem dX11_letter_81 : decode cX11_letter 81 = .ok (.getfield 224, 3) := by decide +kernel
theorem dX11_letter_84 : decode cX11_letter 84 = .ok (.dup_x1, 1) := by decide +kernel
theorem dX11_letter_85 : decode cX11_letter 85 = .ok (.iconst 1, 1) := by decide +kernel
theorem dX11_letter_86 : decode cX11_letter 86 = .ok (.iadd, 1) := by decide +kernel
theorem dX11_letter_87 : decode cX11_letter 87 = .ok (.putfield 224, 3) := by decide +kernel
theorem dX11_letter_90 : decode cX11_letter 90 = .ok (.ireturn, 1) := by decide +kernel
theorem dX11_days_0 : decode cX11_days 0 = .ok (.iload_n 1, 1) := by decide +kernel
theorem dX11_days_1 : decode cX11_days 1 = .ok (.iconst 1, 1) := by decide +kernel
theorem dX11_days_2 : decode cX11_days 2 = .ok (.if_icmp .lt 24, 3) := by decide +kernel
theorem dX11_days_5 : decode cX11_days 5 = .ok (.iload_n 1, 1) := by decide +kernel
theorem dX11_days_6 : decode cX11_days 6 = .ok (.bipush 60, 2) := by decide +kernel
theorem dX11_days_8 : decode cX11_days 8 = .ok (.if_icmp .gt 18, 3) := by decide +kernel
theorem dX11_days_11 : decode cX11_days 11 = .ok (.aload_n 0, 1) := by decide +kernel
theorem dX11_days_12 : decode cX11_days 12 = .ok (.getfield 12, 3) := by decide +kernel
theorem dX11_days_15 : decode cX11_days 15 = .ok (.getfield 231, 3) := by decide +kernel
theorem dX11_days_18 : decode cX11_days 18 = .ok (.iload_n 1, 1) := by decide +kernel
theorem dX11_days_19 : decode cX11_days 19 = .ok (.iadd, 1) := by decide +kernel
theorem dX11_days_20 : decode cX11_days 20 = .ok (.sipush 999, 3) := by decide +kernel
theorem dX11_days_23 : decode cX11_days 23 = .ok (.if_icmp .le 5, 3) := by decide +kernel
theorem dX11_days_26 : decode cX11_days 26 = .ok (.iconst (-1), 1) := by decide +kernel
theorem dX11_days_27 : decode cX11_days 27 = .ok (.ireturn, 1) := by decide +kernel
theorem dX11_days_28 : decode cX11_days 28 = .ok (.iconst 0, 1) := by decide +kernel
theorem dX11_days_29 : decode cX11_days 29 = .ok (.istore_n 2, 1) := by decide +kernel
theorem dX11_days_30 : decode cX11_days 30 = .ok (.iload_n 2, 1) := by decide +kernel
theorem dX11_days_31 : decode cX11_days 31 = .ok (.iload_n 1, 1) := by decide +kernel
theorem dX11_days_32 : decode cX11_days 32 = .ok (.if_icmp .ge 16, 3) := by decide +kernel
theorem dX11_days_35 : decode cX11_days 35 = .ok (.aload_n 0, 1) := by decide +kernel
theorem dX11_days_36 : decode cX11_days 36 = .ok (.getfield 44, 3) := by decide +kernel
theorem dX11_days_39 : decode cX11_days 39 = .ok (.invokevirtual 237, 3) := by decide +kernel
theorem dX11_days_42 : decode cX11_days 42 = .ok (.iinc 2 1, 3) := by decide +kernel
theorem dX11_days_45 : decode cX11_days 45 = .ok (.goto (-15), 3) := by decide +kernel
theorem dX11_days_48 : decode cX11_days 48 = .ok (.aload_n 0, 1) := by decide +kernel
theorem dX11_days_49 : decode cX11_days 49 = .ok (.getfield 12, 3) := by decide +kernel
theorem dX11_days_52 : decode cX11_days 52 = .ok (.iconst 0, 1) := by decide +kernel
theorem dX11_days_53 : decode cX11_days 53 = .ok (.invokevirtual 240, 3) := by decide +kernel
theorem dX11_days_56 : decode cX11_days 56 = .ok (.ireturn, 1) := by decide +kernel
theorem dX11_letters_0 : decode cX11_letters 0 = .ok (.iload_n 1, 1) := by decide +kernel
theorem dX11_letters_1 : decode cX11_letters 1 = .ok (.ifCond .lt 14, 3) := by decide +kernel
theorem dX11_letters_4 : decode cX11_letters 4 = .ok (.iload_n 1, 1) := by decide +kernel
theorem dX11_letters_5 : decode cX11_letters 5 = .ok (.aload_n 0, 1) := by decide +kernel
theorem dX11_letters_6 : decode cX11_letters 6 = .ok (.getfield 12, 3) := by decide +kernel
theorem dX11_letters_9 : decode cX11_letters 9 = .ok (.getfield 224, 3) := by decide +kernel
theorem dX11_letters_12 : decode cX11_letters 12 = .ok (.if_icmp .lt 6, 3) := by decide +kernel
theorem dX11_letters_15 : decode cX11_letters 15 = .ok (.bipush (-2), 2) := by decide +kernel
theorem dX11_letters_17 : decode cX11_letters 17 = .ok (.ireturn, 1) := by decide +kernel
theorem dX11_letters_18 : decode cX11_letters 18 = .ok (.aload_n 0, 1) := by decide +kernel
theorem dX11_letters_19 : decode cX11_letters 19 = .ok (.getfield 12, 3) := by decide +kernel
theorem dX11_letters_22 : decode cX11_letters 22 = .ok (.getfield 227, 3) := by decide +kernel
theorem dX11_letters_25 : decode cX11_letters 25 = .ok (.iload_n 1, 1) := by decide +kernel
theorem dX11_letters_26 : decode cX11_letters 26 = .ok (.aaload, 1) := by decide +kernel
theorem dX11_letters_27 : decode cX11_letters 27 = .ok (.astore_n 3, 1) := by decide +kernel
theorem dX11_letters_28 : decode cX11_letters 28 = .ok (.iload_n 2, 1) := by decide +kernel
theorem dX11_letters_29 : decode cX11_letters 29 = .ok (.tableswitch 77 0 5 #[39, 44, 49, 54, 59, 72], 39) := by decide +kernel
theorem dX11_letters_68 : decode cX11_letters 68 = .ok (.aload_n 3, 1) := by decide +kernel
theorem dX11_letters_69 : decode cX11_letters 69 = .ok (.getfield 243, 3) := by decide +kernel
theorem dX11_letters_72 : decode cX11_letters 72 = .ok (.ireturn, 1) := by decide +kernel
theorem dX11_letters_73 : decode cX11_letters 73 = .ok (.aload_n 3, 1) := by decide +kernel
theorem dX11_letters_74 : decode cX11_letters 74 = .ok (.getfield 246, 3) := by decide +kernel
theorem dX11_letters_77 : decode cX11_letters 77 = .ok (.ireturn, 1) := by decide +kernel
theorem dX11_letters_78 : decode cX11_letters 78 = .ok (.aload_n 3, 1) := by decide +kernel
theorem dX11_letters_79 : decode cX11_letters 79 = .ok (.getfield 249, 3) := by decide +kernel
theorem dX11_letters_82 : decode cX11_letters 82 = .ok (.ireturn, 1) := by decide +kernel
theorem dX11_letters_83 : decode cX11_letters 83 = .ok (.aload_n 3, 1) := by decide +kernel
theorem dX11_letters_84 : decode cX11_letters 84 = .ok (.getfield 252, 3) := by decide +kernel
theorem dX11_letters_87 : decode cX11_letters 87 = .ok (.ireturn, 1) := by decide +kernel
theorem dX11_letters_88 : decode cX11_letters 88 = .ok (.aload_n 3, 1) := by decide +kernel
theorem dX11_letters_89 : decode cX11_letters 89 = .ok (.invokevirtual 255, 3) := by decide +kernel
theorem dX11_letters_92 : decode cX11_letters 92 = .ok (.ifCond .eq 7, 3) := by decide +kernel
theorem dX11_letters_95 : decode cX11_letters 95 = .ok (.iconst 1, 1) := by decide +kernel
theorem dX11_letters_96 : decode cX11_letters 96 = .ok (.goto 4, 3) := by decide +kernel
theorem dX11_letters_99 : decode cX11_letters 99 = .ok (.iconst 0, 1) := by decide +kernel
theorem dX11_letters_100 : decode cX11_letters 100 = .ok (.ireturn, 1) := by decide +kernel
theorem dX11_letters_101 : decode cX11_letters 101 = .ok (.aload_n 3, 1) := by decide +kernel
theorem dX11_letters_102 : decode cX11_letters 102 = .ok (.getfield 259, 3) := by decide +kernel
theorem dX11_letters_105 : decode cX11_letters 105 = .ok (.ireturn, 1) := by decide +kernel
theorem dX11_letters_106 : decode cX11_letters 106 = .ok (.bipush (-2), 2) := by decide +kernel
theorem dX11_letters_108 : decode cX11_letters 108 = .ok (.ireturn, 1) := by decide +kernel
theorem dX11_sure_0 : decode cX11_sure 0 = .ok (.aload_n 0, 1) := by decide +kernel
theorem dX11_sure_1 : decode cX11_sure 1 = .ok (.iload_n 2, 1) := by decide +kernel
theorem dX11_sure_2 : decode cX11_sure 2 = .ok (.invokevirtual 187, 3) := by decide +kernel
theorem dX11_sure_5 : decode cX11_sure 5 = .ok (.astore 7, 2) := by decide +kernel
theorem dX11_sure_7 : decode cX11_sure 7 = .ok (.aload 7, 2) := by decide +kernel
theorem dX11_sure_9 : decode cX11_sure 9 = .ok (.ifnull 28, 3) := by decide +kernel
theorem dX11_sure_12 : decode cX11_sure 12 = .ok (.aload_n 0, 1) := by decide +kernel
theorem dX11_sure_13 : decode cX11_sure 13 = .ok (.iload_n 1, 1) := by decide +kernel
theorem dX11_sure_14 : decode cX11_sure 14 = .ok (.iload_n 3, 1) := by decide +kernel
theorem dX11_sure_15 : decode cX11_sure 15 = .ok (.invokevirtual 130, 3) := by decide +kernel
theorem dX11_sure_18 : decode cX11_sure 18 = .ok (.ifCond .eq 19, 3) := by decide +kernel
theorem dX11_sure_21 : decode cX11_sure 21 = .ok (.iload 4, 2) := by decide +kernel
theorem dX11_sure_23 : decode cX11_sure 23 = .ok (.invokestatic 96, 3) := by decide +kernel
theorem dX11_sure_26 : decode cX11_sure 26 = .ok (.ifCond .eq 11, 3) := by decide +kernel
theorem dX11_sure_29 : decode cX11_sure 29 = .ok (.iload 5, 2) := by decide +kernel
theorem dX11_sure_31 : decode cX11_sure 31 = .ok (.invokestatic 124, 3) := by decide +kernel
theorem dX11_sure_34 : decode cX11_sure 34 = .ok (.ifCond .ne 5, 3) := by decide +kernel
theorem dX11_sure_37 : decode cX11_sure 37 = .ok (.iconst (-1), 1) := by decide +kernel
theorem dX11_sure_38 : decode cX11_sure 38 = .ok (.ireturn, 1) := by decide +kernel
theorem dX11_sure_39 : decode cX11_sure 39 = .ok (.iload 6, 2) := by decide +kernel
theorem dX11_sure_41 : decode cX11_sure 41 = .ok (.ifCond .lt 9, 3) := by decide +kernel
theorem dX11_sure_44 : decode cX11_sure 44 = .ok (.iload 6, 2) := by decide +kernel
theorem dX11_sure_46 : decode cX11_sure 46 = .ok (.iconst 1, 1) := by decide +kernel
theorem dX11_sure_47 : decode cX11_sure 47 = .ok (.if_icmp .le 5, 3) := by decide +kernel
theorem dX11_sure_50 : decode cX11_sure 50 = .ok (.iconst (-1), 1) := by decide +kernel
theorem dX11_sure_51 : decode cX11_sure 51 = .ok (.ireturn, 1) := by decide +kernel
theorem dX11_sure_52 : decode cX11_sure 52 = .ok (.aload_n 0, 1) := by decide +kernel
theorem dX11_sure_53 : decode cX11_sure 53 = .ok (.getfield 72, 3) := by decide +kernel
theorem dX11_sure_56 : decode cX11_sure 56 = .ok (.aload 7, 2) := by decide +kernel
theorem dX11_sure_58 : decode cX11_sure 58 = .ok (.iload_n 1, 1) := by decide +kernel
theorem dX11_sure_59 : decode cX11_sure 59 = .ok (.iload_n 3, 1) := by decide +kernel
theorem dX11_sure_60 : decode cX11_sure 60 = .ok (.iload 4, 2) := by decide +kernel
theorem dX11_sure_62 : decode cX11_sure 62 = .ok (.iload 5, 2) := by decide +kernel
theorem dX11_sure_64 : decode cX11_sure 64 = .ok (.invokevirtual 234, 3) := by decide +kernel
theorem dX11_sure_67 : decode cX11_sure 67 = .ok (.aload_n 0, 1) := by decide +kernel
theorem dX11_sure_68 : decode cX11_sure 68 = .ok (.getfield 51, 3) := by decide +kernel
theorem dX11_sure_71 : decode cX11_sure 71 = .ok (.aload_n 0, 1) := by decide +kernel
theorem dX11_sure_72 : decode cX11_sure 72 = .ok (.getfield 72, 3) := by decide +kernel
theorem dX11_sure_75 : decode cX11_sure 75 = .ok (.aload_n 0, 1) := by decide +kernel
theorem dX11_sure_76 : decode cX11_sure 76 = .ok (.getfield 44, 3) := by decide +kernel
theorem dX11_sure_79 : decode cX11_sure 79 = .ok (.aload_n 0, 1) := by decide +kernel
theorem dX11_sure_80 : decode cX11_sure 80 = .ok (.getfield 12, 3) := by decide +kernel
theorem dX11_sure_83 : decode cX11_sure 83 = .ok (.getfield 104, 3) := by decide +kernel
theorem dX11_sure_86 : decode cX11_sure 86 = .ok (.invokevirtual 262, 3) := by decide +kernel
theorem dX11_sure_89 : decode cX11_sure 89 = .ok (.aload_n 0, 1) := by decide +kernel
theorem dX11_sure_90 : decode cX11_sure 90 = .ok (.getfield 51, 3) := by decide +kernel
theorem dX11_sure_93 : decode cX11_sure 93 = .ok (.iload_n 3, 1) := by decide +kernel
theorem dX11_sure_94 : decode cX11_sure 94 = .ok (.aload_n 0, 1) := by decide +kernel
theorem dX11_sure_95 : decode cX11_sure 95 = .ok (.getfield 12, 3) := by decide +kernel
theorem dX11_sure_98 : decode cX11_sure 98 = .ok (.getfield 104, 3) := by decide +kernel
theorem dX11_sure_101 : decode cX11_sure 101 = .ok (.invokevirtual 266, 3) := by decide +kernel
theorem dX11_sure_104 : decode cX11_sure 104 = .ok (.iload 6, 2) := by decide +kernel
theorem dX11_sure_106 : decode cX11_sure 106 = .ok (.ifCond .ne 15, 3) := by decide +kernel
theorem dX11_sure_109 : decode cX11_sure 109 = .ok (.aload_n 0, 1) := by decide +kernel
theorem dX11_sure_110 : decode cX11_sure 110 = .ok (.getfield 51, 3) := by decide +kernel
theorem dX11_sure_113 : decode cX11_sure 113 = .ok (.iload 4, 2) := by decide +kernel
theorem dX11_sure_115 : decode cX11_sure 115 = .ok (.invokevirtual 270, 3) := by decide +kernel
theorem dX11_sure_118 : decode cX11_sure 118 = .ok (.goto 12, 3) := by decide +kernel
theorem dX11_sure_121 : decode cX11_sure 121 = .ok (.aload_n 0, 1) := by decide +kernel
theorem dX11_sure_122 : decode cX11_sure 122 = .ok (.getfield 51, 3) := by decide +kernel
theorem dX11_sure_125 : decode cX11_sure 125 = .ok (.iload 4, 2) := by decide +kernel
theorem dX11_sure_127 : decode cX11_sure 127 = .ok (.invokevirtual 273, 3) := by decide +kernel
theorem dX11_sure_130 : decode cX11_sure 130 = .ok (.ireturn, 1) := by decide +kernel
theorem dX11_rings_0 : decode cX11_rings 0 = .ok (.aload_n 0, 1) := by decide +kernel
theorem dX11_rings_1 : decode cX11_rings 1 = .ok (.iload_n 1, 1) := by decide +kernel
theorem dX11_rings_2 : decode cX11_rings 2 = .ok (.invokevirtual 187, 3) := by decide +kernel
theorem dX11_rings_5 : decode cX11_rings 5 = .ok (.astore 5, 2) := by decide +kernel
theorem dX11_rings_7 : decode cX11_rings 7 = .ok (.aload 5, 2) := by decide +kernel
theorem dX11_rings_9 : decode cX11_rings 9 = .ok (.ifnull 29, 3) := by decide +kernel
theorem dX11_rings_12 : decode cX11_rings 12 = .ok (.aload_n 0, 1) := by decide +kernel
theorem dX11_rings_13 : decode cX11_rings 13 = .ok (.iload_n 2, 1) := by decide +kernel
theorem dX11_rings_14 : decode cX11_rings 14 = .ok (.invokevirtual 127, 3) := by decide +kernel
theorem dX11_rings_17 : decode cX11_rings 17 = .ok (.ifCond .eq 21, 3) := by decide +kernel
theorem dX11_rings_20 : decode cX11_rings 20 = .ok (.iload_n 3, 1) := by decide +kernel
theorem dX11_rings_21 : decode cX11_rings 21 = .ok (.invokestatic 124, 3) := by decide +kernel
theorem dX11_rings_24 : decode cX11_rings 24 = .ok (.ifCond .eq 14, 3) := by decide +kernel
theorem dX11_rings_27 : decode cX11_rings 27 = .ok (.iload 4, 2) := by decide +kernel
theorem dX11_rings_29 : decode cX11_rings 29 = .ok (.ifCond .lt 9, 3) := by decide +kernel
theorem dX11_rings_32 : decode cX11_rings 32 = .ok (.iload 4, 2) := by decide +kernel
theorem dX11_rings_34 : decode cX11_rings 34 = .ok (.iconst 1, 1) := by decide +kernel
theorem dX11_rings_35 : decode cX11_rings 35 = .ok (.if_icmp .le 5, 3) := by decide +kernel
theorem dX11_rings_38 : decode cX11_rings 38 = .ok (.iconst (-1), 1) := by decide +kernel
theorem dX11_rings_39 : decode cX11_rings 39 = .ok (.ireturn, 1) := by decide +kernel
theorem dX11_rings_40 : decode cX11_rings 40 = .ok (.iconst 0, 1) := by decide +kernel
theorem dX11_rings_41 : decode cX11_rings 41 = .ok (.istore 6, 2) := by decide +kernel
theorem dX11_rings_43 : decode cX11_rings 43 = .ok (.iload 6, 2) := by decide +kernel
theorem dX11_rings_45 : decode cX11_rings 45 = .ok (.bipush 8, 2) := by decide +kernel
theorem dX11_rings_47 : decode cX11_rings 47 = .ok (.if_icmp .ge 52, 3) := by decide +kernel
theorem dX11_rings_50 : decode cX11_rings 50 = .ok (.aload_n 0, 1) := by decide +kernel
theorem dX11_rings_51 : decode cX11_rings 51 = .ok (.getfield 44, 3) := by decide +kernel
theorem dX11_rings_54 : decode cX11_rings 54 = .ok (.aload 5, 2) := by decide +kernel
theorem dX11_rings_56 : decode cX11_rings 56 = .ok (.iload_n 2, 1) := by decide +kernel
theorem dX11_rings_57 : decode cX11_rings 57 = .ok (.iload_n 3, 1) := by decide +kernel
theorem dX11_rings_58 : decode cX11_rings 58 = .ok (.iload_n 3, 1) := by decide +kernel
theorem dX11_rings_59 : decode cX11_rings 59 = .ok (.iload 6, 2) := by decide +kernel
theorem dX11_rings_61 : decode cX11_rings 61 = .ok (.invokevirtual 211, 3) := by decide +kernel
theorem dX11_rings_64 : decode cX11_rings 64 = .ok (.aload_n 0, 1) := by decide +kernel
theorem dX11_rings_65 : decode cX11_rings 65 = .ok (.getfield 90, 3) := by decide +kernel
theorem dX11_rings_68 : decode cX11_rings 68 = .ok (.iload 6, 2) := by decide +kernel
theorem dX11_rings_70 : decode cX11_rings 70 = .ok (.aload_n 0, 1) := by decide +kernel
theorem dX11_rings_71 : decode cX11_rings 71 = .ok (.getfield 44, 3) := by decide +kernel
theorem dX11_rings_74 : decode cX11_rings 74 = .ok (.getfield 215, 3) := by decide +kernel
theorem dX11_rings_77 : decode cX11_rings 77 = .ok (.iconst 1, 1) := by decide +kernel
theorem dX11_rings_78 : decode cX11_rings 78 = .ok (.if_icmp .ne 13, 3) := by decide +kernel
theorem dX11_rings_81 : decode cX11_rings 81 = .ok (.aload_n 0, 1) := by decide +kernel
theorem dX11_rings_82 : decode cX11_rings 82 = .ok (.getfield 44, 3) := by decide +kernel
theorem dX11_rings_85 : decode cX11_rings 85 = .ok (.getfield 218, 3) := by decide +kernel
theorem dX11_rings_88 : decode cX11_rings 88 = .ok (.goto 4, 3) := by decide +kernel
theorem dX11_rings_91 : decode cX11_rings 91 = .ok (.iconst (-1), 1) := by decide +kernel
theorem dX11_rings_92 : decode cX11_rings 92 = .ok (.iastore, 1) := by decide +kernel
theorem dX11_rings_93 : decode cX11_rings 93 = .ok (.iinc 6 1, 3) := by decide +kernel
theorem dX11_rings_96 : decode cX11_rings 96 = .ok (.goto (-53), 3) := by decide +kernel
theorem dX11_rings_99 : decode cX11_rings 99 = .ok (.iconst 0, 1) := by decide +kernel
theorem dX11_rings_100 : decode cX11_rings 100 = .ok (.istore 6, 2) := by decide +kernel
theorem dX11_rings_102 : decode cX11_rings 102 = .ok (.iconst 0, 1) := by decide +kernel
theorem dX11_rings_103 : decode cX11_rings 103 = .ok (.istore 7, 2) := by decide +kernel
theorem dX11_rings_105 : decode cX11_rings 105 = .ok (.iconst 0, 1) := by decide +kernel
theorem dX11_rings_106 : decode cX11_rings 106 = .ok (.istore 8, 2) := by decide +kernel
theorem dX11_rings_108 : decode cX11_rings 108 = .ok (.iload 8, 2) := by decide +kernel
theorem dX11_rings_110 : decode cX11_rings 110 = .ok (.bipush 8, 2) := by decide +kernel
theorem dX11_rings_112 : decode cX11_rings 112 = .ok (.if_icmp .ge 50, 3) := by decide +kernel
theorem dX11_rings_115 : decode cX11_rings 115 = .ok (.aload_n 0, 1) := by decide +kernel
theorem dX11_rings_116 : decode cX11_rings 116 = .ok (.iload 8, 2) := by decide +kernel
theorem dX11_rings_118 : decode cX11_rings 118 = .ok (.invokevirtual 276, 3) := by decide +kernel
theorem dX11_rings_121 : decode cX11_rings 121 = .ok (.istore 9, 2) := by decide +kernel
theorem dX11_rings_123 : decode cX11_rings 123 = .ok (.iload 9, 2) := by decide +kernel
theorem dX11_rings_125 : decode cX11_rings 125 = .ok (.ifCond .le 31, 3) := by decide +kernel
theorem dX11_rings_128 : decode cX11_rings 128 = .ok (.iload 6, 2) := by decide +kernel
theorem dX11_rings_130 : decode cX11_rings 130 = .ok (.iconst 1, 1) := by decide +kernel
theorem dX11_rings_131 : decode cX11_rings 131 = .ok (.iload 8, 2) := by decide +kernel
theorem dX11_rings_133 : decode cX11_rings 133 = .ok (.ishl, 1) := by decide +kernel
theorem dX11_rings_134 : decode cX11_rings 134 = .ok (.ior, 1) := by decide +kernel
theorem dX11_rings_135 : decode cX11_rings 135 = .ok (.istore 6, 2) := by decide +kernel
theorem dX11_rings_137 : decode cX11_rings 137 = .ok (.iload 7, 2) := by decide +kernel
theorem dX11_rings_139 : decode cX11_rings 139 = .ok (.ifCond .ne 8, 3) := by decide +kernel
theorem dX11_rings_142 : decode cX11_rings 142 = .ok (.iload 9, 2) := by decide +kernel
theorem dX11_rings_144 : decode cX11_rings 144 = .ok (.goto 10, 3) := by decide +kernel
theorem dX11_rings_147 : decode cX11_rings 147 = .ok (.iload 7, 2) := by decide +kernel
theorem dX11_rings_149 : decode cX11_rings 149 = .ok (.iload 9, 2) := by decide +kernel
theorem dX11_rings_151 : decode cX11_rings 151 = .ok (.invokestatic 194, 3) := by decide +kernel
theorem dX11_rings_154 : decode cX11_rings 154 = .ok (.istore 7, 2) := by decide +kernel
theorem dX11_rings_156 : decode cX11_rings 156 = .ok (.iinc 8 1, 3) := by decide +kernel
theorem dX11_rings_159 : decode cX11_rings 159 = .ok (.goto (-51), 3) := by decide +kernel
theorem dX11_rings_162 : decode cX11_rings 162 = .ok (.iload 4, 2) := by decide +kernel
theorem dX11_rings_164 : decode cX11_rings 164 = .ok (.ifCond .ne 8, 3) := by decide +kernel
theorem dX11_rings_167 : decode cX11_rings 167 = .ok (.iload 6, 2) := by decide +kernel
theorem dX11_rings_169 : decode cX11_rings 169 = .ok (.goto 5, 3) := by decide +kernel
theorem dX11_rings_172 : decode cX11_rings 172 = .ok (.iload 7, 2) := by decide +kernel
theorem dX11_rings_174 : decode cX11_rings 174 = .ok (.ireturn, 1) := by decide +kernel
theorem dX11_told_0 : decode cX11_told 0 = .ok (.iload_n 1, 1) := by decide +kernel
theorem dX11_told_1 : decode cX11_told 1 = .ok (.iconst (-1), 1) := by decide +kernel
theorem dX11_told_2 : decode cX11_told 2 = .ok (.if_icmp .ne 13, 3) := by decide +kernel
theorem dX11_told_5 : decode cX11_told 5 = .ok (.aload_n 0, 1) := by decide +kernel
theorem dX11_told_6 : decode cX11_told 6 = .ok (.getfield 12, 3) := by decide +kernel
theorem dX11_told_9 : decode cX11_told 9 = .ok (.iconst 0, 1) := by decide +kernel
theorem dX11_told_10 : decode cX11_told 10 = .ok (.putfield 279, 3) := by decide +kernel
theorem dX11_told_13 : decode cX11_told 13 = .ok (.iconst 0, 1) := by decide +kernel
theorem dX11_told_14 : decode cX11_told 14 = .ok (.ireturn, 1) := by decide +kernel
theorem dX11_told_15 : decode cX11_told 15 = .ok (.iload_n 1, 1) := by decide +kernel
theorem dX11_told_16 : decode cX11_told 16 = .ok (.invokestatic 96, 3) := by decide +kernel
theorem dX11_told_19 : decode cX11_told 19 = .ok (.ifCond .eq 15, 3) := by decide +kernel
theorem dX11_told_22 : decode cX11_told 22 = .ok (.aload_n 0, 1) := by decide +kernel
theorem dX11_told_23 : decode cX11_told 23 = .ok (.getfield 12, 3) := by decide +kernel
theorem dX11_told_26 : decode cX11_told 26 = .ok (.getfield 279, 3) := by decide +kernel
theorem dX11_told_29 : decode cX11_told 29 = .ok (.bipush 20, 2) := by decide +kernel
theorem dX11_told_31 : decode cX11_told 31 = .ok (.if_icmp .lt 6, 3) := by decide +kernel
theorem dX11_told_34 : decode cX11_told 34 = .ok (.bipush (-2), 2) := by decide +kernel
theorem dX11_told_36 : decode cX11_told 36 = .ok (.ireturn, 1) := by decide +kernel
theorem dX11_told_37 : decode cX11_told 37 = .ok (.aload_n 0, 1) := by decide +kernel
theorem dX11_told_38 : decode cX11_told 38 = .ok (.getfield 12, 3) := by decide +kernel
theorem dX11_told_41 : decode cX11_told 41 = .ok (.getfield 282, 3) := by decide +kernel
theorem dX11_told_44 : decode cX11_told 44 = .ok (.aload_n 0, 1) := by decide +kernel
theorem dX11_told_45 : decode cX11_told 45 = .ok (.getfield 12, 3) := by decide +kernel
theorem dX11_told_48 : decode cX11_told 48 = .ok (.getfield 279, 3) := by decide +kernel
theorem dX11_told_51 : decode cX11_told 51 = .ok (.iload_n 1, 1) := by decide +kernel
theorem dX11_told_52 : decode cX11_told 52 = .ok (.iastore, 1) := by decide +kernel
theorem dX11_told_53 : decode cX11_told 53 = .ok (.aload_n 0, 1) := by decide +kernel
theorem dX11_told_54 : decode cX11_told 54 = .ok (.getfield 12, 3) := by decide +kernel
theorem dX11_told_57 : decode cX11_told 57 = .ok (.dup, 1) := by decide +kernel
theorem dX11_told_58 : decode cX11_told 58 = .ok (.getfield 279, 3) := by decide +kernel
theorem dX11_told_61 : decode cX11_told 61 = .ok (.iconst 1, 1) := by decide +kernel
theorem dX11_told_62 : decode cX11_told 62 = .ok (.iadd, 1) := by decide +kernel
theorem dX11_told_63 : decode cX11_told 63 = .ok (.putfield 279, 3) := by decide +kernel
theorem dX11_told_66 : decode cX11_told 66 = .ok (.aload_n 0, 1) := by decide +kernel
theorem dX11_told_67 : decode cX11_told 67 = .ok (.getfield 12, 3) := by decide +kernel
theorem dX11_told_70 : decode cX11_told 70 = .ok (.getfield 279, 3) := by decide +kernel
theorem dX11_told_73 : decode cX11_told 73 = .ok (.ireturn, 1) := by decide +kernel
theorem dX11_judged_0 : decode cX11_judged 0 = .ok (.aload_n 0, 1) := by decide +kernel
theorem dX11_judged_1 : decode cX11_judged 1 = .ok (.iload_n 1, 1) := by decide +kernel
theorem dX11_judged_2 : decode cX11_judged 2 = .ok (.invokevirtual 187, 3) := by decide +kernel
theorem dX11_judged_5 : decode cX11_judged 5 = .ok (.astore 5, 2) := by decide +kernel
theorem dX11_judged_7 : decode cX11_judged 7 = .ok (.aload 5, 2) := by decide +kernel
theorem dX11_judged_9 : decode cX11_judged 9 = .ok (.ifnull 26, 3) := by decide +kernel
theorem dX11_judged_12 : decode cX11_judged 12 = .ok (.aload_n 0, 1) := by decide +kernel
theorem dX11_judged_13 : decode cX11_judged 13 = .ok (.iload_n 2, 1) := by decide +kernel
theorem dX11_judged_14 : decode cX11_judged 14 = .ok (.invokevirtual 127, 3) := by decide +kernel
theorem dX11_judged_17 : decode cX11_judged 17 = .ok (.ifCond .eq 18, 3) := by decide +kernel
theorem dX11_judged_20 : decode cX11_judged 20 = .ok (.iload_n 3, 1) := by decide +kernel
theorem dX11_judged_21 : decode cX11_judged 21 = .ok (.invokestatic 96, 3) := by decide +kernel
theorem dX11_judged_24 : decode cX11_judged 24 = .ok (.ifCond .eq 11, 3) := by decide +kernel
theorem dX11_judged_27 : decode cX11_judged 27 = .ok (.iload 4, 2) := by decide +kernel
theorem dX11_judged_29 : decode cX11_judged 29 = .ok (.invokestatic 124, 3) := by decide +kernel
theorem dX11_judged_32 : decode cX11_judged 32 = .ok (.ifCond .ne 5, 3) := by decide +kernel
theorem dX11_judged_35 : decode cX11_judged 35 = .ok (.iconst (-1), 1) := by decide +kernel
theorem dX11_judged_36 : decode cX11_judged 36 = .ok (.ireturn, 1) := by decide +kernel
theorem dX11_judged_37 : decode cX11_judged 37 = .ok (.aload_n 0, 1) := by decide +kernel
theorem dX11_judged_38 : decode cX11_judged 38 = .ok (.getfield 72, 3) := by decide +kernel
theorem dX11_judged_41 : decode cX11_judged 41 = .ok (.aload 5, 2) := by decide +kernel
theorem dX11_judged_43 : decode cX11_judged 43 = .ok (.iload_n 2, 1) := by decide +kernel
theorem dX11_judged_44 : decode cX11_judged 44 = .ok (.iconst (-1), 1) := by decide +kernel
theorem dX11_judged_45 : decode cX11_judged 45 = .ok (.iload_n 3, 1) := by decide +kernel
theorem dX11_judged_46 : decode cX11_judged 46 = .ok (.iload 4, 2) := by decide +kernel
theorem dX11_judged_48 : decode cX11_judged 48 = .ok (.invokevirtual 234, 3) := by decide +kernel
theorem dX11_judged_51 : decode cX11_judged 51 = .ok (.iconst 0, 1) := by decide +kernel
theorem dX11_judged_52 : decode cX11_judged 52 = .ok (.istore 6, 2) := by decide +kernel
theorem dX11_judged_54 : decode cX11_judged 54 = .ok (.iload 6, 2) := by decide +kernel
theorem dX11_judged_56 : decode cX11_judged 56 = .ok (.aload_n 0, 1) := by decide +kernel
theorem dX11_judged_57 : decode cX11_judged 57 = .ok (.getfield 12, 3) := by decide +kernel
theorem dX11_judged_60 : decode cX11_judged 60 = .ok (.getfield 279, 3) := by decide +kernel
theorem dX11_judged_63 : decode cX11_judged 63 = .ok (.if_icmp .ge 69, 3) := by decide +kernel
theorem dX11_judged_66 : decode cX11_judged 66 = .ok (.aload_n 0, 1) := by decide +kernel
theorem dX11_judged_67 : decode cX11_judged 67 = .ok (.getfield 44, 3) := by decide +kernel
theorem dX11_judged_70 : decode cX11_judged 70 = .ok (.aload_n 0, 1) := by decide +kernel
theorem dX11_judged_71 : decode cX11_judged 71 = .ok (.getfield 72, 3) := by decide +kernel
theorem dX11_judged_74 : decode cX11_judged 74 = .ok (.invokevirtual 285, 3) := by decide +kernel
theorem dX11_judged_77 : decode cX11_judged 77 = .ok (.istore 7, 2) := by decide +kernel
theorem dX11_judged_79 : decode cX11_judged 79 = .ok (.iload 7, 2) := by decide +kernel
theorem dX11_judged_81 : decode cX11_judged 81 = .ok (.aload_n 0, 1) := by decide +kernel
theorem dX11_judged_82 : decode cX11_judged 82 = .ok (.getfield 12, 3) := by decide +kernel
theorem dX11_judged_85 : decode cX11_judged 85 = .ok (.getfield 282, 3) := by decide +kernel
theorem dX11_judged_88 : decode cX11_judged 88 = .ok (.iload 6, 2) := by decide +kernel
theorem dX11_judged_90 : decode cX11_judged 90 = .ok (.iaload, 1) := by decide +kernel
theorem dX11_judged_91 : decode cX11_judged 91 = .ok (.if_icmp .ne 19, 3) := by decide +kernel
theorem dX11_judged_94 : decode cX11_judged 94 = .ok (.aload_n 0, 1) := by decide +kernel
theorem dX11_judged_95 : decode cX11_judged 95 = .ok (.getfield 44, 3) := by decide +kernel
theorem dX11_judged_98 : decode cX11_judged 98 = .ok (.aload_n 0, 1) := by decide +kernel
theorem dX11_judged_99 : decode cX11_judged 99 = .ok (.getfield 72, 3) := by decide +kernel
theorem dX11_judged_102 : decode cX11_judged 102 = .ok (.iload 7, 2) := by decide +kernel
theorem dX11_judged_104 : decode cX11_judged 104 = .ok (.invokevirtual 289, 3) := by decide +kernel
theorem dX11_judged_107 : decode cX11_judged 107 = .ok (.ifCond .ne 6, 3) := by decide +kernel
theorem dX11_judged_110 : decode cX11_judged 110 = .ok (.iload 6, 2) := by decide +kernel
theorem dX11_judged_112 : decode cX11_judged 112 = .ok (.ireturn, 1) := by decide +kernel
theorem dX11_judged_113 : decode cX11_judged 113 = .ok (.aload_n 0, 1) := by decide +kernel
theorem dX11_judged_114 : decode cX11_judged 114 = .ok (.getfield 44, 3) := by decide +kernel
theorem dX11_judged_117 : decode cX11_judged 117 = .ok (.aload_n 0, 1) := by decide +kernel
theorem dX11_judged_118 : decode cX11_judged 118 = .ok (.getfield 72, 3) := by decide +kernel
theorem dX11_judged_121 : decode cX11_judged 121 = .ok (.iload 7, 2) := by decide +kernel
theorem dX11_judged_123 : decode cX11_judged 123 = .ok (.invokevirtual 293, 3) := by decide +kernel
theorem dX11_judged_126 : decode cX11_judged 126 = .ok (.iinc 6 1, 3) := by decide +kernel
theorem dX11_judged_129 : decode cX11_judged 129 = .ok (.goto (-75), 3) := by decide +kernel
theorem dX11_judged_132 : decode cX11_judged 132 = .ok (.bipush (-2), 2) := by decide +kernel
theorem dX11_judged_134 : decode cX11_judged 134 = .ok (.ireturn, 1) := by decide +kernel
theorem dX11_ends_0 : decode cX11_ends 0 = .ok (.aload_n 0, 1) := by decide +kernel
theorem dX11_ends_1 : decode cX11_ends 1 = .ok (.iload_n 2, 1) := by decide +kernel
theorem dX11_ends_2 : decode cX11_ends 2 = .ok (.invokevirtual 187, 3) := by decide +kernel
theorem dX11_ends_5 : decode cX11_ends 5 = .ok (.astore 6, 2) := by decide +kernel
theorem dX11_ends_7 : decode cX11_ends 7 = .ok (.aload 6, 2) := by decide +kernel
theorem dX11_ends_9 : decode cX11_ends 9 = .ok (.ifnull 26, 3) := by decide +kernel
theorem dX11_ends_12 : decode cX11_ends 12 = .ok (.aload_n 0, 1) := by decide +kernel
theorem dX11_ends_13 : decode cX11_ends 13 = .ok (.iload_n 1, 1) := by decide +kernel
theorem dX11_ends_14 : decode cX11_ends 14 = .ok (.invokevirtual 127, 3) := by decide +kernel
theorem dX11_ends_17 : decode cX11_ends 17 = .ok (.ifCond .eq 18, 3) := by decide +kernel
theorem dX11_ends_20 : decode cX11_ends 20 = .ok (.iload_n 3, 1) := by decide +kernel
theorem dX11_ends_21 : decode cX11_ends 21 = .ok (.invokestatic 96, 3) := by decide +kernel
theorem dX11_ends_24 : decode cX11_ends 24 = .ok (.ifCond .eq 11, 3) := by decide +kernel
theorem dX11_ends_27 : decode cX11_ends 27 = .ok (.iload 4, 2) := by decide +kernel
theorem dX11_ends_29 : decode cX11_ends 29 = .ok (.invokestatic 124, 3) := by decide +kernel
theorem dX11_ends_32 : decode cX11_ends 32 = .ok (.ifCond .ne 6, 3) := by decide +kernel
theorem dX11_ends_35 : decode cX11_ends 35 = .ok (.bipush (-2), 2) := by decide +kernel
theorem dX11_ends_37 : decode cX11_ends 37 = .ok (.ireturn, 1) := by decide +kernel
theorem dX11_ends_38 : decode cX11_ends 38 = .ok (.iload 5, 2) := by decide +kernel
theorem dX11_ends_40 : decode cX11_ends 40 = .ok (.ifCond .lt 9, 3) := by decide +kernel
theorem dX11_ends_43 : decode cX11_ends 43 = .ok (.iload 5, 2) := by decide +kernel
theorem dX11_ends_45 : decode cX11_ends 45 = .ok (.iconst 4, 1) := by decide +kernel
theorem dX11_ends_46 : decode cX11_ends 46 = .ok (.if_icmp .le 6, 3) := by decide +kernel
theorem dX11_ends_49 : decode cX11_ends 49 = .ok (.bipush (-2), 2) := by decide +kernel
theorem dX11_ends_51 : decode cX11_ends 51 = .ok (.ireturn, 1) := by decide +kernel
theorem dX11_ends_52 : decode cX11_ends 52 = .ok (.aload_n 0, 1) := by decide +kernel
theorem dX11_ends_53 : decode cX11_ends 53 = .ok (.getfield 72, 3) := by decide +kernel
theorem dX11_ends_56 : decode cX11_ends 56 = .ok (.aload 6, 2) := by decide +kernel
theorem dX11_ends_58 : decode cX11_ends 58 = .ok (.iload_n 1, 1) := by decide +kernel
theorem dX11_ends_59 : decode cX11_ends 59 = .ok (.iconst (-1), 1) := by decide +kernel
theorem dX11_ends_60 : decode cX11_ends 60 = .ok (.iload_n 3, 1) := by decide +kernel
theorem dX11_ends_61 : decode cX11_ends 61 = .ok (.iload 4, 2) := by decide +kernel
theorem dX11_ends_63 : decode cX11_ends 63 = .ok (.invokevirtual 234, 3) := by decide +kernel
theorem dX11_ends_66 : decode cX11_ends 66 = .ok (.aload_n 0, 1) := by decide +kernel
theorem dX11_ends_67 : decode cX11_ends 67 = .ok (.getfield 44, 3) := by decide +kernel
theorem dX11_ends_70 : decode cX11_ends 70 = .ok (.aload_n 0, 1) := by decide +kernel
theorem dX11_ends_71 : decode cX11_ends 71 = .ok (.getfield 72, 3) := by decide +kernel
theorem dX11_ends_74 : decode cX11_ends 74 = .ok (.invokevirtual 297, 3) := by decide +kernel
theorem dX11_ends_77 : decode cX11_ends 77 = .ok (.iload 5, 2) := by decide +kernel
theorem dX11_ends_79 : decode cX11_ends 79 = .ok (.tableswitch 61 0 3 #[29, 37, 45, 53], 29) := by decide +kernel
theorem dX11_ends_108 : decode cX11_ends 108 = .ok (.aload_n 0, 1) := by decide +kernel
theorem dX11_ends_109 : decode cX11_ends 109 = .ok (.getfield 72, 3) := by decide +kernel
theorem dX11_ends_112 : decode cX11_ends 112 = .ok (.getfield 243, 3) := by decide +kernel
theorem dX11_ends_115 : decode cX11_ends 115 = .ok (.ireturn, 1) := by decide +kernel
theorem dX11_ends_116 : decode cX11_ends 116 = .ok (.aload_n 0, 1) := by decide +kernel
theorem dX11_ends_117 : decode cX11_ends 117 = .ok (.getfield 72, 3) := by decide +kernel
theorem dX11_ends_120 : decode cX11_ends 120 = .ok (.getfield 252, 3) := by decide +kernel
theorem dX11_ends_123 : decode cX11_ends 123 = .ok (.ireturn, 1) := by decide +kernel
theorem dX11_ends_124 : decode cX11_ends 124 = .ok (.aload_n 0, 1) := by decide +kernel
theorem dX11_ends_125 : decode cX11_ends 125 = .ok (.getfield 72, 3) := by decide +kernel
theorem dX11_ends_128 : decode cX11_ends 128 = .ok (.getfield 249, 3) := by decide +kernel
theorem dX11_ends_131 : decode cX11_ends 131 = .ok (.ireturn, 1) := by decide +kernel
theorem dX11_ends_132 : decode cX11_ends 132 = .ok (.aload_n 0, 1) := by decide +kernel
theorem dX11_ends_133 : decode cX11_ends 133 = .ok (.getfield 72, 3) := by decide +kernel
theorem dX11_ends_136 : decode cX11_ends 136 = .ok (.getfield 246, 3) := by decide +kernel
theorem dX11_ends_139 : decode cX11_ends 139 = .ok (.ireturn, 1) := by decide +kernel
theorem dX11_ends_140 : decode cX11_ends 140 = .ok (.aload_n 0, 1) := by decide +kernel
theorem dX11_ends_141 : decode cX11_ends 141 = .ok (.getfield 72, 3) := by decide +kernel
theorem dX11_ends_144 : decode cX11_ends 144 = .ok (.getfield 301, 3) := by decide +kernel
theorem dX11_ends_147 : decode cX11_ends 147 = .ok (.ireturn, 1) := by decide +kernel
theorem dX11_needs_0 : decode cX11_needs 0 = .ok (.aload_n 0, 1) := by decide +kernel
theorem dX11_needs_1 : decode cX11_needs 1 = .ok (.iload_n 2, 1) := by decide +kernel
theorem dX11_needs_2 : decode cX11_needs 2 = .ok (.invokevirtual 187, 3) := by decide +kernel
theorem dX11_needs_5 : decode cX11_needs 5 = .ok (.astore 7, 2) := by decide +kernel
theorem dX11_needs_7 : decode cX11_needs 7 = .ok (.aload 7, 2) := by decide +kernel
theorem dX11_needs_9 : decode cX11_needs 9 = .ok (.ifnull 28, 3) := by decide +kernel
theorem dX11_needs_12 : decode cX11_needs 12 = .ok (.aload_n 0, 1) := by decide +kernel
theorem dX11_needs_13 : decode cX11_needs 13 = .ok (.iload_n 1, 1) := by decide +kernel
theorem dX11_needs_14 : decode cX11_needs 14 = .ok (.iload_n 3, 1) := by decide +kernel
theorem dX11_needs_15 : decode cX11_needs 15 = .ok (.invokevirtual 130, 3) := by decide +kernel
theorem dX11_needs_18 : decode cX11_needs 18 = .ok (.ifCond .eq 19, 3) := by decide +kernel
theorem dX11_needs_21 : decode cX11_needs 21 = .ok (.iload 4, 2) := by decide +kernel
theorem dX11_needs_23 : decode cX11_needs 23 = .ok (.invokestatic 96, 3) := by decide +kernel
theorem dX11_needs_26 : decode cX11_needs 26 = .ok (.ifCond .eq 11, 3) := by decide +kernel
theorem dX11_needs_29 : decode cX11_needs 29 = .ok (.iload 5, 2) := by decide +kernel
theorem dX11_needs_31 : decode cX11_needs 31 = .ok (.invokestatic 124, 3) := by decide +kernel
theorem dX11_needs_34 : decode cX11_needs 34 = .ok (.ifCond .ne 5, 3) := by decide +kernel
theorem dX11_needs_37 : decode cX11_needs 37 = .ok (.iconst (-1), 1) := by decide +kernel
theorem dX11_needs_38 : decode cX11_needs 38 = .ok (.ireturn, 1) := by decide +kernel
theorem dX11_needs_39 : decode cX11_needs 39 = .ok (.iload 6, 2) := by decide +kernel
theorem dX11_needs_41 : decode cX11_needs 41 = .ok (.ifCond .lt 9, 3) := by decide +kernel
theorem dX11_needs_44 : decode cX11_needs 44 = .ok (.iload 6, 2) := by decide +kernel
theorem dX11_needs_46 : decode cX11_needs 46 = .ok (.iconst 2, 1) := by decide +kernel
theorem dX11_needs_47 : decode cX11_needs 47 = .ok (.if_icmp .le 5, 3) := by decide +kernel
theorem dX11_needs_50 : decode cX11_needs 50 = .ok (.iconst (-1), 1) := by decide +kernel
theorem dX11_needs_51 : decode cX11_needs 51 = .ok (.ireturn, 1) := by decide +kernel
theorem dX11_needs_52 : decode cX11_needs 52 = .ok (.aload_n 0, 1) := by decide +kernel
theorem dX11_needs_53 : decode cX11_needs 53 = .ok (.getfield 72, 3) := by decide +kernel
theorem dX11_needs_56 : decode cX11_needs 56 = .ok (.aload 7, 2) := by decide +kernel
theorem dX11_needs_58 : decode cX11_needs 58 = .ok (.iload_n 1, 1) := by decide +kernel
theorem dX11_needs_59 : decode cX11_needs 59 = .ok (.iload_n 3, 1) := by decide +kernel
theorem dX11_needs_60 : decode cX11_needs 60 = .ok (.iload 4, 2) := by decide +kernel
theorem dX11_needs_62 : decode cX11_needs 62 = .ok (.iload 5, 2) := by decide +kernel
theorem dX11_needs_64 : decode cX11_needs 64 = .ok (.invokevirtual 234, 3) := by decide +kernel
theorem dX11_needs_67 : decode cX11_needs 67 = .ok (.aload_n 0, 1) := by decide +kernel
theorem dX11_needs_68 : decode cX11_needs 68 = .ok (.getfield 44, 3) := by decide +kernel
theorem dX11_needs_71 : decode cX11_needs 71 = .ok (.aload_n 0, 1) := by decide +kernel
theorem dX11_needs_72 : decode cX11_needs 72 = .ok (.getfield 72, 3) := by decide +kernel
theorem dX11_needs_75 : decode cX11_needs 75 = .ok (.invokevirtual 304, 3) := by decide +kernel
theorem dX11_needs_78 : decode cX11_needs 78 = .ok (.istore 8, 2) := by decide +kernel
theorem dX11_needs_80 : decode cX11_needs 80 = .ok (.iload 6, 2) := by decide +kernel
theorem dX11_needs_82 : decode cX11_needs 82 = .ok (.ifCond .ne 6, 3) := by decide +kernel
theorem dX11_needs_85 : decode cX11_needs 85 = .ok (.iload 8, 2) := by decide +kernel
theorem dX11_needs_87 : decode cX11_needs 87 = .ok (.ireturn, 1) := by decide +kernel
theorem dX11_needs_88 : decode cX11_needs 88 = .ok (.iload 6, 2) := by decide +kernel
theorem dX11_needs_90 : decode cX11_needs 90 = .ok (.iconst 1, 1) := by decide +kernel
theorem dX11_needs_91 : decode cX11_needs 91 = .ok (.if_icmp .ne 13, 3) := by decide +kernel
theorem dX11_needs_94 : decode cX11_needs 94 = .ok (.aload_n 0, 1) := by decide +kernel
theorem dX11_needs_95 : decode cX11_needs 95 = .ok (.getfield 44, 3) := by decide +kernel
theorem dX11_needs_98 : decode cX11_needs 98 = .ok (.getfield 307, 3) := by decide +kernel
theorem dX11_needs_101 : decode cX11_needs 101 = .ok (.goto 10, 3) := by decide +kernel
theorem dX11_needs_104 : decode cX11_needs 104 = .ok (.aload_n 0, 1) := by decide +kernel
theorem dX11_needs_105 : decode cX11_needs 105 = .ok (.getfield 44, 3) := by decide +kernel
theorem dX11_needs_108 : decode cX11_needs 108 = .ok (.getfield 310, 3) := by decide +kernel
theorem dX11_needs_111 : decode cX11_needs 111 = .ok (.ireturn, 1) := by decide +kernel
theorem dX11_copies_0 : decode cX11_copies 0 = .ok (.aload_n 0, 1) := by decide +kernel
theorem dX11_copies_1 : decode cX11_copies 1 = .ok (.iload_n 2, 1) := by decide +kernel
theorem dX11_copies_2 : decode cX11_copies 2 = .ok (.invokevirtual 187, 3) := by decide +kernel
theorem dX11_copies_5 : decode cX11_copies 5 = .ok (.astore 8, 2) := by decide +kernel
theorem dX11_copies_7 : decode cX11_copies 7 = .ok (.aload 8, 2) := by decide +kernel
theorem dX11_copies_9 : decode cX11_copies 9 = .ok (.ifnull 28, 3) := by decide +kernel
theorem dX11_copies_12 : decode cX11_copies 12 = .ok (.aload_n 0, 1) := by decide +kernel
theorem dX11_copies_13 : decode cX11_copies 13 = .ok (.iload_n 1, 1) := by decide +kernel
theorem dX11_copies_14 : decode cX11_copies 14 = .ok (.iload_n 3, 1) := by decide +kernel
theorem dX11_copies_15 : decode cX11_copies 15 = .ok (.invokevirtual 130, 3) := by decide +kernel
theorem dX11_copies_18 : decode cX11_copies 18 = .ok (.ifCond .eq 19, 3) := by decide +kernel
theorem dX11_copies_21 : decode cX11_copies 21 = .ok (.iload 4, 2) := by decide +kernel
theorem dX11_copies_23 : decode cX11_copies 23 = .ok (.invokestatic 96, 3) := by decide +kernel
theorem dX11_copies_26 : decode cX11_copies 26 = .ok (.ifCond .eq 11, 3) := by decide +kernel
theorem dX11_copies_29 : decode cX11_copies 29 = .ok (.iload 5, 2) := by decide +kernel
theorem dX11_copies_31 : decode cX11_copies 31 = .ok (.invokestatic 96, 3) := by decide +kernel
theorem dX11_copies_34 : decode cX11_copies 34 = .ok (.ifCond .ne 5, 3) := by decide +kernel
theorem dX11_copies_37 : decode cX11_copies 37 = .ok (.iconst (-1), 1) := by decide +kernel
theorem dX11_copies_38 : decode cX11_copies 38 = .ok (.ireturn, 1) := by decide +kernel
theorem dX11_copies_39 : decode cX11_copies 39 = .ok (.iload 6, 2) := by decide +kernel
theorem dX11_copies_41 : decode cX11_copies 41 = .ok (.invokestatic 124, 3) := by decide +kernel
theorem dX11_copies_44 : decode cX11_copies 44 = .ok (.ifCond .eq 14, 3) := by decide +kernel
theorem dX11_copies_47 : decode cX11_copies 47 = .ok (.iload 7, 2) := by decide +kernel
theorem dX11_copies_49 : decode cX11_copies 49 = .ok (.ifCond .lt 9, 3) := by decide +kernel
theorem dX11_copies_52 : decode cX11_copies 52 = .ok (.iload 7, 2) := by decide +kernel
theorem dX11_copies_54 : decode cX11_copies 54 = .ok (.iconst 1, 1) := by decide +kernel
theorem dX11_copies_55 : decode cX11_copies 55 = .ok (.if_icmp .le 5, 3) := by decide +kernel
theorem dX11_copies_58 : decode cX11_copies 58 = .ok (.iconst (-1), 1) := by decide +kernel
theorem dX11_copies_59 : decode cX11_copies 59 = .ok (.ireturn, 1) := by decide +kernel
theorem dX11_copies_60 : decode cX11_copies 60 = .ok (.aload_n 0, 1) := by decide +kernel
theorem dX11_copies_61 : decode cX11_copies 61 = .ok (.aload 8, 2) := by decide +kernel
theorem dX11_copies_63 : decode cX11_copies 63 = .ok (.iload_n 1, 1) := by decide +kernel
theorem dX11_copies_64 : decode cX11_copies 64 = .ok (.iload_n 3, 1) := by decide +kernel
theorem dX11_copies_65 : decode cX11_copies 65 = .ok (.iload 4, 2) := by decide +kernel
theorem dX11_copies_67 : decode cX11_copies 67 = .ok (.iload 6, 2) := by decide +kernel
theorem dX11_copies_69 : decode cX11_copies 69 = .ok (.invokevirtual 313, 3) := by decide +kernel
theorem dX11_copies_72 : decode cX11_copies 72 = .ok (.istore 9, 2) := by decide +kernel
theorem dX11_copies_74 : decode cX11_copies 74 = .ok (.aload_n 0, 1) := by decide +kernel
theorem dX11_copies_75 : decode cX11_copies 75 = .ok (.aload 8, 2) := by decide +kernel
theorem dX11_copies_77 : decode cX11_copies 77 = .ok (.iload_n 1, 1) := by decide +kernel
theorem dX11_copies_78 : decode cX11_copies 78 = .ok (.iload_n 3, 1) := by decide +kernel
theorem dX11_copies_79 : decode cX11_copies 79 = .ok (.iload 5, 2) := by decide +kernel
theorem dX11_copies_81 : decode cX11_copies 81 = .ok (.iload 6, 2) := by decide +kernel
theorem dX11_copies_83 : decode cX11_copies 83 = .ok (.invokevirtual 313, 3) := by decide +kernel
theorem dX11_copies_86 : decode cX11_copies 86 = .ok (.istore 10, 2) := by decide +kernel
theorem dX11_copies_88 : decode cX11_copies 88 = .ok (.iload 9, 2) := by decide +kernel
theorem dX11_copies_90 : decode cX11_copies 90 = .ok (.bipush (-2), 2) := by decide +kernel
theorem dX11_copies_92 : decode cX11_copies 92 = .ok (.if_icmp .ne 13, 3) := by decide +kernel
theorem dX11_copies_95 : decode cX11_copies 95 = .ok (.iload 10, 2) := by decide +kernel
theorem dX11_copies_97 : decode cX11_copies 97 = .ok (.bipush (-2), 2) := by decide +kernel
theorem dX11_copies_99 : decode cX11_copies 99 = .ok (.if_icmp .ne 6, 3) := by decide +kernel
theorem dX11_copies_102 : decode cX11_copies 102 = .ok (.bipush (-2), 2) := by decide +kernel
theorem dX11_copies_104 : decode cX11_copies 104 = .ok (.ireturn, 1) := by decide +kernel
theorem dX11_copies_105 : decode cX11_copies 105 = .ok (.iload 9, 2) := by decide +kernel
theorem dX11_copies_107 : decode cX11_copies 107 = .ok (.iload 10, 2) := by decide +kernel
theorem dX11_copies_109 : decode cX11_copies 109 = .ok (.if_icmp .ne 9, 3) := by decide +kernel
theorem dX11_copies_112 : decode cX11_copies 112 = .ok (.iconst 2, 1) := by decide +kernel
theorem dX11_copies_113 : decode cX11_copies 113 = .ok (.istore 11, 2) := by decide +kernel
theorem dX11_copies_115 : decode cX11_copies 115 = .ok (.goto 31, 3) := by decide +kernel
theorem dX11_copies_118 : decode cX11_copies 118 = .ok (.iload 10, 2) := by decide +kernel
theorem dX11_copies_120 : decode cX11_copies 120 = .ok (.bipush (-2), 2) := by decide +kernel
theorem dX11_copies_122 : decode cX11_copies 122 = .ok (.if_icmp .eq 17, 3) := by decide +kernel
theorem dX11_copies_125 : decode cX11_copies 125 = .ok (.iload 9, 2) := by decide +kernel
theorem dX11_copies_127 : decode cX11_copies 127 = .ok (.bipush (-2), 2) := by decide +kernel
theorem dX11_copies_129 : decode cX11_copies 129 = .ok (.if_icmp .eq 14, 3) := by decide +kernel
theorem dX11_copies_132 : decode cX11_copies 132 = .ok (.iload 9, 2) := by decide +kernel
theorem dX11_copies_134 : decode cX11_copies 134 = .ok (.iload 10, 2) := by decide +kernel
theorem dX11_copies_136 : decode cX11_copies 136 = .ok (.if_icmp .ge 7, 3) := by decide +kernel
theorem dX11_copies_139 : decode cX11_copies 139 = .ok (.iconst 0, 1) := by decide +kernel
theorem dX11_copies_140 : decode cX11_copies 140 = .ok (.goto 4, 3) := by decide +kernel
theorem dX11_copies_143 : decode cX11_copies 143 = .ok (.iconst 1, 1) := by decide +kernel
theorem dX11_copies_144 : decode cX11_copies 144 = .ok (.istore 11, 2) := by decide +kernel
theorem dX11_copies_146 : decode cX11_copies 146 = .ok (.iload 7, 2) := by decide +kernel
theorem dX11_copies_148 : decode cX11_copies 148 = .ok (.ifCond .ne 6, 3) := by decide +kernel
theorem dX11_copies_151 : decode cX11_copies 151 = .ok (.iload 11, 2) := by decide +kernel
theorem dX11_copies_153 : decode cX11_copies 153 = .ok (.ireturn, 1) := by decide +kernel
theorem dX11_copies_154 : decode cX11_copies 154 = .ok (.iload 11, 2) := by decide +kernel
theorem dX11_copies_156 : decode cX11_copies 156 = .ok (.iconst 1, 1) := by decide +kernel
theorem dX11_copies_157 : decode cX11_copies 157 = .ok (.if_icmp .ne 8, 3) := by decide +kernel
theorem dX11_copies_160 : decode cX11_copies 160 = .ok (.iload 10, 2) := by decide +kernel
theorem dX11_copies_162 : decode cX11_copies 162 = .ok (.goto 5, 3) := by decide +kernel
theorem dX11_copies_165 : decode cX11_copies 165 = .ok (.iload 9, 2) := by decide +kernel
theorem dX11_copies_167 : decode cX11_copies 167 = .ok (.ireturn, 1) := by decide +kernel
theorem dX11_often_0 : decode cX11_often 0 = .ok (.aload_n 0, 1) := by decide +kernel
theorem dX11_often_1 : decode cX11_often 1 = .ok (.getfield 93, 3) := by decide +kernel
theorem dX11_often_4 : decode cX11_often 4 = .ok (.iconst 0, 1) := by decide +kernel
theorem dX11_often_5 : decode cX11_often 5 = .ok (.invokestatic 316, 3) := by decide +kernel
theorem dX11_often_8 : decode cX11_often 8 = .ok (.iconst 0, 1) := by decide +kernel
theorem dX11_often_9 : decode cX11_often 9 = .ok (.istore_n 1, 1) := by decide +kernel
theorem dX11_often_10 : decode cX11_often 10 = .ok (.iload_n 1, 1) := by decide +kernel
theorem dX11_often_11 : decode cX11_often 11 = .ok (.aload_n 0, 1) := by decide +kernel
theorem dX11_often_12 : decode cX11_often 12 = .ok (.getfield 12, 3) := by decide +kernel
theorem dX11_often_15 : decode cX11_often 15 = .ok (.getfield 224, 3) := by decide +kernel
theorem dX11_often_18 : decode cX11_often 18 = .ok (.if_icmp .ge 40, 3) := by decide +kernel
theorem dX11_often_21 : decode cX11_often 21 = .ok (.aload_n 0, 1) := by decide +kernel
theorem dX11_often_22 : decode cX11_often 22 = .ok (.getfield 12, 3) := by decide +kernel
theorem dX11_often_25 : decode cX11_often 25 = .ok (.getfield 227, 3) := by decide +kernel
theorem dX11_often_28 : decode cX11_often 28 = .ok (.iload_n 1, 1) := by decide +kernel
theorem dX11_often_29 : decode cX11_often 29 = .ok (.aaload, 1) := by decide +kernel
theorem dX11_often_30 : decode cX11_often 30 = .ok (.getfield 252, 3) := by decide +kernel
theorem dX11_often_33 : decode cX11_often 33 = .ok (.istore_n 2, 1) := by decide +kernel
theorem dX11_often_34 : decode cX11_often 34 = .ok (.aload_n 0, 1) := by decide +kernel
theorem dX11_often_35 : decode cX11_often 35 = .ok (.iload_n 2, 1) := by decide +kernel
theorem dX11_often_36 : decode cX11_often 36 = .ok (.invokevirtual 127, 3) := by decide +kernel
theorem dX11_often_39 : decode cX11_often 39 = .ok (.ifCond .eq 13, 3) := by decide +kernel
theorem dX11_often_42 : decode cX11_often 42 = .ok (.aload_n 0, 1) := by decide +kernel
theorem dX11_often_43 : decode cX11_often 43 = .ok (.getfield 93, 3) := by decide +kernel
theorem dX11_often_46 : decode cX11_often 46 = .ok (.iload_n 2, 1) := by decide +kernel
theorem dX11_often_47 : decode cX11_often 47 = .ok (.dup2, 1) := by decide +kernel
theorem dX11_often_48 : decode cX11_often 48 = .ok (.iaload, 1) := by decide +kernel
theorem dX11_often_49 : decode cX11_often 49 = .ok (.iconst 1, 1) := by decide +kernel
theorem dX11_often_50 : decode cX11_often 50 = .ok (.iadd, 1) := by decide +kernel
theorem dX11_often_51 : decode cX11_often 51 = .ok (.iastore, 1) := by decide +kernel
theorem dX11_often_52 : decode cX11_often 52 = .ok (.iinc 1 1, 3) := by decide +kernel
theorem dX11_often_55 : decode cX11_often 55 = .ok (.goto (-45), 3) := by decide +kernel
theorem dX11_often_58 : decode cX11_often 58 = .ok (.bipush (-2), 2) := by decide +kernel
theorem dX11_often_60 : decode cX11_often 60 = .ok (.istore_n 1, 1) := by decide +kernel
theorem dX11_often_61 : decode cX11_often 61 = .ok (.iconst 0, 1) := by decide +kernel
theorem dX11_often_62 : decode cX11_often 62 = .ok (.istore_n 2, 1) := by decide +kernel
theorem dX11_often_63 : decode cX11_often 63 = .ok (.iload_n 2, 1) := by decide +kernel
theorem dX11_often_64 : decode cX11_often 64 = .ok (.aload_n 0, 1) := by decide +kernel
theorem dX11_often_65 : decode cX11_often 65 = .ok (.getfield 12, 3) := by decide +kernel
theorem dX11_often_68 : decode cX11_often 68 = .ok (.getfield 111, 3) := by decide +kernel
theorem dX11_often_71 : decode cX11_often 71 = .ok (.if_icmp .ge 36, 3) := by decide +kernel
theorem dX11_often_74 : decode cX11_often 74 = .ok (.aload_n 0, 1) := by decide +kernel
theorem dX11_often_75 : decode cX11_often 75 = .ok (.getfield 93, 3) := by decide +kernel
theorem dX11_often_78 : decode cX11_often 78 = .ok (.iload_n 2, 1) := by decide +kernel
theorem dX11_often_79 : decode cX11_often 79 = .ok (.iaload, 1) := by decide +kernel
theorem dX11_often_80 : decode cX11_often 80 = .ok (.iload_n 1, 1) := by decide +kernel
theorem dX11_often_81 : decode cX11_often 81 = .ok (.bipush (-2), 2) := by decide +kernel
theorem dX11_often_83 : decode cX11_often 83 = .ok (.if_icmp .ne 7, 3) := by decide +kernel
theorem dX11_often_86 : decode cX11_often 86 = .ok (.iconst 0, 1) := by decide +kernel
theorem dX11_often_87 : decode cX11_often 87 = .ok (.goto 9, 3) := by decide +kernel
theorem dX11_often_90 : decode cX11_often 90 = .ok (.aload_n 0, 1) := by decide +kernel
theorem dX11_often_91 : decode cX11_often 91 = .ok (.getfield 93, 3) := by decide +kernel
theorem dX11_often_94 : decode cX11_often 94 = .ok (.iload_n 1, 1) := by decide +kernel
theorem dX11_often_95 : decode cX11_often 95 = .ok (.iaload, 1) := by decide +kernel
theorem dX11_often_96 : decode cX11_often 96 = .ok (.if_icmp .le 5, 3) := by decide +kernel
theorem dX11_often_99 : decode cX11_often 99 = .ok (.iload_n 2, 1) := by decide +kernel
theorem dX11_often_100 : decode cX11_often 100 = .ok (.istore_n 1, 1) := by decide +kernel
theorem dX11_often_101 : decode cX11_often 101 = .ok (.iinc 2 1, 3) := by decide +kernel
theorem dX11_often_104 : decode cX11_often 104 = .ok (.goto (-41), 3) := by decide +kernel
theorem dX11_often_107 : decode cX11_often 107 = .ok (.iload_n 1, 1) := by decide +kernel
theorem dX11_often_108 : decode cX11_often 108 = .ok (.ireturn, 1) := by decide +kernel
theorem dX11_cheapest_0 : decode cX11_cheapest 0 = .ok (.aload_n 0, 1) := by decide +kernel
theorem dX11_cheapest_1 : decode cX11_cheapest 1 = .ok (.iload_n 1, 1) := by decide +kernel
theorem dX11_cheapest_2 : decode cX11_cheapest 2 = .ok (.iload_n 2, 1) := by decide +kernel
theorem dX11_cheapest_3 : decode cX11_cheapest 3 = .ok (.invokevirtual 130, 3) := by decide +kernel
theorem dX11_cheapest_6 : decode cX11_cheapest 6 = .ok (.ifCond .eq 23, 3) := by decide +kernel
theorem dX11_cheapest_9 : decode cX11_cheapest 9 = .ok (.iload_n 3, 1) := by decide +kernel
theorem dX11_cheapest_10 : decode cX11_cheapest 10 = .ok (.iload 4, 2) := by decide +kernel
theorem dX11_cheapest_12 : decode cX11_cheapest 12 = .ok (.invokestatic 322, 3) := by decide +kernel
theorem dX11_cheapest_15 : decode cX11_cheapest 15 = .ok (.ifCond .eq 14, 3) := by decide +kernel
theorem dX11_cheapest_18 : decode cX11_cheapest 18 = .ok (.iload 5, 2) := by decide +kernel
theorem dX11_cheapest_20 : decode cX11_cheapest 20 = .ok (.ifCond .lt 9, 3) := by decide +kernel
theorem dX11_cheapest_23 : decode cX11_cheapest 23 = .ok (.iload 5, 2) := by decide +kernel
theorem dX11_cheapest_25 : decode cX11_cheapest 25 = .ok (.iconst 4, 1) := by decide +kernel
theorem dX11_cheapest_26 : decode cX11_cheapest 26 = .ok (.if_icmp .le 5, 3) := by decide +kernel
theorem dX11_cheapest_29 : decode cX11_cheapest 29 = .ok (.iconst (-1), 1) := by decide +kernel
theorem dX11_cheapest_30 : decode cX11_cheapest 30 = .ok (.ireturn, 1) := by decide +kernel
theorem dX11_cheapest_31 : decode cX11_cheapest 31 = .ok (.iconst (-1), 1) := by decide +kernel
theorem dX11_cheapest_32 : decode cX11_cheapest 32 = .ok (.istore 6, 2) := by decide +kernel
theorem dX11_cheapest_34 : decode cX11_cheapest 34 = .ok (.iconst 0, 1) := by decide +kernel
theorem dX11_cheapest_35 : decode cX11_cheapest 35 = .ok (.istore 7, 2) := by decide +kernel
theorem dX11_cheapest_37 : decode cX11_cheapest 37 = .ok (.iload_n 3, 1) := by decide +kernel
theorem dX11_cheapest_38 : decode cX11_cheapest 38 = .ok (.istore 8, 2) := by decide +kernel
theorem dX11_cheapest_40 : decode cX11_cheapest 40 = .ok (.iload 8, 2) := by decide +kernel
theorem dX11_cheapest_42 : decode cX11_cheapest 42 = .ok (.iload 4, 2) := by decide +kernel
theorem dX11_cheapest_44 : decode cX11_cheapest 44 = .ok (.if_icmp .gt 39, 3) := by decide +kernel
theorem dX11_cheapest_47 : decode cX11_cheapest 47 = .ok (.aload_n 0, 1) := by decide +kernel
theorem dX11_cheapest_48 : decode cX11_cheapest 48 = .ok (.getfield 21, 3) := by decide +kernel
theorem dX11_cheapest_51 : decode cX11_cheapest 51 = .ok (.iload 8, 2) := by decide +kernel
theorem dX11_cheapest_53 : decode cX11_cheapest 53 = .ok (.invokevirtual 164, 3) := by decide +kernel
theorem dX11_cheapest_56 : decode cX11_cheapest 56 = .ok (.iload_n 2, 1) := by decide +kernel
theorem dX11_cheapest_57 : decode cX11_cheapest 57 = .ok (.iload_n 1, 1) := by decide +kernel
theorem dX11_cheapest_58 : decode cX11_cheapest 58 = .ok (.invokevirtual 325, 3) := by decide +kernel
theorem dX11_cheapest_61 : decode cX11_cheapest 61 = .ok (.istore 9, 2) := by decide +kernel
theorem dX11_cheapest_63 : decode cX11_cheapest 63 = .ok (.iload 6, 2) := by decide +kernel
theorem dX11_cheapest_65 : decode cX11_cheapest 65 = .ok (.iload 9, 2) := by decide +kernel
theorem dX11_cheapest_67 : decode cX11_cheapest 67 = .ok (.iand, 1) := by decide +kernel
theorem dX11_cheapest_68 : decode cX11_cheapest 68 = .ok (.istore 6, 2) := by decide +kernel
theorem dX11_cheapest_70 : decode cX11_cheapest 70 = .ok (.iload 7, 2) := by decide +kernel
theorem dX11_cheapest_72 : decode cX11_cheapest 72 = .ok (.iload 9, 2) := by decide +kernel
theorem dX11_cheapest_74 : decode cX11_cheapest 74 = .ok (.ior, 1) := by decide +kernel
theorem dX11_cheapest_75 : decode cX11_cheapest 75 = .ok (.istore 7, 2) := by decide +kernel
theorem dX11_cheapest_77 : decode cX11_cheapest 77 = .ok (.iinc 8 1, 3) := by decide +kernel
theorem dX11_cheapest_80 : decode cX11_cheapest 80 = .ok (.goto (-40), 3) := by decide +kernel
theorem dX11_cheapest_83 : decode cX11_cheapest 83 = .ok (.ldc_w 328, 3) := by decide +kernel
theorem dX11_cheapest_86 : decode cX11_cheapest 86 = .ok (.istore 8, 2) := by decide +kernel
theorem dX11_cheapest_88 : decode cX11_cheapest 88 = .ok (.iload 6, 2) := by decide +kernel
theorem dX11_cheapest_90 : decode cX11_cheapest 90 = .ok (.iload 7, 2) := by decide +kernel
theorem dX11_cheapest_92 : decode cX11_cheapest 92 = .ok (.iconst (-1), 1) := by decide +kernel
theorem dX11_cheapest_93 : decode cX11_cheapest 93 = .ok (.ixor, 1) := by decide +kernel
theorem dX11_cheapest_94 : decode cX11_cheapest 94 = .ok (.ior, 1) := by decide +kernel
theorem dX11_cheapest_95 : decode cX11_cheapest 95 = .ok (.iload 8, 2) := by decide +kernel
theorem dX11_cheapest_97 : decode cX11_cheapest 97 = .ok (.iand, 1) := by decide +kernel
theorem dX11_cheapest_98 : decode cX11_cheapest 98 = .ok (.istore 9, 2) := by decide +kernel
theorem dX11_cheapest_100 : decode cX11_cheapest 100 = .ok (.iload 9, 2) := by decide +kernel
theorem dX11_cheapest_102 : decode cX11_cheapest 102 = .ok (.iload 7, 2) := by decide +kernel
theorem dX11_cheapest_104 : decode cX11_cheapest 104 = .ok (.iconst (-1), 1) := by decide +kernel
theorem dX11_cheapest_105 : decode cX11_cheapest 105 = .ok (.ixor, 1) := by decide +kernel
theorem dX11_cheapest_106 : decode cX11_cheapest 106 = .ok (.iand, 1) := by decide +kernel
theorem dX11_cheapest_107 : decode cX11_cheapest 107 = .ok (.istore 10, 2) := by decide +kernel
theorem dX11_cheapest_109 : decode cX11_cheapest 109 = .ok (.aload_n 0, 1) := by decide +kernel
theorem dX11_cheapest_110 : decode cX11_cheapest 110 = .ok (.getfield 58, 3) := by decide +kernel
theorem dX11_cheapest_113 : decode cX11_cheapest 113 = .ok (.invokevirtual 329, 3) := by decide +kernel
theorem dX11_cheapest_116 : decode cX11_cheapest 116 = .ok (.iload_n 3, 1) := by decide +kernel
theorem dX11_cheapest_117 : decode cX11_cheapest 117 = .ok (.istore 11, 2) := by decide +kernel
theorem dX11_cheapest_119 : decode cX11_cheapest 119 = .ok (.iload 11, 2) := by decide +kernel
theorem dX11_cheapest_121 : decode cX11_cheapest 121 = .ok (.iload 4, 2) := by decide +kernel
theorem dX11_cheapest_123 : decode cX11_cheapest 123 = .ok (.if_icmp .gt 59, 3) := by decide +kernel
theorem dX11_cheapest_126 : decode cX11_cheapest 126 = .ok (.aload_n 0, 1) := by decide +kernel
theorem dX11_cheapest_127 : decode cX11_cheapest 127 = .ok (.aload_n 0, 1) := by decide +kernel
theorem dX11_cheapest_128 : decode cX11_cheapest 128 = .ok (.getfield 21, 3) := by decide +kernel
theorem dX11_cheapest_131 : decode cX11_cheapest 131 = .ok (.iload 11, 2) := by decide +kernel
theorem dX11_cheapest_133 : decode cX11_cheapest 133 = .ok (.invokevirtual 164, 3) := by decide +kernel
theorem dX11_cheapest_136 : decode cX11_cheapest 136 = .ok (.iload_n 1, 1) := by decide +kernel
theorem dX11_cheapest_137 : decode cX11_cheapest 137 = .ok (.iload_n 2, 1) := by decide +kernel
theorem dX11_cheapest_138 : decode cX11_cheapest 138 = .ok (.iload 9, 2) := by decide +kernel
theorem dX11_cheapest_140 : decode cX11_cheapest 140 = .ok (.invokevirtual 332, 3) := by decide +kernel
theorem dX11_cheapest_143 : decode cX11_cheapest 143 = .ok (.istore 12, 2) := by decide +kernel
theorem dX11_cheapest_145 : decode cX11_cheapest 145 = .ok (.iload 12, 2) := by decide +kernel
theorem dX11_cheapest_147 : decode cX11_cheapest 147 = .ok (.iconst (-1), 1) := by decide +kernel
theorem dX11_cheapest_148 : decode cX11_cheapest 148 = .ok (.if_icmp .eq 28, 3) := by decide +kernel
theorem dX11_cheapest_151 : decode cX11_cheapest 151 = .ok (.iload 5, 2) := by decide +kernel
theorem dX11_cheapest_153 : decode cX11_cheapest 153 = .ok (.iconst 3, 1) := by decide +kernel
theorem dX11_cheapest_154 : decode cX11_cheapest 154 = .ok (.if_icmp .ne 8, 3) := by decide +kernel
theorem dX11_cheapest_157 : decode cX11_cheapest 157 = .ok (.iload 11, 2) := by decide +kernel
theorem dX11_cheapest_159 : decode cX11_cheapest 159 = .ok (.goto 16, 3) := by decide +kernel
theorem dX11_cheapest_162 : decode cX11_cheapest 162 = .ok (.iload 5, 2) := by decide +kernel
theorem dX11_cheapest_164 : decode cX11_cheapest 164 = .ok (.iconst 4, 1) := by decide +kernel
theorem dX11_cheapest_165 : decode cX11_cheapest 165 = .ok (.if_icmp .ne 8, 3) := by decide +kernel
theorem dX11_cheapest_168 : decode cX11_cheapest 168 = .ok (.iload 12, 2) := by decide +kernel
theorem dX11_cheapest_170 : decode cX11_cheapest 170 = .ok (.goto 5, 3) := by decide +kernel
theorem dX11_cheapest_173 : decode cX11_cheapest 173 = .ok (.bipush (-2), 2) := by decide +kernel
theorem dX11_cheapest_175 : decode cX11_cheapest 175 = .ok (.ireturn, 1) := by decide +kernel
theorem dX11_cheapest_176 : decode cX11_cheapest 176 = .ok (.iinc 11 1, 3) := by decide +kernel
theorem dX11_cheapest_179 : decode cX11_cheapest 179 = .ok (.goto (-60), 3) := by decide +kernel
theorem dX11_cheapest_182 : decode cX11_cheapest 182 = .ok (.iload 5, 2) := by decide +kernel
theorem dX11_cheapest_184 : decode cX11_cheapest 184 = .ok (.iconst 2, 1) := by decide +kernel
theorem dX11_cheapest_185 : decode cX11_cheapest 185 = .ok (.if_icmp .le 6, 3) := by decide +kernel
theorem dX11_cheapest_188 : decode cX11_cheapest 188 = .ok (.bipush (-2), 2) := by decide +kernel
theorem dX11_cheapest_190 : decode cX11_cheapest 190 = .ok (.ireturn, 1) := by decide +kernel
theorem dX11_cheapest_191 : decode cX11_cheapest 191 = .ok (.iconst 0, 1) := by decide +kernel
theorem dX11_cheapest_192 : decode cX11_cheapest 192 = .ok (.istore 11, 2) := by decide +kernel
theorem dX11_cheapest_194 : decode cX11_cheapest 194 = .ok (.iload 11, 2) := by decide +kernel
theorem dX11_cheapest_196 : decode cX11_cheapest 196 = .ok (.bipush 16, 2) := by decide +kernel
theorem dX11_cheapest_198 : decode cX11_cheapest 198 = .ok (.if_icmp .ge 58, 3) := by decide +kernel
theorem dX11_cheapest_201 : decode cX11_cheapest 201 = .ok (.iload 10, 2) := by decide +kernel
theorem dX11_cheapest_203 : decode cX11_cheapest 203 = .ok (.iload 11, 2) := by decide +kernel
theorem dX11_cheapest_205 : decode cX11_cheapest 205 = .ok (.invokestatic 141, 3) := by decide +kernel
theorem dX11_cheapest_208 : decode cX11_cheapest 208 = .ok (.ifCond .eq 16, 3) := by decide +kernel
theorem dX11_cheapest_211 : decode cX11_cheapest 211 = .ok (.aload_n 0, 1) := by decide +kernel
theorem dX11_cheapest_212 : decode cX11_cheapest 212 = .ok (.getfield 12, 3) := by decide +kernel
theorem dX11_cheapest_215 : decode cX11_cheapest 215 = .ok (.getfield 144, 3) := by decide +kernel
theorem dX11_cheapest_218 : decode cX11_cheapest 218 = .ok (.bipush 16, 2) := by decide +kernel
theorem dX11_cheapest_220 : decode cX11_cheapest 220 = .ok (.iaload, 1) := by decide +kernel
theorem dX11_cheapest_221 : decode cX11_cheapest 221 = .ok (.goto 4, 3) := by decide +kernel
theorem dX11_cheapest_224 : decode cX11_cheapest 224 = .ok (.iconst 0, 1) := by decide +kernel
theorem dX11_cheapest_225 : decode cX11_cheapest 225 = .ok (.istore 12, 2) := by decide +kernel
theorem dX11_cheapest_227 : decode cX11_cheapest 227 = .ok (.aload_n 0, 1) := by decide +kernel
theorem dX11_cheapest_228 : decode cX11_cheapest 228 = .ok (.getfield 58, 3) := by decide +kernel
theorem dX11_cheapest_231 : decode cX11_cheapest 231 = .ok (.getfield 336, 3) := by decide +kernel
theorem dX11_cheapest_234 : decode cX11_cheapest 234 = .ok (.iload 11, 2) := by decide +kernel
theorem dX11_cheapest_236 : decode cX11_cheapest 236 = .ok (.aload_n 0, 1) := by decide +kernel
theorem dX11_cheapest_237 : decode cX11_cheapest 237 = .ok (.getfield 12, 3) := by decide +kernel
theorem dX11_cheapest_240 : decode cX11_cheapest 240 = .ok (.getfield 144, 3) := by decide +kernel
theorem dX11_cheapest_243 : decode cX11_cheapest 243 = .ok (.iload 11, 2) := by decide +kernel
theorem dX11_cheapest_245 : decode cX11_cheapest 245 = .ok (.iaload, 1) := by decide +kernel
theorem dX11_cheapest_246 : decode cX11_cheapest 246 = .ok (.iload 12, 2) := by decide +kernel
theorem dX11_cheapest_248 : decode cX11_cheapest 248 = .ok (.iadd, 1) := by decide +kernel
theorem dX11_cheapest_249 : decode cX11_cheapest 249 = .ok (.iastore, 1) := by decide +kernel
theorem dX11_cheapest_250 : decode cX11_cheapest 250 = .ok (.iinc 11 1, 3) := by decide +kernel
theorem dX11_cheapest_253 : decode cX11_cheapest 253 = .ok (.goto (-59), 3) := by decide +kernel
theorem dX11_cheapest_256 : decode cX11_cheapest 256 = .ok (.aload_n 0, 1) := by decide +kernel
theorem dX11_cheapest_257 : decode cX11_cheapest 257 = .ok (.getfield 58, 3) := by decide +kernel
theorem dX11_cheapest_260 : decode cX11_cheapest 260 = .ok (.invokevirtual 339, 3) := by decide +kernel
theorem dX11_cheapest_263 : decode cX11_cheapest 263 = .ok (.iload 5, 2) := by decide +kernel
theorem dX11_cheapest_265 : decode cX11_cheapest 265 = .ok (.ifCond .ne 11, 3) := by decide +kernel
theorem dX11_cheapest_268 : decode cX11_cheapest 268 = .ok (.aload_n 0, 1) := by decide +kernel
theorem dX11_cheapest_269 : decode cX11_cheapest 269 = .ok (.getfield 58, 3) := by decide +kernel
theorem dX11_cheapest_272 : decode cX11_cheapest 272 = .ok (.getfield 342, 3) := by decide +kernel
theorem dX11_cheapest_275 : decode cX11_cheapest 275 = .ok (.ireturn, 1) := by decide +kernel
theorem dX11_cheapest_276 : decode cX11_cheapest 276 = .ok (.iload 5, 2) := by decide +kernel
theorem dX11_cheapest_278 : decode cX11_cheapest 278 = .ok (.iconst 1, 1) := by decide +kernel
theorem dX11_cheapest_279 : decode cX11_cheapest 279 = .ok (.if_icmp .ne 13, 3) := by decide +kernel
theorem dX11_cheapest_282 : decode cX11_cheapest 282 = .ok (.aload_n 0, 1) := by decide +kernel
theorem dX11_cheapest_283 : decode cX11_cheapest 283 = .ok (.getfield 58, 3) := by decide +kernel
theorem dX11_cheapest_286 : decode cX11_cheapest 286 = .ok (.getfield 345, 3) := by decide +kernel
theorem dX11_cheapest_289 : decode cX11_cheapest 289 = .ok (.goto 13, 3) := by decide +kernel
theorem dX11_cheapest_292 : decode cX11_cheapest 292 = .ok (.aload_n 0, 1) := by decide +kernel
theorem dX11_cheapest_293 : decode cX11_cheapest 293 = .ok (.getfield 58, 3) := by decide +kernel
theorem dX11_cheapest_296 : decode cX11_cheapest 296 = .ok (.getfield 345, 3) := by decide +kernel
theorem dX11_cheapest_299 : decode cX11_cheapest 299 = .ok (.iload 10, 2) := by decide +kernel
theorem dX11_cheapest_301 : decode cX11_cheapest 301 = .ok (.iand, 1) := by decide +kernel
theorem dX11_cheapest_302 : decode cX11_cheapest 302 = .ok (.ireturn, 1) := by decide +kernel
theorem dX11_apart_0 : decode cX11_apart 0 = .ok (.iload_n 1, 1) := by decide +kernel
theorem dX11_apart_1 : decode cX11_apart 1 = .ok (.iload_n 2, 1) := by decide +kernel
theorem dX11_apart_2 : decode cX11_apart 2 = .ok (.invokestatic 322, 3) := by decide +kernel
theorem dX11_apart_5 : decode cX11_apart 5 = .ok (.ifCond .eq 12, 3) := by decide +kernel
theorem dX11_apart_8 : decode cX11_apart 8 = .ok (.iload_n 3, 1) := by decide +kernel
theorem dX11_apart_9 : decode cX11_apart 9 = .ok (.ifCond .lt 8, 3) := by decide +kernel
theorem dX11_apart_12 : decode cX11_apart 12 = .ok (.iload_n 3, 1) := by decide +kernel
theorem dX11_apart_13 : decode cX11_apart 13 = .ok (.iconst 1, 1) := by decide +kernel
theorem dX11_apart_14 : decode cX11_apart 14 = .ok (.if_icmp .le 5, 3) := by decide +kernel
theorem dX11_apart_17 : decode cX11_apart 17 = .ok (.iconst (-1), 1) := by decide +kernel
theorem dX11_apart_18 : decode cX11_apart 18 = .ok (.ireturn, 1) := by decide +kernel
theorem dX11_apart_19 : decode cX11_apart 19 = .ok (.aload_n 0, 1) := by decide +kernel
theorem dX11_apart_20 : decode cX11_apart 20 = .ok (.getfield 58, 3) := by decide +kernel
theorem dX11_apart_23 : decode cX11_apart 23 = .ok (.invokevirtual 329, 3) := by decide +kernel
theorem dX11_apart_26 : decode cX11_apart 26 = .ok (.aconst_null, 1) := by decide +kernel
theorem dX11_apart_27 : decode cX11_apart 27 = .ok (.astore 4, 2) := by decide +kernel
theorem dX11_apart_29 : decode cX11_apart 29 = .ok (.iload_n 1, 1) := by decide +kernel
theorem dX11_apart_30 : decode cX11_apart 30 = .ok (.istore 5, 2) := by decide +kernel
theorem dX11_apart_32 : decode cX11_apart 32 = .ok (.iload 5, 2) := by decide +kernel
theorem dX11_apart_34 : decode cX11_apart 34 = .ok (.iload_n 2, 1) := by decide +kernel
theorem dX11_apart_35 : decode cX11_apart 35 = .ok (.if_icmp .gt 37, 3) := by decide +kernel
theorem dX11_apart_38 : decode cX11_apart 38 = .ok (.aload_n 0, 1) := by decide +kernel
theorem dX11_apart_39 : decode cX11_apart 39 = .ok (.getfield 21, 3) := by decide +kernel
theorem dX11_apart_42 : decode cX11_apart 42 = .ok (.iload 5, 2) := by decide +kernel
theorem dX11_apart_44 : decode cX11_apart 44 = .ok (.invokevirtual 164, 3) := by decide +kernel
theorem dX11_apart_47 : decode cX11_apart 47 = .ok (.astore 6, 2) := by decide +kernel
theorem dX11_apart_49 : decode cX11_apart 49 = .ok (.aload 6, 2) := by decide +kernel
theorem dX11_apart_51 : decode cX11_apart 51 = .ok (.aload 4, 2) := by decide +kernel
theorem dX11_apart_53 : decode cX11_apart 53 = .ok (.if_acmp .eq 9, 3) := by decide +kernel
theorem dX11_apart_56 : decode cX11_apart 56 = .ok (.aload_n 0, 1) := by decide +kernel
theorem dX11_apart_57 : decode cX11_apart 57 = .ok (.aload 6, 2) := by decide +kernel
theorem dX11_apart_59 : decode cX11_apart 59 = .ok (.invokevirtual 348, 3) := by decide +kernel
theorem dX11_apart_62 : decode cX11_apart 62 = .ok (.aload 6, 2) := by decide +kernel
theorem dX11_apart_64 : decode cX11_apart 64 = .ok (.astore 4, 2) := by decide +kernel
theorem dX11_apart_66 : decode cX11_apart 66 = .ok (.iinc 5 1, 3) := by decide +kernel
theorem dX11_apart_69 : decode cX11_apart 69 = .ok (.goto (-37), 3) := by decide +kernel
theorem dX11_apart_72 : decode cX11_apart 72 = .ok (.iload_n 3, 1) := by decide +kernel
theorem dX11_apart_73 : decode cX11_apart 73 = .ok (.iconst 1, 1) := by decide +kernel
theorem dX11_apart_74 : decode cX11_apart 74 = .ok (.if_icmp .ne 11, 3) := by decide +kernel
theorem dX11_apart_77 : decode cX11_apart 77 = .ok (.aload_n 0, 1) := by decide +kernel
theorem dX11_apart_78 : decode cX11_apart 78 = .ok (.getfield 58, 3) := by decide +kernel
theorem dX11_apart_81 : decode cX11_apart 81 = .ok (.getfield 352, 3) := by decide +kernel
theorem dX11_apart_84 : decode cX11_apart 84 = .ok (.ireturn, 1) := by decide +kernel
theorem dX11_apart_85 : decode cX11_apart 85 = .ok (.aload_n 0, 1) := by decide +kernel
theorem dX11_apart_86 : decode cX11_apart 86 = .ok (.getfield 58, 3) := by decide +kernel
theorem dX11_apart_89 : decode cX11_apart 89 = .ok (.getfield 355, 3) := by decide +kernel
theorem dX11_apart_92 : decode cX11_apart 92 = .ok (.ifCond .eq 6, 3) := by decide +kernel
theorem dX11_apart_95 : decode cX11_apart 95 = .ok (.bipush (-2), 2) := by decide +kernel
theorem dX11_apart_97 : decode cX11_apart 97 = .ok (.ireturn, 1) := by decide +kernel
theorem dX11_apart_98 : decode cX11_apart 98 = .ok (.aload_n 0, 1) := by decide +kernel
theorem dX11_apart_99 : decode cX11_apart 99 = .ok (.getfield 58, 3) := by decide +kernel
theorem dX11_apart_102 : decode cX11_apart 102 = .ok (.getfield 336, 3) := by decide +kernel
theorem dX11_apart_105 : decode cX11_apart 105 = .ok (.iconst 0, 1) := by decide +kernel
theorem dX11_apart_106 : decode cX11_apart 106 = .ok (.invokestatic 316, 3) := by decide +kernel
theorem dX11_apart_109 : decode cX11_apart 109 = .ok (.aload_n 0, 1) := by decide +kernel
theorem dX11_apart_110 : decode cX11_apart 110 = .ok (.getfield 58, 3) := by decide +kernel
theorem dX11_apart_113 : decode cX11_apart 113 = .ok (.invokevirtual 339, 3) := by decide +kernel
theorem dX11_apart_116 : decode cX11_apart 116 = .ok (.aload_n 0, 1) := by decide +kernel
theorem dX11_apart_117 : decode cX11_apart 117 = .ok (.getfield 58, 3) := by decide +kernel
theorem dX11_apart_120 : decode cX11_apart 120 = .ok (.getfield 345, 3) := by decide +kernel
theorem dX11_apart_123 : decode cX11_apart 123 = .ok (.ireturn, 1) := by decide +kernel
theorem dX11_chain_0 : decode cX11_chain 0 = .ok (.aload_n 0, 1) := by decide +kernel
theorem dX11_chain_1 : decode cX11_chain 1 = .ok (.iload_n 1, 1) := by decide +kernel
theorem dX11_chain_2 : decode cX11_chain 2 = .ok (.invokevirtual 127, 3) := by decide +kernel
theorem dX11_chain_5 : decode cX11_chain 5 = .ok (.ifCond .eq 11, 3) := by decide +kernel
theorem dX11_chain_8 : decode cX11_chain 8 = .ok (.aload_n 0, 1) := by decide +kernel
theorem dX11_chain_9 : decode cX11_chain 9 = .ok (.iload_n 2, 1) := by decide +kernel
theorem dX11_chain_10 : decode cX11_chain 10 = .ok (.invokevirtual 127, 3) := by decide +kernel
theorem dX11_chain_13 : decode cX11_chain 13 = .ok (.ifCond .ne 5, 3) := by decide +kernel
theorem dX11_chain_16 : decode cX11_chain 16 = .ok (.iconst (-1), 1) := by decide +kernel
theorem dX11_chain_17 : decode cX11_chain 17 = .ok (.ireturn, 1) := by decide +kernel
theorem dX11_chain_18 : decode cX11_chain 18 = .ok (.iconst 1, 1) := by decide +kernel
theorem dX11_chain_19 : decode cX11_chain 19 = .ok (.iload_n 1, 1) := by decide +kernel
theorem dX11_chain_20 : decode cX11_chain 20 = .ok (.ishl, 1) := by decide +kernel
theorem dX11_chain_21 : decode cX11_chain 21 = .ok (.istore_n 3, 1) := by decide +kernel
theorem dX11_chain_22 : decode cX11_chain 22 = .ok (.iconst 0, 1) := by decide +kernel
theorem dX11_chain_23 : decode cX11_chain 23 = .ok (.istore 4, 2) := by decide +kernel
theorem dX11_chain_25 : decode cX11_chain 25 = .ok (.iload 4, 2) := by decide +kernel
theorem dX11_chain_27 : decode cX11_chain 27 = .ok (.bipush 12, 2) := by decide +kernel
theorem dX11_chain_29 : decode cX11_chain 29 = .ok (.if_icmp .ge 26, 3) := by decide +kernel
theorem dX11_chain_32 : decode cX11_chain 32 = .ok (.iload_n 3, 1) := by decide +kernel
theorem dX11_chain_33 : decode cX11_chain 33 = .ok (.iload_n 2, 1) := by decide +kernel
theorem dX11_chain_34 : decode cX11_chain 34 = .ok (.invokestatic 141, 3) := by decide +kernel
theorem dX11_chain_37 : decode cX11_chain 37 = .ok (.ifCond .eq 6, 3) := by decide +kernel
theorem dX11_chain_40 : decode cX11_chain 40 = .ok (.iload 4, 2) := by decide +kernel
theorem dX11_chain_42 : decode cX11_chain 42 = .ok (.ireturn, 1) := by decide +kernel
theorem dX11_chain_43 : decode cX11_chain 43 = .ok (.aload_n 0, 1) := by decide +kernel
theorem dX11_chain_44 : decode cX11_chain 44 = .ok (.iload_n 3, 1) := by decide +kernel
theorem dX11_chain_45 : decode cX11_chain 45 = .ok (.invokevirtual 359, 3) := by decide +kernel
theorem dX11_chain_48 : decode cX11_chain 48 = .ok (.istore_n 3, 1) := by decide +kernel
theorem dX11_chain_49 : decode cX11_chain 49 = .ok (.iinc 4 1, 3) := by decide +kernel
theorem dX11_chain_52 : decode cX11_chain 52 = .ok (.goto (-27), 3) := by decide +kernel
theorem dX11_chain_55 : decode cX11_chain 55 = .ok (.bipush (-2), 2) := by decide +kernel
theorem dX11_chain_57 : decode cX11_chain 57 = .ok (.ireturn, 1) := by decide +kernel
theorem dX11_circle_0 : decode cX11_circle 0 = .ok (.aload_n 0, 1) := by decide +kernel
theorem dX11_circle_1 : decode cX11_circle 1 = .ok (.iload_n 1, 1) := by decide +kernel
theorem dX11_circle_2 : decode cX11_circle 2 = .ok (.invokevirtual 127, 3) := by decide +kernel
theorem dX11_circle_5 : decode cX11_circle 5 = .ok (.ifCond .ne 5, 3) := by decide +kernel
theorem dX11_circle_8 : decode cX11_circle 8 = .ok (.iconst (-1), 1) := by decide +kernel
theorem dX11_circle_9 : decode cX11_circle 9 = .ok (.ireturn, 1) := by decide +kernel
theorem dX11_circle_10 : decode cX11_circle 10 = .ok (.iconst 1, 1) := by decide +kernel
theorem dX11_circle_11 : decode cX11_circle 11 = .ok (.iload_n 1, 1) := by decide +kernel
theorem dX11_circle_12 : decode cX11_circle 12 = .ok (.ishl, 1) := by decide +kernel
theorem dX11_circle_13 : decode cX11_circle 13 = .ok (.istore_n 2, 1) := by decide +kernel
theorem dX11_circle_14 : decode cX11_circle 14 = .ok (.iconst 0, 1) := by decide +kernel
theorem dX11_circle_15 : decode cX11_circle 15 = .ok (.istore_n 3, 1) := by decide +kernel
theorem dX11_circle_16 : decode cX11_circle 16 = .ok (.iload_n 3, 1) := by decide +kernel
theorem dX11_circle_17 : decode cX11_circle 17 = .ok (.bipush 12, 2) := by decide +kernel
theorem dX11_circle_19 : decode cX11_circle 19 = .ok (.if_icmp .ge 15, 3) := by decide +kernel
theorem dX11_circle_22 : decode cX11_circle 22 = .ok (.aload_n 0, 1) := by decide +kernel
theorem dX11_circle_23 : decode cX11_circle 23 = .ok (.iload_n 2, 1) := by decide +kernel
theorem dX11_circle_24 : decode cX11_circle 24 = .ok (.invokevirtual 359, 3) := by decide +kernel
theorem dX11_circle_27 : decode cX11_circle 27 = .ok (.istore_n 2, 1) := by decide +kernel
theorem dX11_circle_28 : decode cX11_circle 28 = .ok (.iinc 3 1, 3) := by decide +kernel
theorem dX11_circle_31 : decode cX11_circle 31 = .ok (.goto (-15), 3) := by decide +kernel
theorem dX11_circle_34 : decode cX11_circle 34 = .ok (.iload_n 2, 1) := by decide +kernel
theorem dX11_circle_35 : decode cX11_circle 35 = .ok (.ireturn, 1) := by decide +kernel
theorem dX11_strangers_0 : decode cX11_strangers 0 = .ok (.iload_n 1, 1) := by decide +kernel
theorem dX11_strangers_1 : decode cX11_strangers 1 = .ok (.invokestatic 124, 3) := by decide +kernel
theorem dX11_strangers_4 : decode cX11_strangers 4 = .ok (.ifCond .ne 5, 3) := by decide +kernel
theorem dX11_strangers_7 : decode cX11_strangers 7 = .ok (.iconst (-1), 1) := by decide +kernel
theorem dX11_strangers_8 : decode cX11_strangers 8 = .ok (.ireturn, 1) := by decide +kernel
theorem dX11_strangers_9 : decode cX11_strangers 9 = .ok (.aload_n 0, 1) := by decide +kernel
theorem dX11_strangers_10 : decode cX11_strangers 10 = .ok (.getfield 21, 3) := by decide +kernel
theorem dX11_strangers_13 : decode cX11_strangers 13 = .ok (.iload_n 1, 1) := by decide +kernel
theorem dX11_strangers_14 : decode cX11_strangers 14 = .ok (.invokevirtual 164, 3) := by decide +kernel
theorem dX11_strangers_17 : decode cX11_strangers 17 = .ok (.astore_n 2, 1) := by decide +kernel
theorem dX11_strangers_18 : decode cX11_strangers 18 = .ok (.iconst 0, 1) := by decide +kernel
theorem dX11_strangers_19 : decode cX11_strangers 19 = .ok (.istore_n 3, 1) := by decide +kernel
theorem dX11_strangers_20 : decode cX11_strangers 20 = .ok (.iconst 0, 1) := by decide +kernel
theorem dX11_strangers_21 : decode cX11_strangers 21 = .ok (.istore 4, 2) := by decide +kernel
theorem dX11_strangers_23 : decode cX11_strangers 23 = .ok (.iload 4, 2) := by decide +kernel
theorem dX11_strangers_25 : decode cX11_strangers 25 = .ok (.aload_n 0, 1) := by decide +kernel
theorem dX11_strangers_26 : decode cX11_strangers 26 = .ok (.getfield 12, 3) := by decide +kernel
theorem dX11_strangers_29 : decode cX11_strangers 29 = .ok (.getfield 111, 3) := by decide +kernel
theorem dX11_strangers_32 : decode cX11_strangers 32 = .ok (.if_icmp .ge 75, 3) := by decide +kernel
theorem dX11_strangers_35 : decode cX11_strangers 35 = .ok (.iconst 0, 1) := by decide +kernel
theorem dX11_strangers_36 : decode cX11_strangers 36 = .ok (.istore 5, 2) := by decide +kernel
theorem dX11_strangers_38 : decode cX11_strangers 38 = .ok (.iload 5, 2) := by decide +kernel
theorem dX11_strangers_40 : decode cX11_strangers 40 = .ok (.iload 4, 2) := by decide +kernel
theorem dX11_strangers_42 : decode cX11_strangers 42 = .ok (.if_icmp .ge 59, 3) := by decide +kernel
theorem dX11_strangers_45 : decode cX11_strangers 45 = .ok (.aload_n 0, 1) := by decide +kernel
theorem dX11_strangers_46 : decode cX11_strangers 46 = .ok (.iload 4, 2) := by decide +kernel
theorem dX11_strangers_48 : decode cX11_strangers 48 = .ok (.aload_n 2, 1) := by decide +kernel
theorem dX11_strangers_49 : decode cX11_strangers 49 = .ok (.invokevirtual 180, 3) := by decide +kernel
theorem dX11_strangers_52 : decode cX11_strangers 52 = .ok (.iload 5, 2) := by decide +kernel
theorem dX11_strangers_54 : decode cX11_strangers 54 = .ok (.invokestatic 141, 3) := by decide +kernel
theorem dX11_strangers_57 : decode cX11_strangers 57 = .ok (.ifCond .ne 18, 3) := by decide +kernel
theorem dX11_strangers_60 : decode cX11_strangers 60 = .ok (.aload_n 0, 1) := by decide +kernel
theorem dX11_strangers_61 : decode cX11_strangers 61 = .ok (.iload 5, 2) := by decide +kernel
theorem dX11_strangers_63 : decode cX11_strangers 63 = .ok (.aload_n 2, 1) := by decide +kernel
theorem dX11_strangers_64 : decode cX11_strangers 64 = .ok (.invokevirtual 180, 3) := by decide +kernel
theorem dX11_strangers_67 : decode cX11_strangers 67 = .ok (.iload 4, 2) := by decide +kernel
theorem dX11_strangers_69 : decode cX11_strangers 69 = .ok (.invokestatic 141, 3) := by decide +kernel
theorem dX11_strangers_72 : decode cX11_strangers 72 = .ok (.ifCond .eq 7, 3) := by decide +kernel
theorem dX11_strangers_75 : decode cX11_strangers 75 = .ok (.iconst 1, 1) := by decide +kernel
theorem dX11_strangers_76 : decode cX11_strangers 76 = .ok (.goto 4, 3) := by decide +kernel
theorem dX11_strangers_79 : decode cX11_strangers 79 = .ok (.iconst 0, 1) := by decide +kernel
theorem dX11_strangers_80 : decode cX11_strangers 80 = .ok (.istore 6, 2) := by decide +kernel
theorem dX11_strangers_82 : decode cX11_strangers 82 = .ok (.iload_n 3, 1) := by decide +kernel
theorem dX11_strangers_83 : decode cX11_strangers 83 = .ok (.iload 6, 2) := by decide +kernel
theorem dX11_strangers_85 : decode cX11_strangers 85 = .ok (.ifCond .eq 7, 3) := by decide +kernel
theorem dX11_strangers_88 : decode cX11_strangers 88 = .ok (.iconst 0, 1) := by decide +kernel
theorem dX11_strangers_89 : decode cX11_strangers 89 = .ok (.goto 4, 3) := by decide +kernel
theorem dX11_strangers_92 : decode cX11_strangers 92 = .ok (.iconst 1, 1) := by decide +kernel
theorem dX11_strangers_93 : decode cX11_strangers 93 = .ok (.iadd, 1) := by decide +kernel
theorem dX11_strangers_94 : decode cX11_strangers 94 = .ok (.istore_n 3, 1) := by decide +kernel
theorem dX11_strangers_95 : decode cX11_strangers 95 = .ok (.iinc 5 1, 3) := by decide +kernel
theorem dX11_strangers_98 : decode cX11_strangers 98 = .ok (.goto (-60), 3) := by decide +kernel
theorem dX11_strangers_101 : decode cX11_strangers 101 = .ok (.iinc 4 1, 3) := by decide +kernel
theorem dX11_strangers_104 : decode cX11_strangers 104 = .ok (.goto (-81), 3) := by decide +kernel
theorem dX11_strangers_107 : decode cX11_strangers 107 = .ok (.iload_n 3, 1) := by decide +kernel
theorem dX11_strangers_108 : decode cX11_strangers 108 = .ok (.ireturn, 1) := by decide +kernel
theorem dX11_count_0 : decode cX11_count 0 = .ok (.iload_n 1, 1) := by decide +kernel
theorem dX11_count_1 : decode cX11_count 1 = .ok (.tableswitch 130 0 9 #[55, 63, 71, 79, 84, 92, 101, 109, 117, 125], 55) := by decide +kernel
theorem dX11_count_56 : decode cX11_count 56 = .ok (.aload_n 0, 1) := by decide +kernel
theorem dX11_count_57 : decode cX11_count 57 = .ok (.getfield 12, 3) := by decide +kernel
theorem dX11_count_60 : decode cX11_count 60 = .ok (.getfield 111, 3) := by decide +kernel
theorem dX11_count_63 : decode cX11_count 63 = .ok (.ireturn, 1) := by decide +kernel
theorem dX11_count_64 : decode cX11_count 64 = .ok (.aload_n 0, 1) := by decide +kernel
theorem dX11_count_65 : decode cX11_count 65 = .ok (.getfield 12, 3) := by decide +kernel
theorem dX11_count_68 : decode cX11_count 68 = .ok (.getfield 100, 3) := by decide +kernel
theorem dX11_count_71 : decode cX11_count 71 = .ok (.ireturn, 1) := by decide +kernel
theorem dX11_count_72 : decode cX11_count 72 = .ok (.aload_n 0, 1) := by decide +kernel
theorem dX11_count_73 : decode cX11_count 73 = .ok (.getfield 12, 3) := by decide +kernel
theorem dX11_count_76 : decode cX11_count 76 = .ok (.getfield 121, 3) := by decide +kernel
theorem dX11_count_79 : decode cX11_count 79 = .ok (.ireturn, 1) := by decide +kernel
theorem dX11_count_80 : decode cX11_count 80 = .ok (.aload_n 0, 1) := by decide +kernel
theorem dX11_count_81 : decode cX11_count 81 = .ok (.getfield 153, 3) := by decide +kernel
theorem dX11_count_84 : decode cX11_count 84 = .ok (.ireturn, 1) := by decide +kernel
theorem dX11_count_85 : decode cX11_count 85 = .ok (.aload_n 0, 1) := by decide +kernel
theorem dX11_count_86 : decode cX11_count 86 = .ok (.getfield 12, 3) := by decide +kernel
theorem dX11_count_89 : decode cX11_count 89 = .ok (.getfield 224, 3) := by decide +kernel
theorem dX11_count_92 : decode cX11_count 92 = .ok (.ireturn, 1) := by decide +kernel
theorem dX11_count_93 : decode cX11_count 93 = .ok (.aload_n 0, 1) := by decide +kernel
theorem dX11_count_94 : decode cX11_count 94 = .ok (.getfield 12, 3) := by decide +kernel
theorem dX11_count_97 : decode cX11_count 97 = .ok (.iconst 0, 1) := by decide +kernel
theorem dX11_count_98 : decode cX11_count 98 = .ok (.invokevirtual 240, 3) := by decide +kernel
theorem dX11_count_101 : decode cX11_count 101 = .ok (.ireturn, 1) := by decide +kernel
theorem dX11_count_102 : decode cX11_count 102 = .ok (.aload_n 0, 1) := by decide +kernel
theorem dX11_count_103 : decode cX11_count 103 = .ok (.getfield 12, 3) := by decide +kernel
theorem dX11_count_106 : decode cX11_count 106 = .ok (.invokevirtual 362, 3) := by decide +kernel
theorem dX11_count_109 : decode cX11_count 109 = .ok (.ireturn, 1) := by decide +kernel
theorem dX11_count_110 : decode cX11_count 110 = .ok (.aload_n 0, 1) := by decide +kernel
theorem dX11_count_111 : decode cX11_count 111 = .ok (.getfield 12, 3) := by decide +kernel
theorem dX11_count_114 : decode cX11_count 114 = .ok (.getfield 231, 3) := by decide +kernel
theorem dX11_count_117 : decode cX11_count 117 = .ok (.ireturn, 1) := by decide +kernel
theorem dX11_count_118 : decode cX11_count 118 = .ok (.aload_n 0, 1) := by decide +kernel
theorem dX11_count_119 : decode cX11_count 119 = .ok (.getfield 12, 3) := by decide +kernel
theorem dX11_count_122 : decode cX11_count 122 = .ok (.getfield 279, 3) := by decide +kernel
theorem dX11_count_125 : decode cX11_count 125 = .ok (.ireturn, 1) := by decide +kernel
theorem dX11_count_126 : decode cX11_count 126 = .ok (.aload_n 0, 1) := by decide +kernel
theorem dX11_count_127 : decode cX11_count 127 = .ok (.getfield 147, 3) := by decide +kernel
theorem dX11_count_130 : decode cX11_count 130 = .ok (.ireturn, 1) := by decide +kernel
theorem dX11_count_131 : decode cX11_count 131 = .ok (.iconst (-1), 1) := by decide +kernel
theorem dX11_count_132 : decode cX11_count 132 = .ok (.ireturn, 1) := by decide +kernel
theorem dX11_image_0 : decode cX11_image 0 = .ok (.iload_n 1, 1) := by decide +kernel
theorem dX11_image_1 : decode cX11_image 1 = .ok (.ifCond .lt 8, 3) := by decide +kernel
theorem dX11_image_4 : decode cX11_image 4 = .ok (.iload_n 1, 1) := by decide +kernel
theorem dX11_image_5 : decode cX11_image 5 = .ok (.iconst 4, 1) := by decide +kernel
theorem dX11_image_6 : decode cX11_image 6 = .ok (.if_icmp .lt 5, 3) := by decide +kernel
theorem dX11_image_9 : decode cX11_image 9 = .ok (.iconst (-1), 1) := by decide +kernel
theorem dX11_image_10 : decode cX11_image 10 = .ok (.ireturn, 1) := by decide +kernel
theorem dX11_image_11 : decode cX11_image 11 = .ok (.aload_n 0, 1) := by decide +kernel
theorem dX11_image_12 : decode cX11_image 12 = .ok (.getfield 86, 3) := by decide +kernel
theorem dX11_image_15 : decode cX11_image 15 = .ok (.iload_n 1, 1) := by decide +kernel
theorem dX11_image_16 : decode cX11_image 16 = .ok (.aaload, 1) := by decide +kernel
theorem dX11_image_17 : decode cX11_image 17 = .ok (.astore_n 2, 1) := by decide +kernel
theorem dX11_image_18 : decode cX11_image 18 = .ok (.aload_n 2, 1) := by decide +kernel
theorem dX11_image_19 : decode cX11_image 19 = .ok (.ifnonnull 18, 3) := by decide +kernel
theorem dX11_image_22 : decode cX11_image 22 = .ok (.new 9, 3) := by decide +kernel
theorem dX11_image_25 : decode cX11_image 25 = .ok (.dup, 1) := by decide +kernel
theorem dX11_image_26 : decode cX11_image 26 = .ok (.invokespecial 11, 3) := by decide +kernel
theorem dX11_image_29 : decode cX11_image 29 = .ok (.astore_n 2, 1) := by decide +kernel
theorem dX11_image_30 : decode cX11_image 30 = .ok (.aload_n 0, 1) := by decide +kernel
theorem dX11_image_31 : decode cX11_image 31 = .ok (.getfield 86, 3) := by decide +kernel
theorem dX11_image_34 : decode cX11_image 34 = .ok (.iload_n 1, 1) := by decide +kernel
theorem dX11_image_35 : decode cX11_image 35 = .ok (.aload_n 2, 1) := by decide +kernel
theorem dX11_image_36 : decode cX11_image 36 = .ok (.aastore, 1) := by decide +kernel
theorem dX11_image_37 : decode cX11_image 37 = .ok (.aload_n 2, 1) := by decide +kernel
theorem dX11_image_38 : decode cX11_image 38 = .ok (.aload_n 0, 1) := by decide +kernel
theorem dX11_image_39 : decode cX11_image 39 = .ok (.getfield 12, 3) := by decide +kernel
theorem dX11_image_42 : decode cX11_image 42 = .ok (.invokevirtual 365, 3) := by decide +kernel
theorem dX11_image_45 : decode cX11_image 45 = .ok (.aload_n 0, 1) := by decide +kernel
theorem dX11_image_46 : decode cX11_image 46 = .ok (.getfield 12, 3) := by decide +kernel
theorem dX11_image_49 : decode cX11_image 49 = .ok (.getfield 231, 3) := by decide +kernel
theorem dX11_image_52 : decode cX11_image 52 = .ok (.ireturn, 1) := by decide +kernel
theorem dX11_back_0 : decode cX11_back 0 = .ok (.iload_n 1, 1) := by decide +kernel
theorem dX11_back_1 : decode cX11_back 1 = .ok (.ifCond .lt 8, 3) := by decide +kernel
theorem dX11_back_4 : decode cX11_back 4 = .ok (.iload_n 1, 1) := by decide +kernel
theorem dX11_back_5 : decode cX11_back 5 = .ok (.iconst 4, 1) := by decide +kernel
theorem dX11_back_6 : decode cX11_back 6 = .ok (.if_icmp .lt 5, 3) := by decide +kernel
theorem dX11_back_9 : decode cX11_back 9 = .ok (.iconst (-1), 1) := by decide +kernel
theorem dX11_back_10 : decode cX11_back 10 = .ok (.ireturn, 1) := by decide +kernel
theorem dX11_back_11 : decode cX11_back 11 = .ok (.aload_n 0, 1) := by decide +kernel
theorem dX11_back_12 : decode cX11_back 12 = .ok (.getfield 86, 3) := by decide +kernel
theorem dX11_back_15 : decode cX11_back 15 = .ok (.iload_n 1, 1) := by decide +kernel
theorem dX11_back_16 : decode cX11_back 16 = .ok (.aaload, 1) := by decide +kernel
theorem dX11_back_17 : decode cX11_back 17 = .ok (.astore_n 2, 1) := by decide +kernel
theorem dX11_back_18 : decode cX11_back 18 = .ok (.aload_n 2, 1) := by decide +kernel
theorem dX11_back_19 : decode cX11_back 19 = .ok (.ifnonnull 5, 3) := by decide +kernel
theorem dX11_back_22 : decode cX11_back 22 = .ok (.iconst (-1), 1) := by decide +kernel
theorem dX11_back_23 : decode cX11_back 23 = .ok (.ireturn, 1) := by decide +kernel
theorem dX11_back_24 : decode cX11_back 24 = .ok (.aload_n 0, 1) := by decide +kernel
theorem dX11_back_25 : decode cX11_back 25 = .ok (.getfield 12, 3) := by decide +kernel
theorem dX11_back_28 : decode cX11_back 28 = .ok (.aload_n 2, 1) := by decide +kernel
theorem dX11_back_29 : decode cX11_back 29 = .ok (.invokevirtual 365, 3) := by decide +kernel
theorem dX11_back_32 : decode cX11_back 32 = .ok (.aload_n 0, 1) := by decide +kernel
theorem dX11_back_33 : decode cX11_back 33 = .ok (.iconst (-1), 1) := by decide +kernel
theorem dX11_back_34 : decode cX11_back 34 = .ok (.invokevirtual 117, 3) := by decide +kernel
theorem dX11_back_37 : decode cX11_back 37 = .ok (.aload_n 0, 1) := by decide +kernel
theorem dX11_back_38 : decode cX11_back 38 = .ok (.getfield 28, 3) := by decide +kernel
theorem dX11_back_41 : decode cX11_back 41 = .ok (.aload_n 0, 1) := by decide +kernel
theorem dX11_back_42 : decode cX11_back 42 = .ok (.getfield 12, 3) := by decide +kernel
theorem dX11_back_45 : decode cX11_back 45 = .ok (.getfield 104, 3) := by decide +kernel
theorem dX11_back_48 : decode cX11_back 48 = .ok (.invokevirtual 107, 3) := by decide +kernel
theorem dX11_back_51 : decode cX11_back 51 = .ok (.aload_n 0, 1) := by decide +kernel
theorem dX11_back_52 : decode cX11_back 52 = .ok (.getfield 12, 3) := by decide +kernel
theorem dX11_back_55 : decode cX11_back 55 = .ok (.getfield 231, 3) := by decide +kernel
theorem dX11_back_58 : decode cX11_back 58 = .ok (.ireturn, 1) := by decide +kernel
theorem dX11_isPerson_0 : decode cX11_isPerson 0 = .ok (.iload_n 1, 1) := by decide +kernel
theorem dX11_isPerson_1 : decode cX11_isPerson 1 = .ok (.ifCond .lt 18, 3) := by decide +kernel
theorem dX11_isPerson_4 : decode cX11_isPerson 4 = .ok (.iload_n 1, 1) := by decide +kernel
theorem dX11_isPerson_5 : decode cX11_isPerson 5 = .ok (.aload_n 0, 1) := by decide +kernel
theorem dX11_isPerson_6 : decode cX11_isPerson 6 = .ok (.getfield 12, 3) := by decide +kernel
theorem dX11_isPerson_9 : decode cX11_isPerson 9 = .ok (.getfield 111, 3) := by decide +kernel
theorem dX11_isPerson_12 : decode cX11_isPerson 12 = .ok (.if_icmp .ge 7, 3) := by decide +kernel
theorem dX11_isPerson_15 : decode cX11_isPerson 15 = .ok (.iconst 1, 1) := by decide +kernel
theorem dX11_isPerson_16 : decode cX11_isPerson 16 = .ok (.goto 4, 3) := by decide +kernel
theorem dX11_isPerson_19 : decode cX11_isPerson 19 = .ok (.iconst 0, 1) := by decide +kernel
theorem dX11_isPerson_20 : decode cX11_isPerson 20 = .ok (.ireturn, 1) := by decide +kernel
theorem dX11_areTwo_0 : decode cX11_areTwo 0 = .ok (.aload_n 0, 1) := by decide +kernel
theorem dX11_areTwo_1 : decode cX11_areTwo 1 = .ok (.iload_n 1, 1) := by decide +kernel
theorem dX11_areTwo_2 : decode cX11_areTwo 2 = .ok (.invokevirtual 127, 3) := by decide +kernel
theorem dX11_areTwo_5 : decode cX11_areTwo 5 = .ok (.ifCond .eq 20, 3) := by decide +kernel
theorem dX11_areTwo_8 : decode cX11_areTwo 8 = .ok (.aload_n 0, 1) := by decide +kernel
theorem dX11_areTwo_9 : decode cX11_areTwo 9 = .ok (.iload_n 2, 1) := by decide +kernel
theorem dX11_areTwo_10 : decode cX11_areTwo 10 = .ok (.invokevirtual 127, 3) := by decide +kernel
theorem dX11_areTwo_13 : decode cX11_areTwo 13 = .ok (.ifCond .eq 12, 3) := by decide +kernel
theorem dX11_areTwo_16 : decode cX11_areTwo 16 = .ok (.iload_n 1, 1) := by decide +kernel
theorem dX11_areTwo_17 : decode cX11_areTwo 17 = .ok (.iload_n 2, 1) := by decide +kernel
theorem dX11_areTwo_18 : decode cX11_areTwo 18 = .ok (.if_icmp .eq 7, 3) := by decide +kernel
theorem dX11_areTwo_21 : decode cX11_areTwo 21 = .ok (.iconst 1, 1) := by decide +kernel
theorem dX11_areTwo_22 : decode cX11_areTwo 22 = .ok (.goto 4, 3) := by decide +kernel
theorem dX11_areTwo_25 : decode cX11_areTwo 25 = .ok (.iconst 0, 1) := by decide +kernel
theorem dX11_areTwo_26 : decode cX11_areTwo 26 = .ok (.ireturn, 1) := by decide +kernel
theorem dX11_isPlace_0 : decode cX11_isPlace 0 = .ok (.iload_n 0, 1) := by decide +kernel
theorem dX11_isPlace_1 : decode cX11_isPlace 1 = .ok (.ifCond .lt 13, 3) := by decide +kernel
theorem dX11_isPlace_4 : decode cX11_isPlace 4 = .ok (.iload_n 0, 1) := by decide +kernel
theorem dX11_isPlace_5 : decode cX11_isPlace 5 = .ok (.bipush 8, 2) := by decide +kernel
theorem dX11_isPlace_7 : decode cX11_isPlace 7 = .ok (.if_icmp .ge 7, 3) := by decide +kernel
theorem dX11_isPlace_10 : decode cX11_isPlace 10 = .ok (.iconst 1, 1) := by decide +kernel
theorem dX11_isPlace_11 : decode cX11_isPlace 11 = .ok (.goto 4, 3) := by decide +kernel
theorem dX11_isPlace_14 : decode cX11_isPlace 14 = .ok (.iconst 0, 1) := by decide +kernel
theorem dX11_isPlace_15 : decode cX11_isPlace 15 = .ok (.ireturn, 1) := by decide +kernel
theorem dX11_isDay_0 : decode cX11_isDay 0 = .ok (.iload_n 0, 1) := by decide +kernel
theorem dX11_isDay_1 : decode cX11_isDay 1 = .ok (.ifCond .lt 14, 3) := by decide +kernel
theorem dX11_isDay_4 : decode cX11_isDay 4 = .ok (.iload_n 0, 1) := by decide +kernel
theorem dX11_isDay_5 : decode cX11_isDay 5 = .ok (.sipush 999, 3) := by decide +kernel
theorem dX11_isDay_8 : decode cX11_isDay 8 = .ok (.if_icmp .gt 7, 3) := by decide +kernel
theorem dX11_isDay_11 : decode cX11_isDay 11 = .ok (.iconst 1, 1) := by decide +kernel
theorem dX11_isDay_12 : decode cX11_isDay 12 = .ok (.goto 4, 3) := by decide +kernel
theorem dX11_isDay_15 : decode cX11_isDay 15 = .ok (.iconst 0, 1) := by decide +kernel
theorem dX11_isDay_16 : decode cX11_isDay 16 = .ok (.ireturn, 1) := by decide +kernel
theorem dX11_isSpan_0 : decode cX11_isSpan 0 = .ok (.iload_n 0, 1) := by decide +kernel
theorem dX11_isSpan_1 : decode cX11_isSpan 1 = .ok (.invokestatic 124, 3) := by decide +kernel
theorem dX11_isSpan_4 : decode cX11_isSpan 4 = .ok (.ifCond .eq 27, 3) := by decide +kernel
theorem dX11_isSpan_7 : decode cX11_isSpan 7 = .ok (.iload_n 1, 1) := by decide +kernel
theorem dX11_isSpan_8 : decode cX11_isSpan 8 = .ok (.invokestatic 124, 3) := by decide +kernel
theorem dX11_isSpan_11 : decode cX11_isSpan 11 = .ok (.ifCond .eq 20, 3) := by decide +kernel
theorem dX11_isSpan_14 : decode cX11_isSpan 14 = .ok (.iload_n 0, 1) := by decide +kernel
theorem dX11_isSpan_15 : decode cX11_isSpan 15 = .ok (.iload_n 1, 1) := by decide +kernel
theorem dX11_isSpan_16 : decode cX11_isSpan 16 = .ok (.if_icmp .gt 15, 3) := by decide +kernel
theorem dX11_isSpan_19 : decode cX11_isSpan 19 = .ok (.iload_n 1, 1) := by decide +kernel
theorem dX11_isSpan_20 : decode cX11_isSpan 20 = .ok (.iload_n 0, 1) := by decide +kernel
theorem dX11_isSpan_21 : decode cX11_isSpan 21 = .ok (.isub, 1) := by decide +kernel
theorem dX11_isSpan_22 : decode cX11_isSpan 22 = .ok (.bipush 31, 2) := by decide +kernel
theorem dX11_isSpan_24 : decode cX11_isSpan 24 = .ok (.if_icmp .ge 7, 3) := by decide +kernel
theorem dX11_isSpan_27 : decode cX11_isSpan 27 = .ok (.iconst 1, 1) := by decide +kernel
theorem dX11_isSpan_28 : decode cX11_isSpan 28 = .ok (.goto 4, 3) := by decide +kernel
theorem dX11_isSpan_31 : decode cX11_isSpan 31 = .ok (.iconst 0, 1) := by decide +kernel
theorem dX11_isSpan_32 : decode cX11_isSpan 32 = .ok (.ireturn, 1) := by decide +kernel
theorem dX11_hasBit_0 : decode cX11_hasBit 0 = .ok (.iload_n 0, 1) := by decide +kernel
theorem dX11_hasBit_1 : decode cX11_hasBit 1 = .ok (.iload_n 1, 1) := by decide +kernel
theorem dX11_hasBit_2 : decode cX11_hasBit 2 = .ok (.ishr, 1) := by decide +kernel
theorem dX11_hasBit_3 : decode cX11_hasBit 3 = .ok (.iconst 1, 1) := by decide +kernel
theorem dX11_hasBit_4 : decode cX11_hasBit 4 = .ok (.iand, 1) := by decide +kernel
theorem dX11_hasBit_5 : decode cX11_hasBit 5 = .ok (.iconst 1, 1) := by decide +kernel
theorem dX11_hasBit_6 : decode cX11_hasBit 6 = .ok (.if_icmp .ne 7, 3) := by decide +kernel
theorem dX11_hasBit_9 : decode cX11_hasBit 9 = .ok (.iconst 1, 1) := by decide +kernel
theorem dX11_hasBit_10 : decode cX11_hasBit 10 = .ok (.goto 4, 3) := by decide +kernel
theorem dX11_hasBit_13 : decode cX11_hasBit 13 = .ok (.iconst 0, 1) := by decide +kernel
theorem dX11_hasBit_14 : decode cX11_hasBit 14 = .ok (.ireturn, 1) := by decide +kernel
theorem dX11_leastOf_0 : decode cX11_leastOf 0 = .ok (.iload_n 0, 1) := by decide +kernel
theorem dX11_leastOf_1 : decode cX11_leastOf 1 = .ok (.ifCond .ne 7, 3) := by decide +kernel
theorem dX11_leastOf_4 : decode cX11_leastOf 4 = .ok (.iconst (-1), 1) := by decide +kernel
theorem dX11_leastOf_5 : decode cX11_leastOf 5 = .ok (.goto 12, 3) := by decide +kernel
theorem dX11_leastOf_8 : decode cX11_leastOf 8 = .ok (.iload_n 0, 1) := by decide +kernel
theorem dX11_leastOf_9 : decode cX11_leastOf 9 = .ok (.iload_n 0, 1) := by decide +kernel
theorem dX11_leastOf_10 : decode cX11_leastOf 10 = .ok (.ineg, 1) := by decide +kernel
theorem dX11_leastOf_11 : decode cX11_leastOf 11 = .ok (.iand, 1) := by decide +kernel
theorem dX11_leastOf_12 : decode cX11_leastOf 12 = .ok (.iconst 1, 1) := by decide +kernel
theorem dX11_leastOf_13 : decode cX11_leastOf 13 = .ok (.isub, 1) := by decide +kernel
theorem dX11_leastOf_14 : decode cX11_leastOf 14 = .ok (.invokestatic 368, 3) := by decide +kernel
theorem dX11_leastOf_17 : decode cX11_leastOf 17 = .ok (.ireturn, 1) := by decide +kernel
theorem dX11_coverOf_0 : decode cX11_coverOf 0 = .ok (.iload_n 1, 1) := by decide +kernel
theorem dX11_coverOf_1 : decode cX11_coverOf 1 = .ok (.ifCond .lt 11, 3) := by decide +kernel
theorem dX11_coverOf_4 : decode cX11_coverOf 4 = .ok (.iload_n 1, 1) := by decide +kernel
theorem dX11_coverOf_5 : decode cX11_coverOf 5 = .ok (.aload_n 0, 1) := by decide +kernel
theorem dX11_coverOf_6 : decode cX11_coverOf 6 = .ok (.getfield 153, 3) := by decide +kernel
theorem dX11_coverOf_9 : decode cX11_coverOf 9 = .ok (.if_icmp .lt 7, 3) := by decide +kernel
theorem dX11_coverOf_12 : decode cX11_coverOf 12 = .ok (.aconst_null, 1) := by decide +kernel
theorem dX11_coverOf_13 : decode cX11_coverOf 13 = .ok (.goto 9, 3) := by decide +kernel
theorem dX11_coverOf_16 : decode cX11_coverOf 16 = .ok (.aload_n 0, 1) := by decide +kernel
theorem dX11_coverOf_17 : decode cX11_coverOf 17 = .ok (.getfield 78, 3) := by decide +kernel
theorem dX11_coverOf_20 : decode cX11_coverOf 20 = .ok (.iload_n 1, 1) := by decide +kernel
theorem dX11_coverOf_21 : decode cX11_coverOf 21 = .ok (.aaload, 1) := by decide +kernel
theorem dX11_coverOf_22 : decode cX11_coverOf 22 = .ok (.areturn, 1) := by decide +kernel
theorem dX11_everybody_0 : decode cX11_everybody 0 = .ok (.iconst 1, 1) := by decide +kernel
theorem dX11_everybody_1 : decode cX11_everybody 1 = .ok (.aload_n 0, 1) := by decide +kernel
theorem dX11_everybody_2 : decode cX11_everybody 2 = .ok (.getfield 12, 3) := by decide +kernel
theorem dX11_everybody_5 : decode cX11_everybody 5 = .ok (.getfield 111, 3) := by decide +kernel
theorem dX11_everybody_8 : decode cX11_everybody 8 = .ok (.ishl, 1) := by decide +kernel
theorem dX11_everybody_9 : decode cX11_everybody 9 = .ok (.iconst 1, 1) := by decide +kernel
theorem dX11_everybody_10 : decode cX11_everybody 10 = .ok (.isub, 1) := by decide +kernel
theorem dX11_everybody_11 : decode cX11_everybody 11 = .ok (.ireturn, 1) := by decide +kernel
theorem dX11_seenBy_0 : decode cX11_seenBy 0 = .ok (.aload_n 2, 1) := by decide +kernel
theorem dX11_seenBy_1 : decode cX11_seenBy 1 = .ok (.iload_n 1, 1) := by decide +kernel
theorem dX11_seenBy_2 : decode cX11_seenBy 2 = .ok (.aload_n 0, 1) := by decide +kernel
theorem dX11_seenBy_3 : decode cX11_seenBy 3 = .ok (.getfield 12, 3) := by decide +kernel
theorem dX11_seenBy_6 : decode cX11_seenBy 6 = .ok (.getfield 138, 3) := by decide +kernel
theorem dX11_seenBy_9 : decode cX11_seenBy 9 = .ok (.iload_n 1, 1) := by decide +kernel
theorem dX11_seenBy_10 : decode cX11_seenBy 10 = .ok (.iaload, 1) := by decide +kernel
theorem dX11_seenBy_11 : decode cX11_seenBy 11 = .ok (.invokevirtual 373, 3) := by decide +kernel
theorem dX11_seenBy_14 : decode cX11_seenBy 14 = .ok (.ireturn, 1) := by decide +kernel
theorem dX11_forgetFacts_0 : decode cX11_forgetFacts 0 = .ok (.aload_n 0, 1) := by decide +kernel
theorem dX11_forgetFacts_1 : decode cX11_forgetFacts 1 = .ok (.getfield 21, 3) := by decide +kernel
theorem dX11_forgetFacts_4 : decode cX11_forgetFacts 4 = .ok (.iload_n 1, 1) := by decide +kernel
theorem dX11_forgetFacts_5 : decode cX11_forgetFacts 5 = .ok (.invokevirtual 376, 3) := by decide +kernel
theorem dX11_forgetFacts_8 : decode cX11_forgetFacts 8 = .ok (.aload_n 0, 1) := by decide +kernel
theorem dX11_forgetFacts_9 : decode cX11_forgetFacts 9 = .ok (.getfield 35, 3) := by decide +kernel
theorem dX11_forgetFacts_12 : decode cX11_forgetFacts 12 = .ok (.invokevirtual 379, 3) := by decide +kernel
theorem dX11_forgetFacts_15 : decode cX11_forgetFacts 15 = .ok (.return_, 1) := by decide +kernel
theorem dX11_putBytes_0 : decode cX11_putBytes 0 = .ok (.bipush 24, 2) := by decide +kernel
theorem dX11_putBytes_2 : decode cX11_putBytes 2 = .ok (.istore_n 2, 1) := by decide +kernel
theorem dX11_putBytes_3 : decode cX11_putBytes 3 = .ok (.iload_n 2, 1) := by decide +kernel
theorem dX11_putBytes_4 : decode cX11_putBytes 4 = .ok (.ifCond .lt 45, 3) := by decide +kernel
theorem dX11_putBytes_7 : decode cX11_putBytes 7 = .ok (.aload_n 0, 1) := by decide +kernel
theorem dX11_putBytes_8 : decode cX11_putBytes 8 = .ok (.getfield 147, 3) := by decide +kernel
theorem dX11_putBytes_11 : decode cX11_putBytes 11 = .ok (.sipush 400, 3) := by decide +kernel
theorem dX11_putBytes_14 : decode cX11_putBytes 14 = .ok (.if_icmp .ge 29, 3) := by decide +kernel
theorem dX11_putBytes_17 : decode cX11_putBytes 17 = .ok (.aload_n 0, 1) := by decide +kernel
theorem dX11_putBytes_18 : decode cX11_putBytes 18 = .ok (.getfield 82, 3) := by decide +kernel
theorem dX11_putBytes_21 : decode cX11_putBytes 21 = .ok (.aload_n 0, 1) := by decide +kernel
theorem dX11_putBytes_22 : decode cX11_putBytes 22 = .ok (.getfield 147, 3) := by decide +kernel
theorem dX11_putBytes_25 : decode cX11_putBytes 25 = .ok (.iload_n 1, 1) := by decide +kernel
theorem dX11_putBytes_26 : decode cX11_putBytes 26 = .ok (.iload_n 2, 1) := by decide +kernel
theorem dX11_putBytes_27 : decode cX11_putBytes 27 = .ok (.iushr, 1) := by decide +kernel
theorem dX11_putBytes_28 : decode cX11_putBytes 28 = .ok (.sipush 255, 3) := by decide +kernel
theorem dX11_putBytes_31 : decode cX11_putBytes 31 = .ok (.iand, 1) := by decide +kernel
theorem dX11_putBytes_32 : decode cX11_putBytes 32 = .ok (.iastore, 1) := by decide +kernel
theorem dX11_putBytes_33 : decode cX11_putBytes 33 = .ok (.aload_n 0, 1) := by decide +kernel
theorem dX11_putBytes_34 : decode cX11_putBytes 34 = .ok (.dup, 1) := by decide +kernel
theorem dX11_putBytes_35 : decode cX11_putBytes 35 = .ok (.getfield 147, 3) := by decide +kernel
theorem dX11_putBytes_38 : decode cX11_putBytes 38 = .ok (.iconst 1, 1) := by decide +kernel
theorem dX11_putBytes_39 : decode cX11_putBytes 39 = .ok (.iadd, 1) := by decide +kernel
theorem dX11_putBytes_40 : decode cX11_putBytes 40 = .ok (.putfield 147, 3) := by decide +kernel
theorem dX11_putBytes_43 : decode cX11_putBytes 43 = .ok (.iinc 2 (-8), 3) := by decide +kernel
theorem dX11_putBytes_46 : decode cX11_putBytes 46 = .ok (.goto (-43), 3) := by decide +kernel
theorem dX11_putBytes_49 : decode cX11_putBytes 49 = .ok (.return_, 1) := by decide +kernel
theorem dX11_fitFor_0 : decode cX11_fitFor 0 = .ok (.aload_n 0, 1) := by decide +kernel
theorem dX11_fitFor_1 : decode cX11_fitFor 1 = .ok (.getfield 21, 3) := by decide +kernel
theorem dX11_fitFor_4 : decode cX11_fitFor 4 = .ok (.iload 4, 2) := by decide +kernel
theorem dX11_fitFor_6 : decode cX11_fitFor 6 = .ok (.invokevirtual 164, 3) := by decide +kernel
theorem dX11_fitFor_9 : decode cX11_fitFor 9 = .ok (.astore 6, 2) := by decide +kernel
theorem dX11_fitFor_11 : decode cX11_fitFor 11 = .ok (.aload_n 1, 1) := by decide +kernel
theorem dX11_fitFor_12 : decode cX11_fitFor 12 = .ok (.getfield 382, 3) := by decide +kernel
theorem dX11_fitFor_15 : decode cX11_fitFor 15 = .ok (.ifCond .eq 8, 3) := by decide +kernel
theorem dX11_fitFor_18 : decode cX11_fitFor 18 = .ok (.aload 6, 2) := by decide +kernel
theorem dX11_fitFor_20 : decode cX11_fitFor 20 = .ok (.goto 11, 3) := by decide +kernel
theorem dX11_fitFor_23 : decode cX11_fitFor 23 = .ok (.aload_n 0, 1) := by decide +kernel
theorem dX11_fitFor_24 : decode cX11_fitFor 24 = .ok (.getfield 21, 3) := by decide +kernel
theorem dX11_fitFor_27 : decode cX11_fitFor 27 = .ok (.iload_n 3, 1) := by decide +kernel
theorem dX11_fitFor_28 : decode cX11_fitFor 28 = .ok (.invokevirtual 164, 3) := by decide +kernel
theorem dX11_fitFor_31 : decode cX11_fitFor 31 = .ok (.astore 7, 2) := by decide +kernel
theorem dX11_fitFor_33 : decode cX11_fitFor 33 = .ok (.iload 5, 2) := by decide +kernel
theorem dX11_fitFor_35 : decode cX11_fitFor 35 = .ok (.iconst (-1), 1) := by decide +kernel
theorem dX11_fitFor_36 : decode cX11_fitFor 36 = .ok (.if_icmp .ne 10, 3) := by decide +kernel
theorem dX11_fitFor_39 : decode cX11_fitFor 39 = .ok (.aload_n 0, 1) := by decide +kernel
theorem dX11_fitFor_40 : decode cX11_fitFor 40 = .ok (.invokevirtual 200, 3) := by decide +kernel
theorem dX11_fitFor_43 : decode cX11_fitFor 43 = .ok (.goto 11, 3) := by decide +kernel
theorem dX11_fitFor_46 : decode cX11_fitFor 46 = .ok (.aload_n 0, 1) := by decide +kernel
theorem dX11_fitFor_47 : decode cX11_fitFor 47 = .ok (.iload 5, 2) := by decide +kernel
theorem dX11_fitFor_49 : decode cX11_fitFor 49 = .ok (.aload 6, 2) := by decide +kernel
theorem dX11_fitFor_51 : decode cX11_fitFor 51 = .ok (.invokevirtual 180, 3) := by decide +kernel
theorem dX11_fitFor_54 : decode cX11_fitFor 54 = .ok (.istore 8, 2) := by decide +kernel
theorem dX11_fitFor_56 : decode cX11_fitFor 56 = .ok (.aload_n 0, 1) := by decide +kernel
theorem dX11_fitFor_57 : decode cX11_fitFor 57 = .ok (.getfield 35, 3) := by decide +kernel
theorem dX11_fitFor_60 : decode cX11_fitFor 60 = .ok (.aload_n 1, 1) := by decide +kernel
theorem dX11_fitFor_61 : decode cX11_fitFor 61 = .ok (.iload_n 2, 1) := by decide +kernel
theorem dX11_fitFor_62 : decode cX11_fitFor 62 = .ok (.aload 7, 2) := by decide +kernel
theorem dX11_fitFor_64 : decode cX11_fitFor 64 = .ok (.iload 8, 2) := by decide +kernel
theorem dX11_fitFor_66 : decode cX11_fitFor 66 = .ok (.invokevirtual 385, 3) := by decide +kernel
theorem dX11_fitFor_69 : decode cX11_fitFor 69 = .ok (.ireturn, 1) := by decide +kernel
theorem dX11_daysOfRound_0 : decode cX11_daysOfRound 0 = .ok (.iload_n 1, 1) := by decide +kernel
theorem dX11_daysOfRound_1 : decode cX11_daysOfRound 1 = .ok (.istore_n 2, 1) := by decide +kernel
theorem dX11_daysOfRound_2 : decode cX11_daysOfRound 2 = .ok (.iconst 0, 1) := by decide +kernel
theorem dX11_daysOfRound_3 : decode cX11_daysOfRound 3 = .ok (.istore_n 3, 1) := by decide +kernel
theorem dX11_daysOfRound_4 : decode cX11_daysOfRound 4 = .ok (.iconst 0, 1) := by decide +kernel
theorem dX11_daysOfRound_5 : decode cX11_daysOfRound 5 = .ok (.istore 4, 2) := by decide +kernel
theorem dX11_daysOfRound_7 : decode cX11_daysOfRound 7 = .ok (.iload 4, 2) := by decide +kernel
theorem dX11_daysOfRound_9 : decode cX11_daysOfRound 9 = .ok (.bipush 8, 2) := by decide +kernel
theorem dX11_daysOfRound_11 : decode cX11_daysOfRound 11 = .ok (.if_icmp .ge 53, 3) := by decide +kernel
theorem dX11_daysOfRound_14 : decode cX11_daysOfRound 14 = .ok (.aload_n 0, 1) := by decide +kernel
theorem dX11_daysOfRound_15 : decode cX11_daysOfRound 15 = .ok (.getfield 90, 3) := by decide +kernel
theorem dX11_daysOfRound_18 : decode cX11_daysOfRound 18 = .ok (.iload_n 2, 1) := by decide +kernel
theorem dX11_daysOfRound_19 : decode cX11_daysOfRound 19 = .ok (.iaload, 1) := by decide +kernel
theorem dX11_daysOfRound_20 : decode cX11_daysOfRound 20 = .ok (.istore 5, 2) := by decide +kernel
theorem dX11_daysOfRound_22 : decode cX11_daysOfRound 22 = .ok (.iload 5, 2) := by decide +kernel
theorem dX11_daysOfRound_24 : decode cX11_daysOfRound 24 = .ok (.iconst (-1), 1) := by decide +kernel
theorem dX11_daysOfRound_25 : decode cX11_daysOfRound 25 = .ok (.if_icmp .ne 5, 3) := by decide +kernel
theorem dX11_daysOfRound_28 : decode cX11_daysOfRound 28 = .ok (.iconst 0, 1) := by decide +kernel
theorem dX11_daysOfRound_29 : decode cX11_daysOfRound 29 = .ok (.ireturn, 1) := by decide +kernel
theorem dX11_daysOfRound_30 : decode cX11_daysOfRound 30 = .ok (.iload_n 3, 1) := by decide +kernel
theorem dX11_daysOfRound_31 : decode cX11_daysOfRound 31 = .ok (.aload_n 0, 1) := by decide +kernel
theorem dX11_daysOfRound_32 : decode cX11_daysOfRound 32 = .ok (.getfield 12, 3) := by decide +kernel
theorem dX11_daysOfRound_35 : decode cX11_daysOfRound 35 = .ok (.getfield 104, 3) := by decide +kernel
theorem dX11_daysOfRound_38 : decode cX11_daysOfRound 38 = .ok (.iload_n 2, 1) := by decide +kernel
theorem dX11_daysOfRound_39 : decode cX11_daysOfRound 39 = .ok (.bipush 8, 2) := by decide +kernel
theorem dX11_daysOfRound_41 : decode cX11_daysOfRound 41 = .ok (.imul, 1) := by decide +kernel
theorem dX11_daysOfRound_42 : decode cX11_daysOfRound 42 = .ok (.iload 5, 2) := by decide +kernel
theorem dX11_daysOfRound_44 : decode cX11_daysOfRound 44 = .ok (.iadd, 1) := by decide +kernel
theorem dX11_daysOfRound_45 : decode cX11_daysOfRound 45 = .ok (.iaload, 1) := by decide +kernel
theorem dX11_daysOfRound_46 : decode cX11_daysOfRound 46 = .ok (.iadd, 1) := by decide +kernel
theorem dX11_daysOfRound_47 : decode cX11_daysOfRound 47 = .ok (.istore_n 3, 1) := by decide +kernel
theorem dX11_daysOfRound_48 : decode cX11_daysOfRound 48 = .ok (.iload 5, 2) := by decide +kernel
theorem dX11_daysOfRound_50 : decode cX11_daysOfRound 50 = .ok (.istore_n 2, 1) := by decide +kernel
theorem dX11_daysOfRound_51 : decode cX11_daysOfRound 51 = .ok (.iload_n 2, 1) := by decide +kernel
theorem dX11_daysOfRound_52 : decode cX11_daysOfRound 52 = .ok (.iload_n 1, 1) := by decide +kernel
theorem dX11_daysOfRound_53 : decode cX11_daysOfRound 53 = .ok (.if_icmp .ne 5, 3) := by decide +kernel
theorem dX11_daysOfRound_56 : decode cX11_daysOfRound 56 = .ok (.iload_n 3, 1) := by decide +kernel
theorem dX11_daysOfRound_57 : decode cX11_daysOfRound 57 = .ok (.ireturn, 1) := by decide +kernel
theorem dX11_daysOfRound_58 : decode cX11_daysOfRound 58 = .ok (.iinc 4 1, 3) := by decide +kernel
theorem dX11_daysOfRound_61 : decode cX11_daysOfRound 61 = .ok (.goto (-54), 3) := by decide +kernel
theorem dX11_daysOfRound_64 : decode cX11_daysOfRound 64 = .ok (.iconst 0, 1) := by decide +kernel
theorem dX11_daysOfRound_65 : decode cX11_daysOfRound 65 = .ok (.ireturn, 1) := by decide +kernel
theorem dX11_dayRight_0 : decode cX11_dayRight 0 = .ok (.aload_n 0, 1) := by decide +kernel
theorem dX11_dayRight_1 : decode cX11_dayRight 1 = .ok (.getfield 72, 3) := by decide +kernel
theorem dX11_dayRight_4 : decode cX11_dayRight 4 = .ok (.aload_n 1, 1) := by decide +kernel
theorem dX11_dayRight_5 : decode cX11_dayRight 5 = .ok (.iload_n 2, 1) := by decide +kernel
theorem dX11_dayRight_6 : decode cX11_dayRight 6 = .ok (.iload_n 3, 1) := by decide +kernel
theorem dX11_dayRight_7 : decode cX11_dayRight 7 = .ok (.iload 4, 2) := by decide +kernel
theorem dX11_dayRight_9 : decode cX11_dayRight 9 = .ok (.iload 5, 2) := by decide +kernel
theorem dX11_dayRight_11 : decode cX11_dayRight 11 = .ok (.invokevirtual 234, 3) := by decide +kernel
theorem dX11_dayRight_14 : decode cX11_dayRight 14 = .ok (.aload_n 0, 1) := by decide +kernel
theorem dX11_dayRight_15 : decode cX11_dayRight 15 = .ok (.getfield 44, 3) := by decide +kernel
theorem dX11_dayRight_18 : decode cX11_dayRight 18 = .ok (.aload_n 0, 1) := by decide +kernel
theorem dX11_dayRight_19 : decode cX11_dayRight 19 = .ok (.getfield 72, 3) := by decide +kernel
theorem dX11_dayRight_22 : decode cX11_dayRight 22 = .ok (.invokevirtual 297, 3) := by decide +kernel
theorem dX11_dayRight_25 : decode cX11_dayRight 25 = .ok (.aload_n 0, 1) := by decide +kernel
theorem dX11_dayRight_26 : decode cX11_dayRight 26 = .ok (.getfield 72, 3) := by decide +kernel
theorem dX11_dayRight_29 : decode cX11_dayRight 29 = .ok (.invokevirtual 255, 3) := by decide +kernel
theorem dX11_dayRight_32 : decode cX11_dayRight 32 = .ok (.ifCond .eq 13, 3) := by decide +kernel
theorem dX11_dayRight_35 : decode cX11_dayRight 35 = .ok (.aload_n 0, 1) := by decide +kernel
theorem dX11_dayRight_36 : decode cX11_dayRight 36 = .ok (.getfield 72, 3) := by decide +kernel
theorem dX11_dayRight_39 : decode cX11_dayRight 39 = .ok (.getfield 249, 3) := by decide +kernel
theorem dX11_dayRight_42 : decode cX11_dayRight 42 = .ok (.goto 5, 3) := by decide +kernel
theorem dX11_dayRight_45 : decode cX11_dayRight 45 = .ok (.bipush (-2), 2) := by decide +kernel
theorem dX11_dayRight_47 : decode cX11_dayRight 47 = .ok (.ireturn, 1) := by decide +kernel
theorem dX11_addUnlikeWords_0 : decode cX11_addUnlikeWords 0 = .ok (.aload_n 1, 1) := by decide +kernel
theorem dX11_addUnlikeWords_1 : decode cX11_addUnlikeWords 1 = .ok (.iload_n 3, 1) := by decide +kernel
theorem dX11_addUnlikeWords_2 : decode cX11_addUnlikeWords 2 = .ok (.iload_n 2, 1) := by decide +kernel
theorem dX11_addUnlikeWords_3 : decode cX11_addUnlikeWords 3 = .ok (.invokevirtual 325, 3) := by decide +kernel
theorem dX11_addUnlikeWords_6 : decode cX11_addUnlikeWords 6 = .ok (.istore 5, 2) := by decide +kernel
theorem dX11_addUnlikeWords_8 : decode cX11_addUnlikeWords 8 = .ok (.iconst 0, 1) := by decide +kernel
theorem dX11_addUnlikeWords_9 : decode cX11_addUnlikeWords 9 = .ok (.istore 6, 2) := by decide +kernel
theorem dX11_addUnlikeWords_11 : decode cX11_addUnlikeWords 11 = .ok (.iload 6, 2) := by decide +kernel
theorem dX11_addUnlikeWords_13 : decode cX11_addUnlikeWords 13 = .ok (.aload_n 0, 1) := by decide +kernel
theorem dX11_addUnlikeWords_14 : decode cX11_addUnlikeWords 14 = .ok (.getfield 12, 3) := by decide +kernel
theorem dX11_addUnlikeWords_17 : decode cX11_addUnlikeWords 17 = .ok (.getfield 111, 3) := by decide +kernel
theorem dX11_addUnlikeWords_20 : decode cX11_addUnlikeWords 20 = .ok (.if_icmp .ge 47, 3) := by decide +kernel
theorem dX11_addUnlikeWords_23 : decode cX11_addUnlikeWords 23 = .ok (.iload 6, 2) := by decide +kernel
theorem dX11_addUnlikeWords_25 : decode cX11_addUnlikeWords 25 = .ok (.iload_n 3, 1) := by decide +kernel
theorem dX11_addUnlikeWords_26 : decode cX11_addUnlikeWords 26 = .ok (.if_icmp .eq 35, 3) := by decide +kernel
theorem dX11_addUnlikeWords_29 : decode cX11_addUnlikeWords 29 = .ok (.aload_n 1, 1) := by decide +kernel
theorem dX11_addUnlikeWords_30 : decode cX11_addUnlikeWords 30 = .ok (.iload 6, 2) := by decide +kernel
theorem dX11_addUnlikeWords_32 : decode cX11_addUnlikeWords 32 = .ok (.iload_n 2, 1) := by decide +kernel
theorem dX11_addUnlikeWords_33 : decode cX11_addUnlikeWords 33 = .ok (.invokevirtual 325, 3) := by decide +kernel
theorem dX11_addUnlikeWords_36 : decode cX11_addUnlikeWords 36 = .ok (.iload 5, 2) := by decide +kernel
theorem dX11_addUnlikeWords_38 : decode cX11_addUnlikeWords 38 = .ok (.ixor, 1) := by decide +kernel
theorem dX11_addUnlikeWords_39 : decode cX11_addUnlikeWords 39 = .ok (.iload 4, 2) := by decide +kernel
theorem dX11_addUnlikeWords_41 : decode cX11_addUnlikeWords 41 = .ok (.iand, 1) := by decide +kernel
theorem dX11_addUnlikeWords_42 : decode cX11_addUnlikeWords 42 = .ok (.istore 7, 2) := by decide +kernel
theorem dX11_addUnlikeWords_44 : decode cX11_addUnlikeWords 44 = .ok (.iload 7, 2) := by decide +kernel
theorem dX11_addUnlikeWords_46 : decode cX11_addUnlikeWords 46 = .ok (.ifCond .ne 6, 3) := by decide +kernel
theorem dX11_addUnlikeWords_49 : decode cX11_addUnlikeWords 49 = .ok (.iload 6, 2) := by decide +kernel
theorem dX11_addUnlikeWords_51 : decode cX11_addUnlikeWords 51 = .ok (.ireturn, 1) := by decide +kernel
theorem dX11_addUnlikeWords_52 : decode cX11_addUnlikeWords 52 = .ok (.aload_n 0, 1) := by decide +kernel
theorem dX11_addUnlikeWords_53 : decode cX11_addUnlikeWords 53 = .ok (.getfield 58, 3) := by decide +kernel
theorem dX11_addUnlikeWords_56 : decode cX11_addUnlikeWords 56 = .ok (.iload 7, 2) := by decide +kernel
theorem dX11_addUnlikeWords_58 : decode cX11_addUnlikeWords 58 = .ok (.invokevirtual 388, 3) := by decide +kernel
theorem dX11_addUnlikeWords_61 : decode cX11_addUnlikeWords 61 = .ok (.iinc 6 1, 3) := by decide +kernel
theorem dX11_addUnlikeWords_64 : decode cX11_addUnlikeWords 64 = .ok (.goto (-53), 3) := by decide +kernel
theorem dX11_addUnlikeWords_67 : decode cX11_addUnlikeWords 67 = .ok (.iconst (-1), 1) := by decide +kernel
theorem dX11_addUnlikeWords_68 : decode cX11_addUnlikeWords 68 = .ok (.ireturn, 1) := by decide +kernel
theorem dX11_addUnlikeMarks_0 : decode cX11_addUnlikeMarks 0 = .ok (.iconst 1, 1) := by decide +kernel
theorem dX11_addUnlikeMarks_1 : decode cX11_addUnlikeMarks 1 = .ok (.istore_n 2, 1) := by decide +kernel
theorem dX11_addUnlikeMarks_2 : decode cX11_addUnlikeMarks 2 = .ok (.iload_n 2, 1) := by decide +kernel
theorem dX11_addUnlikeMarks_3 : decode cX11_addUnlikeMarks 3 = .ok (.aload_n 0, 1) := by decide +kernel
theorem dX11_addUnlikeMarks_4 : decode cX11_addUnlikeMarks 4 = .ok (.getfield 12, 3) := by decide +kernel
theorem dX11_addUnlikeMarks_7 : decode cX11_addUnlikeMarks 7 = .ok (.getfield 111, 3) := by decide +kernel
theorem dX11_addUnlikeMarks_10 : decode cX11_addUnlikeMarks 10 = .ok (.if_icmp .ge 45, 3) := by decide +kernel
theorem dX11_addUnlikeMarks_13 : decode cX11_addUnlikeMarks 13 = .ok (.aload_n 1, 1) := by decide +kernel
theorem dX11_addUnlikeMarks_14 : decode cX11_addUnlikeMarks 14 = .ok (.iload_n 2, 1) := by decide +kernel
theorem dX11_addUnlikeMarks_15 : decode cX11_addUnlikeMarks 15 = .ok (.invokevirtual 168, 3) := by decide +kernel
theorem dX11_addUnlikeMarks_18 : decode cX11_addUnlikeMarks 18 = .ok (.istore_n 3, 1) := by decide +kernel
theorem dX11_addUnlikeMarks_19 : decode cX11_addUnlikeMarks 19 = .ok (.iconst 0, 1) := by decide +kernel
theorem dX11_addUnlikeMarks_20 : decode cX11_addUnlikeMarks 20 = .ok (.istore 4, 2) := by decide +kernel
theorem dX11_addUnlikeMarks_22 : decode cX11_addUnlikeMarks 22 = .ok (.iload 4, 2) := by decide +kernel
theorem dX11_addUnlikeMarks_24 : decode cX11_addUnlikeMarks 24 = .ok (.iload_n 2, 1) := by decide +kernel
theorem dX11_addUnlikeMarks_25 : decode cX11_addUnlikeMarks 25 = .ok (.if_icmp .ge 24, 3) := by decide +kernel
theorem dX11_addUnlikeMarks_28 : decode cX11_addUnlikeMarks 28 = .ok (.aload_n 0, 1) := by decide +kernel
theorem dX11_addUnlikeMarks_29 : decode cX11_addUnlikeMarks 29 = .ok (.getfield 58, 3) := by decide +kernel
theorem dX11_addUnlikeMarks_32 : decode cX11_addUnlikeMarks 32 = .ok (.iload_n 3, 1) := by decide +kernel
theorem dX11_addUnlikeMarks_33 : decode cX11_addUnlikeMarks 33 = .ok (.aload_n 1, 1) := by decide +kernel
theorem dX11_addUnlikeMarks_34 : decode cX11_addUnlikeMarks 34 = .ok (.iload 4, 2) := by decide +kernel
theorem dX11_addUnlikeMarks_36 : decode cX11_addUnlikeMarks 36 = .ok (.invokevirtual 168, 3) := by decide +kernel
theorem dX11_addUnlikeMarks_39 : decode cX11_addUnlikeMarks 39 = .ok (.ixor, 1) := by decide +kernel
theorem dX11_addUnlikeMarks_40 : decode cX11_addUnlikeMarks 40 = .ok (.invokevirtual 388, 3) := by decide +kernel
theorem dX11_addUnlikeMarks_43 : decode cX11_addUnlikeMarks 43 = .ok (.iinc 4 1, 3) := by decide +kernel
theorem dX11_addUnlikeMarks_46 : decode cX11_addUnlikeMarks 46 = .ok (.goto (-24), 3) := by decide +kernel
theorem dX11_addUnlikeMarks_49 : decode cX11_addUnlikeMarks 49 = .ok (.iinc 2 1, 3) := by decide +kernel
theorem dX11_addUnlikeMarks_52 : decode cX11_addUnlikeMarks 52 = .ok (.goto (-50), 3) := by decide +kernel
theorem dX11_addUnlikeMarks_55 : decode cX11_addUnlikeMarks 55 = .ok (.return_, 1) := by decide +kernel
theorem dX11_withKnown_0 : decode cX11_withKnown 0 = .ok (.iload_n 1, 1) := by decide +kernel
theorem dX11_withKnown_1 : decode cX11_withKnown 1 = .ok (.istore_n 2, 1) := by decide +kernel
theorem dX11_withKnown_2 : decode cX11_withKnown 2 = .ok (.iconst 0, 1) := by decide +kernel
theorem dX11_withKnown_3 : decode cX11_withKnown 3 = .ok (.istore_n 3, 1) := by decide +kernel
theorem dX11_withKnown_4 : decode cX11_withKnown 4 = .ok (.iload_n 3, 1) := by decide +kernel
theorem dX11_withKnown_5 : decode cX11_withKnown 5 = .ok (.aload_n 0, 1) := by decide +kernel
theorem dX11_withKnown_6 : decode cX11_withKnown 6 = .ok (.getfield 12, 3) := by decide +kernel
theorem dX11_withKnown_9 : decode cX11_withKnown 9 = .ok (.getfield 111, 3) := by decide +kernel
theorem dX11_withKnown_12 : decode cX11_withKnown 12 = .ok (.if_icmp .ge 29, 3) := by decide +kernel
theorem dX11_withKnown_15 : decode cX11_withKnown 15 = .ok (.iload_n 1, 1) := by decide +kernel
theorem dX11_withKnown_16 : decode cX11_withKnown 16 = .ok (.iload_n 3, 1) := by decide +kernel
theorem dX11_withKnown_17 : decode cX11_withKnown 17 = .ok (.invokestatic 141, 3) := by decide +kernel
theorem dX11_withKnown_20 : decode cX11_withKnown 20 = .ok (.ifCond .eq 15, 3) := by decide +kernel
theorem dX11_withKnown_23 : decode cX11_withKnown 23 = .ok (.iload_n 2, 1) := by decide +kernel
theorem dX11_withKnown_24 : decode cX11_withKnown 24 = .ok (.aload_n 0, 1) := by decide +kernel
theorem dX11_withKnown_25 : decode cX11_withKnown 25 = .ok (.getfield 12, 3) := by decide +kernel
theorem dX11_withKnown_28 : decode cX11_withKnown 28 = .ok (.getfield 138, 3) := by decide +kernel
theorem dX11_withKnown_31 : decode cX11_withKnown 31 = .ok (.iload_n 3, 1) := by decide +kernel
theorem dX11_withKnown_32 : decode cX11_withKnown 32 = .ok (.iaload, 1) := by decide +kernel
theorem dX11_withKnown_33 : decode cX11_withKnown 33 = .ok (.ior, 1) := by decide +kernel
theorem dX11_withKnown_34 : decode cX11_withKnown 34 = .ok (.istore_n 2, 1) := by decide +kernel
theorem dX11_withKnown_35 : decode cX11_withKnown 35 = .ok (.iinc 3 1, 3) := by decide +kernel
theorem dX11_withKnown_38 : decode cX11_withKnown 38 = .ok (.goto (-34), 3) := by decide +kernel
theorem dX11_withKnown_41 : decode cX11_withKnown 41 = .ok (.iload_n 2, 1) := by decide +kernel
theorem dX11_withKnown_42 : decode cX11_withKnown 42 = .ok (.ireturn, 1) := by decide +kernel
