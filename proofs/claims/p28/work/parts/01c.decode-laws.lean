theorem dL_part_0 : decode cL_part 0 = .ok (.iload_n 1, 1) := by decide +kernel
theorem dL_part_1 : decode cL_part 1 = .ok (.aload_n 0, 1) := by decide +kernel
theorem dL_part_2 : decode cL_part 2 = .ok (.arraylength, 1) := by decide +kernel
theorem dL_part_3 : decode cL_part 3 = .ok (.if_icmp .ge 9, 3) := by decide +kernel
theorem dL_part_6 : decode cL_part 6 = .ok (.aload_n 0, 1) := by decide +kernel
theorem dL_part_7 : decode cL_part 7 = .ok (.iload_n 1, 1) := by decide +kernel
theorem dL_part_8 : decode cL_part 8 = .ok (.iaload, 1) := by decide +kernel
theorem dL_part_9 : decode cL_part 9 = .ok (.goto 16, 3) := by decide +kernel
theorem dL_part_12 : decode cL_part 12 = .ok (.sipush 347, 3) := by decide +kernel
theorem dL_part_15 : decode cL_part 15 = .ok (.iload_n 1, 1) := by decide +kernel
theorem dL_part_16 : decode cL_part 16 = .ok (.imul, 1) := by decide +kernel
theorem dL_part_17 : decode cL_part 17 = .ok (.sipush 211, 3) := by decide +kernel
theorem dL_part_20 : decode cL_part 20 = .ok (.iload_n 1, 1) := by decide +kernel
theorem dL_part_21 : decode cL_part 21 = .ok (.imul, 1) := by decide +kernel
theorem dL_part_22 : decode cL_part 22 = .ok (.iload_n 1, 1) := by decide +kernel
theorem dL_part_23 : decode cL_part 23 = .ok (.imul, 1) := by decide +kernel
theorem dL_part_24 : decode cL_part 24 = .ok (.iadd, 1) := by decide +kernel
theorem dL_part_25 : decode cL_part 25 = .ok (.istore_n 3, 1) := by decide +kernel
theorem dL_part_26 : decode cL_part 26 = .ok (.iload_n 3, 1) := by decide +kernel
theorem dL_part_27 : decode cL_part 27 = .ok (.ldc 7, 2) := by decide +kernel
theorem dL_part_29 : decode cL_part 29 = .ok (.iand, 1) := by decide +kernel
theorem dL_part_30 : decode cL_part 30 = .ok (.iload_n 2, 1) := by decide +kernel
theorem dL_part_31 : decode cL_part 31 = .ok (.irem, 1) := by decide +kernel
theorem dL_part_32 : decode cL_part 32 = .ok (.ireturn, 1) := by decide +kernel
theorem dL_does_0 : decode cL_does 0 = .ok (.iload_n 1, 1) := by decide +kernel
theorem dL_does_1 : decode cL_does 1 = .ok (.ifCond .ne 12, 3) := by decide +kernel
theorem dL_does_4 : decode cL_does 4 = .ok (.aload_n 0, 1) := by decide +kernel
theorem dL_does_5 : decode cL_does 5 = .ok (.iload_n 2, 1) := by decide +kernel
theorem dL_does_6 : decode cL_does 6 = .ok (.iload_n 3, 1) := by decide +kernel
theorem dL_does_7 : decode cL_does 7 = .ok (.invokevirtual 8, 3) := by decide +kernel
theorem dL_does_10 : decode cL_does 10 = .ok (.goto 114, 3) := by decide +kernel
theorem dL_does_13 : decode cL_does 13 = .ok (.iload_n 1, 1) := by decide +kernel
theorem dL_does_14 : decode cL_does 14 = .ok (.iconst 1, 1) := by decide +kernel
theorem dL_does_15 : decode cL_does 15 = .ok (.if_icmp .ne 12, 3) := by decide +kernel
theorem dL_does_18 : decode cL_does 18 = .ok (.aload_n 0, 1) := by decide +kernel
theorem dL_does_19 : decode cL_does 19 = .ok (.iload_n 2, 1) := by decide +kernel
theorem dL_does_20 : decode cL_does 20 = .ok (.iload_n 3, 1) := by decide +kernel
theorem dL_does_21 : decode cL_does 21 = .ok (.invokevirtual 14, 3) := by decide +kernel
theorem dL_does_24 : decode cL_does 24 = .ok (.goto 100, 3) := by decide +kernel
theorem dL_does_27 : decode cL_does 27 = .ok (.iload_n 1, 1) := by decide +kernel
theorem dL_does_28 : decode cL_does 28 = .ok (.iconst 2, 1) := by decide +kernel
theorem dL_does_29 : decode cL_does 29 = .ok (.if_icmp .ne 11, 3) := by decide +kernel
theorem dL_does_32 : decode cL_does 32 = .ok (.aload_n 0, 1) := by decide +kernel
theorem dL_does_33 : decode cL_does 33 = .ok (.iload_n 2, 1) := by decide +kernel
theorem dL_does_34 : decode cL_does 34 = .ok (.invokevirtual 17, 3) := by decide +kernel
theorem dL_does_37 : decode cL_does 37 = .ok (.goto 87, 3) := by decide +kernel
theorem dL_does_40 : decode cL_does 40 = .ok (.iload_n 1, 1) := by decide +kernel
theorem dL_does_41 : decode cL_does 41 = .ok (.iconst 3, 1) := by decide +kernel
theorem dL_does_42 : decode cL_does 42 = .ok (.if_icmp .ne 19, 3) := by decide +kernel
theorem dL_does_45 : decode cL_does 45 = .ok (.aload_n 0, 1) := by decide +kernel
theorem dL_does_46 : decode cL_does 46 = .ok (.iload_n 2, 1) := by decide +kernel
theorem dL_does_47 : decode cL_does 47 = .ok (.invokevirtual 21, 3) := by decide +kernel
theorem dL_does_50 : decode cL_does 50 = .ok (.ifCond .eq 7, 3) := by decide +kernel
theorem dL_does_53 : decode cL_does 53 = .ok (.iconst 1, 1) := by decide +kernel
theorem dL_does_54 : decode cL_does 54 = .ok (.goto 70, 3) := by decide +kernel
theorem dL_does_57 : decode cL_does 57 = .ok (.iconst 0, 1) := by decide +kernel
theorem dL_does_58 : decode cL_does 58 = .ok (.goto 66, 3) := by decide +kernel
theorem dL_does_61 : decode cL_does 61 = .ok (.iload_n 1, 1) := by decide +kernel
theorem dL_does_62 : decode cL_does 62 = .ok (.iconst 4, 1) := by decide +kernel
theorem dL_does_63 : decode cL_does 63 = .ok (.if_icmp .ne 12, 3) := by decide +kernel
theorem dL_does_66 : decode cL_does 66 = .ok (.aload_n 0, 1) := by decide +kernel
theorem dL_does_67 : decode cL_does 67 = .ok (.iload_n 2, 1) := by decide +kernel
theorem dL_does_68 : decode cL_does 68 = .ok (.iload_n 3, 1) := by decide +kernel
theorem dL_does_69 : decode cL_does 69 = .ok (.invokevirtual 25, 3) := by decide +kernel
theorem dL_does_72 : decode cL_does 72 = .ok (.goto 52, 3) := by decide +kernel
theorem dL_does_75 : decode cL_does 75 = .ok (.iload_n 1, 1) := by decide +kernel
theorem dL_does_76 : decode cL_does 76 = .ok (.iconst 5, 1) := by decide +kernel
theorem dL_does_77 : decode cL_does 77 = .ok (.if_icmp .ne 12, 3) := by decide +kernel
theorem dL_does_80 : decode cL_does 80 = .ok (.aload_n 0, 1) := by decide +kernel
theorem dL_does_81 : decode cL_does 81 = .ok (.iload_n 2, 1) := by decide +kernel
theorem dL_does_82 : decode cL_does 82 = .ok (.iload_n 3, 1) := by decide +kernel
theorem dL_does_83 : decode cL_does 83 = .ok (.invokevirtual 28, 3) := by decide +kernel
theorem dL_does_86 : decode cL_does 86 = .ok (.goto 38, 3) := by decide +kernel
theorem dL_does_89 : decode cL_does 89 = .ok (.iload_n 1, 1) := by decide +kernel
theorem dL_does_90 : decode cL_does 90 = .ok (.bipush 6, 2) := by decide +kernel
theorem dL_does_92 : decode cL_does 92 = .ok (.if_icmp .ne 11, 3) := by decide +kernel
theorem dL_does_95 : decode cL_does 95 = .ok (.aload_n 0, 1) := by decide +kernel
theorem dL_does_96 : decode cL_does 96 = .ok (.iload_n 2, 1) := by decide +kernel
theorem dL_does_97 : decode cL_does 97 = .ok (.invokevirtual 31, 3) := by decide +kernel
theorem dL_does_100 : decode cL_does 100 = .ok (.goto 24, 3) := by decide +kernel
theorem dL_does_103 : decode cL_does 103 = .ok (.iload_n 1, 1) := by decide +kernel
theorem dL_does_104 : decode cL_does 104 = .ok (.bipush 7, 2) := by decide +kernel
theorem dL_does_106 : decode cL_does 106 = .ok (.if_icmp .ne 12, 3) := by decide +kernel
theorem dL_does_109 : decode cL_does 109 = .ok (.aload_n 0, 1) := by decide +kernel
theorem dL_does_110 : decode cL_does 110 = .ok (.iload_n 2, 1) := by decide +kernel
theorem dL_does_111 : decode cL_does 111 = .ok (.iload_n 3, 1) := by decide +kernel
theorem dL_does_112 : decode cL_does 112 = .ok (.invokevirtual 34, 3) := by decide +kernel
theorem dL_does_115 : decode cL_does 115 = .ok (.goto 9, 3) := by decide +kernel
theorem dL_does_118 : decode cL_does 118 = .ok (.aload_n 0, 1) := by decide +kernel
theorem dL_does_119 : decode cL_does 119 = .ok (.iload_n 2, 1) := by decide +kernel
theorem dL_does_120 : decode cL_does 120 = .ok (.iload_n 3, 1) := by decide +kernel
theorem dL_does_121 : decode cL_does 121 = .ok (.invokestatic 37, 3) := by decide +kernel
theorem dL_does_124 : decode cL_does 124 = .ok (.ireturn, 1) := by decide +kernel
theorem dL_does_125 : decode cL_does 125 = .ok (.astore 4, 2) := by decide +kernel
theorem dL_does_127 : decode cL_does 127 = .ok (.bipush (-30), 2) := by decide +kernel
theorem dL_does_129 : decode cL_does 129 = .ok (.ireturn, 1) := by decide +kernel
theorem dL_does_130 : decode cL_does 130 = .ok (.astore 4, 2) := by decide +kernel
theorem dL_does_132 : decode cL_does 132 = .ok (.bipush (-20), 2) := by decide +kernel
theorem dL_does_134 : decode cL_does 134 = .ok (.ireturn, 1) := by decide +kernel
theorem dL_does_135 : decode cL_does 135 = .ok (.astore 4, 2) := by decide +kernel
theorem dL_does_137 : decode cL_does 137 = .ok (.bipush (-10), 2) := by decide +kernel
theorem dL_does_139 : decode cL_does 139 = .ok (.ireturn, 1) := by decide +kernel
theorem dL_keyword_0 : decode cL_keyword 0 = .ok (.aload_n 0, 1) := by decide +kernel
theorem dL_keyword_1 : decode cL_keyword 1 = .ok (.iload_n 1, 1) := by decide +kernel
theorem dL_keyword_2 : decode cL_keyword 2 = .ok (.iload_n 2, 1) := by decide +kernel
theorem dL_keyword_3 : decode cL_keyword 3 = .ok (.invokevirtual 49, 3) := by decide +kernel
theorem dL_keyword_6 : decode cL_keyword 6 = .ok (.iconst 0, 1) := by decide +kernel
theorem dL_keyword_7 : decode cL_keyword 7 = .ok (.ireturn, 1) := by decide +kernel
theorem dL_asks_0 : decode cL_asks 0 = .ok (.iload_n 1, 1) := by decide +kernel
theorem dL_asks_1 : decode cL_asks 1 = .ok (.ifCond .ne 10, 3) := by decide +kernel
theorem dL_asks_4 : decode cL_asks 4 = .ok (.aload_n 0, 1) := by decide +kernel
theorem dL_asks_5 : decode cL_asks 5 = .ok (.invokevirtual 53, 3) := by decide +kernel
theorem dL_asks_8 : decode cL_asks 8 = .ok (.goto 131, 3) := by decide +kernel
theorem dL_asks_11 : decode cL_asks 11 = .ok (.iload_n 1, 1) := by decide +kernel
theorem dL_asks_12 : decode cL_asks 12 = .ok (.iconst 1, 1) := by decide +kernel
theorem dL_asks_13 : decode cL_asks 13 = .ok (.if_icmp .ne 11, 3) := by decide +kernel
theorem dL_asks_16 : decode cL_asks 16 = .ok (.aload_n 0, 1) := by decide +kernel
theorem dL_asks_17 : decode cL_asks 17 = .ok (.iload_n 2, 1) := by decide +kernel
theorem dL_asks_18 : decode cL_asks 18 = .ok (.invokevirtual 57, 3) := by decide +kernel
theorem dL_asks_21 : decode cL_asks 21 = .ok (.goto 118, 3) := by decide +kernel
theorem dL_asks_24 : decode cL_asks 24 = .ok (.iload_n 1, 1) := by decide +kernel
theorem dL_asks_25 : decode cL_asks 25 = .ok (.iconst 2, 1) := by decide +kernel
theorem dL_asks_26 : decode cL_asks 26 = .ok (.if_icmp .ne 11, 3) := by decide +kernel
theorem dL_asks_29 : decode cL_asks 29 = .ok (.aload_n 0, 1) := by decide +kernel
theorem dL_asks_30 : decode cL_asks 30 = .ok (.iload_n 2, 1) := by decide +kernel
theorem dL_asks_31 : decode cL_asks 31 = .ok (.invokevirtual 60, 3) := by decide +kernel
theorem dL_asks_34 : decode cL_asks 34 = .ok (.goto 105, 3) := by decide +kernel
theorem dL_asks_37 : decode cL_asks 37 = .ok (.iload_n 1, 1) := by decide +kernel
theorem dL_asks_38 : decode cL_asks 38 = .ok (.iconst 3, 1) := by decide +kernel
theorem dL_asks_39 : decode cL_asks 39 = .ok (.if_icmp .ne 12, 3) := by decide +kernel
theorem dL_asks_42 : decode cL_asks 42 = .ok (.aload_n 0, 1) := by decide +kernel
theorem dL_asks_43 : decode cL_asks 43 = .ok (.iload_n 2, 1) := by decide +kernel
theorem dL_asks_44 : decode cL_asks 44 = .ok (.iload_n 3, 1) := by decide +kernel
theorem dL_asks_45 : decode cL_asks 45 = .ok (.invokevirtual 63, 3) := by decide +kernel
theorem dL_asks_48 : decode cL_asks 48 = .ok (.goto 91, 3) := by decide +kernel
theorem dL_asks_51 : decode cL_asks 51 = .ok (.iload_n 1, 1) := by decide +kernel
theorem dL_asks_52 : decode cL_asks 52 = .ok (.iconst 4, 1) := by decide +kernel
theorem dL_asks_53 : decode cL_asks 53 = .ok (.if_icmp .ne 11, 3) := by decide +kernel
theorem dL_asks_56 : decode cL_asks 56 = .ok (.aload_n 0, 1) := by decide +kernel
theorem dL_asks_57 : decode cL_asks 57 = .ok (.iload_n 2, 1) := by decide +kernel
theorem dL_asks_58 : decode cL_asks 58 = .ok (.invokevirtual 66, 3) := by decide +kernel
theorem dL_asks_61 : decode cL_asks 61 = .ok (.goto 78, 3) := by decide +kernel
theorem dL_asks_64 : decode cL_asks 64 = .ok (.iload_n 1, 1) := by decide +kernel
theorem dL_asks_65 : decode cL_asks 65 = .ok (.iconst 5, 1) := by decide +kernel
theorem dL_asks_66 : decode cL_asks 66 = .ok (.if_icmp .ne 11, 3) := by decide +kernel
theorem dL_asks_69 : decode cL_asks 69 = .ok (.aload_n 0, 1) := by decide +kernel
theorem dL_asks_70 : decode cL_asks 70 = .ok (.iload_n 2, 1) := by decide +kernel
theorem dL_asks_71 : decode cL_asks 71 = .ok (.invokevirtual 69, 3) := by decide +kernel
theorem dL_asks_74 : decode cL_asks 74 = .ok (.goto 65, 3) := by decide +kernel
theorem dL_asks_77 : decode cL_asks 77 = .ok (.iload_n 1, 1) := by decide +kernel
theorem dL_asks_78 : decode cL_asks 78 = .ok (.bipush 6, 2) := by decide +kernel
theorem dL_asks_80 : decode cL_asks 80 = .ok (.if_icmp .ne 12, 3) := by decide +kernel
theorem dL_asks_83 : decode cL_asks 83 = .ok (.aload_n 0, 1) := by decide +kernel
theorem dL_asks_84 : decode cL_asks 84 = .ok (.iload_n 2, 1) := by decide +kernel
theorem dL_asks_85 : decode cL_asks 85 = .ok (.iload_n 3, 1) := by decide +kernel
theorem dL_asks_86 : decode cL_asks 86 = .ok (.invokevirtual 72, 3) := by decide +kernel
theorem dL_asks_89 : decode cL_asks 89 = .ok (.goto 50, 3) := by decide +kernel
theorem dL_asks_92 : decode cL_asks 92 = .ok (.iload_n 1, 1) := by decide +kernel
theorem dL_asks_93 : decode cL_asks 93 = .ok (.bipush 7, 2) := by decide +kernel
theorem dL_asks_95 : decode cL_asks 95 = .ok (.if_icmp .ne 11, 3) := by decide +kernel
theorem dL_asks_98 : decode cL_asks 98 = .ok (.aload_n 0, 1) := by decide +kernel
theorem dL_asks_99 : decode cL_asks 99 = .ok (.iload_n 2, 1) := by decide +kernel
theorem dL_asks_100 : decode cL_asks 100 = .ok (.invokevirtual 75, 3) := by decide +kernel
theorem dL_asks_103 : decode cL_asks 103 = .ok (.goto 36, 3) := by decide +kernel
theorem dL_asks_106 : decode cL_asks 106 = .ok (.iload_n 1, 1) := by decide +kernel
theorem dL_asks_107 : decode cL_asks 107 = .ok (.bipush 8, 2) := by decide +kernel
theorem dL_asks_109 : decode cL_asks 109 = .ok (.if_icmp .ne 11, 3) := by decide +kernel
theorem dL_asks_112 : decode cL_asks 112 = .ok (.aload_n 0, 1) := by decide +kernel
theorem dL_asks_113 : decode cL_asks 113 = .ok (.iload_n 2, 1) := by decide +kernel
theorem dL_asks_114 : decode cL_asks 114 = .ok (.invokevirtual 78, 3) := by decide +kernel
theorem dL_asks_117 : decode cL_asks 117 = .ok (.goto 22, 3) := by decide +kernel
theorem dL_asks_120 : decode cL_asks 120 = .ok (.iload_n 1, 1) := by decide +kernel
theorem dL_asks_121 : decode cL_asks 121 = .ok (.bipush 9, 2) := by decide +kernel
theorem dL_asks_123 : decode cL_asks 123 = .ok (.if_icmp .ne 11, 3) := by decide +kernel
theorem dL_asks_126 : decode cL_asks 126 = .ok (.aload_n 0, 1) := by decide +kernel
theorem dL_asks_127 : decode cL_asks 127 = .ok (.iload_n 2, 1) := by decide +kernel
theorem dL_asks_128 : decode cL_asks 128 = .ok (.invokevirtual 81, 3) := by decide +kernel
theorem dL_asks_131 : decode cL_asks 131 = .ok (.goto 8, 3) := by decide +kernel
theorem dL_asks_134 : decode cL_asks 134 = .ok (.aload_n 0, 1) := by decide +kernel
theorem dL_asks_135 : decode cL_asks 135 = .ok (.iload_n 2, 1) := by decide +kernel
theorem dL_asks_136 : decode cL_asks 136 = .ok (.invokevirtual 84, 3) := by decide +kernel
theorem dL_asks_139 : decode cL_asks 139 = .ok (.ireturn, 1) := by decide +kernel
theorem dL_asks_140 : decode cL_asks 140 = .ok (.astore 4, 2) := by decide +kernel
theorem dL_asks_142 : decode cL_asks 142 = .ok (.bipush (-30), 2) := by decide +kernel
theorem dL_asks_144 : decode cL_asks 144 = .ok (.ireturn, 1) := by decide +kernel
theorem dL_asks_145 : decode cL_asks 145 = .ok (.astore 4, 2) := by decide +kernel
theorem dL_asks_147 : decode cL_asks 147 = .ok (.bipush (-10), 2) := by decide +kernel
theorem dL_asks_149 : decode cL_asks 149 = .ok (.ireturn, 1) := by decide +kernel
theorem dL_bits_0 : decode cL_bits 0 = .ok (.iconst 0, 1) := by decide +kernel
theorem dL_bits_1 : decode cL_bits 1 = .ok (.istore_n 1, 1) := by decide +kernel
theorem dL_bits_2 : decode cL_bits 2 = .ok (.iconst 0, 1) := by decide +kernel
theorem dL_bits_3 : decode cL_bits 3 = .ok (.istore_n 2, 1) := by decide +kernel
theorem dL_bits_4 : decode cL_bits 4 = .ok (.iload_n 2, 1) := by decide +kernel
theorem dL_bits_5 : decode cL_bits 5 = .ok (.bipush 10, 2) := by decide +kernel
theorem dL_bits_7 : decode cL_bits 7 = .ok (.if_icmp .ge 17, 3) := by decide +kernel
theorem dL_bits_10 : decode cL_bits 10 = .ok (.iload_n 1, 1) := by decide +kernel
theorem dL_bits_11 : decode cL_bits 11 = .ok (.iload_n 0, 1) := by decide +kernel
theorem dL_bits_12 : decode cL_bits 12 = .ok (.iload_n 2, 1) := by decide +kernel
theorem dL_bits_13 : decode cL_bits 13 = .ok (.ishr, 1) := by decide +kernel
theorem dL_bits_14 : decode cL_bits 14 = .ok (.iconst 1, 1) := by decide +kernel
theorem dL_bits_15 : decode cL_bits 15 = .ok (.iand, 1) := by decide +kernel
theorem dL_bits_16 : decode cL_bits 16 = .ok (.iadd, 1) := by decide +kernel
theorem dL_bits_17 : decode cL_bits 17 = .ok (.istore_n 1, 1) := by decide +kernel
theorem dL_bits_18 : decode cL_bits 18 = .ok (.iinc 2 1, 3) := by decide +kernel
theorem dL_bits_21 : decode cL_bits 21 = .ok (.goto (-17), 3) := by decide +kernel
theorem dL_bits_24 : decode cL_bits 24 = .ok (.iload_n 1, 1) := by decide +kernel
theorem dL_bits_25 : decode cL_bits 25 = .ok (.ireturn, 1) := by decide +kernel
theorem dL_areMessages_0 : decode cL_areMessages 0 = .ok (.iconst 0, 1) := by decide +kernel
theorem dL_areMessages_1 : decode cL_areMessages 1 = .ok (.istore_n 3, 1) := by decide +kernel
theorem dL_areMessages_2 : decode cL_areMessages 2 = .ok (.aload_n 0, 1) := by decide +kernel
theorem dL_areMessages_3 : decode cL_areMessages 3 = .ok (.invokevirtual 98, 3) := by decide +kernel
theorem dL_areMessages_6 : decode cL_areMessages 6 = .ok (.aload_n 2, 1) := by decide +kernel
theorem dL_areMessages_7 : decode cL_areMessages 7 = .ok (.iconst 5, 1) := by decide +kernel
theorem dL_areMessages_8 : decode cL_areMessages 8 = .ok (.iaload, 1) := by decide +kernel
theorem dL_areMessages_9 : decode cL_areMessages 9 = .ok (.if_icmp .lt 48, 3) := by decide +kernel
theorem dL_areMessages_12 : decode cL_areMessages 12 = .ok (.aload_n 0, 1) := by decide +kernel
theorem dL_areMessages_13 : decode cL_areMessages 13 = .ok (.iconst 4, 1) := by decide +kernel
theorem dL_areMessages_14 : decode cL_areMessages 14 = .ok (.aload_n 2, 1) := by decide +kernel
theorem dL_areMessages_15 : decode cL_areMessages 15 = .ok (.iconst 3, 1) := by decide +kernel
theorem dL_areMessages_16 : decode cL_areMessages 16 = .ok (.iaload, 1) := by decide +kernel
theorem dL_areMessages_17 : decode cL_areMessages 17 = .ok (.iconst 0, 1) := by decide +kernel
theorem dL_areMessages_18 : decode cL_areMessages 18 = .ok (.invokestatic 94, 3) := by decide +kernel
theorem dL_areMessages_21 : decode cL_areMessages 21 = .ok (.bipush (-30), 2) := by decide +kernel
theorem dL_areMessages_23 : decode cL_areMessages 23 = .ok (.if_icmp .ne 34, 3) := by decide +kernel
theorem dL_areMessages_26 : decode cL_areMessages 26 = .ok (.aload_n 0, 1) := by decide +kernel
theorem dL_areMessages_27 : decode cL_areMessages 27 = .ok (.iconst 5, 1) := by decide +kernel
theorem dL_areMessages_28 : decode cL_areMessages 28 = .ok (.iconst (-1), 1) := by decide +kernel
theorem dL_areMessages_29 : decode cL_areMessages 29 = .ok (.iconst 0, 1) := by decide +kernel
theorem dL_areMessages_30 : decode cL_areMessages 30 = .ok (.invokestatic 94, 3) := by decide +kernel
theorem dL_areMessages_33 : decode cL_areMessages 33 = .ok (.bipush (-30), 2) := by decide +kernel
theorem dL_areMessages_35 : decode cL_areMessages 35 = .ok (.if_icmp .ne 22, 3) := by decide +kernel
theorem dL_areMessages_38 : decode cL_areMessages 38 = .ok (.aload_n 0, 1) := by decide +kernel
theorem dL_areMessages_39 : decode cL_areMessages 39 = .ok (.bipush 6, 2) := by decide +kernel
theorem dL_areMessages_41 : decode cL_areMessages 41 = .ok (.aload_n 2, 1) := by decide +kernel
theorem dL_areMessages_42 : decode cL_areMessages 42 = .ok (.iconst 3, 1) := by decide +kernel
theorem dL_areMessages_43 : decode cL_areMessages 43 = .ok (.iaload, 1) := by decide +kernel
theorem dL_areMessages_44 : decode cL_areMessages 44 = .ok (.iconst 0, 1) := by decide +kernel
theorem dL_areMessages_45 : decode cL_areMessages 45 = .ok (.invokestatic 94, 3) := by decide +kernel
theorem dL_areMessages_48 : decode cL_areMessages 48 = .ok (.bipush (-30), 2) := by decide +kernel
theorem dL_areMessages_50 : decode cL_areMessages 50 = .ok (.if_icmp .ne 7, 3) := by decide +kernel
theorem dL_areMessages_53 : decode cL_areMessages 53 = .ok (.iconst 1, 1) := by decide +kernel
theorem dL_areMessages_54 : decode cL_areMessages 54 = .ok (.goto 4, 3) := by decide +kernel
theorem dL_areMessages_57 : decode cL_areMessages 57 = .ok (.iconst 0, 1) := by decide +kernel
theorem dL_areMessages_58 : decode cL_areMessages 58 = .ok (.istore 4, 2) := by decide +kernel
theorem dL_areMessages_60 : decode cL_areMessages 60 = .ok (.iconst 0, 1) := by decide +kernel
theorem dL_areMessages_61 : decode cL_areMessages 61 = .ok (.istore 5, 2) := by decide +kernel
theorem dL_areMessages_63 : decode cL_areMessages 63 = .ok (.iload 5, 2) := by decide +kernel
theorem dL_areMessages_65 : decode cL_areMessages 65 = .ok (.aload_n 2, 1) := by decide +kernel
theorem dL_areMessages_66 : decode cL_areMessages 66 = .ok (.iconst 3, 1) := by decide +kernel
theorem dL_areMessages_67 : decode cL_areMessages 67 = .ok (.iaload, 1) := by decide +kernel
theorem dL_areMessages_68 : decode cL_areMessages 68 = .ok (.if_icmp .ge 194, 3) := by decide +kernel
theorem dL_areMessages_71 : decode cL_areMessages 71 = .ok (.iload 4, 2) := by decide +kernel
theorem dL_areMessages_73 : decode cL_areMessages 73 = .ok (.ifCond .eq 189, 3) := by decide +kernel
theorem dL_areMessages_76 : decode cL_areMessages 76 = .ok (.aload_n 0, 1) := by decide +kernel
theorem dL_areMessages_77 : decode cL_areMessages 77 = .ok (.iload 5, 2) := by decide +kernel
theorem dL_areMessages_79 : decode cL_areMessages 79 = .ok (.invokevirtual 66, 3) := by decide +kernel
theorem dL_areMessages_82 : decode cL_areMessages 82 = .ok (.istore 6, 2) := by decide +kernel
theorem dL_areMessages_84 : decode cL_areMessages 84 = .ok (.aload_n 0, 1) := by decide +kernel
theorem dL_areMessages_85 : decode cL_areMessages 85 = .ok (.iload 5, 2) := by decide +kernel
theorem dL_areMessages_87 : decode cL_areMessages 87 = .ok (.invokevirtual 69, 3) := by decide +kernel
theorem dL_areMessages_90 : decode cL_areMessages 90 = .ok (.istore 7, 2) := by decide +kernel
theorem dL_areMessages_92 : decode cL_areMessages 92 = .ok (.iload_n 3, 1) := by decide +kernel
theorem dL_areMessages_93 : decode cL_areMessages 93 = .ok (.iload 6, 2) := by decide +kernel
theorem dL_areMessages_95 : decode cL_areMessages 95 = .ok (.ifCond .ne 7, 3) := by decide +kernel
theorem dL_areMessages_98 : decode cL_areMessages 98 = .ok (.iconst 0, 1) := by decide +kernel
theorem dL_areMessages_99 : decode cL_areMessages 99 = .ok (.goto 4, 3) := by decide +kernel
theorem dL_areMessages_102 : decode cL_areMessages 102 = .ok (.iconst 1, 1) := by decide +kernel
theorem dL_areMessages_103 : decode cL_areMessages 103 = .ok (.iadd, 1) := by decide +kernel
theorem dL_areMessages_104 : decode cL_areMessages 104 = .ok (.istore_n 3, 1) := by decide +kernel
theorem dL_areMessages_105 : decode cL_areMessages 105 = .ok (.iload 6, 2) := by decide +kernel
theorem dL_areMessages_107 : decode cL_areMessages 107 = .ok (.ifCond .lt 93, 3) := by decide +kernel
theorem dL_areMessages_110 : decode cL_areMessages 110 = .ok (.iload 6, 2) := by decide +kernel
theorem dL_areMessages_112 : decode cL_areMessages 112 = .ok (.iconst 4, 1) := by decide +kernel
theorem dL_areMessages_113 : decode cL_areMessages 113 = .ok (.if_icmp .ge 87, 3) := by decide +kernel
theorem dL_areMessages_116 : decode cL_areMessages 116 = .ok (.aload_n 1, 1) := by decide +kernel
theorem dL_areMessages_117 : decode cL_areMessages 117 = .ok (.bipush 20, 2) := by decide +kernel
theorem dL_areMessages_119 : decode cL_areMessages 119 = .ok (.iload 5, 2) := by decide +kernel
theorem dL_areMessages_121 : decode cL_areMessages 121 = .ok (.iadd, 1) := by decide +kernel
theorem dL_areMessages_122 : decode cL_areMessages 122 = .ok (.iaload, 1) := by decide +kernel
theorem dL_areMessages_123 : decode cL_areMessages 123 = .ok (.ifCond .eq 15, 3) := by decide +kernel
theorem dL_areMessages_126 : decode cL_areMessages 126 = .ok (.iload 6, 2) := by decide +kernel
theorem dL_areMessages_128 : decode cL_areMessages 128 = .ok (.aload_n 1, 1) := by decide +kernel
theorem dL_areMessages_129 : decode cL_areMessages 129 = .ok (.bipush 20, 2) := by decide +kernel
theorem dL_areMessages_131 : decode cL_areMessages 131 = .ok (.iload 5, 2) := by decide +kernel
theorem dL_areMessages_133 : decode cL_areMessages 133 = .ok (.iadd, 1) := by decide +kernel
theorem dL_areMessages_134 : decode cL_areMessages 134 = .ok (.iaload, 1) := by decide +kernel
theorem dL_areMessages_135 : decode cL_areMessages 135 = .ok (.if_icmp .ne 65, 3) := by decide +kernel
theorem dL_areMessages_138 : decode cL_areMessages 138 = .ok (.iload 6, 2) := by decide +kernel
theorem dL_areMessages_140 : decode cL_areMessages 140 = .ok (.iconst 1, 1) := by decide +kernel
theorem dL_areMessages_141 : decode cL_areMessages 141 = .ok (.if_icmp .ne 7, 3) := by decide +kernel
theorem dL_areMessages_144 : decode cL_areMessages 144 = .ok (.iconst 1, 1) := by decide +kernel
theorem dL_areMessages_145 : decode cL_areMessages 145 = .ok (.goto 4, 3) := by decide +kernel
theorem dL_areMessages_148 : decode cL_areMessages 148 = .ok (.iconst 0, 1) := by decide +kernel
theorem dL_areMessages_149 : decode cL_areMessages 149 = .ok (.iload 7, 2) := by decide +kernel
theorem dL_areMessages_151 : decode cL_areMessages 151 = .ok (.ifCond .ne 7, 3) := by decide +kernel
theorem dL_areMessages_154 : decode cL_areMessages 154 = .ok (.iconst 1, 1) := by decide +kernel
theorem dL_areMessages_155 : decode cL_areMessages 155 = .ok (.goto 4, 3) := by decide +kernel
theorem dL_areMessages_158 : decode cL_areMessages 158 = .ok (.iconst 0, 1) := by decide +kernel
theorem dL_areMessages_159 : decode cL_areMessages 159 = .ok (.if_icmp .ne 41, 3) := by decide +kernel
theorem dL_areMessages_162 : decode cL_areMessages 162 = .ok (.aload_n 0, 1) := by decide +kernel
theorem dL_areMessages_163 : decode cL_areMessages 163 = .ok (.bipush 6, 2) := by decide +kernel
theorem dL_areMessages_165 : decode cL_areMessages 165 = .ok (.iload 5, 2) := by decide +kernel
theorem dL_areMessages_167 : decode cL_areMessages 167 = .ok (.aload_n 1, 1) := by decide +kernel
theorem dL_areMessages_168 : decode cL_areMessages 168 = .ok (.bipush 40, 2) := by decide +kernel
theorem dL_areMessages_170 : decode cL_areMessages 170 = .ok (.iload 5, 2) := by decide +kernel
theorem dL_areMessages_172 : decode cL_areMessages 172 = .ok (.iadd, 1) := by decide +kernel
theorem dL_areMessages_173 : decode cL_areMessages 173 = .ok (.iaload, 1) := by decide +kernel
theorem dL_areMessages_174 : decode cL_areMessages 174 = .ok (.invokestatic 94, 3) := by decide +kernel
theorem dL_areMessages_177 : decode cL_areMessages 177 = .ok (.bipush (-30), 2) := by decide +kernel
theorem dL_areMessages_179 : decode cL_areMessages 179 = .ok (.if_icmp .ne 21, 3) := by decide +kernel
theorem dL_areMessages_182 : decode cL_areMessages 182 = .ok (.aload_n 0, 1) := by decide +kernel
theorem dL_areMessages_183 : decode cL_areMessages 183 = .ok (.bipush 6, 2) := by decide +kernel
theorem dL_areMessages_185 : decode cL_areMessages 185 = .ok (.iload 5, 2) := by decide +kernel
theorem dL_areMessages_187 : decode cL_areMessages 187 = .ok (.iconst (-1), 1) := by decide +kernel
theorem dL_areMessages_188 : decode cL_areMessages 188 = .ok (.invokestatic 94, 3) := by decide +kernel
theorem dL_areMessages_191 : decode cL_areMessages 191 = .ok (.bipush (-30), 2) := by decide +kernel
theorem dL_areMessages_193 : decode cL_areMessages 193 = .ok (.if_icmp .ne 7, 3) := by decide +kernel
theorem dL_areMessages_196 : decode cL_areMessages 196 = .ok (.iconst 1, 1) := by decide +kernel
theorem dL_areMessages_197 : decode cL_areMessages 197 = .ok (.goto 4, 3) := by decide +kernel
theorem dL_areMessages_200 : decode cL_areMessages 200 = .ok (.iconst 0, 1) := by decide +kernel
theorem dL_areMessages_201 : decode cL_areMessages 201 = .ok (.istore 4, 2) := by decide +kernel
theorem dL_areMessages_203 : decode cL_areMessages 203 = .ok (.iload 4, 2) := by decide +kernel
theorem dL_areMessages_205 : decode cL_areMessages 205 = .ok (.ifCond .eq 39, 3) := by decide +kernel
theorem dL_areMessages_208 : decode cL_areMessages 208 = .ok (.aload_n 0, 1) := by decide +kernel
theorem dL_areMessages_209 : decode cL_areMessages 209 = .ok (.bipush 6, 2) := by decide +kernel
theorem dL_areMessages_211 : decode cL_areMessages 211 = .ok (.iload 5, 2) := by decide +kernel
theorem dL_areMessages_213 : decode cL_areMessages 213 = .ok (.iconst 0, 1) := by decide +kernel
theorem dL_areMessages_214 : decode cL_areMessages 214 = .ok (.invokestatic 94, 3) := by decide +kernel
theorem dL_areMessages_217 : decode cL_areMessages 217 = .ok (.ifCond .lt 7, 3) := by decide +kernel
theorem dL_areMessages_220 : decode cL_areMessages 220 = .ok (.iconst 1, 1) := by decide +kernel
theorem dL_areMessages_221 : decode cL_areMessages 221 = .ok (.goto 4, 3) := by decide +kernel
theorem dL_areMessages_224 : decode cL_areMessages 224 = .ok (.iconst 0, 1) := by decide +kernel
theorem dL_areMessages_225 : decode cL_areMessages 225 = .ok (.iload 7, 2) := by decide +kernel
theorem dL_areMessages_227 : decode cL_areMessages 227 = .ok (.iconst 1, 1) := by decide +kernel
theorem dL_areMessages_228 : decode cL_areMessages 228 = .ok (.iand, 1) := by decide +kernel
theorem dL_areMessages_229 : decode cL_areMessages 229 = .ok (.ifCond .ne 7, 3) := by decide +kernel
theorem dL_areMessages_232 : decode cL_areMessages 232 = .ok (.iconst 1, 1) := by decide +kernel
theorem dL_areMessages_233 : decode cL_areMessages 233 = .ok (.goto 4, 3) := by decide +kernel
theorem dL_areMessages_236 : decode cL_areMessages 236 = .ok (.iconst 0, 1) := by decide +kernel
theorem dL_areMessages_237 : decode cL_areMessages 237 = .ok (.if_icmp .ne 7, 3) := by decide +kernel
theorem dL_areMessages_240 : decode cL_areMessages 240 = .ok (.iconst 1, 1) := by decide +kernel
theorem dL_areMessages_241 : decode cL_areMessages 241 = .ok (.goto 4, 3) := by decide +kernel
theorem dL_areMessages_244 : decode cL_areMessages 244 = .ok (.iconst 0, 1) := by decide +kernel
theorem dL_areMessages_245 : decode cL_areMessages 245 = .ok (.istore 4, 2) := by decide +kernel
theorem dL_areMessages_247 : decode cL_areMessages 247 = .ok (.aload_n 1, 1) := by decide +kernel
theorem dL_areMessages_248 : decode cL_areMessages 248 = .ok (.bipush 20, 2) := by decide +kernel
theorem dL_areMessages_250 : decode cL_areMessages 250 = .ok (.iload 5, 2) := by decide +kernel
theorem dL_areMessages_252 : decode cL_areMessages 252 = .ok (.iadd, 1) := by decide +kernel
theorem dL_areMessages_253 : decode cL_areMessages 253 = .ok (.iload 6, 2) := by decide +kernel
theorem dL_areMessages_255 : decode cL_areMessages 255 = .ok (.iastore, 1) := by decide +kernel
theorem dL_areMessages_256 : decode cL_areMessages 256 = .ok (.iinc 5 1, 3) := by decide +kernel
theorem dL_areMessages_259 : decode cL_areMessages 259 = .ok (.goto (-196), 3) := by decide +kernel
theorem dL_areMessages_262 : decode cL_areMessages 262 = .ok (.aload_n 2, 1) := by decide +kernel
theorem dL_areMessages_263 : decode cL_areMessages 263 = .ok (.iconst 5, 1) := by decide +kernel
theorem dL_areMessages_264 : decode cL_areMessages 264 = .ok (.iaload, 1) := by decide +kernel
theorem dL_areMessages_265 : decode cL_areMessages 265 = .ok (.istore 5, 2) := by decide +kernel
theorem dL_areMessages_267 : decode cL_areMessages 267 = .ok (.iload 5, 2) := by decide +kernel
theorem dL_areMessages_269 : decode cL_areMessages 269 = .ok (.aload_n 0, 1) := by decide +kernel
theorem dL_areMessages_270 : decode cL_areMessages 270 = .ok (.invokevirtual 98, 3) := by decide +kernel
theorem dL_areMessages_273 : decode cL_areMessages 273 = .ok (.if_icmp .ge 65, 3) := by decide +kernel
theorem dL_areMessages_276 : decode cL_areMessages 276 = .ok (.iload 4, 2) := by decide +kernel
theorem dL_areMessages_278 : decode cL_areMessages 278 = .ok (.ifCond .eq 60, 3) := by decide +kernel
theorem dL_areMessages_281 : decode cL_areMessages 281 = .ok (.aload_n 0, 1) := by decide +kernel
theorem dL_areMessages_282 : decode cL_areMessages 282 = .ok (.iload 5, 2) := by decide +kernel
theorem dL_areMessages_284 : decode cL_areMessages 284 = .ok (.invokevirtual 75, 3) := by decide +kernel
theorem dL_areMessages_287 : decode cL_areMessages 287 = .ok (.istore 6, 2) := by decide +kernel
theorem dL_areMessages_289 : decode cL_areMessages 289 = .ok (.iload 6, 2) := by decide +kernel
theorem dL_areMessages_291 : decode cL_areMessages 291 = .ok (.bipush 10, 2) := by decide +kernel
theorem dL_areMessages_293 : decode cL_areMessages 293 = .ok (.idiv, 1) := by decide +kernel
theorem dL_areMessages_294 : decode cL_areMessages 294 = .ok (.aload_n 2, 1) := by decide +kernel
theorem dL_areMessages_295 : decode cL_areMessages 295 = .ok (.iconst 3, 1) := by decide +kernel
theorem dL_areMessages_296 : decode cL_areMessages 296 = .ok (.iaload, 1) := by decide +kernel
theorem dL_areMessages_297 : decode cL_areMessages 297 = .ok (.if_icmp .ge 32, 3) := by decide +kernel
theorem dL_areMessages_300 : decode cL_areMessages 300 = .ok (.iload 6, 2) := by decide +kernel
theorem dL_areMessages_302 : decode cL_areMessages 302 = .ok (.bipush 10, 2) := by decide +kernel
theorem dL_areMessages_304 : decode cL_areMessages 304 = .ok (.irem, 1) := by decide +kernel
theorem dL_areMessages_305 : decode cL_areMessages 305 = .ok (.ifCond .le 24, 3) := by decide +kernel
theorem dL_areMessages_308 : decode cL_areMessages 308 = .ok (.iload 6, 2) := by decide +kernel
theorem dL_areMessages_310 : decode cL_areMessages 310 = .ok (.bipush 10, 2) := by decide +kernel
theorem dL_areMessages_312 : decode cL_areMessages 312 = .ok (.irem, 1) := by decide +kernel
theorem dL_areMessages_313 : decode cL_areMessages 313 = .ok (.aload_n 0, 1) := by decide +kernel
theorem dL_areMessages_314 : decode cL_areMessages 314 = .ok (.iload 6, 2) := by decide +kernel
theorem dL_areMessages_316 : decode cL_areMessages 316 = .ok (.bipush 10, 2) := by decide +kernel
theorem dL_areMessages_318 : decode cL_areMessages 318 = .ok (.idiv, 1) := by decide +kernel
theorem dL_areMessages_319 : decode cL_areMessages 319 = .ok (.invokevirtual 66, 3) := by decide +kernel
theorem dL_areMessages_322 : decode cL_areMessages 322 = .ok (.if_icmp .ne 7, 3) := by decide +kernel
theorem dL_areMessages_325 : decode cL_areMessages 325 = .ok (.iconst 1, 1) := by decide +kernel
theorem dL_areMessages_326 : decode cL_areMessages 326 = .ok (.goto 4, 3) := by decide +kernel
theorem dL_areMessages_329 : decode cL_areMessages 329 = .ok (.iconst 0, 1) := by decide +kernel
theorem dL_areMessages_330 : decode cL_areMessages 330 = .ok (.istore 4, 2) := by decide +kernel
theorem dL_areMessages_332 : decode cL_areMessages 332 = .ok (.iinc 5 1, 3) := by decide +kernel
theorem dL_areMessages_335 : decode cL_areMessages 335 = .ok (.goto (-68), 3) := by decide +kernel
theorem dL_areMessages_338 : decode cL_areMessages 338 = .ok (.aload_n 2, 1) := by decide +kernel
theorem dL_areMessages_339 : decode cL_areMessages 339 = .ok (.iconst 5, 1) := by decide +kernel
theorem dL_areMessages_340 : decode cL_areMessages 340 = .ok (.aload_n 0, 1) := by decide +kernel
theorem dL_areMessages_341 : decode cL_areMessages 341 = .ok (.invokevirtual 98, 3) := by decide +kernel
theorem dL_areMessages_344 : decode cL_areMessages 344 = .ok (.iastore, 1) := by decide +kernel
theorem dL_areMessages_345 : decode cL_areMessages 345 = .ok (.iload 4, 2) := by decide +kernel
theorem dL_areMessages_347 : decode cL_areMessages 347 = .ok (.ifCond .eq 42, 3) := by decide +kernel
theorem dL_areMessages_350 : decode cL_areMessages 350 = .ok (.iload_n 3, 1) := by decide +kernel
theorem dL_areMessages_351 : decode cL_areMessages 351 = .ok (.aload_n 2, 1) := by decide +kernel
theorem dL_areMessages_352 : decode cL_areMessages 352 = .ok (.iconst 5, 1) := by decide +kernel
theorem dL_areMessages_353 : decode cL_areMessages 353 = .ok (.iaload, 1) := by decide +kernel
theorem dL_areMessages_354 : decode cL_areMessages 354 = .ok (.if_icmp .ne 35, 3) := by decide +kernel
theorem dL_areMessages_357 : decode cL_areMessages 357 = .ok (.aload_n 0, 1) := by decide +kernel
theorem dL_areMessages_358 : decode cL_areMessages 358 = .ok (.bipush 7, 2) := by decide +kernel
theorem dL_areMessages_360 : decode cL_areMessages 360 = .ok (.aload_n 2, 1) := by decide +kernel
theorem dL_areMessages_361 : decode cL_areMessages 361 = .ok (.iconst 5, 1) := by decide +kernel
theorem dL_areMessages_362 : decode cL_areMessages 362 = .ok (.iaload, 1) := by decide +kernel
theorem dL_areMessages_363 : decode cL_areMessages 363 = .ok (.iconst 0, 1) := by decide +kernel
theorem dL_areMessages_364 : decode cL_areMessages 364 = .ok (.invokestatic 94, 3) := by decide +kernel
theorem dL_areMessages_367 : decode cL_areMessages 367 = .ok (.bipush (-30), 2) := by decide +kernel
theorem dL_areMessages_369 : decode cL_areMessages 369 = .ok (.if_icmp .ne 20, 3) := by decide +kernel
theorem dL_areMessages_372 : decode cL_areMessages 372 = .ok (.aload_n 0, 1) := by decide +kernel
theorem dL_areMessages_373 : decode cL_areMessages 373 = .ok (.bipush 7, 2) := by decide +kernel
theorem dL_areMessages_375 : decode cL_areMessages 375 = .ok (.iconst (-1), 1) := by decide +kernel
theorem dL_areMessages_376 : decode cL_areMessages 376 = .ok (.iconst 0, 1) := by decide +kernel
theorem dL_areMessages_377 : decode cL_areMessages 377 = .ok (.invokestatic 94, 3) := by decide +kernel
theorem dL_areMessages_380 : decode cL_areMessages 380 = .ok (.bipush (-30), 2) := by decide +kernel
theorem dL_areMessages_382 : decode cL_areMessages 382 = .ok (.if_icmp .ne 7, 3) := by decide +kernel
theorem dL_areMessages_385 : decode cL_areMessages 385 = .ok (.iconst 1, 1) := by decide +kernel
theorem dL_areMessages_386 : decode cL_areMessages 386 = .ok (.goto 4, 3) := by decide +kernel
theorem dL_areMessages_389 : decode cL_areMessages 389 = .ok (.iconst 0, 1) := by decide +kernel
theorem dL_areMessages_390 : decode cL_areMessages 390 = .ok (.ireturn, 1) := by decide +kernel
theorem dL_areLinks_0 : decode cL_areLinks 0 = .ok (.aload_n 0, 1) := by decide +kernel
theorem dL_areLinks_1 : decode cL_areLinks 1 = .ok (.invokevirtual 101, 3) := by decide +kernel
theorem dL_areLinks_4 : decode cL_areLinks 4 = .ok (.aload_n 3, 1) := by decide +kernel
theorem dL_areLinks_5 : decode cL_areLinks 5 = .ok (.iconst 4, 1) := by decide +kernel
theorem dL_areLinks_6 : decode cL_areLinks 6 = .ok (.iaload, 1) := by decide +kernel
theorem dL_areLinks_7 : decode cL_areLinks 7 = .ok (.if_icmp .ne 46, 3) := by decide +kernel
theorem dL_areLinks_10 : decode cL_areLinks 10 = .ok (.aload_n 0, 1) := by decide +kernel
theorem dL_areLinks_11 : decode cL_areLinks 11 = .ok (.bipush 8, 2) := by decide +kernel
theorem dL_areLinks_13 : decode cL_areLinks 13 = .ok (.iconst 3, 1) := by decide +kernel
theorem dL_areLinks_14 : decode cL_areLinks 14 = .ok (.iconst 0, 1) := by decide +kernel
theorem dL_areLinks_15 : decode cL_areLinks 15 = .ok (.invokestatic 94, 3) := by decide +kernel
theorem dL_areLinks_18 : decode cL_areLinks 18 = .ok (.bipush (-30), 2) := by decide +kernel
theorem dL_areLinks_20 : decode cL_areLinks 20 = .ok (.if_icmp .ne 33, 3) := by decide +kernel
theorem dL_areLinks_23 : decode cL_areLinks 23 = .ok (.aload_n 0, 1) := by decide +kernel
theorem dL_areLinks_24 : decode cL_areLinks 24 = .ok (.bipush 9, 2) := by decide +kernel
theorem dL_areLinks_26 : decode cL_areLinks 26 = .ok (.iconst (-1), 1) := by decide +kernel
theorem dL_areLinks_27 : decode cL_areLinks 27 = .ok (.iconst 0, 1) := by decide +kernel
theorem dL_areLinks_28 : decode cL_areLinks 28 = .ok (.invokestatic 94, 3) := by decide +kernel
theorem dL_areLinks_31 : decode cL_areLinks 31 = .ok (.bipush (-30), 2) := by decide +kernel
theorem dL_areLinks_33 : decode cL_areLinks 33 = .ok (.if_icmp .ne 20, 3) := by decide +kernel
theorem dL_areLinks_36 : decode cL_areLinks 36 = .ok (.aload_n 0, 1) := by decide +kernel
theorem dL_areLinks_37 : decode cL_areLinks 37 = .ok (.bipush 10, 2) := by decide +kernel
theorem dL_areLinks_39 : decode cL_areLinks 39 = .ok (.iconst 3, 1) := by decide +kernel
theorem dL_areLinks_40 : decode cL_areLinks 40 = .ok (.iconst 0, 1) := by decide +kernel
theorem dL_areLinks_41 : decode cL_areLinks 41 = .ok (.invokestatic 94, 3) := by decide +kernel
theorem dL_areLinks_44 : decode cL_areLinks 44 = .ok (.bipush (-30), 2) := by decide +kernel
theorem dL_areLinks_46 : decode cL_areLinks 46 = .ok (.if_icmp .ne 7, 3) := by decide +kernel
theorem dL_areLinks_49 : decode cL_areLinks 49 = .ok (.iconst 1, 1) := by decide +kernel
theorem dL_areLinks_50 : decode cL_areLinks 50 = .ok (.goto 4, 3) := by decide +kernel
theorem dL_areLinks_53 : decode cL_areLinks 53 = .ok (.iconst 0, 1) := by decide +kernel
theorem dL_areLinks_54 : decode cL_areLinks 54 = .ok (.istore 4, 2) := by decide +kernel
theorem dL_areLinks_56 : decode cL_areLinks 56 = .ok (.iconst 0, 1) := by decide +kernel
theorem dL_areLinks_57 : decode cL_areLinks 57 = .ok (.istore 5, 2) := by decide +kernel
theorem dL_areLinks_59 : decode cL_areLinks 59 = .ok (.iload 5, 2) := by decide +kernel
theorem dL_areLinks_61 : decode cL_areLinks 61 = .ok (.iconst 3, 1) := by decide +kernel
theorem dL_areLinks_62 : decode cL_areLinks 62 = .ok (.if_icmp .ge 169, 3) := by decide +kernel
theorem dL_areLinks_65 : decode cL_areLinks 65 = .ok (.iload 4, 2) := by decide +kernel
theorem dL_areLinks_67 : decode cL_areLinks 67 = .ok (.ifCond .eq 164, 3) := by decide +kernel
theorem dL_areLinks_70 : decode cL_areLinks 70 = .ok (.iconst 0, 1) := by decide +kernel
theorem dL_areLinks_71 : decode cL_areLinks 71 = .ok (.istore 6, 2) := by decide +kernel
theorem dL_areLinks_73 : decode cL_areLinks 73 = .ok (.iconst 0, 1) := by decide +kernel
theorem dL_areLinks_74 : decode cL_areLinks 74 = .ok (.istore 7, 2) := by decide +kernel
theorem dL_areLinks_76 : decode cL_areLinks 76 = .ok (.iload 7, 2) := by decide +kernel
theorem dL_areLinks_78 : decode cL_areLinks 78 = .ok (.aload_n 3, 1) := by decide +kernel
theorem dL_areLinks_79 : decode cL_areLinks 79 = .ok (.iconst 3, 1) := by decide +kernel
theorem dL_areLinks_80 : decode cL_areLinks 80 = .ok (.iaload, 1) := by decide +kernel
theorem dL_areLinks_81 : decode cL_areLinks 81 = .ok (.if_icmp .ge 48, 3) := by decide +kernel
theorem dL_areLinks_84 : decode cL_areLinks 84 = .ok (.iload 6, 2) := by decide +kernel
theorem dL_areLinks_86 : decode cL_areLinks 86 = .ok (.aload_n 1, 1) := by decide +kernel
theorem dL_areLinks_87 : decode cL_areLinks 87 = .ok (.iload 7, 2) := by decide +kernel
theorem dL_areLinks_89 : decode cL_areLinks 89 = .ok (.iaload, 1) := by decide +kernel
theorem dL_areLinks_90 : decode cL_areLinks 90 = .ok (.iconst 3, 1) := by decide +kernel
theorem dL_areLinks_91 : decode cL_areLinks 91 = .ok (.irem, 1) := by decide +kernel
theorem dL_areLinks_92 : decode cL_areLinks 92 = .ok (.iload 5, 2) := by decide +kernel
theorem dL_areLinks_94 : decode cL_areLinks 94 = .ok (.if_icmp .ne 25, 3) := by decide +kernel
theorem dL_areLinks_97 : decode cL_areLinks 97 = .ok (.aload_n 1, 1) := by decide +kernel
theorem dL_areLinks_98 : decode cL_areLinks 98 = .ok (.bipush 20, 2) := by decide +kernel
theorem dL_areLinks_100 : decode cL_areLinks 100 = .ok (.iload 7, 2) := by decide +kernel
theorem dL_areLinks_102 : decode cL_areLinks 102 = .ok (.iadd, 1) := by decide +kernel
theorem dL_areLinks_103 : decode cL_areLinks 103 = .ok (.iaload, 1) := by decide +kernel
theorem dL_areLinks_104 : decode cL_areLinks 104 = .ok (.ifCond .ne 15, 3) := by decide +kernel
theorem dL_areLinks_107 : decode cL_areLinks 107 = .ok (.aload_n 0, 1) := by decide +kernel
theorem dL_areLinks_108 : decode cL_areLinks 108 = .ok (.iload 7, 2) := by decide +kernel
theorem dL_areLinks_110 : decode cL_areLinks 110 = .ok (.invokevirtual 69, 3) := by decide +kernel
theorem dL_areLinks_113 : decode cL_areLinks 113 = .ok (.invokestatic 104, 3) := by decide +kernel
theorem dL_areLinks_116 : decode cL_areLinks 116 = .ok (.goto 4, 3) := by decide +kernel
theorem dL_areLinks_119 : decode cL_areLinks 119 = .ok (.iconst 0, 1) := by decide +kernel
theorem dL_areLinks_120 : decode cL_areLinks 120 = .ok (.iadd, 1) := by decide +kernel
theorem dL_areLinks_121 : decode cL_areLinks 121 = .ok (.istore 6, 2) := by decide +kernel
theorem dL_areLinks_123 : decode cL_areLinks 123 = .ok (.iinc 7 1, 3) := by decide +kernel
theorem dL_areLinks_126 : decode cL_areLinks 126 = .ok (.goto (-50), 3) := by decide +kernel
theorem dL_areLinks_129 : decode cL_areLinks 129 = .ok (.aload_n 0, 1) := by decide +kernel
theorem dL_areLinks_130 : decode cL_areLinks 130 = .ok (.iload 5, 2) := by decide +kernel
theorem dL_areLinks_132 : decode cL_areLinks 132 = .ok (.invokevirtual 81, 3) := by decide +kernel
theorem dL_areLinks_135 : decode cL_areLinks 135 = .ok (.istore 7, 2) := by decide +kernel
theorem dL_areLinks_137 : decode cL_areLinks 137 = .ok (.iload 7, 2) := by decide +kernel
theorem dL_areLinks_139 : decode cL_areLinks 139 = .ok (.ifCond .lt 83, 3) := by decide +kernel
theorem dL_areLinks_142 : decode cL_areLinks 142 = .ok (.iload 7, 2) := by decide +kernel
theorem dL_areLinks_144 : decode cL_areLinks 144 = .ok (.bipush 11, 2) := by decide +kernel
theorem dL_areLinks_146 : decode cL_areLinks 146 = .ok (.if_icmp .ge 76, 3) := by decide +kernel
theorem dL_areLinks_149 : decode cL_areLinks 149 = .ok (.aload_n 0, 1) := by decide +kernel
theorem dL_areLinks_150 : decode cL_areLinks 150 = .ok (.iload 5, 2) := by decide +kernel
theorem dL_areLinks_152 : decode cL_areLinks 152 = .ok (.invokevirtual 78, 3) := by decide +kernel
theorem dL_areLinks_155 : decode cL_areLinks 155 = .ok (.ifCond .lt 67, 3) := by decide +kernel
theorem dL_areLinks_158 : decode cL_areLinks 158 = .ok (.aload_n 0, 1) := by decide +kernel
theorem dL_areLinks_159 : decode cL_areLinks 159 = .ok (.iload 5, 2) := by decide +kernel
theorem dL_areLinks_161 : decode cL_areLinks 161 = .ok (.invokevirtual 78, 3) := by decide +kernel
theorem dL_areLinks_164 : decode cL_areLinks 164 = .ok (.iload 6, 2) := by decide +kernel
theorem dL_areLinks_166 : decode cL_areLinks 166 = .ok (.if_icmp .gt 56, 3) := by decide +kernel
theorem dL_areLinks_169 : decode cL_areLinks 169 = .ok (.aload_n 0, 1) := by decide +kernel
theorem dL_areLinks_170 : decode cL_areLinks 170 = .ok (.iload 5, 2) := by decide +kernel
theorem dL_areLinks_172 : decode cL_areLinks 172 = .ok (.invokevirtual 78, 3) := by decide +kernel
theorem dL_areLinks_175 : decode cL_areLinks 175 = .ok (.iload 7, 2) := by decide +kernel
theorem dL_areLinks_177 : decode cL_areLinks 177 = .ok (.iadd, 1) := by decide +kernel
theorem dL_areLinks_178 : decode cL_areLinks 178 = .ok (.iload 6, 2) := by decide +kernel
theorem dL_areLinks_180 : decode cL_areLinks 180 = .ok (.if_icmp .lt 42, 3) := by decide +kernel
theorem dL_areLinks_183 : decode cL_areLinks 183 = .ok (.aload_n 0, 1) := by decide +kernel
theorem dL_areLinks_184 : decode cL_areLinks 184 = .ok (.iload 5, 2) := by decide +kernel
theorem dL_areLinks_186 : decode cL_areLinks 186 = .ok (.invokevirtual 84, 3) := by decide +kernel
theorem dL_areLinks_189 : decode cL_areLinks 189 = .ok (.ifCond .lt 33, 3) := by decide +kernel
theorem dL_areLinks_192 : decode cL_areLinks 192 = .ok (.aload_n 0, 1) := by decide +kernel
theorem dL_areLinks_193 : decode cL_areLinks 193 = .ok (.iload 5, 2) := by decide +kernel
theorem dL_areLinks_195 : decode cL_areLinks 195 = .ok (.invokevirtual 84, 3) := by decide +kernel
theorem dL_areLinks_198 : decode cL_areLinks 198 = .ok (.bipush 6, 2) := by decide +kernel
theorem dL_areLinks_200 : decode cL_areLinks 200 = .ok (.if_icmp .ge 22, 3) := by decide +kernel
theorem dL_areLinks_203 : decode cL_areLinks 203 = .ok (.aload_n 2, 1) := by decide +kernel
theorem dL_areLinks_204 : decode cL_areLinks 204 = .ok (.bipush 6, 2) := by decide +kernel
theorem dL_areLinks_206 : decode cL_areLinks 206 = .ok (.iload 5, 2) := by decide +kernel
theorem dL_areLinks_208 : decode cL_areLinks 208 = .ok (.iadd, 1) := by decide +kernel
theorem dL_areLinks_209 : decode cL_areLinks 209 = .ok (.iaload, 1) := by decide +kernel
theorem dL_areLinks_210 : decode cL_areLinks 210 = .ok (.ifCond .eq 8, 3) := by decide +kernel
theorem dL_areLinks_213 : decode cL_areLinks 213 = .ok (.iload 7, 2) := by decide +kernel
theorem dL_areLinks_215 : decode cL_areLinks 215 = .ok (.ifCond .ne 7, 3) := by decide +kernel
theorem dL_areLinks_218 : decode cL_areLinks 218 = .ok (.iconst 1, 1) := by decide +kernel
theorem dL_areLinks_219 : decode cL_areLinks 219 = .ok (.goto 4, 3) := by decide +kernel
theorem dL_areLinks_222 : decode cL_areLinks 222 = .ok (.iconst 0, 1) := by decide +kernel
theorem dL_areLinks_223 : decode cL_areLinks 223 = .ok (.istore 4, 2) := by decide +kernel
theorem dL_areLinks_225 : decode cL_areLinks 225 = .ok (.iinc 5 1, 3) := by decide +kernel
theorem dL_areLinks_228 : decode cL_areLinks 228 = .ok (.goto (-169), 3) := by decide +kernel
theorem dL_areLinks_231 : decode cL_areLinks 231 = .ok (.iload 4, 2) := by decide +kernel
theorem dL_areLinks_233 : decode cL_areLinks 233 = .ok (.ireturn, 1) := by decide +kernel
theorem dL_isWritten_0 : decode cL_isWritten 0 = .ok (.iload_n 2, 1) := by decide +kernel
theorem dL_isWritten_1 : decode cL_isWritten 1 = .ok (.ifCond .lt 25, 3) := by decide +kernel
theorem dL_isWritten_4 : decode cL_isWritten 4 = .ok (.iload_n 2, 1) := by decide +kernel
theorem dL_isWritten_5 : decode cL_isWritten 5 = .ok (.sipush 1000, 3) := by decide +kernel
theorem dL_isWritten_8 : decode cL_isWritten 8 = .ok (.if_icmp .ge 18, 3) := by decide +kernel
theorem dL_isWritten_11 : decode cL_isWritten 11 = .ok (.iload_n 3, 1) := by decide +kernel
theorem dL_isWritten_12 : decode cL_isWritten 12 = .ok (.ifCond .le 14, 3) := by decide +kernel
theorem dL_isWritten_15 : decode cL_isWritten 15 = .ok (.iload_n 3, 1) := by decide +kernel
theorem dL_isWritten_16 : decode cL_isWritten 16 = .ok (.sipush 201, 3) := by decide +kernel
theorem dL_isWritten_19 : decode cL_isWritten 19 = .ok (.if_icmp .ge 7, 3) := by decide +kernel
theorem dL_isWritten_22 : decode cL_isWritten 22 = .ok (.iconst 1, 1) := by decide +kernel
theorem dL_isWritten_23 : decode cL_isWritten 23 = .ok (.goto 4, 3) := by decide +kernel
theorem dL_isWritten_26 : decode cL_isWritten 26 = .ok (.iconst 0, 1) := by decide +kernel
theorem dL_isWritten_27 : decode cL_isWritten 27 = .ok (.istore 4, 2) := by decide +kernel
theorem dL_isWritten_29 : decode cL_isWritten 29 = .ok (.iload 4, 2) := by decide +kernel
theorem dL_isWritten_31 : decode cL_isWritten 31 = .ok (.ifCond .ne 8, 3) := by decide +kernel
theorem dL_isWritten_34 : decode cL_isWritten 34 = .ok (.bipush (-20), 2) := by decide +kernel
theorem dL_isWritten_36 : decode cL_isWritten 36 = .ok (.goto 24, 3) := by decide +kernel
theorem dL_isWritten_39 : decode cL_isWritten 39 = .ok (.aload_n 1, 1) := by decide +kernel
theorem dL_isWritten_40 : decode cL_isWritten 40 = .ok (.iconst 0, 1) := by decide +kernel
theorem dL_isWritten_41 : decode cL_isWritten 41 = .ok (.iaload, 1) := by decide +kernel
theorem dL_isWritten_42 : decode cL_isWritten 42 = .ok (.iload_n 3, 1) := by decide +kernel
theorem dL_isWritten_43 : decode cL_isWritten 43 = .ok (.iadd, 1) := by decide +kernel
theorem dL_isWritten_44 : decode cL_isWritten 44 = .ok (.sipush 400, 3) := by decide +kernel
theorem dL_isWritten_47 : decode cL_isWritten 47 = .ok (.if_icmp .le 8, 3) := by decide +kernel
theorem dL_isWritten_50 : decode cL_isWritten 50 = .ok (.bipush (-10), 2) := by decide +kernel
theorem dL_isWritten_52 : decode cL_isWritten 52 = .ok (.goto 8, 3) := by decide +kernel
theorem dL_isWritten_55 : decode cL_isWritten 55 = .ok (.aload_n 1, 1) := by decide +kernel
theorem dL_isWritten_56 : decode cL_isWritten 56 = .ok (.iconst 0, 1) := by decide +kernel
theorem dL_isWritten_57 : decode cL_isWritten 57 = .ok (.iaload, 1) := by decide +kernel
theorem dL_isWritten_58 : decode cL_isWritten 58 = .ok (.iload_n 3, 1) := by decide +kernel
theorem dL_isWritten_59 : decode cL_isWritten 59 = .ok (.iadd, 1) := by decide +kernel
theorem dL_isWritten_60 : decode cL_isWritten 60 = .ok (.istore 5, 2) := by decide +kernel
theorem dL_isWritten_62 : decode cL_isWritten 62 = .ok (.iload 5, 2) := by decide +kernel
theorem dL_isWritten_64 : decode cL_isWritten 64 = .ok (.ifCond .le 45, 3) := by decide +kernel
theorem dL_isWritten_67 : decode cL_isWritten 67 = .ok (.aload_n 1, 1) := by decide +kernel
theorem dL_isWritten_68 : decode cL_isWritten 68 = .ok (.iconst 0, 1) := by decide +kernel
theorem dL_isWritten_69 : decode cL_isWritten 69 = .ok (.iload 5, 2) := by decide +kernel
theorem dL_isWritten_71 : decode cL_isWritten 71 = .ok (.iastore, 1) := by decide +kernel
theorem dL_isWritten_72 : decode cL_isWritten 72 = .ok (.aload_n 1, 1) := by decide +kernel
theorem dL_isWritten_73 : decode cL_isWritten 73 = .ok (.iconst 1, 1) := by decide +kernel
theorem dL_isWritten_74 : decode cL_isWritten 74 = .ok (.iload_n 2, 1) := by decide +kernel
theorem dL_isWritten_75 : decode cL_isWritten 75 = .ok (.sipush 159, 3) := by decide +kernel
theorem dL_isWritten_78 : decode cL_isWritten 78 = .ok (.if_icmp .le 7, 3) := by decide +kernel
theorem dL_isWritten_81 : decode cL_isWritten 81 = .ok (.iconst 1, 1) := by decide +kernel
theorem dL_isWritten_82 : decode cL_isWritten 82 = .ok (.goto 6, 3) := by decide +kernel
theorem dL_isWritten_85 : decode cL_isWritten 85 = .ok (.aload_n 1, 1) := by decide +kernel
theorem dL_isWritten_86 : decode cL_isWritten 86 = .ok (.iconst 1, 1) := by decide +kernel
theorem dL_isWritten_87 : decode cL_isWritten 87 = .ok (.iaload, 1) := by decide +kernel
theorem dL_isWritten_88 : decode cL_isWritten 88 = .ok (.iastore, 1) := by decide +kernel
theorem dL_isWritten_89 : decode cL_isWritten 89 = .ok (.aload_n 1, 1) := by decide +kernel
theorem dL_isWritten_90 : decode cL_isWritten 90 = .ok (.iconst 2, 1) := by decide +kernel
theorem dL_isWritten_91 : decode cL_isWritten 91 = .ok (.dup2, 1) := by decide +kernel
theorem dL_isWritten_92 : decode cL_isWritten 92 = .ok (.iaload, 1) := by decide +kernel
theorem dL_isWritten_93 : decode cL_isWritten 93 = .ok (.iload_n 3, 1) := by decide +kernel
theorem dL_isWritten_94 : decode cL_isWritten 94 = .ok (.iload_n 2, 1) := by decide +kernel
theorem dL_isWritten_95 : decode cL_isWritten 95 = .ok (.sipush 128, 3) := by decide +kernel
theorem dL_isWritten_98 : decode cL_isWritten 98 = .ok (.if_icmp .ge 7, 3) := by decide +kernel
theorem dL_isWritten_101 : decode cL_isWritten 101 = .ok (.iconst 1, 1) := by decide +kernel
theorem dL_isWritten_102 : decode cL_isWritten 102 = .ok (.goto 4, 3) := by decide +kernel
theorem dL_isWritten_105 : decode cL_isWritten 105 = .ok (.iconst 2, 1) := by decide +kernel
theorem dL_isWritten_106 : decode cL_isWritten 106 = .ok (.imul, 1) := by decide +kernel
theorem dL_isWritten_107 : decode cL_isWritten 107 = .ok (.iadd, 1) := by decide +kernel
theorem dL_isWritten_108 : decode cL_isWritten 108 = .ok (.iastore, 1) := by decide +kernel
theorem dL_isWritten_109 : decode cL_isWritten 109 = .ok (.aload_n 0, 1) := by decide +kernel
theorem dL_isWritten_110 : decode cL_isWritten 110 = .ok (.iconst 0, 1) := by decide +kernel
theorem dL_isWritten_111 : decode cL_isWritten 111 = .ok (.iload_n 2, 1) := by decide +kernel
theorem dL_isWritten_112 : decode cL_isWritten 112 = .ok (.iload_n 3, 1) := by decide +kernel
theorem dL_isWritten_113 : decode cL_isWritten 113 = .ok (.invokestatic 107, 3) := by decide +kernel
theorem dL_isWritten_116 : decode cL_isWritten 116 = .ok (.iload 5, 2) := by decide +kernel
theorem dL_isWritten_118 : decode cL_isWritten 118 = .ok (.if_icmp .ne 7, 3) := by decide +kernel
theorem dL_isWritten_121 : decode cL_isWritten 121 = .ok (.iconst 1, 1) := by decide +kernel
theorem dL_isWritten_122 : decode cL_isWritten 122 = .ok (.goto 4, 3) := by decide +kernel
theorem dL_isWritten_125 : decode cL_isWritten 125 = .ok (.iconst 0, 1) := by decide +kernel
theorem dL_isWritten_126 : decode cL_isWritten 126 = .ok (.ireturn, 1) := by decide +kernel
theorem dL_clears_0 : decode cL_clears 0 = .ok (.aload_n 0, 1) := by decide +kernel
theorem dL_clears_1 : decode cL_clears 1 = .ok (.iconst 0, 1) := by decide +kernel
theorem dL_clears_2 : decode cL_clears 2 = .ok (.iconst 0, 1) := by decide +kernel
theorem dL_clears_3 : decode cL_clears 3 = .ok (.iastore, 1) := by decide +kernel
theorem dL_clears_4 : decode cL_clears 4 = .ok (.aload_n 0, 1) := by decide +kernel
theorem dL_clears_5 : decode cL_clears 5 = .ok (.iconst 1, 1) := by decide +kernel
theorem dL_clears_6 : decode cL_clears 6 = .ok (.iconst 0, 1) := by decide +kernel
theorem dL_clears_7 : decode cL_clears 7 = .ok (.iastore, 1) := by decide +kernel
theorem dL_clears_8 : decode cL_clears 8 = .ok (.aload_n 0, 1) := by decide +kernel
theorem dL_clears_9 : decode cL_clears 9 = .ok (.iconst 2, 1) := by decide +kernel
theorem dL_clears_10 : decode cL_clears 10 = .ok (.iconst 0, 1) := by decide +kernel
theorem dL_clears_11 : decode cL_clears 11 = .ok (.iastore, 1) := by decide +kernel
theorem dL_clears_12 : decode cL_clears 12 = .ok (.return_, 1) := by decide +kernel
theorem dL_isSubmitted_0 : decode cL_isSubmitted 0 = .ok (.iload_n 3, 1) := by decide +kernel
theorem dL_isSubmitted_1 : decode cL_isSubmitted 1 = .ok (.bipush 9, 2) := by decide +kernel
theorem dL_isSubmitted_3 : decode cL_isSubmitted 3 = .ok (.if_icmp .ge 20, 3) := by decide +kernel
theorem dL_isSubmitted_6 : decode cL_isSubmitted 6 = .ok (.iload 4, 2) := by decide +kernel
theorem dL_isSubmitted_8 : decode cL_isSubmitted 8 = .ok (.ifCond .le 15, 3) := by decide +kernel
theorem dL_isSubmitted_11 : decode cL_isSubmitted 11 = .ok (.iload 4, 2) := by decide +kernel
theorem dL_isSubmitted_13 : decode cL_isSubmitted 13 = .ok (.sipush 1001, 3) := by decide +kernel
theorem dL_isSubmitted_16 : decode cL_isSubmitted 16 = .ok (.if_icmp .ge 7, 3) := by decide +kernel
theorem dL_isSubmitted_19 : decode cL_isSubmitted 19 = .ok (.iconst 1, 1) := by decide +kernel
theorem dL_isSubmitted_20 : decode cL_isSubmitted 20 = .ok (.goto 4, 3) := by decide +kernel
theorem dL_isSubmitted_23 : decode cL_isSubmitted 23 = .ok (.iconst 0, 1) := by decide +kernel
theorem dL_isSubmitted_24 : decode cL_isSubmitted 24 = .ok (.istore 5, 2) := by decide +kernel
theorem dL_isSubmitted_26 : decode cL_isSubmitted 26 = .ok (.aload_n 0, 1) := by decide +kernel
theorem dL_isSubmitted_27 : decode cL_isSubmitted 27 = .ok (.invokevirtual 87, 3) := by decide +kernel
theorem dL_isSubmitted_30 : decode cL_isSubmitted 30 = .ok (.istore 6, 2) := by decide +kernel
theorem dL_isSubmitted_32 : decode cL_isSubmitted 32 = .ok (.iload_n 3, 1) := by decide +kernel
theorem dL_isSubmitted_33 : decode cL_isSubmitted 33 = .ok (.iconst 3, 1) := by decide +kernel
theorem dL_isSubmitted_34 : decode cL_isSubmitted 34 = .ok (.irem, 1) := by decide +kernel
theorem dL_isSubmitted_35 : decode cL_isSubmitted 35 = .ok (.istore 7, 2) := by decide +kernel
theorem dL_isSubmitted_37 : decode cL_isSubmitted 37 = .ok (.aload_n 0, 1) := by decide +kernel
theorem dL_isSubmitted_38 : decode cL_isSubmitted 38 = .ok (.iload 7, 2) := by decide +kernel
theorem dL_isSubmitted_40 : decode cL_isSubmitted 40 = .ok (.invokevirtual 78, 3) := by decide +kernel
theorem dL_isSubmitted_43 : decode cL_isSubmitted 43 = .ok (.istore 8, 2) := by decide +kernel
theorem dL_isSubmitted_45 : decode cL_isSubmitted 45 = .ok (.iload 5, 2) := by decide +kernel
theorem dL_isSubmitted_47 : decode cL_isSubmitted 47 = .ok (.ifCond .ne 8, 3) := by decide +kernel
theorem dL_isSubmitted_50 : decode cL_isSubmitted 50 = .ok (.bipush (-20), 2) := by decide +kernel
theorem dL_isSubmitted_52 : decode cL_isSubmitted 52 = .ok (.goto 25, 3) := by decide +kernel
theorem dL_isSubmitted_55 : decode cL_isSubmitted 55 = .ok (.aload_n 2, 1) := by decide +kernel
theorem dL_isSubmitted_56 : decode cL_isSubmitted 56 = .ok (.iconst 0, 1) := by decide +kernel
theorem dL_isSubmitted_57 : decode cL_isSubmitted 57 = .ok (.iaload, 1) := by decide +kernel
theorem dL_isSubmitted_58 : decode cL_isSubmitted 58 = .ok (.ifCond .eq 11, 3) := by decide +kernel
theorem dL_isSubmitted_61 : decode cL_isSubmitted 61 = .ok (.aload_n 2, 1) := by decide +kernel
theorem dL_isSubmitted_62 : decode cL_isSubmitted 62 = .ok (.iconst 3, 1) := by decide +kernel
theorem dL_isSubmitted_63 : decode cL_isSubmitted 63 = .ok (.iaload, 1) := by decide +kernel
theorem dL_isSubmitted_64 : decode cL_isSubmitted 64 = .ok (.bipush 20, 2) := by decide +kernel
theorem dL_isSubmitted_66 : decode cL_isSubmitted 66 = .ok (.if_icmp .ne 8, 3) := by decide +kernel
theorem dL_isSubmitted_69 : decode cL_isSubmitted 69 = .ok (.bipush (-10), 2) := by decide +kernel
theorem dL_isSubmitted_71 : decode cL_isSubmitted 71 = .ok (.goto 6, 3) := by decide +kernel
theorem dL_isSubmitted_74 : decode cL_isSubmitted 74 = .ok (.aload_n 2, 1) := by decide +kernel
theorem dL_isSubmitted_75 : decode cL_isSubmitted 75 = .ok (.iconst 3, 1) := by decide +kernel
theorem dL_isSubmitted_76 : decode cL_isSubmitted 76 = .ok (.iaload, 1) := by decide +kernel
theorem dL_isSubmitted_77 : decode cL_isSubmitted 77 = .ok (.istore 9, 2) := by decide +kernel
theorem dL_isSubmitted_79 : decode cL_isSubmitted 79 = .ok (.aload_n 0, 1) := by decide +kernel
theorem dL_isSubmitted_80 : decode cL_isSubmitted 80 = .ok (.iconst 1, 1) := by decide +kernel
theorem dL_isSubmitted_81 : decode cL_isSubmitted 81 = .ok (.iload_n 3, 1) := by decide +kernel
theorem dL_isSubmitted_82 : decode cL_isSubmitted 82 = .ok (.iload 4, 2) := by decide +kernel
theorem dL_isSubmitted_84 : decode cL_isSubmitted 84 = .ok (.invokestatic 107, 3) := by decide +kernel
theorem dL_isSubmitted_87 : decode cL_isSubmitted 87 = .ok (.iload 9, 2) := by decide +kernel
theorem dL_isSubmitted_89 : decode cL_isSubmitted 89 = .ok (.if_icmp .eq 5, 3) := by decide +kernel
theorem dL_isSubmitted_92 : decode cL_isSubmitted 92 = .ok (.iconst 0, 1) := by decide +kernel
theorem dL_isSubmitted_93 : decode cL_isSubmitted 93 = .ok (.ireturn, 1) := by decide +kernel
theorem dL_isSubmitted_94 : decode cL_isSubmitted 94 = .ok (.iload 9, 2) := by decide +kernel
theorem dL_isSubmitted_96 : decode cL_isSubmitted 96 = .ok (.ifCond .ge 20, 3) := by decide +kernel
theorem dL_isSubmitted_99 : decode cL_isSubmitted 99 = .ok (.aload_n 0, 1) := by decide +kernel
theorem dL_isSubmitted_100 : decode cL_isSubmitted 100 = .ok (.iload 7, 2) := by decide +kernel
theorem dL_isSubmitted_102 : decode cL_isSubmitted 102 = .ok (.invokevirtual 78, 3) := by decide +kernel
theorem dL_isSubmitted_105 : decode cL_isSubmitted 105 = .ok (.iload 8, 2) := by decide +kernel
theorem dL_isSubmitted_107 : decode cL_isSubmitted 107 = .ok (.if_icmp .ne 7, 3) := by decide +kernel
theorem dL_isSubmitted_110 : decode cL_isSubmitted 110 = .ok (.iconst 1, 1) := by decide +kernel
theorem dL_isSubmitted_111 : decode cL_isSubmitted 111 = .ok (.goto 4, 3) := by decide +kernel
theorem dL_isSubmitted_114 : decode cL_isSubmitted 114 = .ok (.iconst 0, 1) := by decide +kernel
theorem dL_isSubmitted_115 : decode cL_isSubmitted 115 = .ok (.ireturn, 1) := by decide +kernel
theorem dL_isSubmitted_116 : decode cL_isSubmitted 116 = .ok (.aload_n 1, 1) := by decide +kernel
theorem dL_isSubmitted_117 : decode cL_isSubmitted 117 = .ok (.iload 9, 2) := by decide +kernel
theorem dL_isSubmitted_119 : decode cL_isSubmitted 119 = .ok (.iload_n 3, 1) := by decide +kernel
theorem dL_isSubmitted_120 : decode cL_isSubmitted 120 = .ok (.iastore, 1) := by decide +kernel
theorem dL_isSubmitted_121 : decode cL_isSubmitted 121 = .ok (.aload_n 1, 1) := by decide +kernel
theorem dL_isSubmitted_122 : decode cL_isSubmitted 122 = .ok (.bipush 20, 2) := by decide +kernel
theorem dL_isSubmitted_124 : decode cL_isSubmitted 124 = .ok (.iload 9, 2) := by decide +kernel
theorem dL_isSubmitted_126 : decode cL_isSubmitted 126 = .ok (.iadd, 1) := by decide +kernel
theorem dL_isSubmitted_127 : decode cL_isSubmitted 127 = .ok (.iconst 0, 1) := by decide +kernel
theorem dL_isSubmitted_128 : decode cL_isSubmitted 128 = .ok (.iastore, 1) := by decide +kernel
theorem dL_isSubmitted_129 : decode cL_isSubmitted 129 = .ok (.aload_n 1, 1) := by decide +kernel
theorem dL_isSubmitted_130 : decode cL_isSubmitted 130 = .ok (.bipush 40, 2) := by decide +kernel
theorem dL_isSubmitted_132 : decode cL_isSubmitted 132 = .ok (.iload 9, 2) := by decide +kernel
theorem dL_isSubmitted_134 : decode cL_isSubmitted 134 = .ok (.iadd, 1) := by decide +kernel
theorem dL_isSubmitted_135 : decode cL_isSubmitted 135 = .ok (.aload_n 2, 1) := by decide +kernel
theorem dL_isSubmitted_136 : decode cL_isSubmitted 136 = .ok (.iconst 0, 1) := by decide +kernel
theorem dL_isSubmitted_137 : decode cL_isSubmitted 137 = .ok (.iaload, 1) := by decide +kernel
theorem dL_isSubmitted_138 : decode cL_isSubmitted 138 = .ok (.iastore, 1) := by decide +kernel
theorem dL_isSubmitted_139 : decode cL_isSubmitted 139 = .ok (.aload_n 2, 1) := by decide +kernel
theorem dL_isSubmitted_140 : decode cL_isSubmitted 140 = .ok (.iconst 3, 1) := by decide +kernel
theorem dL_isSubmitted_141 : decode cL_isSubmitted 141 = .ok (.dup2, 1) := by decide +kernel
theorem dL_isSubmitted_142 : decode cL_isSubmitted 142 = .ok (.iaload, 1) := by decide +kernel
theorem dL_isSubmitted_143 : decode cL_isSubmitted 143 = .ok (.iconst 1, 1) := by decide +kernel
theorem dL_isSubmitted_144 : decode cL_isSubmitted 144 = .ok (.iadd, 1) := by decide +kernel
theorem dL_isSubmitted_145 : decode cL_isSubmitted 145 = .ok (.iastore, 1) := by decide +kernel
theorem dL_isSubmitted_146 : decode cL_isSubmitted 146 = .ok (.aload_n 2, 1) := by decide +kernel
theorem dL_isSubmitted_147 : decode cL_isSubmitted 147 = .ok (.invokestatic 110, 3) := by decide +kernel
theorem dL_isSubmitted_150 : decode cL_isSubmitted 150 = .ok (.aload_n 0, 1) := by decide +kernel
theorem dL_isSubmitted_151 : decode cL_isSubmitted 151 = .ok (.iload 7, 2) := by decide +kernel
theorem dL_isSubmitted_153 : decode cL_isSubmitted 153 = .ok (.invokevirtual 78, 3) := by decide +kernel
theorem dL_isSubmitted_156 : decode cL_isSubmitted 156 = .ok (.iload 8, 2) := by decide +kernel
theorem dL_isSubmitted_158 : decode cL_isSubmitted 158 = .ok (.iload 6, 2) := by decide +kernel
theorem dL_isSubmitted_160 : decode cL_isSubmitted 160 = .ok (.iadd, 1) := by decide +kernel
theorem dL_isSubmitted_161 : decode cL_isSubmitted 161 = .ok (.if_icmp .ne 30, 3) := by decide +kernel
theorem dL_isSubmitted_164 : decode cL_isSubmitted 164 = .ok (.aload_n 0, 1) := by decide +kernel
theorem dL_isSubmitted_165 : decode cL_isSubmitted 165 = .ok (.iload 9, 2) := by decide +kernel
theorem dL_isSubmitted_167 : decode cL_isSubmitted 167 = .ok (.invokevirtual 69, 3) := by decide +kernel
theorem dL_isSubmitted_170 : decode cL_isSubmitted 170 = .ok (.invokestatic 104, 3) := by decide +kernel
theorem dL_isSubmitted_173 : decode cL_isSubmitted 173 = .ok (.iload 6, 2) := by decide +kernel
theorem dL_isSubmitted_175 : decode cL_isSubmitted 175 = .ok (.if_icmp .ne 16, 3) := by decide +kernel
theorem dL_isSubmitted_178 : decode cL_isSubmitted 178 = .ok (.aload_n 0, 1) := by decide +kernel
theorem dL_isSubmitted_179 : decode cL_isSubmitted 179 = .ok (.iload 9, 2) := by decide +kernel
theorem dL_isSubmitted_181 : decode cL_isSubmitted 181 = .ok (.invokevirtual 66, 3) := by decide +kernel
theorem dL_isSubmitted_184 : decode cL_isSubmitted 184 = .ok (.ifCond .ne 7, 3) := by decide +kernel
theorem dL_isSubmitted_187 : decode cL_isSubmitted 187 = .ok (.iconst 1, 1) := by decide +kernel
theorem dL_isSubmitted_188 : decode cL_isSubmitted 188 = .ok (.goto 4, 3) := by decide +kernel
theorem dL_isSubmitted_191 : decode cL_isSubmitted 191 = .ok (.iconst 0, 1) := by decide +kernel
theorem dL_isSubmitted_192 : decode cL_isSubmitted 192 = .ok (.ireturn, 1) := by decide +kernel
theorem dL_isAcknowledged_0 : decode cL_isAcknowledged 0 = .ok (.iload 4, 2) := by decide +kernel
theorem dL_isAcknowledged_2 : decode cL_isAcknowledged 2 = .ok (.iconst 3, 1) := by decide +kernel
theorem dL_isAcknowledged_3 : decode cL_isAcknowledged 3 = .ok (.if_icmp .eq 9, 3) := by decide +kernel
theorem dL_isAcknowledged_6 : decode cL_isAcknowledged 6 = .ok (.iload 5, 2) := by decide +kernel
theorem dL_isAcknowledged_8 : decode cL_isAcknowledged 8 = .ok (.iconst 4, 1) := by decide +kernel
theorem dL_isAcknowledged_9 : decode cL_isAcknowledged 9 = .ok (.if_icmp .ne 34, 3) := by decide +kernel
theorem dL_isAcknowledged_12 : decode cL_isAcknowledged 12 = .ok (.aload_n 0, 1) := by decide +kernel
theorem dL_isAcknowledged_13 : decode cL_isAcknowledged 13 = .ok (.iconst 5, 1) := by decide +kernel
theorem dL_isAcknowledged_14 : decode cL_isAcknowledged 14 = .ok (.iload 4, 2) := by decide +kernel
theorem dL_isAcknowledged_16 : decode cL_isAcknowledged 16 = .ok (.iload 5, 2) := by decide +kernel
theorem dL_isAcknowledged_18 : decode cL_isAcknowledged 18 = .ok (.invokestatic 107, 3) := by decide +kernel
theorem dL_isAcknowledged_21 : decode cL_isAcknowledged 21 = .ok (.iload 4, 2) := by decide +kernel
theorem dL_isAcknowledged_23 : decode cL_isAcknowledged 23 = .ok (.iconst 3, 1) := by decide +kernel
theorem dL_isAcknowledged_24 : decode cL_isAcknowledged 24 = .ok (.if_icmp .ne 8, 3) := by decide +kernel
theorem dL_isAcknowledged_27 : decode cL_isAcknowledged 27 = .ok (.bipush (-30), 2) := by decide +kernel
theorem dL_isAcknowledged_29 : decode cL_isAcknowledged 29 = .ok (.goto 5, 3) := by decide +kernel
theorem dL_isAcknowledged_32 : decode cL_isAcknowledged 32 = .ok (.bipush (-20), 2) := by decide +kernel
theorem dL_isAcknowledged_34 : decode cL_isAcknowledged 34 = .ok (.if_icmp .ne 7, 3) := by decide +kernel
theorem dL_isAcknowledged_37 : decode cL_isAcknowledged 37 = .ok (.iconst 1, 1) := by decide +kernel
theorem dL_isAcknowledged_38 : decode cL_isAcknowledged 38 = .ok (.goto 4, 3) := by decide +kernel
theorem dL_isAcknowledged_41 : decode cL_isAcknowledged 41 = .ok (.iconst 0, 1) := by decide +kernel
theorem dL_isAcknowledged_42 : decode cL_isAcknowledged 42 = .ok (.ireturn, 1) := by decide +kernel
theorem dL_isAcknowledged_43 : decode cL_isAcknowledged 43 = .ok (.aload_n 0, 1) := by decide +kernel
theorem dL_isAcknowledged_44 : decode cL_isAcknowledged 44 = .ok (.iload 4, 2) := by decide +kernel
theorem dL_isAcknowledged_46 : decode cL_isAcknowledged 46 = .ok (.invokevirtual 81, 3) := by decide +kernel
theorem dL_isAcknowledged_49 : decode cL_isAcknowledged 49 = .ok (.istore 6, 2) := by decide +kernel
theorem dL_isAcknowledged_51 : decode cL_isAcknowledged 51 = .ok (.aload_n 0, 1) := by decide +kernel
theorem dL_isAcknowledged_52 : decode cL_isAcknowledged 52 = .ok (.iload 4, 2) := by decide +kernel
theorem dL_isAcknowledged_54 : decode cL_isAcknowledged 54 = .ok (.invokevirtual 78, 3) := by decide +kernel
theorem dL_isAcknowledged_57 : decode cL_isAcknowledged 57 = .ok (.istore 7, 2) := by decide +kernel
theorem dL_isAcknowledged_59 : decode cL_isAcknowledged 59 = .ok (.aload_n 0, 1) := by decide +kernel
theorem dL_isAcknowledged_60 : decode cL_isAcknowledged 60 = .ok (.iconst 5, 1) := by decide +kernel
theorem dL_isAcknowledged_61 : decode cL_isAcknowledged 61 = .ok (.iload 4, 2) := by decide +kernel
theorem dL_isAcknowledged_63 : decode cL_isAcknowledged 63 = .ok (.iload 5, 2) := by decide +kernel
theorem dL_isAcknowledged_65 : decode cL_isAcknowledged 65 = .ok (.invokestatic 107, 3) := by decide +kernel
theorem dL_isAcknowledged_68 : decode cL_isAcknowledged 68 = .ok (.istore 8, 2) := by decide +kernel
theorem dL_isAcknowledged_70 : decode cL_isAcknowledged 70 = .ok (.iload 6, 2) := by decide +kernel
theorem dL_isAcknowledged_72 : decode cL_isAcknowledged 72 = .ok (.ifCond .ne 16, 3) := by decide +kernel
theorem dL_isAcknowledged_75 : decode cL_isAcknowledged 75 = .ok (.iload 8, 2) := by decide +kernel
theorem dL_isAcknowledged_77 : decode cL_isAcknowledged 77 = .ok (.bipush (-10), 2) := by decide +kernel
theorem dL_isAcknowledged_79 : decode cL_isAcknowledged 79 = .ok (.if_icmp .ne 7, 3) := by decide +kernel
theorem dL_isAcknowledged_82 : decode cL_isAcknowledged 82 = .ok (.iconst 1, 1) := by decide +kernel
theorem dL_isAcknowledged_83 : decode cL_isAcknowledged 83 = .ok (.goto 4, 3) := by decide +kernel
theorem dL_isAcknowledged_86 : decode cL_isAcknowledged 86 = .ok (.iconst 0, 1) := by decide +kernel
theorem dL_isAcknowledged_87 : decode cL_isAcknowledged 87 = .ok (.ireturn, 1) := by decide +kernel
theorem dL_isAcknowledged_88 : decode cL_isAcknowledged 88 = .ok (.iload 8, 2) := by decide +kernel
theorem dL_isAcknowledged_90 : decode cL_isAcknowledged 90 = .ok (.bipush 10, 2) := by decide +kernel
theorem dL_isAcknowledged_92 : decode cL_isAcknowledged 92 = .ok (.idiv, 1) := by decide +kernel
theorem dL_isAcknowledged_93 : decode cL_isAcknowledged 93 = .ok (.istore 9, 2) := by decide +kernel
theorem dL_isAcknowledged_95 : decode cL_isAcknowledged 95 = .ok (.iload 9, 2) := by decide +kernel
theorem dL_isAcknowledged_97 : decode cL_isAcknowledged 97 = .ok (.aload_n 3, 1) := by decide +kernel
theorem dL_isAcknowledged_98 : decode cL_isAcknowledged 98 = .ok (.iconst 3, 1) := by decide +kernel
theorem dL_isAcknowledged_99 : decode cL_isAcknowledged 99 = .ok (.iaload, 1) := by decide +kernel
theorem dL_isAcknowledged_100 : decode cL_isAcknowledged 100 = .ok (.if_icmp .ge 31, 3) := by decide +kernel
theorem dL_isAcknowledged_103 : decode cL_isAcknowledged 103 = .ok (.aload_n 1, 1) := by decide +kernel
theorem dL_isAcknowledged_104 : decode cL_isAcknowledged 104 = .ok (.iload 9, 2) := by decide +kernel
theorem dL_isAcknowledged_106 : decode cL_isAcknowledged 106 = .ok (.iaload, 1) := by decide +kernel
theorem dL_isAcknowledged_107 : decode cL_isAcknowledged 107 = .ok (.iconst 3, 1) := by decide +kernel
theorem dL_isAcknowledged_108 : decode cL_isAcknowledged 108 = .ok (.irem, 1) := by decide +kernel
theorem dL_isAcknowledged_109 : decode cL_isAcknowledged 109 = .ok (.iload 4, 2) := by decide +kernel
theorem dL_isAcknowledged_111 : decode cL_isAcknowledged 111 = .ok (.if_icmp .ne 20, 3) := by decide +kernel
theorem dL_isAcknowledged_114 : decode cL_isAcknowledged 114 = .ok (.aload_n 0, 1) := by decide +kernel
theorem dL_isAcknowledged_115 : decode cL_isAcknowledged 115 = .ok (.iload 4, 2) := by decide +kernel
theorem dL_isAcknowledged_117 : decode cL_isAcknowledged 117 = .ok (.invokevirtual 81, 3) := by decide +kernel
theorem dL_isAcknowledged_120 : decode cL_isAcknowledged 120 = .ok (.iload 6, 2) := by decide +kernel
theorem dL_isAcknowledged_122 : decode cL_isAcknowledged 122 = .ok (.iconst 1, 1) := by decide +kernel
theorem dL_isAcknowledged_123 : decode cL_isAcknowledged 123 = .ok (.isub, 1) := by decide +kernel
theorem dL_isAcknowledged_124 : decode cL_isAcknowledged 124 = .ok (.if_icmp .ne 7, 3) := by decide +kernel
theorem dL_isAcknowledged_127 : decode cL_isAcknowledged 127 = .ok (.iconst 1, 1) := by decide +kernel
theorem dL_isAcknowledged_128 : decode cL_isAcknowledged 128 = .ok (.goto 4, 3) := by decide +kernel
theorem dL_isAcknowledged_131 : decode cL_isAcknowledged 131 = .ok (.iconst 0, 1) := by decide +kernel
theorem dL_isAcknowledged_132 : decode cL_isAcknowledged 132 = .ok (.istore 10, 2) := by decide +kernel
theorem dL_isAcknowledged_134 : decode cL_isAcknowledged 134 = .ok (.iload 10, 2) := by decide +kernel
theorem dL_isAcknowledged_136 : decode cL_isAcknowledged 136 = .ok (.ifCond .eq 13, 3) := by decide +kernel
theorem dL_isAcknowledged_139 : decode cL_isAcknowledged 139 = .ok (.aload_n 1, 1) := by decide +kernel
theorem dL_isAcknowledged_140 : decode cL_isAcknowledged 140 = .ok (.bipush 20, 2) := by decide +kernel
theorem dL_isAcknowledged_142 : decode cL_isAcknowledged 142 = .ok (.iload 9, 2) := by decide +kernel
theorem dL_isAcknowledged_144 : decode cL_isAcknowledged 144 = .ok (.iadd, 1) := by decide +kernel
theorem dL_isAcknowledged_145 : decode cL_isAcknowledged 145 = .ok (.iaload, 1) := by decide +kernel
theorem dL_isAcknowledged_146 : decode cL_isAcknowledged 146 = .ok (.ifCond .le 41, 3) := by decide +kernel
theorem dL_isAcknowledged_149 : decode cL_isAcknowledged 149 = .ok (.iload 10, 2) := by decide +kernel
theorem dL_isAcknowledged_151 : decode cL_isAcknowledged 151 = .ok (.ifCond .eq 34, 3) := by decide +kernel
theorem dL_isAcknowledged_154 : decode cL_isAcknowledged 154 = .ok (.aload_n 0, 1) := by decide +kernel
theorem dL_isAcknowledged_155 : decode cL_isAcknowledged 155 = .ok (.iload 4, 2) := by decide +kernel
theorem dL_isAcknowledged_157 : decode cL_isAcknowledged 157 = .ok (.invokevirtual 78, 3) := by decide +kernel
theorem dL_isAcknowledged_160 : decode cL_isAcknowledged 160 = .ok (.iload 7, 2) := by decide +kernel
theorem dL_isAcknowledged_162 : decode cL_isAcknowledged 162 = .ok (.if_icmp .ne 23, 3) := by decide +kernel
theorem dL_isAcknowledged_165 : decode cL_isAcknowledged 165 = .ok (.aload_n 0, 1) := by decide +kernel
theorem dL_isAcknowledged_166 : decode cL_isAcknowledged 166 = .ok (.iload 9, 2) := by decide +kernel
theorem dL_isAcknowledged_168 : decode cL_isAcknowledged 168 = .ok (.invokevirtual 66, 3) := by decide +kernel
theorem dL_isAcknowledged_171 : decode cL_isAcknowledged 171 = .ok (.aload_n 1, 1) := by decide +kernel
theorem dL_isAcknowledged_172 : decode cL_isAcknowledged 172 = .ok (.bipush 20, 2) := by decide +kernel
theorem dL_isAcknowledged_174 : decode cL_isAcknowledged 174 = .ok (.iload 9, 2) := by decide +kernel
theorem dL_isAcknowledged_176 : decode cL_isAcknowledged 176 = .ok (.iadd, 1) := by decide +kernel
theorem dL_isAcknowledged_177 : decode cL_isAcknowledged 177 = .ok (.iaload, 1) := by decide +kernel
theorem dL_isAcknowledged_178 : decode cL_isAcknowledged 178 = .ok (.if_icmp .ne 7, 3) := by decide +kernel
theorem dL_isAcknowledged_181 : decode cL_isAcknowledged 181 = .ok (.iconst 1, 1) := by decide +kernel
theorem dL_isAcknowledged_182 : decode cL_isAcknowledged 182 = .ok (.goto 4, 3) := by decide +kernel
theorem dL_isAcknowledged_185 : decode cL_isAcknowledged 185 = .ok (.iconst 0, 1) := by decide +kernel
theorem dL_isAcknowledged_186 : decode cL_isAcknowledged 186 = .ok (.ireturn, 1) := by decide +kernel
theorem dL_isAcknowledged_187 : decode cL_isAcknowledged 187 = .ok (.aload_n 0, 1) := by decide +kernel
theorem dL_isAcknowledged_188 : decode cL_isAcknowledged 188 = .ok (.iload 9, 2) := by decide +kernel
theorem dL_isAcknowledged_190 : decode cL_isAcknowledged 190 = .ok (.invokevirtual 66, 3) := by decide +kernel
theorem dL_isAcknowledged_193 : decode cL_isAcknowledged 193 = .ok (.istore 11, 2) := by decide +kernel
theorem dL_isAcknowledged_195 : decode cL_isAcknowledged 195 = .ok (.iload 5, 2) := by decide +kernel
theorem dL_isAcknowledged_197 : decode cL_isAcknowledged 197 = .ok (.ifCond .ne 39, 3) := by decide +kernel
theorem dL_isAcknowledged_200 : decode cL_isAcknowledged 200 = .ok (.aload_n 0, 1) := by decide +kernel
theorem dL_isAcknowledged_201 : decode cL_isAcknowledged 201 = .ok (.iload 9, 2) := by decide +kernel
theorem dL_isAcknowledged_203 : decode cL_isAcknowledged 203 = .ok (.invokevirtual 69, 3) := by decide +kernel
theorem dL_isAcknowledged_206 : decode cL_isAcknowledged 206 = .ok (.iload 8, 2) := by decide +kernel
theorem dL_isAcknowledged_208 : decode cL_isAcknowledged 208 = .ok (.bipush 10, 2) := by decide +kernel
theorem dL_isAcknowledged_210 : decode cL_isAcknowledged 210 = .ok (.irem, 1) := by decide +kernel
theorem dL_isAcknowledged_211 : decode cL_isAcknowledged 211 = .ok (.ishr, 1) := by decide +kernel
theorem dL_isAcknowledged_212 : decode cL_isAcknowledged 212 = .ok (.iconst 1, 1) := by decide +kernel
theorem dL_isAcknowledged_213 : decode cL_isAcknowledged 213 = .ok (.iand, 1) := by decide +kernel
theorem dL_isAcknowledged_214 : decode cL_isAcknowledged 214 = .ok (.ifCond .ne 18, 3) := by decide +kernel
theorem dL_isAcknowledged_217 : decode cL_isAcknowledged 217 = .ok (.iload 11, 2) := by decide +kernel
theorem dL_isAcknowledged_219 : decode cL_isAcknowledged 219 = .ok (.ifCond .eq 9, 3) := by decide +kernel
theorem dL_isAcknowledged_222 : decode cL_isAcknowledged 222 = .ok (.iload 11, 2) := by decide +kernel
theorem dL_isAcknowledged_224 : decode cL_isAcknowledged 224 = .ok (.iconst 1, 1) := by decide +kernel
theorem dL_isAcknowledged_225 : decode cL_isAcknowledged 225 = .ok (.if_icmp .ne 7, 3) := by decide +kernel
theorem dL_isAcknowledged_228 : decode cL_isAcknowledged 228 = .ok (.iconst 1, 1) := by decide +kernel
theorem dL_isAcknowledged_229 : decode cL_isAcknowledged 229 = .ok (.goto 88, 3) := by decide +kernel
theorem dL_isAcknowledged_232 : decode cL_isAcknowledged 232 = .ok (.iconst 0, 1) := by decide +kernel
theorem dL_isAcknowledged_233 : decode cL_isAcknowledged 233 = .ok (.goto 84, 3) := by decide +kernel
theorem dL_isAcknowledged_236 : decode cL_isAcknowledged 236 = .ok (.iload 5, 2) := by decide +kernel
theorem dL_isAcknowledged_238 : decode cL_isAcknowledged 238 = .ok (.iconst 3, 1) := by decide +kernel
theorem dL_isAcknowledged_239 : decode cL_isAcknowledged 239 = .ok (.if_icmp .ne 17, 3) := by decide +kernel
theorem dL_isAcknowledged_242 : decode cL_isAcknowledged 242 = .ok (.iload 11, 2) := by decide +kernel
theorem dL_isAcknowledged_244 : decode cL_isAcknowledged 244 = .ok (.iconst 2, 1) := by decide +kernel
theorem dL_isAcknowledged_245 : decode cL_isAcknowledged 245 = .ok (.if_icmp .ne 7, 3) := by decide +kernel
theorem dL_isAcknowledged_248 : decode cL_isAcknowledged 248 = .ok (.iconst 1, 1) := by decide +kernel
theorem dL_isAcknowledged_249 : decode cL_isAcknowledged 249 = .ok (.goto 68, 3) := by decide +kernel
theorem dL_isAcknowledged_252 : decode cL_isAcknowledged 252 = .ok (.iconst 0, 1) := by decide +kernel
theorem dL_isAcknowledged_253 : decode cL_isAcknowledged 253 = .ok (.goto 64, 3) := by decide +kernel
theorem dL_isAcknowledged_256 : decode cL_isAcknowledged 256 = .ok (.iload 5, 2) := by decide +kernel
theorem dL_isAcknowledged_258 : decode cL_isAcknowledged 258 = .ok (.iconst 2, 1) := by decide +kernel
theorem dL_isAcknowledged_259 : decode cL_isAcknowledged 259 = .ok (.if_icmp .ne 29, 3) := by decide +kernel
theorem dL_isAcknowledged_262 : decode cL_isAcknowledged 262 = .ok (.iload 11, 2) := by decide +kernel
theorem dL_isAcknowledged_264 : decode cL_isAcknowledged 264 = .ok (.ifCond .ne 20, 3) := by decide +kernel
theorem dL_isAcknowledged_267 : decode cL_isAcknowledged 267 = .ok (.aload_n 0, 1) := by decide +kernel
theorem dL_isAcknowledged_268 : decode cL_isAcknowledged 268 = .ok (.iload 4, 2) := by decide +kernel
theorem dL_isAcknowledged_270 : decode cL_isAcknowledged 270 = .ok (.invokevirtual 78, 3) := by decide +kernel
theorem dL_isAcknowledged_273 : decode cL_isAcknowledged 273 = .ok (.iload 7, 2) := by decide +kernel
theorem dL_isAcknowledged_275 : decode cL_isAcknowledged 275 = .ok (.iconst 1, 1) := by decide +kernel
theorem dL_isAcknowledged_276 : decode cL_isAcknowledged 276 = .ok (.iadd, 1) := by decide +kernel
theorem dL_isAcknowledged_277 : decode cL_isAcknowledged 277 = .ok (.if_icmp .ne 7, 3) := by decide +kernel
theorem dL_isAcknowledged_280 : decode cL_isAcknowledged 280 = .ok (.iconst 1, 1) := by decide +kernel
theorem dL_isAcknowledged_281 : decode cL_isAcknowledged 281 = .ok (.goto 36, 3) := by decide +kernel
theorem dL_isAcknowledged_284 : decode cL_isAcknowledged 284 = .ok (.iconst 0, 1) := by decide +kernel
theorem dL_isAcknowledged_285 : decode cL_isAcknowledged 285 = .ok (.goto 32, 3) := by decide +kernel
theorem dL_isAcknowledged_288 : decode cL_isAcknowledged 288 = .ok (.iload 11, 2) := by decide +kernel
theorem dL_isAcknowledged_290 : decode cL_isAcknowledged 290 = .ok (.iconst 2, 1) := by decide +kernel
theorem dL_isAcknowledged_291 : decode cL_isAcknowledged 291 = .ok (.if_icmp .eq 21, 3) := by decide +kernel
theorem dL_isAcknowledged_294 : decode cL_isAcknowledged 294 = .ok (.iload 11, 2) := by decide +kernel
theorem dL_isAcknowledged_296 : decode cL_isAcknowledged 296 = .ok (.ifCond .ne 20, 3) := by decide +kernel
theorem dL_isAcknowledged_299 : decode cL_isAcknowledged 299 = .ok (.aload_n 0, 1) := by decide +kernel
theorem dL_isAcknowledged_300 : decode cL_isAcknowledged 300 = .ok (.iload 4, 2) := by decide +kernel
theorem dL_isAcknowledged_302 : decode cL_isAcknowledged 302 = .ok (.invokevirtual 78, 3) := by decide +kernel
theorem dL_isAcknowledged_305 : decode cL_isAcknowledged 305 = .ok (.iload 7, 2) := by decide +kernel
theorem dL_isAcknowledged_307 : decode cL_isAcknowledged 307 = .ok (.iconst 1, 1) := by decide +kernel
theorem dL_isAcknowledged_308 : decode cL_isAcknowledged 308 = .ok (.iadd, 1) := by decide +kernel
theorem dL_isAcknowledged_309 : decode cL_isAcknowledged 309 = .ok (.if_icmp .ne 7, 3) := by decide +kernel
theorem dL_isAcknowledged_312 : decode cL_isAcknowledged 312 = .ok (.iconst 1, 1) := by decide +kernel
theorem dL_isAcknowledged_313 : decode cL_isAcknowledged 313 = .ok (.goto 4, 3) := by decide +kernel
theorem dL_isAcknowledged_316 : decode cL_isAcknowledged 316 = .ok (.iconst 0, 1) := by decide +kernel
theorem dL_isAcknowledged_317 : decode cL_isAcknowledged 317 = .ok (.ireturn, 1) := by decide +kernel
theorem dL_isPassed_0 : decode cL_isPassed 0 = .ok (.iload_n 3, 1) := by decide +kernel
theorem dL_isPassed_1 : decode cL_isPassed 1 = .ok (.ifCond .le 14, 3) := by decide +kernel
theorem dL_isPassed_4 : decode cL_isPassed 4 = .ok (.iload_n 3, 1) := by decide +kernel
theorem dL_isPassed_5 : decode cL_isPassed 5 = .ok (.sipush 201, 3) := by decide +kernel
theorem dL_isPassed_8 : decode cL_isPassed 8 = .ok (.if_icmp .ge 7, 3) := by decide +kernel
theorem dL_isPassed_11 : decode cL_isPassed 11 = .ok (.iconst 1, 1) := by decide +kernel
theorem dL_isPassed_12 : decode cL_isPassed 12 = .ok (.goto 4, 3) := by decide +kernel
theorem dL_isPassed_15 : decode cL_isPassed 15 = .ok (.iconst 0, 1) := by decide +kernel
theorem dL_isPassed_16 : decode cL_isPassed 16 = .ok (.istore 4, 2) := by decide +kernel
theorem dL_isPassed_18 : decode cL_isPassed 18 = .ok (.iconst 0, 1) := by decide +kernel
theorem dL_isPassed_19 : decode cL_isPassed 19 = .ok (.istore 5, 2) := by decide +kernel
theorem dL_isPassed_21 : decode cL_isPassed 21 = .ok (.iconst 0, 1) := by decide +kernel
theorem dL_isPassed_22 : decode cL_isPassed 22 = .ok (.istore 6, 2) := by decide +kernel
theorem dL_isPassed_24 : decode cL_isPassed 24 = .ok (.iload 6, 2) := by decide +kernel
theorem dL_isPassed_26 : decode cL_isPassed 26 = .ok (.iconst 3, 1) := by decide +kernel
theorem dL_isPassed_27 : decode cL_isPassed 27 = .ok (.if_icmp .ge 20, 3) := by decide +kernel
theorem dL_isPassed_30 : decode cL_isPassed 30 = .ok (.iload 5, 2) := by decide +kernel
theorem dL_isPassed_32 : decode cL_isPassed 32 = .ok (.aload_n 0, 1) := by decide +kernel
theorem dL_isPassed_33 : decode cL_isPassed 33 = .ok (.iload 6, 2) := by decide +kernel
theorem dL_isPassed_35 : decode cL_isPassed 35 = .ok (.invokevirtual 81, 3) := by decide +kernel
theorem dL_isPassed_38 : decode cL_isPassed 38 = .ok (.isub, 1) := by decide +kernel
theorem dL_isPassed_39 : decode cL_isPassed 39 = .ok (.istore 5, 2) := by decide +kernel
theorem dL_isPassed_41 : decode cL_isPassed 41 = .ok (.iinc 6 1, 3) := by decide +kernel
theorem dL_isPassed_44 : decode cL_isPassed 44 = .ok (.goto (-20), 3) := by decide +kernel
theorem dL_isPassed_47 : decode cL_isPassed 47 = .ok (.aload_n 0, 1) := by decide +kernel
theorem dL_isPassed_48 : decode cL_isPassed 48 = .ok (.iconst 2, 1) := by decide +kernel
theorem dL_isPassed_49 : decode cL_isPassed 49 = .ok (.iload_n 3, 1) := by decide +kernel
theorem dL_isPassed_50 : decode cL_isPassed 50 = .ok (.iconst 0, 1) := by decide +kernel
theorem dL_isPassed_51 : decode cL_isPassed 51 = .ok (.invokestatic 107, 3) := by decide +kernel
theorem dL_isPassed_54 : decode cL_isPassed 54 = .ok (.istore 6, 2) := by decide +kernel
theorem dL_isPassed_56 : decode cL_isPassed 56 = .ok (.aload_n 2, 1) := by decide +kernel
theorem dL_isPassed_57 : decode cL_isPassed 57 = .ok (.iconst 4, 1) := by decide +kernel
theorem dL_isPassed_58 : decode cL_isPassed 58 = .ok (.dup2, 1) := by decide +kernel
theorem dL_isPassed_59 : decode cL_isPassed 59 = .ok (.iaload, 1) := by decide +kernel
theorem dL_isPassed_60 : decode cL_isPassed 60 = .ok (.iload 4, 2) := by decide +kernel
theorem dL_isPassed_62 : decode cL_isPassed 62 = .ok (.ifCond .eq 7, 3) := by decide +kernel
theorem dL_isPassed_65 : decode cL_isPassed 65 = .ok (.iload_n 3, 1) := by decide +kernel
theorem dL_isPassed_66 : decode cL_isPassed 66 = .ok (.goto 4, 3) := by decide +kernel
theorem dL_isPassed_69 : decode cL_isPassed 69 = .ok (.iconst 0, 1) := by decide +kernel
theorem dL_isPassed_70 : decode cL_isPassed 70 = .ok (.iadd, 1) := by decide +kernel
theorem dL_isPassed_71 : decode cL_isPassed 71 = .ok (.iastore, 1) := by decide +kernel
theorem dL_isPassed_72 : decode cL_isPassed 72 = .ok (.iconst 0, 1) := by decide +kernel
theorem dL_isPassed_73 : decode cL_isPassed 73 = .ok (.istore 7, 2) := by decide +kernel
theorem dL_isPassed_75 : decode cL_isPassed 75 = .ok (.iload 7, 2) := by decide +kernel
theorem dL_isPassed_77 : decode cL_isPassed 77 = .ok (.iconst 3, 1) := by decide +kernel
theorem dL_isPassed_78 : decode cL_isPassed 78 = .ok (.if_icmp .ge 20, 3) := by decide +kernel
theorem dL_isPassed_81 : decode cL_isPassed 81 = .ok (.iload 5, 2) := by decide +kernel
theorem dL_isPassed_83 : decode cL_isPassed 83 = .ok (.aload_n 0, 1) := by decide +kernel
theorem dL_isPassed_84 : decode cL_isPassed 84 = .ok (.iload 7, 2) := by decide +kernel
theorem dL_isPassed_86 : decode cL_isPassed 86 = .ok (.invokevirtual 81, 3) := by decide +kernel
theorem dL_isPassed_89 : decode cL_isPassed 89 = .ok (.iadd, 1) := by decide +kernel
theorem dL_isPassed_90 : decode cL_isPassed 90 = .ok (.istore 5, 2) := by decide +kernel
theorem dL_isPassed_92 : decode cL_isPassed 92 = .ok (.iinc 7 1, 3) := by decide +kernel
theorem dL_isPassed_95 : decode cL_isPassed 95 = .ok (.goto (-20), 3) := by decide +kernel
theorem dL_isPassed_98 : decode cL_isPassed 98 = .ok (.iload 6, 2) := by decide +kernel
theorem dL_isPassed_100 : decode cL_isPassed 100 = .ok (.iload 4, 2) := by decide +kernel
theorem dL_isPassed_102 : decode cL_isPassed 102 = .ok (.ifCond .eq 8, 3) := by decide +kernel
theorem dL_isPassed_105 : decode cL_isPassed 105 = .ok (.iload 5, 2) := by decide +kernel
theorem dL_isPassed_107 : decode cL_isPassed 107 = .ok (.goto 5, 3) := by decide +kernel
theorem dL_isPassed_110 : decode cL_isPassed 110 = .ok (.bipush (-20), 2) := by decide +kernel
theorem dL_isPassed_112 : decode cL_isPassed 112 = .ok (.if_icmp .ne 7, 3) := by decide +kernel
theorem dL_isPassed_115 : decode cL_isPassed 115 = .ok (.iconst 1, 1) := by decide +kernel
theorem dL_isPassed_116 : decode cL_isPassed 116 = .ok (.goto 4, 3) := by decide +kernel
theorem dL_isPassed_119 : decode cL_isPassed 119 = .ok (.iconst 0, 1) := by decide +kernel
theorem dL_isPassed_120 : decode cL_isPassed 120 = .ok (.ireturn, 1) := by decide +kernel
theorem dL_isCome_0 : decode cL_isCome 0 = .ok (.iload_n 3, 1) := by decide +kernel
theorem dL_isCome_1 : decode cL_isCome 1 = .ok (.bipush 9, 2) := by decide +kernel
theorem dL_isCome_3 : decode cL_isCome 3 = .ok (.if_icmp .ge 15, 3) := by decide +kernel
theorem dL_isCome_6 : decode cL_isCome 6 = .ok (.iload 4, 2) := by decide +kernel
theorem dL_isCome_8 : decode cL_isCome 8 = .ok (.sipush 1000, 3) := by decide +kernel
theorem dL_isCome_11 : decode cL_isCome 11 = .ok (.if_icmp .ge 7, 3) := by decide +kernel
theorem dL_isCome_14 : decode cL_isCome 14 = .ok (.iconst 1, 1) := by decide +kernel
theorem dL_isCome_15 : decode cL_isCome 15 = .ok (.goto 4, 3) := by decide +kernel
theorem dL_isCome_18 : decode cL_isCome 18 = .ok (.iconst 0, 1) := by decide +kernel
theorem dL_isCome_19 : decode cL_isCome 19 = .ok (.istore 5, 2) := by decide +kernel
theorem dL_isCome_21 : decode cL_isCome 21 = .ok (.aload_n 0, 1) := by decide +kernel
theorem dL_isCome_22 : decode cL_isCome 22 = .ok (.bipush 7, 2) := by decide +kernel
theorem dL_isCome_24 : decode cL_isCome 24 = .ok (.iload_n 3, 1) := by decide +kernel
theorem dL_isCome_25 : decode cL_isCome 25 = .ok (.iload 4, 2) := by decide +kernel
theorem dL_isCome_27 : decode cL_isCome 27 = .ok (.invokestatic 107, 3) := by decide +kernel
theorem dL_isCome_30 : decode cL_isCome 30 = .ok (.istore 6, 2) := by decide +kernel
theorem dL_isCome_32 : decode cL_isCome 32 = .ok (.iload 5, 2) := by decide +kernel
theorem dL_isCome_34 : decode cL_isCome 34 = .ok (.ifCond .ne 16, 3) := by decide +kernel
theorem dL_isCome_37 : decode cL_isCome 37 = .ok (.iload 6, 2) := by decide +kernel
theorem dL_isCome_39 : decode cL_isCome 39 = .ok (.bipush (-20), 2) := by decide +kernel
theorem dL_isCome_41 : decode cL_isCome 41 = .ok (.if_icmp .ne 7, 3) := by decide +kernel
theorem dL_isCome_44 : decode cL_isCome 44 = .ok (.iconst 1, 1) := by decide +kernel
theorem dL_isCome_45 : decode cL_isCome 45 = .ok (.goto 4, 3) := by decide +kernel
theorem dL_isCome_48 : decode cL_isCome 48 = .ok (.iconst 0, 1) := by decide +kernel
theorem dL_isCome_49 : decode cL_isCome 49 = .ok (.ireturn, 1) := by decide +kernel
theorem dL_isCome_50 : decode cL_isCome 50 = .ok (.iconst 0, 1) := by decide +kernel
theorem dL_isCome_51 : decode cL_isCome 51 = .ok (.istore 7, 2) := by decide +kernel
theorem dL_isCome_53 : decode cL_isCome 53 = .ok (.iconst 1, 1) := by decide +kernel
theorem dL_isCome_54 : decode cL_isCome 54 = .ok (.istore 8, 2) := by decide +kernel
theorem dL_isCome_56 : decode cL_isCome 56 = .ok (.iload 8, 2) := by decide +kernel
theorem dL_isCome_58 : decode cL_isCome 58 = .ok (.iconst 5, 1) := by decide +kernel
theorem dL_isCome_59 : decode cL_isCome 59 = .ok (.if_icmp .ge 30, 3) := by decide +kernel
theorem dL_isCome_62 : decode cL_isCome 62 = .ok (.aload_n 1, 1) := by decide +kernel
theorem dL_isCome_63 : decode cL_isCome 63 = .ok (.bipush 18, 2) := by decide +kernel
theorem dL_isCome_65 : decode cL_isCome 65 = .ok (.iload 8, 2) := by decide +kernel
theorem dL_isCome_67 : decode cL_isCome 67 = .ok (.iadd, 1) := by decide +kernel
theorem dL_isCome_68 : decode cL_isCome 68 = .ok (.iaload, 1) := by decide +kernel
theorem dL_isCome_69 : decode cL_isCome 69 = .ok (.iload 4, 2) := by decide +kernel
theorem dL_isCome_71 : decode cL_isCome 71 = .ok (.if_icmp .ne 8, 3) := by decide +kernel
theorem dL_isCome_74 : decode cL_isCome 74 = .ok (.iload 8, 2) := by decide +kernel
theorem dL_isCome_76 : decode cL_isCome 76 = .ok (.goto 5, 3) := by decide +kernel
theorem dL_isCome_79 : decode cL_isCome 79 = .ok (.iload 7, 2) := by decide +kernel
theorem dL_isCome_81 : decode cL_isCome 81 = .ok (.istore 7, 2) := by decide +kernel
theorem dL_isCome_83 : decode cL_isCome 83 = .ok (.iinc 8 1, 3) := by decide +kernel
theorem dL_isCome_86 : decode cL_isCome 86 = .ok (.goto (-30), 3) := by decide +kernel
theorem dL_isCome_89 : decode cL_isCome 89 = .ok (.iload 7, 2) := by decide +kernel
theorem dL_isCome_91 : decode cL_isCome 91 = .ok (.ifCond .le 8, 3) := by decide +kernel
theorem dL_isCome_94 : decode cL_isCome 94 = .ok (.iload 7, 2) := by decide +kernel
theorem dL_isCome_96 : decode cL_isCome 96 = .ok (.goto 31, 3) := by decide +kernel
theorem dL_isCome_99 : decode cL_isCome 99 = .ok (.aload_n 1, 1) := by decide +kernel
theorem dL_isCome_100 : decode cL_isCome 100 = .ok (.iload_n 3, 1) := by decide +kernel
theorem dL_isCome_101 : decode cL_isCome 101 = .ok (.iaload, 1) := by decide +kernel
theorem dL_isCome_102 : decode cL_isCome 102 = .ok (.ifCond .le 24, 3) := by decide +kernel
theorem dL_isCome_105 : decode cL_isCome 105 = .ok (.aload_n 2, 1) := by decide +kernel
theorem dL_isCome_106 : decode cL_isCome 106 = .ok (.iconst 4, 1) := by decide +kernel
theorem dL_isCome_107 : decode cL_isCome 107 = .ok (.iaload, 1) := by decide +kernel
theorem dL_isCome_108 : decode cL_isCome 108 = .ok (.aload_n 1, 1) := by decide +kernel
theorem dL_isCome_109 : decode cL_isCome 109 = .ok (.bipush 9, 2) := by decide +kernel
theorem dL_isCome_111 : decode cL_isCome 111 = .ok (.iload_n 3, 1) := by decide +kernel
theorem dL_isCome_112 : decode cL_isCome 112 = .ok (.iadd, 1) := by decide +kernel
theorem dL_isCome_113 : decode cL_isCome 113 = .ok (.iaload, 1) := by decide +kernel
theorem dL_isCome_114 : decode cL_isCome 114 = .ok (.isub, 1) := by decide +kernel
theorem dL_isCome_115 : decode cL_isCome 115 = .ok (.bipush 20, 2) := by decide +kernel
theorem dL_isCome_117 : decode cL_isCome 117 = .ok (.if_icmp .ge 9, 3) := by decide +kernel
theorem dL_isCome_120 : decode cL_isCome 120 = .ok (.aload_n 1, 1) := by decide +kernel
theorem dL_isCome_121 : decode cL_isCome 121 = .ok (.iload_n 3, 1) := by decide +kernel
theorem dL_isCome_122 : decode cL_isCome 122 = .ok (.iaload, 1) := by decide +kernel
theorem dL_isCome_123 : decode cL_isCome 123 = .ok (.goto 4, 3) := by decide +kernel
theorem dL_isCome_126 : decode cL_isCome 126 = .ok (.iconst 0, 1) := by decide +kernel
theorem dL_isCome_127 : decode cL_isCome 127 = .ok (.istore 7, 2) := by decide +kernel
theorem dL_isCome_129 : decode cL_isCome 129 = .ok (.aload_n 1, 1) := by decide +kernel
theorem dL_isCome_130 : decode cL_isCome 130 = .ok (.iload_n 3, 1) := by decide +kernel
theorem dL_isCome_131 : decode cL_isCome 131 = .ok (.iload 7, 2) := by decide +kernel
theorem dL_isCome_133 : decode cL_isCome 133 = .ok (.iastore, 1) := by decide +kernel
theorem dL_isCome_134 : decode cL_isCome 134 = .ok (.aload_n 1, 1) := by decide +kernel
theorem dL_isCome_135 : decode cL_isCome 135 = .ok (.bipush 9, 2) := by decide +kernel
theorem dL_isCome_137 : decode cL_isCome 137 = .ok (.iload_n 3, 1) := by decide +kernel
theorem dL_isCome_138 : decode cL_isCome 138 = .ok (.iadd, 1) := by decide +kernel
theorem dL_isCome_139 : decode cL_isCome 139 = .ok (.aload_n 2, 1) := by decide +kernel
theorem dL_isCome_140 : decode cL_isCome 140 = .ok (.iconst 4, 1) := by decide +kernel
theorem dL_isCome_141 : decode cL_isCome 141 = .ok (.iaload, 1) := by decide +kernel
theorem dL_isCome_142 : decode cL_isCome 142 = .ok (.iastore, 1) := by decide +kernel
theorem dL_isCome_143 : decode cL_isCome 143 = .ok (.iload 6, 2) := by decide +kernel
theorem dL_isCome_145 : decode cL_isCome 145 = .ok (.iload 7, 2) := by decide +kernel
theorem dL_isCome_147 : decode cL_isCome 147 = .ok (.if_icmp .ne 7, 3) := by decide +kernel
theorem dL_isCome_150 : decode cL_isCome 150 = .ok (.iconst 1, 1) := by decide +kernel
theorem dL_isCome_151 : decode cL_isCome 151 = .ok (.goto 4, 3) := by decide +kernel
theorem dL_isCome_154 : decode cL_isCome 154 = .ok (.iconst 0, 1) := by decide +kernel
theorem dL_isCome_155 : decode cL_isCome 155 = .ok (.ireturn, 1) := by decide +kernel
