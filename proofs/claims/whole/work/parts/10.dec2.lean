theorem dX9_mayMake_18 : decode cX9_mayMake 18 = .ok (.sipush 900, 3) := by decide +kernel
theorem dX9_mayMake_21 : decode cX9_mayMake 21 = .ok (.if_icmp .ge 7, 3) := by decide +kernel
theorem dX9_mayMake_24 : decode cX9_mayMake 24 = .ok (.iconst 1, 1) := by decide +kernel
theorem dX9_mayMake_25 : decode cX9_mayMake 25 = .ok (.goto 4, 3) := by decide +kernel
theorem dX9_mayMake_28 : decode cX9_mayMake 28 = .ok (.iconst 0, 1) := by decide +kernel
theorem dX9_mayMake_29 : decode cX9_mayMake 29 = .ok (.ireturn, 1) := by decide +kernel
theorem dX9_cycle_0 : decode cX9_cycle 0 = .ok (.aload_n 0, 1) := by decide +kernel
theorem dX9_cycle_1 : decode cX9_cycle 1 = .ok (.iload_n 1, 1) := by decide +kernel
theorem dX9_cycle_2 : decode cX9_cycle 2 = .ok (.invokevirtual 208, 3) := by decide +kernel
theorem dX9_cycle_5 : decode cX9_cycle 5 = .ok (.ifCond .eq 61, 3) := by decide +kernel
theorem dX9_cycle_8 : decode cX9_cycle 8 = .ok (.iconst 1, 1) := by decide +kernel
theorem dX9_cycle_9 : decode cX9_cycle 9 = .ok (.istore_n 2, 1) := by decide +kernel
theorem dX9_cycle_10 : decode cX9_cycle 10 = .ok (.iload_n 2, 1) := by decide +kernel
theorem dX9_cycle_11 : decode cX9_cycle 11 = .ok (.ifCond .eq 54, 3) := by decide +kernel
theorem dX9_cycle_14 : decode cX9_cycle 14 = .ok (.aload_n 0, 1) := by decide +kernel
theorem dX9_cycle_15 : decode cX9_cycle 15 = .ok (.iload_n 1, 1) := by decide +kernel
theorem dX9_cycle_16 : decode cX9_cycle 16 = .ok (.invokevirtual 233, 3) := by decide +kernel
theorem dX9_cycle_19 : decode cX9_cycle 19 = .ok (.ifCond .ne 9, 3) := by decide +kernel
theorem dX9_cycle_22 : decode cX9_cycle 22 = .ok (.aload_n 0, 1) := by decide +kernel
theorem dX9_cycle_23 : decode cX9_cycle 23 = .ok (.iload_n 1, 1) := by decide +kernel
theorem dX9_cycle_24 : decode cX9_cycle 24 = .ok (.invokevirtual 236, 3) := by decide +kernel
theorem dX9_cycle_27 : decode cX9_cycle 27 = .ok (.return_, 1) := by decide +kernel
theorem dX9_cycle_28 : decode cX9_cycle 28 = .ok (.aload_n 0, 1) := by decide +kernel
theorem dX9_cycle_29 : decode cX9_cycle 29 = .ok (.iload_n 1, 1) := by decide +kernel
theorem dX9_cycle_30 : decode cX9_cycle 30 = .ok (.invokevirtual 239, 3) := by decide +kernel
theorem dX9_cycle_33 : decode cX9_cycle 33 = .ok (.aload_n 0, 1) := by decide +kernel
theorem dX9_cycle_34 : decode cX9_cycle 34 = .ok (.getfield 87, 3) := by decide +kernel
theorem dX9_cycle_37 : decode cX9_cycle 37 = .ok (.iload_n 1, 1) := by decide +kernel
theorem dX9_cycle_38 : decode cX9_cycle 38 = .ok (.baload, 1) := by decide +kernel
theorem dX9_cycle_39 : decode cX9_cycle 39 = .ok (.ifCond .eq 21, 3) := by decide +kernel
theorem dX9_cycle_42 : decode cX9_cycle 42 = .ok (.aload_n 0, 1) := by decide +kernel
theorem dX9_cycle_43 : decode cX9_cycle 43 = .ok (.getfield 35, 3) := by decide +kernel
theorem dX9_cycle_46 : decode cX9_cycle 46 = .ok (.aload_n 0, 1) := by decide +kernel
theorem dX9_cycle_47 : decode cX9_cycle 47 = .ok (.getfield 48, 3) := by decide +kernel
theorem dX9_cycle_50 : decode cX9_cycle 50 = .ok (.iload_n 1, 1) := by decide +kernel
theorem dX9_cycle_51 : decode cX9_cycle 51 = .ok (.iaload, 1) := by decide +kernel
theorem dX9_cycle_52 : decode cX9_cycle 52 = .ok (.iaload, 1) := by decide +kernel
theorem dX9_cycle_53 : decode cX9_cycle 53 = .ok (.ifCond .le 7, 3) := by decide +kernel
theorem dX9_cycle_56 : decode cX9_cycle 56 = .ok (.iconst 1, 1) := by decide +kernel
theorem dX9_cycle_57 : decode cX9_cycle 57 = .ok (.goto 4, 3) := by decide +kernel
theorem dX9_cycle_60 : decode cX9_cycle 60 = .ok (.iconst 0, 1) := by decide +kernel
theorem dX9_cycle_61 : decode cX9_cycle 61 = .ok (.istore_n 2, 1) := by decide +kernel
theorem dX9_cycle_62 : decode cX9_cycle 62 = .ok (.goto (-52), 3) := by decide +kernel
theorem dX9_cycle_65 : decode cX9_cycle 65 = .ok (.return_, 1) := by decide +kernel
theorem dX9_cycle_66 : decode cX9_cycle 66 = .ok (.aload_n 0, 1) := by decide +kernel
theorem dX9_cycle_67 : decode cX9_cycle 67 = .ok (.getfield 72, 3) := by decide +kernel
theorem dX9_cycle_70 : decode cX9_cycle 70 = .ok (.iload_n 1, 1) := by decide +kernel
theorem dX9_cycle_71 : decode cX9_cycle 71 = .ok (.dup2, 1) := by decide +kernel
theorem dX9_cycle_72 : decode cX9_cycle 72 = .ok (.iaload, 1) := by decide +kernel
theorem dX9_cycle_73 : decode cX9_cycle 73 = .ok (.aload_n 0, 1) := by decide +kernel
theorem dX9_cycle_74 : decode cX9_cycle 74 = .ok (.getfield 78, 3) := by decide +kernel
theorem dX9_cycle_77 : decode cX9_cycle 77 = .ok (.iload_n 1, 1) := by decide +kernel
theorem dX9_cycle_78 : decode cX9_cycle 78 = .ok (.baload, 1) := by decide +kernel
theorem dX9_cycle_79 : decode cX9_cycle 79 = .ok (.ifCond .eq 7, 3) := by decide +kernel
theorem dX9_cycle_82 : decode cX9_cycle 82 = .ok (.iconst 1, 1) := by decide +kernel
theorem dX9_cycle_83 : decode cX9_cycle 83 = .ok (.goto 4, 3) := by decide +kernel
theorem dX9_cycle_86 : decode cX9_cycle 86 = .ok (.iconst 0, 1) := by decide +kernel
theorem dX9_cycle_87 : decode cX9_cycle 87 = .ok (.isub, 1) := by decide +kernel
theorem dX9_cycle_88 : decode cX9_cycle 88 = .ok (.iastore, 1) := by decide +kernel
theorem dX9_cycle_89 : decode cX9_cycle 89 = .ok (.aload_n 0, 1) := by decide +kernel
theorem dX9_cycle_90 : decode cX9_cycle 90 = .ok (.getfield 78, 3) := by decide +kernel
theorem dX9_cycle_93 : decode cX9_cycle 93 = .ok (.iload_n 1, 1) := by decide +kernel
theorem dX9_cycle_94 : decode cX9_cycle 94 = .ok (.baload, 1) := by decide +kernel
theorem dX9_cycle_95 : decode cX9_cycle 95 = .ok (.ifCond .eq 13, 3) := by decide +kernel
theorem dX9_cycle_98 : decode cX9_cycle 98 = .ok (.aload_n 0, 1) := by decide +kernel
theorem dX9_cycle_99 : decode cX9_cycle 99 = .ok (.getfield 72, 3) := by decide +kernel
theorem dX9_cycle_102 : decode cX9_cycle 102 = .ok (.iload_n 1, 1) := by decide +kernel
theorem dX9_cycle_103 : decode cX9_cycle 103 = .ok (.iaload, 1) := by decide +kernel
theorem dX9_cycle_104 : decode cX9_cycle 104 = .ok (.ifCond .le 4, 3) := by decide +kernel
theorem dX9_cycle_107 : decode cX9_cycle 107 = .ok (.return_, 1) := by decide +kernel
theorem dX9_cycle_108 : decode cX9_cycle 108 = .ok (.aload_n 0, 1) := by decide +kernel
theorem dX9_cycle_109 : decode cX9_cycle 109 = .ok (.iload_n 1, 1) := by decide +kernel
theorem dX9_cycle_110 : decode cX9_cycle 110 = .ok (.invokevirtual 233, 3) := by decide +kernel
theorem dX9_cycle_113 : decode cX9_cycle 113 = .ok (.ifCond .eq 11, 3) := by decide +kernel
theorem dX9_cycle_116 : decode cX9_cycle 116 = .ok (.aload_n 0, 1) := by decide +kernel
theorem dX9_cycle_117 : decode cX9_cycle 117 = .ok (.iload_n 1, 1) := by decide +kernel
theorem dX9_cycle_118 : decode cX9_cycle 118 = .ok (.invokevirtual 239, 3) := by decide +kernel
theorem dX9_cycle_121 : decode cX9_cycle 121 = .ok (.goto 8, 3) := by decide +kernel
theorem dX9_cycle_124 : decode cX9_cycle 124 = .ok (.aload_n 0, 1) := by decide +kernel
theorem dX9_cycle_125 : decode cX9_cycle 125 = .ok (.iload_n 1, 1) := by decide +kernel
theorem dX9_cycle_126 : decode cX9_cycle 126 = .ok (.invokevirtual 236, 3) := by decide +kernel
theorem dX9_cycle_129 : decode cX9_cycle 129 = .ok (.return_, 1) := by decide +kernel
theorem dX9_step_0 : decode cX9_step 0 = .ok (.aload_n 0, 1) := by decide +kernel
theorem dX9_step_1 : decode cX9_step 1 = .ok (.dup, 1) := by decide +kernel
theorem dX9_step_2 : decode cX9_step 2 = .ok (.getfield 199, 3) := by decide +kernel
theorem dX9_step_5 : decode cX9_step 5 = .ok (.iconst 1, 1) := by decide +kernel
theorem dX9_step_6 : decode cX9_step 6 = .ok (.iadd, 1) := by decide +kernel
theorem dX9_step_7 : decode cX9_step 7 = .ok (.putfield 199, 3) := by decide +kernel
theorem dX9_step_10 : decode cX9_step 10 = .ok (.iconst 0, 1) := by decide +kernel
theorem dX9_step_11 : decode cX9_step 11 = .ok (.istore_n 1, 1) := by decide +kernel
theorem dX9_step_12 : decode cX9_step 12 = .ok (.iload_n 1, 1) := by decide +kernel
theorem dX9_step_13 : decode cX9_step 13 = .ok (.aload_n 0, 1) := by decide +kernel
theorem dX9_step_14 : decode cX9_step 14 = .ok (.getfield 202, 3) := by decide +kernel
theorem dX9_step_17 : decode cX9_step 17 = .ok (.if_icmp .ge 53, 3) := by decide +kernel
theorem dX9_step_20 : decode cX9_step 20 = .ok (.aload_n 0, 1) := by decide +kernel
theorem dX9_step_21 : decode cX9_step 21 = .ok (.getfield 90, 3) := by decide +kernel
theorem dX9_step_24 : decode cX9_step 24 = .ok (.iload_n 1, 1) := by decide +kernel
theorem dX9_step_25 : decode cX9_step 25 = .ok (.baload, 1) := by decide +kernel
theorem dX9_step_26 : decode cX9_step 26 = .ok (.ifCond .eq 38, 3) := by decide +kernel
theorem dX9_step_29 : decode cX9_step 29 = .ok (.aload_n 0, 1) := by decide +kernel
theorem dX9_step_30 : decode cX9_step 30 = .ok (.getfield 111, 3) := by decide +kernel
theorem dX9_step_33 : decode cX9_step 33 = .ok (.iload_n 1, 1) := by decide +kernel
theorem dX9_step_34 : decode cX9_step 34 = .ok (.iaload, 1) := by decide +kernel
theorem dX9_step_35 : decode cX9_step 35 = .ok (.ifCond .le 29, 3) := by decide +kernel
theorem dX9_step_38 : decode cX9_step 38 = .ok (.aload_n 0, 1) := by decide +kernel
theorem dX9_step_39 : decode cX9_step 39 = .ok (.getfield 199, 3) := by decide +kernel
theorem dX9_step_42 : decode cX9_step 42 = .ok (.aload_n 0, 1) := by decide +kernel
theorem dX9_step_43 : decode cX9_step 43 = .ok (.getfield 99, 3) := by decide +kernel
theorem dX9_step_46 : decode cX9_step 46 = .ok (.iload_n 1, 1) := by decide +kernel
theorem dX9_step_47 : decode cX9_step 47 = .ok (.iaload, 1) := by decide +kernel
theorem dX9_step_48 : decode cX9_step 48 = .ok (.isub, 1) := by decide +kernel
theorem dX9_step_49 : decode cX9_step 49 = .ok (.aload_n 0, 1) := by decide +kernel
theorem dX9_step_50 : decode cX9_step 50 = .ok (.getfield 102, 3) := by decide +kernel
theorem dX9_step_53 : decode cX9_step 53 = .ok (.iload_n 1, 1) := by decide +kernel
theorem dX9_step_54 : decode cX9_step 54 = .ok (.iaload, 1) := by decide +kernel
theorem dX9_step_55 : decode cX9_step 55 = .ok (.irem, 1) := by decide +kernel
theorem dX9_step_56 : decode cX9_step 56 = .ok (.ifCond .ne 8, 3) := by decide +kernel
theorem dX9_step_59 : decode cX9_step 59 = .ok (.aload_n 0, 1) := by decide +kernel
theorem dX9_step_60 : decode cX9_step 60 = .ok (.iload_n 1, 1) := by decide +kernel
theorem dX9_step_61 : decode cX9_step 61 = .ok (.invokevirtual 242, 3) := by decide +kernel
theorem dX9_step_64 : decode cX9_step 64 = .ok (.iinc 1 1, 3) := by decide +kernel
theorem dX9_step_67 : decode cX9_step 67 = .ok (.goto (-55), 3) := by decide +kernel
theorem dX9_step_70 : decode cX9_step 70 = .ok (.iconst 0, 1) := by decide +kernel
theorem dX9_step_71 : decode cX9_step 71 = .ok (.istore_n 1, 1) := by decide +kernel
theorem dX9_step_72 : decode cX9_step 72 = .ok (.iload_n 1, 1) := by decide +kernel
theorem dX9_step_73 : decode cX9_step 73 = .ok (.aload_n 0, 1) := by decide +kernel
theorem dX9_step_74 : decode cX9_step 74 = .ok (.getfield 224, 3) := by decide +kernel
theorem dX9_step_77 : decode cX9_step 77 = .ok (.if_icmp .ge 44, 3) := by decide +kernel
theorem dX9_step_80 : decode cX9_step 80 = .ok (.aload_n 0, 1) := by decide +kernel
theorem dX9_step_81 : decode cX9_step 81 = .ok (.getfield 44, 3) := by decide +kernel
theorem dX9_step_84 : decode cX9_step 84 = .ok (.iload_n 1, 1) := by decide +kernel
theorem dX9_step_85 : decode cX9_step 85 = .ok (.baload, 1) := by decide +kernel
theorem dX9_step_86 : decode cX9_step 86 = .ok (.ifCond .eq 29, 3) := by decide +kernel
theorem dX9_step_89 : decode cX9_step 89 = .ok (.aload_n 0, 1) := by decide +kernel
theorem dX9_step_90 : decode cX9_step 90 = .ok (.getfield 199, 3) := by decide +kernel
theorem dX9_step_93 : decode cX9_step 93 = .ok (.aload_n 0, 1) := by decide +kernel
theorem dX9_step_94 : decode cX9_step 94 = .ok (.getfield 51, 3) := by decide +kernel
theorem dX9_step_97 : decode cX9_step 97 = .ok (.iload_n 1, 1) := by decide +kernel
theorem dX9_step_98 : decode cX9_step 98 = .ok (.iaload, 1) := by decide +kernel
theorem dX9_step_99 : decode cX9_step 99 = .ok (.isub, 1) := by decide +kernel
theorem dX9_step_100 : decode cX9_step 100 = .ok (.aload_n 0, 1) := by decide +kernel
theorem dX9_step_101 : decode cX9_step 101 = .ok (.getfield 54, 3) := by decide +kernel
theorem dX9_step_104 : decode cX9_step 104 = .ok (.iload_n 1, 1) := by decide +kernel
theorem dX9_step_105 : decode cX9_step 105 = .ok (.iaload, 1) := by decide +kernel
theorem dX9_step_106 : decode cX9_step 106 = .ok (.irem, 1) := by decide +kernel
theorem dX9_step_107 : decode cX9_step 107 = .ok (.ifCond .ne 8, 3) := by decide +kernel
theorem dX9_step_110 : decode cX9_step 110 = .ok (.aload_n 0, 1) := by decide +kernel
theorem dX9_step_111 : decode cX9_step 111 = .ok (.iload_n 1, 1) := by decide +kernel
theorem dX9_step_112 : decode cX9_step 112 = .ok (.invokevirtual 245, 3) := by decide +kernel
theorem dX9_step_115 : decode cX9_step 115 = .ok (.iinc 1 1, 3) := by decide +kernel
theorem dX9_step_118 : decode cX9_step 118 = .ok (.goto (-46), 3) := by decide +kernel
theorem dX9_step_121 : decode cX9_step 121 = .ok (.iconst 0, 1) := by decide +kernel
theorem dX9_step_122 : decode cX9_step 122 = .ok (.istore_n 1, 1) := by decide +kernel
theorem dX9_step_123 : decode cX9_step 123 = .ok (.iload_n 1, 1) := by decide +kernel
theorem dX9_step_124 : decode cX9_step 124 = .ok (.aload_n 0, 1) := by decide +kernel
theorem dX9_step_125 : decode cX9_step 125 = .ok (.getfield 248, 3) := by decide +kernel
theorem dX9_step_128 : decode cX9_step 128 = .ok (.if_icmp .ge 38, 3) := by decide +kernel
theorem dX9_step_131 : decode cX9_step 131 = .ok (.aload_n 0, 1) := by decide +kernel
theorem dX9_step_132 : decode cX9_step 132 = .ok (.getfield 32, 3) := by decide +kernel
theorem dX9_step_135 : decode cX9_step 135 = .ok (.iload_n 1, 1) := by decide +kernel
theorem dX9_step_136 : decode cX9_step 136 = .ok (.iaload, 1) := by decide +kernel
theorem dX9_step_137 : decode cX9_step 137 = .ok (.iconst 2, 1) := by decide +kernel
theorem dX9_step_138 : decode cX9_step 138 = .ok (.if_icmp .eq 22, 3) := by decide +kernel
theorem dX9_step_141 : decode cX9_step 141 = .ok (.aload_n 0, 1) := by decide +kernel
theorem dX9_step_142 : decode cX9_step 142 = .ok (.getfield 29, 3) := by decide +kernel
theorem dX9_step_145 : decode cX9_step 145 = .ok (.iload_n 1, 1) := by decide +kernel
theorem dX9_step_146 : decode cX9_step 146 = .ok (.iaload, 1) := by decide +kernel
theorem dX9_step_147 : decode cX9_step 147 = .ok (.aload_n 0, 1) := by decide +kernel
theorem dX9_step_148 : decode cX9_step 148 = .ok (.getfield 199, 3) := by decide +kernel
theorem dX9_step_151 : decode cX9_step 151 = .ok (.if_icmp .ne 9, 3) := by decide +kernel
theorem dX9_step_154 : decode cX9_step 154 = .ok (.aload_n 0, 1) := by decide +kernel
theorem dX9_step_155 : decode cX9_step 155 = .ok (.iload_n 1, 1) := by decide +kernel
theorem dX9_step_156 : decode cX9_step 156 = .ok (.invokevirtual 251, 3) := by decide +kernel
theorem dX9_step_159 : decode cX9_step 159 = .ok (.istore_n 2, 1) := by decide +kernel
theorem dX9_step_160 : decode cX9_step 160 = .ok (.iinc 1 1, 3) := by decide +kernel
theorem dX9_step_163 : decode cX9_step 163 = .ok (.goto (-40), 3) := by decide +kernel
theorem dX9_step_166 : decode cX9_step 166 = .ok (.return_, 1) := by decide +kernel
theorem dX9_tick_0 : decode cX9_tick 0 = .ok (.iload_n 1, 1) := by decide +kernel
theorem dX9_tick_1 : decode cX9_tick 1 = .ok (.i2l, 1) := by decide +kernel
theorem dX9_tick_2 : decode cX9_tick 2 = .ok (.lconst 1, 1) := by decide +kernel
theorem dX9_tick_3 : decode cX9_tick 3 = .ok (.ldc2_w 254, 3) := by decide +kernel
theorem dX9_tick_6 : decode cX9_tick 6 = .ok (.invokestatic 171, 3) := by decide +kernel
theorem dX9_tick_9 : decode cX9_tick 9 = .ok (.ifCond .ne 10, 3) := by decide +kernel
theorem dX9_tick_12 : decode cX9_tick 12 = .ok (.aload_n 0, 1) := by decide +kernel
theorem dX9_tick_13 : decode cX9_tick 13 = .ok (.bipush (-7), 2) := by decide +kernel
theorem dX9_tick_15 : decode cX9_tick 15 = .ok (.invokevirtual 175, 3) := by decide +kernel
theorem dX9_tick_18 : decode cX9_tick 18 = .ok (.ireturn, 1) := by decide +kernel
theorem dX9_tick_19 : decode cX9_tick 19 = .ok (.aload_n 0, 1) := by decide +kernel
theorem dX9_tick_20 : decode cX9_tick 20 = .ok (.getfield 199, 3) := by decide +kernel
theorem dX9_tick_23 : decode cX9_tick 23 = .ok (.iload_n 1, 1) := by decide +kernel
theorem dX9_tick_24 : decode cX9_tick 24 = .ok (.iadd, 1) := by decide +kernel
theorem dX9_tick_25 : decode cX9_tick 25 = .ok (.ldc_w 256, 3) := by decide +kernel
theorem dX9_tick_28 : decode cX9_tick 28 = .ok (.if_icmp .le 10, 3) := by decide +kernel
theorem dX9_tick_31 : decode cX9_tick 31 = .ok (.aload_n 0, 1) := by decide +kernel
theorem dX9_tick_32 : decode cX9_tick 32 = .ok (.bipush (-8), 2) := by decide +kernel
theorem dX9_tick_34 : decode cX9_tick 34 = .ok (.invokevirtual 175, 3) := by decide +kernel
theorem dX9_tick_37 : decode cX9_tick 37 = .ok (.ireturn, 1) := by decide +kernel
theorem dX9_tick_38 : decode cX9_tick 38 = .ok (.aload_n 0, 1) := by decide +kernel
theorem dX9_tick_39 : decode cX9_tick 39 = .ok (.getfield 205, 3) := by decide +kernel
theorem dX9_tick_42 : decode cX9_tick 42 = .ok (.istore_n 2, 1) := by decide +kernel
theorem dX9_tick_43 : decode cX9_tick 43 = .ok (.iconst 0, 1) := by decide +kernel
theorem dX9_tick_44 : decode cX9_tick 44 = .ok (.istore_n 3, 1) := by decide +kernel
theorem dX9_tick_45 : decode cX9_tick 45 = .ok (.iload_n 3, 1) := by decide +kernel
theorem dX9_tick_46 : decode cX9_tick 46 = .ok (.iload_n 1, 1) := by decide +kernel
theorem dX9_tick_47 : decode cX9_tick 47 = .ok (.if_icmp .ge 13, 3) := by decide +kernel
theorem dX9_tick_50 : decode cX9_tick 50 = .ok (.aload_n 0, 1) := by decide +kernel
theorem dX9_tick_51 : decode cX9_tick 51 = .ok (.invokevirtual 257, 3) := by decide +kernel
theorem dX9_tick_54 : decode cX9_tick 54 = .ok (.iinc 3 1, 3) := by decide +kernel
theorem dX9_tick_57 : decode cX9_tick 57 = .ok (.goto (-12), 3) := by decide +kernel
theorem dX9_tick_60 : decode cX9_tick 60 = .ok (.aload_n 0, 1) := by decide +kernel
theorem dX9_tick_61 : decode cX9_tick 61 = .ok (.getfield 205, 3) := by decide +kernel
theorem dX9_tick_64 : decode cX9_tick 64 = .ok (.iload_n 2, 1) := by decide +kernel
theorem dX9_tick_65 : decode cX9_tick 65 = .ok (.isub, 1) := by decide +kernel
theorem dX9_tick_66 : decode cX9_tick 66 = .ok (.ireturn, 1) := by decide +kernel
theorem dX9_session_0 : decode cX9_session 0 = .ok (.iload_n 1, 1) := by decide +kernel
theorem dX9_session_1 : decode cX9_session 1 = .ok (.i2l, 1) := by decide +kernel
theorem dX9_session_2 : decode cX9_session 2 = .ok (.lconst 1, 1) := by decide +kernel
theorem dX9_session_3 : decode cX9_session 3 = .ok (.ldc2_w 254, 3) := by decide +kernel
theorem dX9_session_6 : decode cX9_session 6 = .ok (.invokestatic 171, 3) := by decide +kernel
theorem dX9_session_9 : decode cX9_session 9 = .ok (.ifCond .ne 10, 3) := by decide +kernel
theorem dX9_session_12 : decode cX9_session 12 = .ok (.aload_n 0, 1) := by decide +kernel
theorem dX9_session_13 : decode cX9_session 13 = .ok (.bipush (-7), 2) := by decide +kernel
theorem dX9_session_15 : decode cX9_session 15 = .ok (.invokevirtual 175, 3) := by decide +kernel
theorem dX9_session_18 : decode cX9_session 18 = .ok (.ireturn, 1) := by decide +kernel
theorem dX9_session_19 : decode cX9_session 19 = .ok (.aload_n 0, 1) := by decide +kernel
theorem dX9_session_20 : decode cX9_session 20 = .ok (.getfield 248, 3) := by decide +kernel
theorem dX9_session_23 : decode cX9_session 23 = .ok (.bipush 12, 2) := by decide +kernel
theorem dX9_session_25 : decode cX9_session 25 = .ok (.if_icmp .ne 10, 3) := by decide +kernel
theorem dX9_session_28 : decode cX9_session 28 = .ok (.aload_n 0, 1) := by decide +kernel
theorem dX9_session_29 : decode cX9_session 29 = .ok (.bipush (-8), 2) := by decide +kernel
theorem dX9_session_31 : decode cX9_session 31 = .ok (.invokevirtual 175, 3) := by decide +kernel
theorem dX9_session_34 : decode cX9_session 34 = .ok (.ireturn, 1) := by decide +kernel
theorem dX9_session_35 : decode cX9_session 35 = .ok (.aload_n 0, 1) := by decide +kernel
theorem dX9_session_36 : decode cX9_session 36 = .ok (.getfield 26, 3) := by decide +kernel
theorem dX9_session_39 : decode cX9_session 39 = .ok (.aload_n 0, 1) := by decide +kernel
theorem dX9_session_40 : decode cX9_session 40 = .ok (.getfield 248, 3) := by decide +kernel
theorem dX9_session_43 : decode cX9_session 43 = .ok (.iload_n 1, 1) := by decide +kernel
theorem dX9_session_44 : decode cX9_session 44 = .ok (.iastore, 1) := by decide +kernel
theorem dX9_session_45 : decode cX9_session 45 = .ok (.aload_n 0, 1) := by decide +kernel
theorem dX9_session_46 : decode cX9_session 46 = .ok (.getfield 29, 3) := by decide +kernel
theorem dX9_session_49 : decode cX9_session 49 = .ok (.aload_n 0, 1) := by decide +kernel
theorem dX9_session_50 : decode cX9_session 50 = .ok (.getfield 248, 3) := by decide +kernel
theorem dX9_session_53 : decode cX9_session 53 = .ok (.aload_n 0, 1) := by decide +kernel
theorem dX9_session_54 : decode cX9_session 54 = .ok (.getfield 199, 3) := by decide +kernel
theorem dX9_session_57 : decode cX9_session 57 = .ok (.iload_n 1, 1) := by decide +kernel
theorem dX9_session_58 : decode cX9_session 58 = .ok (.iadd, 1) := by decide +kernel
theorem dX9_session_59 : decode cX9_session 59 = .ok (.iastore, 1) := by decide +kernel
theorem dX9_session_60 : decode cX9_session 60 = .ok (.aload_n 0, 1) := by decide +kernel
theorem dX9_session_61 : decode cX9_session 61 = .ok (.getfield 32, 3) := by decide +kernel
theorem dX9_session_64 : decode cX9_session 64 = .ok (.aload_n 0, 1) := by decide +kernel
theorem dX9_session_65 : decode cX9_session 65 = .ok (.getfield 248, 3) := by decide +kernel
theorem dX9_session_68 : decode cX9_session 68 = .ok (.iconst 0, 1) := by decide +kernel
theorem dX9_session_69 : decode cX9_session 69 = .ok (.iastore, 1) := by decide +kernel
theorem dX9_session_70 : decode cX9_session 70 = .ok (.aload_n 0, 1) := by decide +kernel
theorem dX9_session_71 : decode cX9_session 71 = .ok (.dup, 1) := by decide +kernel
theorem dX9_session_72 : decode cX9_session 72 = .ok (.getfield 248, 3) := by decide +kernel
theorem dX9_session_75 : decode cX9_session 75 = .ok (.iconst 1, 1) := by decide +kernel
theorem dX9_session_76 : decode cX9_session 76 = .ok (.iadd, 1) := by decide +kernel
theorem dX9_session_77 : decode cX9_session 77 = .ok (.putfield 248, 3) := by decide +kernel
theorem dX9_session_80 : decode cX9_session 80 = .ok (.aload_n 0, 1) := by decide +kernel
theorem dX9_session_81 : decode cX9_session 81 = .ok (.getfield 248, 3) := by decide +kernel
theorem dX9_session_84 : decode cX9_session 84 = .ok (.iconst 1, 1) := by decide +kernel
theorem dX9_session_85 : decode cX9_session 85 = .ok (.isub, 1) := by decide +kernel
theorem dX9_session_86 : decode cX9_session 86 = .ok (.ireturn, 1) := by decide +kernel
theorem dX9_activate_0 : decode cX9_activate 0 = .ok (.iload_n 1, 1) := by decide +kernel
theorem dX9_activate_1 : decode cX9_activate 1 = .ok (.i2l, 1) := by decide +kernel
theorem dX9_activate_2 : decode cX9_activate 2 = .ok (.lconst 0, 1) := by decide +kernel
theorem dX9_activate_3 : decode cX9_activate 3 = .ok (.aload_n 0, 1) := by decide +kernel
theorem dX9_activate_4 : decode cX9_activate 4 = .ok (.getfield 248, 3) := by decide +kernel
theorem dX9_activate_7 : decode cX9_activate 7 = .ok (.iconst 1, 1) := by decide +kernel
theorem dX9_activate_8 : decode cX9_activate 8 = .ok (.isub, 1) := by decide +kernel
theorem dX9_activate_9 : decode cX9_activate 9 = .ok (.i2l, 1) := by decide +kernel
theorem dX9_activate_10 : decode cX9_activate 10 = .ok (.invokestatic 171, 3) := by decide +kernel
theorem dX9_activate_13 : decode cX9_activate 13 = .ok (.ifCond .ne 9, 3) := by decide +kernel
theorem dX9_activate_16 : decode cX9_activate 16 = .ok (.aload_n 0, 1) := by decide +kernel
theorem dX9_activate_17 : decode cX9_activate 17 = .ok (.iconst (-1), 1) := by decide +kernel
theorem dX9_activate_18 : decode cX9_activate 18 = .ok (.invokevirtual 175, 3) := by decide +kernel
theorem dX9_activate_21 : decode cX9_activate 21 = .ok (.ireturn, 1) := by decide +kernel
theorem dX9_activate_22 : decode cX9_activate 22 = .ok (.aload_n 0, 1) := by decide +kernel
theorem dX9_activate_23 : decode cX9_activate 23 = .ok (.getfield 32, 3) := by decide +kernel
theorem dX9_activate_26 : decode cX9_activate 26 = .ok (.iload_n 1, 1) := by decide +kernel
theorem dX9_activate_27 : decode cX9_activate 27 = .ok (.iaload, 1) := by decide +kernel
theorem dX9_activate_28 : decode cX9_activate 28 = .ok (.iconst 2, 1) := by decide +kernel
theorem dX9_activate_29 : decode cX9_activate 29 = .ok (.if_icmp .ne 10, 3) := by decide +kernel
theorem dX9_activate_32 : decode cX9_activate 32 = .ok (.aload_n 0, 1) := by decide +kernel
theorem dX9_activate_33 : decode cX9_activate 33 = .ok (.bipush (-2), 2) := by decide +kernel
theorem dX9_activate_35 : decode cX9_activate 35 = .ok (.invokevirtual 175, 3) := by decide +kernel
theorem dX9_activate_38 : decode cX9_activate 38 = .ok (.ireturn, 1) := by decide +kernel
theorem dX9_activate_39 : decode cX9_activate 39 = .ok (.aload_n 0, 1) := by decide +kernel
theorem dX9_activate_40 : decode cX9_activate 40 = .ok (.getfield 32, 3) := by decide +kernel
theorem dX9_activate_43 : decode cX9_activate 43 = .ok (.iload_n 1, 1) := by decide +kernel
theorem dX9_activate_44 : decode cX9_activate 44 = .ok (.iconst 1, 1) := by decide +kernel
theorem dX9_activate_45 : decode cX9_activate 45 = .ok (.iastore, 1) := by decide +kernel
theorem dX9_activate_46 : decode cX9_activate 46 = .ok (.aload_n 0, 1) := by decide +kernel
theorem dX9_activate_47 : decode cX9_activate 47 = .ok (.getfield 29, 3) := by decide +kernel
theorem dX9_activate_50 : decode cX9_activate 50 = .ok (.iload_n 1, 1) := by decide +kernel
theorem dX9_activate_51 : decode cX9_activate 51 = .ok (.aload_n 0, 1) := by decide +kernel
theorem dX9_activate_52 : decode cX9_activate 52 = .ok (.getfield 199, 3) := by decide +kernel
theorem dX9_activate_55 : decode cX9_activate 55 = .ok (.aload_n 0, 1) := by decide +kernel
theorem dX9_activate_56 : decode cX9_activate 56 = .ok (.getfield 26, 3) := by decide +kernel
theorem dX9_activate_59 : decode cX9_activate 59 = .ok (.iload_n 1, 1) := by decide +kernel
theorem dX9_activate_60 : decode cX9_activate 60 = .ok (.iaload, 1) := by decide +kernel
theorem dX9_activate_61 : decode cX9_activate 61 = .ok (.iadd, 1) := by decide +kernel
theorem dX9_activate_62 : decode cX9_activate 62 = .ok (.iastore, 1) := by decide +kernel
theorem dX9_activate_63 : decode cX9_activate 63 = .ok (.iconst 1, 1) := by decide +kernel
theorem dX9_activate_64 : decode cX9_activate 64 = .ok (.ireturn, 1) := by decide +kernel
theorem dX9_lacks_0 : decode cX9_lacks 0 = .ok (.iload_n 1, 1) := by decide +kernel
theorem dX9_lacks_1 : decode cX9_lacks 1 = .ok (.i2l, 1) := by decide +kernel
theorem dX9_lacks_2 : decode cX9_lacks 2 = .ok (.lconst 0, 1) := by decide +kernel
theorem dX9_lacks_3 : decode cX9_lacks 3 = .ok (.aload_n 0, 1) := by decide +kernel
theorem dX9_lacks_4 : decode cX9_lacks 4 = .ok (.getfield 248, 3) := by decide +kernel
theorem dX9_lacks_7 : decode cX9_lacks 7 = .ok (.iconst 1, 1) := by decide +kernel
theorem dX9_lacks_8 : decode cX9_lacks 8 = .ok (.isub, 1) := by decide +kernel
theorem dX9_lacks_9 : decode cX9_lacks 9 = .ok (.i2l, 1) := by decide +kernel
theorem dX9_lacks_10 : decode cX9_lacks 10 = .ok (.invokestatic 171, 3) := by decide +kernel
theorem dX9_lacks_13 : decode cX9_lacks 13 = .ok (.ifCond .ne 5, 3) := by decide +kernel
theorem dX9_lacks_16 : decode cX9_lacks 16 = .ok (.iconst (-1), 1) := by decide +kernel
theorem dX9_lacks_17 : decode cX9_lacks 17 = .ok (.ireturn, 1) := by decide +kernel
theorem dX9_lacks_18 : decode cX9_lacks 18 = .ok (.aload_n 0, 1) := by decide +kernel
theorem dX9_lacks_19 : decode cX9_lacks 19 = .ok (.getfield 32, 3) := by decide +kernel
theorem dX9_lacks_22 : decode cX9_lacks 22 = .ok (.iload_n 1, 1) := by decide +kernel
theorem dX9_lacks_23 : decode cX9_lacks 23 = .ok (.iaload, 1) := by decide +kernel
theorem dX9_lacks_24 : decode cX9_lacks 24 = .ok (.iconst 1, 1) := by decide +kernel
theorem dX9_lacks_25 : decode cX9_lacks 25 = .ok (.if_icmp .eq 21, 3) := by decide +kernel
theorem dX9_lacks_28 : decode cX9_lacks 28 = .ok (.aload_n 0, 1) := by decide +kernel
theorem dX9_lacks_29 : decode cX9_lacks 29 = .ok (.getfield 32, 3) := by decide +kernel
theorem dX9_lacks_32 : decode cX9_lacks 32 = .ok (.iload_n 1, 1) := by decide +kernel
theorem dX9_lacks_33 : decode cX9_lacks 33 = .ok (.iaload, 1) := by decide +kernel
theorem dX9_lacks_34 : decode cX9_lacks 34 = .ok (.iconst 2, 1) := by decide +kernel
theorem dX9_lacks_35 : decode cX9_lacks 35 = .ok (.if_icmp .ne 8, 3) := by decide +kernel
theorem dX9_lacks_38 : decode cX9_lacks 38 = .ok (.bipush (-2), 2) := by decide +kernel
theorem dX9_lacks_40 : decode cX9_lacks 40 = .ok (.goto 5, 3) := by decide +kernel
theorem dX9_lacks_43 : decode cX9_lacks 43 = .ok (.bipush (-3), 2) := by decide +kernel
theorem dX9_lacks_45 : decode cX9_lacks 45 = .ok (.ireturn, 1) := by decide +kernel
theorem dX9_lacks_46 : decode cX9_lacks 46 = .ok (.aload_n 0, 1) := by decide +kernel
theorem dX9_lacks_47 : decode cX9_lacks 47 = .ok (.getfield 29, 3) := by decide +kernel
theorem dX9_lacks_50 : decode cX9_lacks 50 = .ok (.iload_n 1, 1) := by decide +kernel
theorem dX9_lacks_51 : decode cX9_lacks 51 = .ok (.aload_n 0, 1) := by decide +kernel
theorem dX9_lacks_52 : decode cX9_lacks 52 = .ok (.getfield 199, 3) := by decide +kernel
theorem dX9_lacks_55 : decode cX9_lacks 55 = .ok (.aload_n 0, 1) := by decide +kernel
theorem dX9_lacks_56 : decode cX9_lacks 56 = .ok (.getfield 26, 3) := by decide +kernel
theorem dX9_lacks_59 : decode cX9_lacks 59 = .ok (.iload_n 1, 1) := by decide +kernel
theorem dX9_lacks_60 : decode cX9_lacks 60 = .ok (.iaload, 1) := by decide +kernel
theorem dX9_lacks_61 : decode cX9_lacks 61 = .ok (.iadd, 1) := by decide +kernel
theorem dX9_lacks_62 : decode cX9_lacks 62 = .ok (.iastore, 1) := by decide +kernel
theorem dX9_lacks_63 : decode cX9_lacks 63 = .ok (.iconst 0, 1) := by decide +kernel
theorem dX9_lacks_64 : decode cX9_lacks 64 = .ok (.ireturn, 1) := by decide +kernel
theorem dX9_close_0 : decode cX9_close 0 = .ok (.aload_n 0, 1) := by decide +kernel
theorem dX9_close_1 : decode cX9_close 1 = .ok (.iload_n 1, 1) := by decide +kernel
theorem dX9_close_2 : decode cX9_close 2 = .ok (.invokevirtual 260, 3) := by decide +kernel
theorem dX9_close_5 : decode cX9_close 5 = .ok (.istore_n 2, 1) := by decide +kernel
theorem dX9_close_6 : decode cX9_close 6 = .ok (.iload_n 2, 1) := by decide +kernel
theorem dX9_close_7 : decode cX9_close 7 = .ok (.ifCond .ge 11, 3) := by decide +kernel
theorem dX9_close_10 : decode cX9_close 10 = .ok (.aload_n 0, 1) := by decide +kernel
theorem dX9_close_11 : decode cX9_close 11 = .ok (.iload_n 2, 1) := by decide +kernel
theorem dX9_close_12 : decode cX9_close 12 = .ok (.invokevirtual 175, 3) := by decide +kernel
theorem dX9_close_15 : decode cX9_close 15 = .ok (.goto 8, 3) := by decide +kernel
theorem dX9_close_18 : decode cX9_close 18 = .ok (.aload_n 0, 1) := by decide +kernel
theorem dX9_close_19 : decode cX9_close 19 = .ok (.iload_n 1, 1) := by decide +kernel
theorem dX9_close_20 : decode cX9_close 20 = .ok (.invokevirtual 251, 3) := by decide +kernel
theorem dX9_close_23 : decode cX9_close 23 = .ok (.ireturn, 1) := by decide +kernel
theorem dX9_browse_0 : decode cX9_browse 0 = .ok (.aload_n 0, 1) := by decide +kernel
theorem dX9_browse_1 : decode cX9_browse 1 = .ok (.iload_n 1, 1) := by decide +kernel
theorem dX9_browse_2 : decode cX9_browse 2 = .ok (.invokevirtual 260, 3) := by decide +kernel
theorem dX9_browse_5 : decode cX9_browse 5 = .ok (.istore 6, 2) := by decide +kernel
theorem dX9_browse_7 : decode cX9_browse 7 = .ok (.iload 6, 2) := by decide +kernel
theorem dX9_browse_9 : decode cX9_browse 9 = .ok (.ifCond .ge 8, 3) := by decide +kernel
theorem dX9_browse_12 : decode cX9_browse 12 = .ok (.iload 6, 2) := by decide +kernel
theorem dX9_browse_14 : decode cX9_browse 14 = .ok (.goto 34, 3) := by decide +kernel
theorem dX9_browse_17 : decode cX9_browse 17 = .ok (.aload_n 0, 1) := by decide +kernel
theorem dX9_browse_18 : decode cX9_browse 18 = .ok (.iload_n 2, 1) := by decide +kernel
theorem dX9_browse_19 : decode cX9_browse 19 = .ok (.invokevirtual 183, 3) := by decide +kernel
theorem dX9_browse_22 : decode cX9_browse 22 = .ok (.ifCond .ne 8, 3) := by decide +kernel
theorem dX9_browse_25 : decode cX9_browse 25 = .ok (.bipush (-4), 2) := by decide +kernel
theorem dX9_browse_27 : decode cX9_browse 27 = .ok (.goto 21, 3) := by decide +kernel
theorem dX9_browse_30 : decode cX9_browse 30 = .ok (.iload_n 3, 1) := by decide +kernel
theorem dX9_browse_31 : decode cX9_browse 31 = .ok (.i2l, 1) := by decide +kernel
theorem dX9_browse_32 : decode cX9_browse 32 = .ok (.lconst 0, 1) := by decide +kernel
theorem dX9_browse_33 : decode cX9_browse 33 = .ok (.ldc2_w 169, 3) := by decide +kernel
theorem dX9_browse_36 : decode cX9_browse 36 = .ok (.invokestatic 171, 3) := by decide +kernel
theorem dX9_browse_39 : decode cX9_browse 39 = .ok (.ifCond .ne 8, 3) := by decide +kernel
theorem dX9_browse_42 : decode cX9_browse 42 = .ok (.bipush (-7), 2) := by decide +kernel
theorem dX9_browse_44 : decode cX9_browse 44 = .ok (.goto 4, 3) := by decide +kernel
theorem dX9_browse_47 : decode cX9_browse 47 = .ok (.iconst 0, 1) := by decide +kernel
theorem dX9_browse_48 : decode cX9_browse 48 = .ok (.istore 6, 2) := by decide +kernel
theorem dX9_browse_50 : decode cX9_browse 50 = .ok (.iload 6, 2) := by decide +kernel
theorem dX9_browse_52 : decode cX9_browse 52 = .ok (.ifCond .ge 10, 3) := by decide +kernel
theorem dX9_browse_55 : decode cX9_browse 55 = .ok (.aload_n 0, 1) := by decide +kernel
theorem dX9_browse_56 : decode cX9_browse 56 = .ok (.iload 6, 2) := by decide +kernel
theorem dX9_browse_58 : decode cX9_browse 58 = .ok (.invokevirtual 175, 3) := by decide +kernel
theorem dX9_browse_61 : decode cX9_browse 61 = .ok (.ireturn, 1) := by decide +kernel
theorem dX9_browse_62 : decode cX9_browse 62 = .ok (.iload 5, 2) := by decide +kernel
theorem dX9_browse_64 : decode cX9_browse 64 = .ok (.istore 7, 2) := by decide +kernel
theorem dX9_browse_66 : decode cX9_browse 66 = .ok (.iconst 0, 1) := by decide +kernel
theorem dX9_browse_67 : decode cX9_browse 67 = .ok (.istore 8, 2) := by decide +kernel
theorem dX9_browse_69 : decode cX9_browse 69 = .ok (.iload 8, 2) := by decide +kernel
theorem dX9_browse_71 : decode cX9_browse 71 = .ok (.aload_n 0, 1) := by decide +kernel
theorem dX9_browse_72 : decode cX9_browse 72 = .ok (.getfield 189, 3) := by decide +kernel
theorem dX9_browse_75 : decode cX9_browse 75 = .ok (.if_icmp .ge 116, 3) := by decide +kernel
theorem dX9_browse_78 : decode cX9_browse 78 = .ok (.iload 5, 2) := by decide +kernel
theorem dX9_browse_80 : decode cX9_browse 80 = .ok (.ifCond .lt 111, 3) := by decide +kernel
theorem dX9_browse_83 : decode cX9_browse 83 = .ok (.aload_n 0, 1) := by decide +kernel
theorem dX9_browse_84 : decode cX9_browse 84 = .ok (.getfield 17, 3) := by decide +kernel
theorem dX9_browse_87 : decode cX9_browse 87 = .ok (.iload 8, 2) := by decide +kernel
theorem dX9_browse_89 : decode cX9_browse 89 = .ok (.iaload, 1) := by decide +kernel
theorem dX9_browse_90 : decode cX9_browse 90 = .ok (.iload_n 2, 1) := by decide +kernel
theorem dX9_browse_91 : decode cX9_browse 91 = .ok (.if_icmp .ne 12, 3) := by decide +kernel
theorem dX9_browse_94 : decode cX9_browse 94 = .ok (.iload_n 3, 1) := by decide +kernel
theorem dX9_browse_95 : decode cX9_browse 95 = .ok (.iconst 1, 1) := by decide +kernel
theorem dX9_browse_96 : decode cX9_browse 96 = .ok (.if_icmp .eq 7, 3) := by decide +kernel
theorem dX9_browse_99 : decode cX9_browse 99 = .ok (.iconst 1, 1) := by decide +kernel
theorem dX9_browse_100 : decode cX9_browse 100 = .ok (.goto 4, 3) := by decide +kernel
theorem dX9_browse_103 : decode cX9_browse 103 = .ok (.iconst 0, 1) := by decide +kernel
theorem dX9_browse_104 : decode cX9_browse 104 = .ok (.istore 9, 2) := by decide +kernel
theorem dX9_browse_106 : decode cX9_browse 106 = .ok (.aload_n 0, 1) := by decide +kernel
theorem dX9_browse_107 : decode cX9_browse 107 = .ok (.getfield 20, 3) := by decide +kernel
theorem dX9_browse_110 : decode cX9_browse 110 = .ok (.iload 8, 2) := by decide +kernel
theorem dX9_browse_112 : decode cX9_browse 112 = .ok (.iaload, 1) := by decide +kernel
theorem dX9_browse_113 : decode cX9_browse 113 = .ok (.iload_n 2, 1) := by decide +kernel
theorem dX9_browse_114 : decode cX9_browse 114 = .ok (.if_icmp .ne 11, 3) := by decide +kernel
theorem dX9_browse_117 : decode cX9_browse 117 = .ok (.iload_n 3, 1) := by decide +kernel
theorem dX9_browse_118 : decode cX9_browse 118 = .ok (.ifCond .eq 7, 3) := by decide +kernel
theorem dX9_browse_121 : decode cX9_browse 121 = .ok (.iconst 1, 1) := by decide +kernel
theorem dX9_browse_122 : decode cX9_browse 122 = .ok (.goto 4, 3) := by decide +kernel
theorem dX9_browse_125 : decode cX9_browse 125 = .ok (.iconst 0, 1) := by decide +kernel
theorem dX9_browse_126 : decode cX9_browse 126 = .ok (.istore 10, 2) := by decide +kernel
theorem dX9_browse_128 : decode cX9_browse 128 = .ok (.iload 4, 2) := by decide +kernel
theorem dX9_browse_130 : decode cX9_browse 130 = .ok (.aload_n 0, 1) := by decide +kernel
theorem dX9_browse_131 : decode cX9_browse 131 = .ok (.getfield 23, 3) := by decide +kernel
theorem dX9_browse_134 : decode cX9_browse 134 = .ok (.iload 8, 2) := by decide +kernel
theorem dX9_browse_136 : decode cX9_browse 136 = .ok (.iaload, 1) := by decide +kernel
theorem dX9_browse_137 : decode cX9_browse 137 = .ok (.ishr, 1) := by decide +kernel
theorem dX9_browse_138 : decode cX9_browse 138 = .ok (.iconst 1, 1) := by decide +kernel
theorem dX9_browse_139 : decode cX9_browse 139 = .ok (.iand, 1) := by decide +kernel
theorem dX9_browse_140 : decode cX9_browse 140 = .ok (.iconst 1, 1) := by decide +kernel
theorem dX9_browse_141 : decode cX9_browse 141 = .ok (.if_icmp .ne 44, 3) := by decide +kernel
theorem dX9_browse_144 : decode cX9_browse 144 = .ok (.iload 9, 2) := by decide +kernel
theorem dX9_browse_146 : decode cX9_browse 146 = .ok (.ifCond .ne 8, 3) := by decide +kernel
theorem dX9_browse_149 : decode cX9_browse 149 = .ok (.iload 10, 2) := by decide +kernel
theorem dX9_browse_151 : decode cX9_browse 151 = .ok (.ifCond .eq 34, 3) := by decide +kernel
theorem dX9_browse_154 : decode cX9_browse 154 = .ok (.iload 7, 2) := by decide +kernel
theorem dX9_browse_156 : decode cX9_browse 156 = .ok (.ifCond .ne 26, 3) := by decide +kernel
theorem dX9_browse_159 : decode cX9_browse 159 = .ok (.iload 9, 2) := by decide +kernel
theorem dX9_browse_161 : decode cX9_browse 161 = .ok (.ifCond .eq 13, 3) := by decide +kernel
theorem dX9_browse_164 : decode cX9_browse 164 = .ok (.aload_n 0, 1) := by decide +kernel
theorem dX9_browse_165 : decode cX9_browse 165 = .ok (.getfield 20, 3) := by decide +kernel
theorem dX9_browse_168 : decode cX9_browse 168 = .ok (.iload 8, 2) := by decide +kernel
theorem dX9_browse_170 : decode cX9_browse 170 = .ok (.iaload, 1) := by decide +kernel
theorem dX9_browse_171 : decode cX9_browse 171 = .ok (.goto 10, 3) := by decide +kernel
theorem dX9_browse_174 : decode cX9_browse 174 = .ok (.aload_n 0, 1) := by decide +kernel
theorem dX9_browse_175 : decode cX9_browse 175 = .ok (.getfield 17, 3) := by decide +kernel
theorem dX9_browse_178 : decode cX9_browse 178 = .ok (.iload 8, 2) := by decide +kernel
theorem dX9_browse_180 : decode cX9_browse 180 = .ok (.iaload, 1) := by decide +kernel
theorem dX9_browse_181 : decode cX9_browse 181 = .ok (.ireturn, 1) := by decide +kernel
theorem dX9_browse_182 : decode cX9_browse 182 = .ok (.iinc 7 (-1), 3) := by decide +kernel
theorem dX9_browse_185 : decode cX9_browse 185 = .ok (.iinc 8 1, 3) := by decide +kernel
theorem dX9_browse_188 : decode cX9_browse 188 = .ok (.goto (-119), 3) := by decide +kernel
theorem dX9_browse_191 : decode cX9_browse 191 = .ok (.aload_n 0, 1) := by decide +kernel
theorem dX9_browse_192 : decode cX9_browse 192 = .ok (.bipush (-9), 2) := by decide +kernel
theorem dX9_browse_194 : decode cX9_browse 194 = .ok (.invokevirtual 175, 3) := by decide +kernel
theorem dX9_browse_197 : decode cX9_browse 197 = .ok (.ireturn, 1) := by decide +kernel
theorem dX9_read_0 : decode cX9_read 0 = .ok (.aload_n 0, 1) := by decide +kernel
theorem dX9_read_1 : decode cX9_read 1 = .ok (.iload_n 1, 1) := by decide +kernel
theorem dX9_read_2 : decode cX9_read 2 = .ok (.invokevirtual 260, 3) := by decide +kernel
theorem dX9_read_5 : decode cX9_read 5 = .ok (.istore_n 3, 1) := by decide +kernel
theorem dX9_read_6 : decode cX9_read 6 = .ok (.iload_n 3, 1) := by decide +kernel
theorem dX9_read_7 : decode cX9_read 7 = .ok (.ifCond .ge 7, 3) := by decide +kernel
theorem dX9_read_10 : decode cX9_read 10 = .ok (.iload_n 3, 1) := by decide +kernel
theorem dX9_read_11 : decode cX9_read 11 = .ok (.goto 17, 3) := by decide +kernel
theorem dX9_read_14 : decode cX9_read 14 = .ok (.aload_n 0, 1) := by decide +kernel
theorem dX9_read_15 : decode cX9_read 15 = .ok (.iload_n 2, 1) := by decide +kernel
theorem dX9_read_16 : decode cX9_read 16 = .ok (.invokevirtual 192, 3) := by decide +kernel
theorem dX9_read_19 : decode cX9_read 19 = .ok (.ifCond .ne 8, 3) := by decide +kernel
theorem dX9_read_22 : decode cX9_read 22 = .ok (.bipush (-4), 2) := by decide +kernel
theorem dX9_read_24 : decode cX9_read 24 = .ok (.goto 4, 3) := by decide +kernel
theorem dX9_read_27 : decode cX9_read 27 = .ok (.iconst 0, 1) := by decide +kernel
theorem dX9_read_28 : decode cX9_read 28 = .ok (.istore_n 3, 1) := by decide +kernel
theorem dX9_read_29 : decode cX9_read 29 = .ok (.iload_n 3, 1) := by decide +kernel
theorem dX9_read_30 : decode cX9_read 30 = .ok (.ifCond .ge 9, 3) := by decide +kernel
theorem dX9_read_33 : decode cX9_read 33 = .ok (.aload_n 0, 1) := by decide +kernel
theorem dX9_read_34 : decode cX9_read 34 = .ok (.iload_n 3, 1) := by decide +kernel
theorem dX9_read_35 : decode cX9_read 35 = .ok (.invokevirtual 175, 3) := by decide +kernel
theorem dX9_read_38 : decode cX9_read 38 = .ok (.ireturn, 1) := by decide +kernel
theorem dX9_read_39 : decode cX9_read 39 = .ok (.aload_n 0, 1) := by decide +kernel
theorem dX9_read_40 : decode cX9_read 40 = .ok (.aload_n 0, 1) := by decide +kernel
theorem dX9_read_41 : decode cX9_read 41 = .ok (.getfield 13, 3) := by decide +kernel
theorem dX9_read_44 : decode cX9_read 44 = .ok (.iload_n 2, 1) := by decide +kernel
theorem dX9_read_45 : decode cX9_read 45 = .ok (.laload, 1) := by decide +kernel
theorem dX9_read_46 : decode cX9_read 46 = .ok (.putfield 263, 3) := by decide +kernel
theorem dX9_read_49 : decode cX9_read 49 = .ok (.iconst 0, 1) := by decide +kernel
theorem dX9_read_50 : decode cX9_read 50 = .ok (.ireturn, 1) := by decide +kernel
theorem dX9_value_0 : decode cX9_value 0 = .ok (.aload_n 0, 1) := by decide +kernel
theorem dX9_value_1 : decode cX9_value 1 = .ok (.getfield 263, 3) := by decide +kernel
theorem dX9_value_4 : decode cX9_value 4 = .ok (.lreturn, 1) := by decide +kernel
theorem dX9_write_0 : decode cX9_write 0 = .ok (.aload_n 0, 1) := by decide +kernel
theorem dX9_write_1 : decode cX9_write 1 = .ok (.iload_n 1, 1) := by decide +kernel
theorem dX9_write_2 : decode cX9_write 2 = .ok (.invokevirtual 260, 3) := by decide +kernel
theorem dX9_write_5 : decode cX9_write 5 = .ok (.istore 5, 2) := by decide +kernel
theorem dX9_write_7 : decode cX9_write 7 = .ok (.iload 5, 2) := by decide +kernel
theorem dX9_write_9 : decode cX9_write 9 = .ok (.ifCond .ge 8, 3) := by decide +kernel
theorem dX9_write_12 : decode cX9_write 12 = .ok (.iload 5, 2) := by decide +kernel
theorem dX9_write_14 : decode cX9_write 14 = .ok (.goto 27, 3) := by decide +kernel
theorem dX9_write_17 : decode cX9_write 17 = .ok (.aload_n 0, 1) := by decide +kernel
theorem dX9_write_18 : decode cX9_write 18 = .ok (.iload_n 2, 1) := by decide +kernel
theorem dX9_write_19 : decode cX9_write 19 = .ok (.invokevirtual 183, 3) := by decide +kernel
theorem dX9_write_22 : decode cX9_write 22 = .ok (.ifCond .eq 13, 3) := by decide +kernel
theorem dX9_write_25 : decode cX9_write 25 = .ok (.aload_n 0, 1) := by decide +kernel
theorem dX9_write_26 : decode cX9_write 26 = .ok (.getfield 7, 3) := by decide +kernel
theorem dX9_write_29 : decode cX9_write 29 = .ok (.iload_n 2, 1) := by decide +kernel
theorem dX9_write_30 : decode cX9_write 30 = .ok (.iaload, 1) := by decide +kernel
theorem dX9_write_31 : decode cX9_write 31 = .ok (.iconst 2, 1) := by decide +kernel
theorem dX9_write_32 : decode cX9_write 32 = .ok (.if_icmp .eq 8, 3) := by decide +kernel
theorem dX9_write_35 : decode cX9_write 35 = .ok (.bipush (-4), 2) := by decide +kernel
theorem dX9_write_37 : decode cX9_write 37 = .ok (.goto 4, 3) := by decide +kernel
theorem dX9_write_40 : decode cX9_write 40 = .ok (.iconst 0, 1) := by decide +kernel
theorem dX9_write_41 : decode cX9_write 41 = .ok (.istore 5, 2) := by decide +kernel
theorem dX9_write_43 : decode cX9_write 43 = .ok (.iload 5, 2) := by decide +kernel
theorem dX9_write_45 : decode cX9_write 45 = .ok (.ifCond .ge 10, 3) := by decide +kernel
theorem dX9_write_48 : decode cX9_write 48 = .ok (.aload_n 0, 1) := by decide +kernel
theorem dX9_write_49 : decode cX9_write 49 = .ok (.iload 5, 2) := by decide +kernel
theorem dX9_write_51 : decode cX9_write 51 = .ok (.invokevirtual 175, 3) := by decide +kernel
theorem dX9_write_54 : decode cX9_write 54 = .ok (.ireturn, 1) := by decide +kernel
theorem dX9_write_55 : decode cX9_write 55 = .ok (.aload_n 0, 1) := by decide +kernel
theorem dX9_write_56 : decode cX9_write 56 = .ok (.getfield 13, 3) := by decide +kernel
theorem dX9_write_59 : decode cX9_write 59 = .ok (.iload_n 2, 1) := by decide +kernel
theorem dX9_write_60 : decode cX9_write 60 = .ok (.lload_n 3, 1) := by decide +kernel
theorem dX9_write_61 : decode cX9_write 61 = .ok (.lastore, 1) := by decide +kernel
theorem dX9_write_62 : decode cX9_write 62 = .ok (.iconst 1, 1) := by decide +kernel
theorem dX9_write_63 : decode cX9_write 63 = .ok (.ireturn, 1) := by decide +kernel
theorem dX9_areRight_0 : decode cX9_areRight 0 = .ok (.iload_n 0, 1) := by decide +kernel
theorem dX9_areRight_1 : decode cX9_areRight 1 = .ok (.i2l, 1) := by decide +kernel
theorem dX9_areRight_2 : decode cX9_areRight 2 = .ok (.lconst 1, 1) := by decide +kernel
theorem dX9_areRight_3 : decode cX9_areRight 3 = .ok (.ldc2_w 267, 3) := by decide +kernel
theorem dX9_areRight_6 : decode cX9_areRight 6 = .ok (.invokestatic 171, 3) := by decide +kernel
theorem dX9_areRight_9 : decode cX9_areRight 9 = .ok (.ifCond .eq 45, 3) := by decide +kernel
theorem dX9_areRight_12 : decode cX9_areRight 12 = .ok (.iload_n 1, 1) := by decide +kernel
theorem dX9_areRight_13 : decode cX9_areRight 13 = .ok (.i2l, 1) := by decide +kernel
theorem dX9_areRight_14 : decode cX9_areRight 14 = .ok (.lconst 1, 1) := by decide +kernel
theorem dX9_areRight_15 : decode cX9_areRight 15 = .ok (.ldc2_w 269, 3) := by decide +kernel
theorem dX9_areRight_18 : decode cX9_areRight 18 = .ok (.invokestatic 171, 3) := by decide +kernel
theorem dX9_areRight_21 : decode cX9_areRight 21 = .ok (.ifCond .eq 33, 3) := by decide +kernel
theorem dX9_areRight_24 : decode cX9_areRight 24 = .ok (.iload_n 2, 1) := by decide +kernel
theorem dX9_areRight_25 : decode cX9_areRight 25 = .ok (.i2l, 1) := by decide +kernel
theorem dX9_areRight_26 : decode cX9_areRight 26 = .ok (.ldc2_w 271, 3) := by decide +kernel
theorem dX9_areRight_29 : decode cX9_areRight 29 = .ok (.ldc2_w 267, 3) := by decide +kernel
theorem dX9_areRight_32 : decode cX9_areRight 32 = .ok (.invokestatic 171, 3) := by decide +kernel
theorem dX9_areRight_35 : decode cX9_areRight 35 = .ok (.ifCond .eq 19, 3) := by decide +kernel
theorem dX9_areRight_38 : decode cX9_areRight 38 = .ok (.iload_n 3, 1) := by decide +kernel
theorem dX9_areRight_39 : decode cX9_areRight 39 = .ok (.i2l, 1) := by decide +kernel
theorem dX9_areRight_40 : decode cX9_areRight 40 = .ok (.lconst 0, 1) := by decide +kernel
theorem dX9_areRight_41 : decode cX9_areRight 41 = .ok (.ldc2_w 273, 3) := by decide +kernel
theorem dX9_areRight_44 : decode cX9_areRight 44 = .ok (.invokestatic 171, 3) := by decide +kernel
theorem dX9_areRight_47 : decode cX9_areRight 47 = .ok (.ifCond .eq 7, 3) := by decide +kernel
theorem dX9_areRight_50 : decode cX9_areRight 50 = .ok (.iconst 1, 1) := by decide +kernel
theorem dX9_areRight_51 : decode cX9_areRight 51 = .ok (.goto 4, 3) := by decide +kernel
theorem dX9_areRight_54 : decode cX9_areRight 54 = .ok (.iconst 0, 1) := by decide +kernel
theorem dX9_areRight_55 : decode cX9_areRight 55 = .ok (.ireturn, 1) := by decide +kernel
theorem dX9_set_0 : decode cX9_set 0 = .ok (.aload_n 0, 1) := by decide +kernel
theorem dX9_set_1 : decode cX9_set 1 = .ok (.getfield 51, 3) := by decide +kernel
theorem dX9_set_4 : decode cX9_set 4 = .ok (.iload_n 1, 1) := by decide +kernel
theorem dX9_set_5 : decode cX9_set 5 = .ok (.aload_n 0, 1) := by decide +kernel
theorem dX9_set_6 : decode cX9_set 6 = .ok (.getfield 199, 3) := by decide +kernel
theorem dX9_set_9 : decode cX9_set 9 = .ok (.iastore, 1) := by decide +kernel
theorem dX9_set_10 : decode cX9_set 10 = .ok (.aload_n 0, 1) := by decide +kernel
theorem dX9_set_11 : decode cX9_set 11 = .ok (.getfield 54, 3) := by decide +kernel
theorem dX9_set_14 : decode cX9_set 14 = .ok (.iload_n 1, 1) := by decide +kernel
theorem dX9_set_15 : decode cX9_set 15 = .ok (.iload_n 2, 1) := by decide +kernel
theorem dX9_set_16 : decode cX9_set 16 = .ok (.iastore, 1) := by decide +kernel
theorem dX9_set_17 : decode cX9_set 17 = .ok (.aload_n 0, 1) := by decide +kernel
theorem dX9_set_18 : decode cX9_set 18 = .ok (.getfield 57, 3) := by decide +kernel
theorem dX9_set_21 : decode cX9_set 21 = .ok (.iload_n 1, 1) := by decide +kernel
theorem dX9_set_22 : decode cX9_set 22 = .ok (.iload_n 3, 1) := by decide +kernel
theorem dX9_set_23 : decode cX9_set 23 = .ok (.iastore, 1) := by decide +kernel
theorem dX9_set_24 : decode cX9_set 24 = .ok (.aload_n 0, 1) := by decide +kernel
theorem dX9_set_25 : decode cX9_set 25 = .ok (.getfield 60, 3) := by decide +kernel
theorem dX9_set_28 : decode cX9_set 28 = .ok (.iload_n 1, 1) := by decide +kernel
theorem dX9_set_29 : decode cX9_set 29 = .ok (.iload 4, 2) := by decide +kernel
theorem dX9_set_31 : decode cX9_set 31 = .ok (.iastore, 1) := by decide +kernel
theorem dX9_set_32 : decode cX9_set 32 = .ok (.aload_n 0, 1) := by decide +kernel
theorem dX9_set_33 : decode cX9_set 33 = .ok (.getfield 63, 3) := by decide +kernel
theorem dX9_set_36 : decode cX9_set 36 = .ok (.iload_n 1, 1) := by decide +kernel
theorem dX9_set_37 : decode cX9_set 37 = .ok (.iload 5, 2) := by decide +kernel
theorem dX9_set_39 : decode cX9_set 39 = .ok (.iastore, 1) := by decide +kernel
theorem dX9_set_40 : decode cX9_set 40 = .ok (.aload_n 0, 1) := by decide +kernel
theorem dX9_set_41 : decode cX9_set 41 = .ok (.getfield 72, 3) := by decide +kernel
theorem dX9_set_44 : decode cX9_set 44 = .ok (.iload_n 1, 1) := by decide +kernel
theorem dX9_set_45 : decode cX9_set 45 = .ok (.iload_n 3, 1) := by decide +kernel
theorem dX9_set_46 : decode cX9_set 46 = .ok (.iastore, 1) := by decide +kernel
theorem dX9_set_47 : decode cX9_set 47 = .ok (.aload_n 0, 1) := by decide +kernel
theorem dX9_set_48 : decode cX9_set 48 = .ok (.getfield 75, 3) := by decide +kernel
theorem dX9_set_51 : decode cX9_set 51 = .ok (.iload_n 1, 1) := by decide +kernel
theorem dX9_set_52 : decode cX9_set 52 = .ok (.iload 4, 2) := by decide +kernel
theorem dX9_set_54 : decode cX9_set 54 = .ok (.iastore, 1) := by decide +kernel
theorem dX9_set_55 : decode cX9_set 55 = .ok (.return_, 1) := by decide +kernel
theorem dX9_subscribe_0 : decode cX9_subscribe 0 = .ok (.aload_n 0, 1) := by decide +kernel
theorem dX9_subscribe_1 : decode cX9_subscribe 1 = .ok (.iload_n 1, 1) := by decide +kernel
theorem dX9_subscribe_2 : decode cX9_subscribe 2 = .ok (.invokevirtual 260, 3) := by decide +kernel
theorem dX9_subscribe_5 : decode cX9_subscribe 5 = .ok (.istore 6, 2) := by decide +kernel
theorem dX9_subscribe_7 : decode cX9_subscribe 7 = .ok (.iload 6, 2) := by decide +kernel
theorem dX9_subscribe_9 : decode cX9_subscribe 9 = .ok (.ifCond .ge 8, 3) := by decide +kernel
theorem dX9_subscribe_12 : decode cX9_subscribe 12 = .ok (.iload 6, 2) := by decide +kernel
theorem dX9_subscribe_14 : decode cX9_subscribe 14 = .ok (.goto 35, 3) := by decide +kernel
theorem dX9_subscribe_17 : decode cX9_subscribe 17 = .ok (.iload_n 2, 1) := by decide +kernel
theorem dX9_subscribe_18 : decode cX9_subscribe 18 = .ok (.iload_n 3, 1) := by decide +kernel
theorem dX9_subscribe_19 : decode cX9_subscribe 19 = .ok (.iload 4, 2) := by decide +kernel
theorem dX9_subscribe_21 : decode cX9_subscribe 21 = .ok (.iload 5, 2) := by decide +kernel
theorem dX9_subscribe_23 : decode cX9_subscribe 23 = .ok (.invokestatic 275, 3) := by decide +kernel
theorem dX9_subscribe_26 : decode cX9_subscribe 26 = .ok (.ifCond .ne 8, 3) := by decide +kernel
theorem dX9_subscribe_29 : decode cX9_subscribe 29 = .ok (.bipush (-7), 2) := by decide +kernel
theorem dX9_subscribe_31 : decode cX9_subscribe 31 = .ok (.goto 18, 3) := by decide +kernel
theorem dX9_subscribe_34 : decode cX9_subscribe 34 = .ok (.aload_n 0, 1) := by decide +kernel
theorem dX9_subscribe_35 : decode cX9_subscribe 35 = .ok (.getfield 224, 3) := by decide +kernel
theorem dX9_subscribe_38 : decode cX9_subscribe 38 = .ok (.bipush 20, 2) := by decide +kernel
theorem dX9_subscribe_40 : decode cX9_subscribe 40 = .ok (.if_icmp .ne 8, 3) := by decide +kernel
theorem dX9_subscribe_43 : decode cX9_subscribe 43 = .ok (.bipush (-8), 2) := by decide +kernel
theorem dX9_subscribe_45 : decode cX9_subscribe 45 = .ok (.goto 4, 3) := by decide +kernel
theorem dX9_subscribe_48 : decode cX9_subscribe 48 = .ok (.iconst 0, 1) := by decide +kernel
theorem dX9_subscribe_49 : decode cX9_subscribe 49 = .ok (.istore 6, 2) := by decide +kernel
theorem dX9_subscribe_51 : decode cX9_subscribe 51 = .ok (.iload 6, 2) := by decide +kernel
theorem dX9_subscribe_53 : decode cX9_subscribe 53 = .ok (.ifCond .ge 10, 3) := by decide +kernel
theorem dX9_subscribe_56 : decode cX9_subscribe 56 = .ok (.aload_n 0, 1) := by decide +kernel
theorem dX9_subscribe_57 : decode cX9_subscribe 57 = .ok (.iload 6, 2) := by decide +kernel
theorem dX9_subscribe_59 : decode cX9_subscribe 59 = .ok (.invokevirtual 175, 3) := by decide +kernel
theorem dX9_subscribe_62 : decode cX9_subscribe 62 = .ok (.ireturn, 1) := by decide +kernel
theorem dX9_subscribe_63 : decode cX9_subscribe 63 = .ok (.aload_n 0, 1) := by decide +kernel
theorem dX9_subscribe_64 : decode cX9_subscribe 64 = .ok (.getfield 224, 3) := by decide +kernel
theorem dX9_subscribe_67 : decode cX9_subscribe 67 = .ok (.istore 7, 2) := by decide +kernel
theorem dX9_subscribe_69 : decode cX9_subscribe 69 = .ok (.aload_n 0, 1) := by decide +kernel
theorem dX9_subscribe_70 : decode cX9_subscribe 70 = .ok (.dup, 1) := by decide +kernel
theorem dX9_subscribe_71 : decode cX9_subscribe 71 = .ok (.getfield 224, 3) := by decide +kernel
theorem dX9_subscribe_74 : decode cX9_subscribe 74 = .ok (.iconst 1, 1) := by decide +kernel
theorem dX9_subscribe_75 : decode cX9_subscribe 75 = .ok (.iadd, 1) := by decide +kernel
theorem dX9_subscribe_76 : decode cX9_subscribe 76 = .ok (.putfield 224, 3) := by decide +kernel
theorem dX9_subscribe_79 : decode cX9_subscribe 79 = .ok (.aload_n 0, 1) := by decide +kernel
theorem dX9_subscribe_80 : decode cX9_subscribe 80 = .ok (.getfield 44, 3) := by decide +kernel
theorem dX9_subscribe_83 : decode cX9_subscribe 83 = .ok (.iload 7, 2) := by decide +kernel
theorem dX9_subscribe_85 : decode cX9_subscribe 85 = .ok (.iconst 1, 1) := by decide +kernel
theorem dX9_subscribe_86 : decode cX9_subscribe 86 = .ok (.bastore, 1) := by decide +kernel
theorem dX9_subscribe_87 : decode cX9_subscribe 87 = .ok (.aload_n 0, 1) := by decide +kernel
theorem dX9_subscribe_88 : decode cX9_subscribe 88 = .ok (.getfield 48, 3) := by decide +kernel
theorem dX9_subscribe_91 : decode cX9_subscribe 91 = .ok (.iload 7, 2) := by decide +kernel
theorem dX9_subscribe_93 : decode cX9_subscribe 93 = .ok (.iload_n 1, 1) := by decide +kernel
theorem dX9_subscribe_94 : decode cX9_subscribe 94 = .ok (.iastore, 1) := by decide +kernel
theorem dX9_subscribe_95 : decode cX9_subscribe 95 = .ok (.aload_n 0, 1) := by decide +kernel
theorem dX9_subscribe_96 : decode cX9_subscribe 96 = .ok (.getfield 66, 3) := by decide +kernel
theorem dX9_subscribe_99 : decode cX9_subscribe 99 = .ok (.iload 7, 2) := by decide +kernel
theorem dX9_subscribe_101 : decode cX9_subscribe 101 = .ok (.iconst 1, 1) := by decide +kernel
theorem dX9_subscribe_102 : decode cX9_subscribe 102 = .ok (.bastore, 1) := by decide +kernel
theorem dX9_subscribe_103 : decode cX9_subscribe 103 = .ok (.aload_n 0, 1) := by decide +kernel
theorem dX9_subscribe_104 : decode cX9_subscribe 104 = .ok (.getfield 69, 3) := by decide +kernel
theorem dX9_subscribe_107 : decode cX9_subscribe 107 = .ok (.iload 7, 2) := by decide +kernel
theorem dX9_subscribe_109 : decode cX9_subscribe 109 = .ok (.iconst 1, 1) := by decide +kernel
theorem dX9_subscribe_110 : decode cX9_subscribe 110 = .ok (.iastore, 1) := by decide +kernel
theorem dX9_subscribe_111 : decode cX9_subscribe 111 = .ok (.aload_n 0, 1) := by decide +kernel
theorem dX9_subscribe_112 : decode cX9_subscribe 112 = .ok (.iload 7, 2) := by decide +kernel
theorem dX9_subscribe_114 : decode cX9_subscribe 114 = .ok (.iload_n 2, 1) := by decide +kernel
theorem dX9_subscribe_115 : decode cX9_subscribe 115 = .ok (.iload_n 3, 1) := by decide +kernel
theorem dX9_subscribe_116 : decode cX9_subscribe 116 = .ok (.iload 4, 2) := by decide +kernel
theorem dX9_subscribe_118 : decode cX9_subscribe 118 = .ok (.iload 5, 2) := by decide +kernel
theorem dX9_subscribe_120 : decode cX9_subscribe 120 = .ok (.invokevirtual 279, 3) := by decide +kernel
theorem dX9_subscribe_123 : decode cX9_subscribe 123 = .ok (.iload 7, 2) := by decide +kernel
theorem dX9_subscribe_125 : decode cX9_subscribe 125 = .ok (.ireturn, 1) := by decide +kernel
theorem dX9_lacksSub_0 : decode cX9_lacksSub 0 = .ok (.aload_n 0, 1) := by decide +kernel
theorem dX9_lacksSub_1 : decode cX9_lacksSub 1 = .ok (.iload_n 1, 1) := by decide +kernel
theorem dX9_lacksSub_2 : decode cX9_lacksSub 2 = .ok (.invokevirtual 260, 3) := by decide +kernel
theorem dX9_lacksSub_5 : decode cX9_lacksSub 5 = .ok (.istore_n 3, 1) := by decide +kernel
theorem dX9_lacksSub_6 : decode cX9_lacksSub 6 = .ok (.iload_n 3, 1) := by decide +kernel
theorem dX9_lacksSub_7 : decode cX9_lacksSub 7 = .ok (.ifCond .ge 7, 3) := by decide +kernel
theorem dX9_lacksSub_10 : decode cX9_lacksSub 10 = .ok (.iload_n 3, 1) := by decide +kernel
theorem dX9_lacksSub_11 : decode cX9_lacksSub 11 = .ok (.goto 44, 3) := by decide +kernel
theorem dX9_lacksSub_14 : decode cX9_lacksSub 14 = .ok (.iload_n 2, 1) := by decide +kernel
theorem dX9_lacksSub_15 : decode cX9_lacksSub 15 = .ok (.i2l, 1) := by decide +kernel
theorem dX9_lacksSub_16 : decode cX9_lacksSub 16 = .ok (.lconst 0, 1) := by decide +kernel
theorem dX9_lacksSub_17 : decode cX9_lacksSub 17 = .ok (.aload_n 0, 1) := by decide +kernel
theorem dX9_lacksSub_18 : decode cX9_lacksSub 18 = .ok (.getfield 224, 3) := by decide +kernel
theorem dX9_lacksSub_21 : decode cX9_lacksSub 21 = .ok (.iconst 1, 1) := by decide +kernel
theorem dX9_lacksSub_22 : decode cX9_lacksSub 22 = .ok (.isub, 1) := by decide +kernel
theorem dX9_lacksSub_23 : decode cX9_lacksSub 23 = .ok (.i2l, 1) := by decide +kernel
theorem dX9_lacksSub_24 : decode cX9_lacksSub 24 = .ok (.invokestatic 171, 3) := by decide +kernel
theorem dX9_lacksSub_27 : decode cX9_lacksSub 27 = .ok (.ifCond .eq 22, 3) := by decide +kernel
theorem dX9_lacksSub_30 : decode cX9_lacksSub 30 = .ok (.aload_n 0, 1) := by decide +kernel
theorem dX9_lacksSub_31 : decode cX9_lacksSub 31 = .ok (.getfield 44, 3) := by decide +kernel
theorem dX9_lacksSub_34 : decode cX9_lacksSub 34 = .ok (.iload_n 2, 1) := by decide +kernel
theorem dX9_lacksSub_35 : decode cX9_lacksSub 35 = .ok (.baload, 1) := by decide +kernel
theorem dX9_lacksSub_36 : decode cX9_lacksSub 36 = .ok (.ifCond .eq 13, 3) := by decide +kernel
theorem dX9_lacksSub_39 : decode cX9_lacksSub 39 = .ok (.aload_n 0, 1) := by decide +kernel
theorem dX9_lacksSub_40 : decode cX9_lacksSub 40 = .ok (.getfield 48, 3) := by decide +kernel
theorem dX9_lacksSub_43 : decode cX9_lacksSub 43 = .ok (.iload_n 2, 1) := by decide +kernel
theorem dX9_lacksSub_44 : decode cX9_lacksSub 44 = .ok (.iaload, 1) := by decide +kernel
theorem dX9_lacksSub_45 : decode cX9_lacksSub 45 = .ok (.iload_n 1, 1) := by decide +kernel
theorem dX9_lacksSub_46 : decode cX9_lacksSub 46 = .ok (.if_icmp .eq 8, 3) := by decide +kernel
theorem dX9_lacksSub_49 : decode cX9_lacksSub 49 = .ok (.bipush (-5), 2) := by decide +kernel
theorem dX9_lacksSub_51 : decode cX9_lacksSub 51 = .ok (.goto 4, 3) := by decide +kernel
theorem dX9_lacksSub_54 : decode cX9_lacksSub 54 = .ok (.iconst 0, 1) := by decide +kernel
theorem dX9_lacksSub_55 : decode cX9_lacksSub 55 = .ok (.ireturn, 1) := by decide +kernel
theorem dX9_modify_0 : decode cX9_modify 0 = .ok (.aload_n 0, 1) := by decide +kernel
theorem dX9_modify_1 : decode cX9_modify 1 = .ok (.iload_n 1, 1) := by decide +kernel
theorem dX9_modify_2 : decode cX9_modify 2 = .ok (.iload_n 2, 1) := by decide +kernel
theorem dX9_modify_3 : decode cX9_modify 3 = .ok (.invokevirtual 283, 3) := by decide +kernel
theorem dX9_modify_6 : decode cX9_modify 6 = .ok (.istore 7, 2) := by decide +kernel
theorem dX9_modify_8 : decode cX9_modify 8 = .ok (.iload 7, 2) := by decide +kernel
theorem dX9_modify_10 : decode cX9_modify 10 = .ok (.ifCond .ge 8, 3) := by decide +kernel
theorem dX9_modify_13 : decode cX9_modify 13 = .ok (.iload 7, 2) := by decide +kernel
theorem dX9_modify_15 : decode cX9_modify 15 = .ok (.goto 22, 3) := by decide +kernel
theorem dX9_modify_18 : decode cX9_modify 18 = .ok (.iload_n 3, 1) := by decide +kernel
theorem dX9_modify_19 : decode cX9_modify 19 = .ok (.iload 4, 2) := by decide +kernel
theorem dX9_modify_21 : decode cX9_modify 21 = .ok (.iload 5, 2) := by decide +kernel
theorem dX9_modify_23 : decode cX9_modify 23 = .ok (.iload 6, 2) := by decide +kernel
theorem dX9_modify_25 : decode cX9_modify 25 = .ok (.invokestatic 275, 3) := by decide +kernel
theorem dX9_modify_28 : decode cX9_modify 28 = .ok (.ifCond .ne 8, 3) := by decide +kernel
theorem dX9_modify_31 : decode cX9_modify 31 = .ok (.bipush (-7), 2) := by decide +kernel
theorem dX9_modify_33 : decode cX9_modify 33 = .ok (.goto 4, 3) := by decide +kernel
theorem dX9_modify_36 : decode cX9_modify 36 = .ok (.iconst 0, 1) := by decide +kernel
theorem dX9_modify_37 : decode cX9_modify 37 = .ok (.istore 7, 2) := by decide +kernel
theorem dX9_modify_39 : decode cX9_modify 39 = .ok (.iload 7, 2) := by decide +kernel
theorem dX9_modify_41 : decode cX9_modify 41 = .ok (.ifCond .ge 10, 3) := by decide +kernel
theorem dX9_modify_44 : decode cX9_modify 44 = .ok (.aload_n 0, 1) := by decide +kernel
theorem dX9_modify_45 : decode cX9_modify 45 = .ok (.iload 7, 2) := by decide +kernel
theorem dX9_modify_47 : decode cX9_modify 47 = .ok (.invokevirtual 175, 3) := by decide +kernel
theorem dX9_modify_50 : decode cX9_modify 50 = .ok (.ireturn, 1) := by decide +kernel
theorem dX9_modify_51 : decode cX9_modify 51 = .ok (.aload_n 0, 1) := by decide +kernel
theorem dX9_modify_52 : decode cX9_modify 52 = .ok (.iload_n 2, 1) := by decide +kernel
theorem dX9_modify_53 : decode cX9_modify 53 = .ok (.iload_n 3, 1) := by decide +kernel
theorem dX9_modify_54 : decode cX9_modify 54 = .ok (.iload 4, 2) := by decide +kernel
theorem dX9_modify_56 : decode cX9_modify 56 = .ok (.iload 5, 2) := by decide +kernel
theorem dX9_modify_58 : decode cX9_modify 58 = .ok (.iload 6, 2) := by decide +kernel
theorem dX9_modify_60 : decode cX9_modify 60 = .ok (.invokevirtual 279, 3) := by decide +kernel
theorem dX9_modify_63 : decode cX9_modify 63 = .ok (.iconst 1, 1) := by decide +kernel
theorem dX9_modify_64 : decode cX9_modify 64 = .ok (.ireturn, 1) := by decide +kernel
theorem dX9_turn_0 : decode cX9_turn 0 = .ok (.aload_n 0, 1) := by decide +kernel
theorem dX9_turn_1 : decode cX9_turn 1 = .ok (.iload_n 1, 1) := by decide +kernel
theorem dX9_turn_2 : decode cX9_turn 2 = .ok (.iload_n 2, 1) := by decide +kernel
theorem dX9_turn_3 : decode cX9_turn 3 = .ok (.invokevirtual 283, 3) := by decide +kernel
theorem dX9_turn_6 : decode cX9_turn 6 = .ok (.istore 4, 2) := by decide +kernel
theorem dX9_turn_8 : decode cX9_turn 8 = .ok (.iload 4, 2) := by decide +kernel
theorem dX9_turn_10 : decode cX9_turn 10 = .ok (.ifCond .ge 10, 3) := by decide +kernel
theorem dX9_turn_13 : decode cX9_turn 13 = .ok (.aload_n 0, 1) := by decide +kernel
theorem dX9_turn_14 : decode cX9_turn 14 = .ok (.iload 4, 2) := by decide +kernel
theorem dX9_turn_16 : decode cX9_turn 16 = .ok (.invokevirtual 175, 3) := by decide +kernel
theorem dX9_turn_19 : decode cX9_turn 19 = .ok (.ireturn, 1) := by decide +kernel
theorem dX9_turn_20 : decode cX9_turn 20 = .ok (.aload_n 0, 1) := by decide +kernel
theorem dX9_turn_21 : decode cX9_turn 21 = .ok (.getfield 66, 3) := by decide +kernel
theorem dX9_turn_24 : decode cX9_turn 24 = .ok (.iload_n 2, 1) := by decide +kernel
theorem dX9_turn_25 : decode cX9_turn 25 = .ok (.baload, 1) := by decide +kernel
theorem dX9_turn_26 : decode cX9_turn 26 = .ok (.iload_n 3, 1) := by decide +kernel
theorem dX9_turn_27 : decode cX9_turn 27 = .ok (.if_icmp .eq 7, 3) := by decide +kernel
theorem dX9_turn_30 : decode cX9_turn 30 = .ok (.iconst 1, 1) := by decide +kernel
theorem dX9_turn_31 : decode cX9_turn 31 = .ok (.goto 4, 3) := by decide +kernel
theorem dX9_turn_34 : decode cX9_turn 34 = .ok (.iconst 0, 1) := by decide +kernel
theorem dX9_turn_35 : decode cX9_turn 35 = .ok (.istore 5, 2) := by decide +kernel
theorem dX9_turn_37 : decode cX9_turn 37 = .ok (.aload_n 0, 1) := by decide +kernel
theorem dX9_turn_38 : decode cX9_turn 38 = .ok (.getfield 66, 3) := by decide +kernel
theorem dX9_turn_41 : decode cX9_turn 41 = .ok (.iload_n 2, 1) := by decide +kernel
theorem dX9_turn_42 : decode cX9_turn 42 = .ok (.iload_n 3, 1) := by decide +kernel
theorem dX9_turn_43 : decode cX9_turn 43 = .ok (.bastore, 1) := by decide +kernel
theorem dX9_turn_44 : decode cX9_turn 44 = .ok (.aload_n 0, 1) := by decide +kernel
theorem dX9_turn_45 : decode cX9_turn 45 = .ok (.getfield 75, 3) := by decide +kernel
theorem dX9_turn_48 : decode cX9_turn 48 = .ok (.iload_n 2, 1) := by decide +kernel
theorem dX9_turn_49 : decode cX9_turn 49 = .ok (.aload_n 0, 1) := by decide +kernel
theorem dX9_turn_50 : decode cX9_turn 50 = .ok (.getfield 60, 3) := by decide +kernel
theorem dX9_turn_53 : decode cX9_turn 53 = .ok (.iload_n 2, 1) := by decide +kernel
theorem dX9_turn_54 : decode cX9_turn 54 = .ok (.iaload, 1) := by decide +kernel
theorem dX9_turn_55 : decode cX9_turn 55 = .ok (.iastore, 1) := by decide +kernel
theorem dX9_turn_56 : decode cX9_turn 56 = .ok (.iload 5, 2) := by decide +kernel
theorem dX9_turn_58 : decode cX9_turn 58 = .ok (.ifCond .eq 7, 3) := by decide +kernel
theorem dX9_turn_61 : decode cX9_turn 61 = .ok (.iconst 1, 1) := by decide +kernel
theorem dX9_turn_62 : decode cX9_turn 62 = .ok (.goto 4, 3) := by decide +kernel
theorem dX9_turn_65 : decode cX9_turn 65 = .ok (.iconst 0, 1) := by decide +kernel
theorem dX9_turn_66 : decode cX9_turn 66 = .ok (.ireturn, 1) := by decide +kernel
theorem dX9_transfer_0 : decode cX9_transfer 0 = .ok (.aload_n 0, 1) := by decide +kernel
theorem dX9_transfer_1 : decode cX9_transfer 1 = .ok (.iload_n 1, 1) := by decide +kernel
theorem dX9_transfer_2 : decode cX9_transfer 2 = .ok (.invokevirtual 260, 3) := by decide +kernel
theorem dX9_transfer_5 : decode cX9_transfer 5 = .ok (.istore_n 3, 1) := by decide +kernel
theorem dX9_transfer_6 : decode cX9_transfer 6 = .ok (.iload_n 3, 1) := by decide +kernel
theorem dX9_transfer_7 : decode cX9_transfer 7 = .ok (.ifCond .ge 7, 3) := by decide +kernel
theorem dX9_transfer_10 : decode cX9_transfer 10 = .ok (.iload_n 3, 1) := by decide +kernel
theorem dX9_transfer_11 : decode cX9_transfer 11 = .ok (.goto 34, 3) := by decide +kernel
theorem dX9_transfer_14 : decode cX9_transfer 14 = .ok (.iload_n 2, 1) := by decide +kernel
theorem dX9_transfer_15 : decode cX9_transfer 15 = .ok (.i2l, 1) := by decide +kernel
theorem dX9_transfer_16 : decode cX9_transfer 16 = .ok (.lconst 0, 1) := by decide +kernel
theorem dX9_transfer_17 : decode cX9_transfer 17 = .ok (.aload_n 0, 1) := by decide +kernel
theorem dX9_transfer_18 : decode cX9_transfer 18 = .ok (.getfield 224, 3) := by decide +kernel
theorem dX9_transfer_21 : decode cX9_transfer 21 = .ok (.iconst 1, 1) := by decide +kernel
theorem dX9_transfer_22 : decode cX9_transfer 22 = .ok (.isub, 1) := by decide +kernel
theorem dX9_transfer_23 : decode cX9_transfer 23 = .ok (.i2l, 1) := by decide +kernel
theorem dX9_transfer_24 : decode cX9_transfer 24 = .ok (.invokestatic 171, 3) := by decide +kernel
theorem dX9_transfer_27 : decode cX9_transfer 27 = .ok (.ifCond .eq 12, 3) := by decide +kernel
theorem dX9_transfer_30 : decode cX9_transfer 30 = .ok (.aload_n 0, 1) := by decide +kernel
theorem dX9_transfer_31 : decode cX9_transfer 31 = .ok (.getfield 44, 3) := by decide +kernel
theorem dX9_transfer_34 : decode cX9_transfer 34 = .ok (.iload_n 2, 1) := by decide +kernel
theorem dX9_transfer_35 : decode cX9_transfer 35 = .ok (.baload, 1) := by decide +kernel
theorem dX9_transfer_36 : decode cX9_transfer 36 = .ok (.ifCond .ne 8, 3) := by decide +kernel
theorem dX9_transfer_39 : decode cX9_transfer 39 = .ok (.bipush (-5), 2) := by decide +kernel
theorem dX9_transfer_41 : decode cX9_transfer 41 = .ok (.goto 4, 3) := by decide +kernel
theorem dX9_transfer_44 : decode cX9_transfer 44 = .ok (.iconst 0, 1) := by decide +kernel
theorem dX9_transfer_45 : decode cX9_transfer 45 = .ok (.istore_n 3, 1) := by decide +kernel
theorem dX9_transfer_46 : decode cX9_transfer 46 = .ok (.iload_n 3, 1) := by decide +kernel
theorem dX9_transfer_47 : decode cX9_transfer 47 = .ok (.ifCond .ge 9, 3) := by decide +kernel
theorem dX9_transfer_50 : decode cX9_transfer 50 = .ok (.aload_n 0, 1) := by decide +kernel
theorem dX9_transfer_51 : decode cX9_transfer 51 = .ok (.iload_n 3, 1) := by decide +kernel
theorem dX9_transfer_52 : decode cX9_transfer 52 = .ok (.invokevirtual 175, 3) := by decide +kernel
theorem dX9_transfer_55 : decode cX9_transfer 55 = .ok (.ireturn, 1) := by decide +kernel
theorem dX9_transfer_56 : decode cX9_transfer 56 = .ok (.aload_n 0, 1) := by decide +kernel
theorem dX9_transfer_57 : decode cX9_transfer 57 = .ok (.getfield 48, 3) := by decide +kernel
theorem dX9_transfer_60 : decode cX9_transfer 60 = .ok (.iload_n 2, 1) := by decide +kernel
theorem dX9_transfer_61 : decode cX9_transfer 61 = .ok (.iaload, 1) := by decide +kernel
theorem dX9_transfer_62 : decode cX9_transfer 62 = .ok (.iload_n 1, 1) := by decide +kernel
theorem dX9_transfer_63 : decode cX9_transfer 63 = .ok (.if_icmp .ne 7, 3) := by decide +kernel
theorem dX9_transfer_66 : decode cX9_transfer 66 = .ok (.iconst 1, 1) := by decide +kernel
theorem dX9_transfer_67 : decode cX9_transfer 67 = .ok (.goto 4, 3) := by decide +kernel
theorem dX9_transfer_70 : decode cX9_transfer 70 = .ok (.iconst 0, 1) := by decide +kernel
theorem dX9_transfer_71 : decode cX9_transfer 71 = .ok (.istore 4, 2) := by decide +kernel
theorem dX9_transfer_73 : decode cX9_transfer 73 = .ok (.aload_n 0, 1) := by decide +kernel
theorem dX9_transfer_74 : decode cX9_transfer 74 = .ok (.getfield 48, 3) := by decide +kernel
theorem dX9_transfer_77 : decode cX9_transfer 77 = .ok (.iload_n 2, 1) := by decide +kernel
theorem dX9_transfer_78 : decode cX9_transfer 78 = .ok (.iload_n 1, 1) := by decide +kernel
theorem dX9_transfer_79 : decode cX9_transfer 79 = .ok (.iastore, 1) := by decide +kernel
theorem dX9_transfer_80 : decode cX9_transfer 80 = .ok (.aload_n 0, 1) := by decide +kernel
theorem dX9_transfer_81 : decode cX9_transfer 81 = .ok (.getfield 75, 3) := by decide +kernel
theorem dX9_transfer_84 : decode cX9_transfer 84 = .ok (.iload_n 2, 1) := by decide +kernel
theorem dX9_transfer_85 : decode cX9_transfer 85 = .ok (.aload_n 0, 1) := by decide +kernel
theorem dX9_transfer_86 : decode cX9_transfer 86 = .ok (.getfield 60, 3) := by decide +kernel
theorem dX9_transfer_89 : decode cX9_transfer 89 = .ok (.iload_n 2, 1) := by decide +kernel
theorem dX9_transfer_90 : decode cX9_transfer 90 = .ok (.iaload, 1) := by decide +kernel
theorem dX9_transfer_91 : decode cX9_transfer 91 = .ok (.iastore, 1) := by decide +kernel
theorem dX9_transfer_92 : decode cX9_transfer 92 = .ok (.iload 4, 2) := by decide +kernel
theorem dX9_transfer_94 : decode cX9_transfer 94 = .ok (.ifCond .eq 7, 3) := by decide +kernel
theorem dX9_transfer_97 : decode cX9_transfer 97 = .ok (.iconst 0, 1) := by decide +kernel
theorem dX9_transfer_98 : decode cX9_transfer 98 = .ok (.goto 4, 3) := by decide +kernel
theorem dX9_transfer_101 : decode cX9_transfer 101 = .ok (.iconst 1, 1) := by decide +kernel
theorem dX9_transfer_102 : decode cX9_transfer 102 = .ok (.ireturn, 1) := by decide +kernel
theorem dX9_unsubscribe_0 : decode cX9_unsubscribe 0 = .ok (.aload_n 0, 1) := by decide +kernel
theorem dX9_unsubscribe_1 : decode cX9_unsubscribe 1 = .ok (.iload_n 1, 1) := by decide +kernel
theorem dX9_unsubscribe_2 : decode cX9_unsubscribe 2 = .ok (.iload_n 2, 1) := by decide +kernel
theorem dX9_unsubscribe_3 : decode cX9_unsubscribe 3 = .ok (.invokevirtual 283, 3) := by decide +kernel
theorem dX9_unsubscribe_6 : decode cX9_unsubscribe 6 = .ok (.istore_n 3, 1) := by decide +kernel
theorem dX9_unsubscribe_7 : decode cX9_unsubscribe 7 = .ok (.iload_n 3, 1) := by decide +kernel
theorem dX9_unsubscribe_8 : decode cX9_unsubscribe 8 = .ok (.ifCond .ge 9, 3) := by decide +kernel
theorem dX9_unsubscribe_11 : decode cX9_unsubscribe 11 = .ok (.aload_n 0, 1) := by decide +kernel
theorem dX9_unsubscribe_12 : decode cX9_unsubscribe 12 = .ok (.iload_n 3, 1) := by decide +kernel
theorem dX9_unsubscribe_13 : decode cX9_unsubscribe 13 = .ok (.invokevirtual 175, 3) := by decide +kernel
theorem dX9_unsubscribe_16 : decode cX9_unsubscribe 16 = .ok (.ireturn, 1) := by decide +kernel
theorem dX9_unsubscribe_17 : decode cX9_unsubscribe 17 = .ok (.aload_n 0, 1) := by decide +kernel
theorem dX9_unsubscribe_18 : decode cX9_unsubscribe 18 = .ok (.iload_n 2, 1) := by decide +kernel
theorem dX9_unsubscribe_19 : decode cX9_unsubscribe 19 = .ok (.invokevirtual 227, 3) := by decide +kernel
theorem dX9_unsubscribe_22 : decode cX9_unsubscribe 22 = .ok (.iconst 1, 1) := by decide +kernel
theorem dX9_unsubscribe_23 : decode cX9_unsubscribe 23 = .ok (.ireturn, 1) := by decide +kernel
theorem dX9_item_0 : decode cX9_item 0 = .ok (.aload_n 0, 1) := by decide +kernel
theorem dX9_item_1 : decode cX9_item 1 = .ok (.iload_n 1, 1) := by decide +kernel
theorem dX9_item_2 : decode cX9_item 2 = .ok (.iload_n 2, 1) := by decide +kernel
theorem dX9_item_3 : decode cX9_item 3 = .ok (.invokevirtual 283, 3) := by decide +kernel
theorem dX9_item_6 : decode cX9_item 6 = .ok (.istore 10, 2) := by decide +kernel
theorem dX9_item_8 : decode cX9_item 8 = .ok (.iload 4, 2) := by decide +kernel
theorem dX9_item_10 : decode cX9_item 10 = .ok (.i2l, 1) := by decide +kernel
theorem dX9_item_11 : decode cX9_item 11 = .ok (.lconst 1, 1) := by decide +kernel
theorem dX9_item_12 : decode cX9_item 12 = .ok (.ldc2_w 267, 3) := by decide +kernel
theorem dX9_item_15 : decode cX9_item 15 = .ok (.invokestatic 171, 3) := by decide +kernel
theorem dX9_item_18 : decode cX9_item 18 = .ok (.ifCond .eq 40, 3) := by decide +kernel
theorem dX9_item_21 : decode cX9_item 21 = .ok (.iload 5, 2) := by decide +kernel
theorem dX9_item_23 : decode cX9_item 23 = .ok (.i2l, 1) := by decide +kernel
theorem dX9_item_24 : decode cX9_item 24 = .ok (.lconst 1, 1) := by decide +kernel
theorem dX9_item_25 : decode cX9_item 25 = .ok (.ldc2_w 287, 3) := by decide +kernel
theorem dX9_item_28 : decode cX9_item 28 = .ok (.invokestatic 171, 3) := by decide +kernel
theorem dX9_item_31 : decode cX9_item 31 = .ok (.ifCond .eq 27, 3) := by decide +kernel
theorem dX9_item_34 : decode cX9_item 34 = .ok (.iload 7, 2) := by decide +kernel
theorem dX9_item_36 : decode cX9_item 36 = .ok (.i2l, 1) := by decide +kernel
theorem dX9_item_37 : decode cX9_item 37 = .ok (.lconst 0, 1) := by decide +kernel
theorem dX9_item_38 : decode cX9_item 38 = .ok (.ldc2_w 169, 3) := by decide +kernel
theorem dX9_item_41 : decode cX9_item 41 = .ok (.invokestatic 171, 3) := by decide +kernel
theorem dX9_item_44 : decode cX9_item 44 = .ok (.ifCond .eq 14, 3) := by decide +kernel
theorem dX9_item_47 : decode cX9_item 47 = .ok (.lload 8, 2) := by decide +kernel
theorem dX9_item_49 : decode cX9_item 49 = .ok (.lconst 0, 1) := by decide +kernel
theorem dX9_item_50 : decode cX9_item 50 = .ok (.lcmp, 1) := by decide +kernel
theorem dX9_item_51 : decode cX9_item 51 = .ok (.ifCond .lt 7, 3) := by decide +kernel
theorem dX9_item_54 : decode cX9_item 54 = .ok (.iconst 1, 1) := by decide +kernel
theorem dX9_item_55 : decode cX9_item 55 = .ok (.goto 4, 3) := by decide +kernel
theorem dX9_item_58 : decode cX9_item 58 = .ok (.iconst 0, 1) := by decide +kernel
theorem dX9_item_59 : decode cX9_item 59 = .ok (.istore 11, 2) := by decide +kernel
theorem dX9_item_61 : decode cX9_item 61 = .ok (.iload 10, 2) := by decide +kernel
theorem dX9_item_63 : decode cX9_item 63 = .ok (.ifCond .ge 8, 3) := by decide +kernel
theorem dX9_item_66 : decode cX9_item 66 = .ok (.iload 10, 2) := by decide +kernel
theorem dX9_item_68 : decode cX9_item 68 = .ok (.goto 41, 3) := by decide +kernel
theorem dX9_item_71 : decode cX9_item 71 = .ok (.aload_n 0, 1) := by decide +kernel
theorem dX9_item_72 : decode cX9_item 72 = .ok (.iload_n 3, 1) := by decide +kernel
theorem dX9_item_73 : decode cX9_item 73 = .ok (.invokevirtual 192, 3) := by decide +kernel
theorem dX9_item_76 : decode cX9_item 76 = .ok (.ifCond .ne 8, 3) := by decide +kernel
theorem dX9_item_79 : decode cX9_item 79 = .ok (.bipush (-4), 2) := by decide +kernel
theorem dX9_item_81 : decode cX9_item 81 = .ok (.goto 28, 3) := by decide +kernel
theorem dX9_item_84 : decode cX9_item 84 = .ok (.iload 11, 2) := by decide +kernel
theorem dX9_item_86 : decode cX9_item 86 = .ok (.ifCond .ne 8, 3) := by decide +kernel
theorem dX9_item_89 : decode cX9_item 89 = .ok (.bipush (-7), 2) := by decide +kernel
theorem dX9_item_91 : decode cX9_item 91 = .ok (.goto 18, 3) := by decide +kernel
theorem dX9_item_94 : decode cX9_item 94 = .ok (.aload_n 0, 1) := by decide +kernel
theorem dX9_item_95 : decode cX9_item 95 = .ok (.getfield 202, 3) := by decide +kernel
theorem dX9_item_98 : decode cX9_item 98 = .ok (.bipush 60, 2) := by decide +kernel
theorem dX9_item_100 : decode cX9_item 100 = .ok (.if_icmp .ne 8, 3) := by decide +kernel
theorem dX9_item_103 : decode cX9_item 103 = .ok (.bipush (-8), 2) := by decide +kernel
theorem dX9_item_105 : decode cX9_item 105 = .ok (.goto 4, 3) := by decide +kernel
theorem dX9_item_108 : decode cX9_item 108 = .ok (.iconst 0, 1) := by decide +kernel
theorem dX9_item_109 : decode cX9_item 109 = .ok (.istore 10, 2) := by decide +kernel
theorem dX9_item_111 : decode cX9_item 111 = .ok (.iload 10, 2) := by decide +kernel
theorem dX9_item_113 : decode cX9_item 113 = .ok (.ifCond .ge 10, 3) := by decide +kernel
theorem dX9_item_116 : decode cX9_item 116 = .ok (.aload_n 0, 1) := by decide +kernel
theorem dX9_item_117 : decode cX9_item 117 = .ok (.iload 10, 2) := by decide +kernel
theorem dX9_item_119 : decode cX9_item 119 = .ok (.invokevirtual 175, 3) := by decide +kernel
theorem dX9_item_122 : decode cX9_item 122 = .ok (.ireturn, 1) := by decide +kernel
theorem dX9_item_123 : decode cX9_item 123 = .ok (.aload_n 0, 1) := by decide +kernel
theorem dX9_item_124 : decode cX9_item 124 = .ok (.getfield 202, 3) := by decide +kernel
theorem dX9_item_127 : decode cX9_item 127 = .ok (.istore 12, 2) := by decide +kernel
theorem dX9_item_129 : decode cX9_item 129 = .ok (.aload_n 0, 1) := by decide +kernel
theorem dX9_item_130 : decode cX9_item 130 = .ok (.dup, 1) := by decide +kernel
theorem dX9_item_131 : decode cX9_item 131 = .ok (.getfield 202, 3) := by decide +kernel
theorem dX9_item_134 : decode cX9_item 134 = .ok (.iconst 1, 1) := by decide +kernel
theorem dX9_item_135 : decode cX9_item 135 = .ok (.iadd, 1) := by decide +kernel
theorem dX9_item_136 : decode cX9_item 136 = .ok (.putfield 202, 3) := by decide +kernel
theorem dX9_item_139 : decode cX9_item 139 = .ok (.aload_n 0, 1) := by decide +kernel
theorem dX9_item_140 : decode cX9_item 140 = .ok (.getfield 90, 3) := by decide +kernel
theorem dX9_item_143 : decode cX9_item 143 = .ok (.iload 12, 2) := by decide +kernel
theorem dX9_item_145 : decode cX9_item 145 = .ok (.iconst 1, 1) := by decide +kernel
theorem dX9_item_146 : decode cX9_item 146 = .ok (.bastore, 1) := by decide +kernel
theorem dX9_item_147 : decode cX9_item 147 = .ok (.aload_n 0, 1) := by decide +kernel
theorem dX9_item_148 : decode cX9_item 148 = .ok (.getfield 93, 3) := by decide +kernel
theorem dX9_item_151 : decode cX9_item 151 = .ok (.iload 12, 2) := by decide +kernel
theorem dX9_item_153 : decode cX9_item 153 = .ok (.iload_n 2, 1) := by decide +kernel
theorem dX9_item_154 : decode cX9_item 154 = .ok (.iastore, 1) := by decide +kernel
theorem dX9_item_155 : decode cX9_item 155 = .ok (.aload_n 0, 1) := by decide +kernel
theorem dX9_item_156 : decode cX9_item 156 = .ok (.getfield 96, 3) := by decide +kernel
theorem dX9_item_159 : decode cX9_item 159 = .ok (.iload 12, 2) := by decide +kernel
theorem dX9_item_161 : decode cX9_item 161 = .ok (.iload_n 3, 1) := by decide +kernel
theorem dX9_item_162 : decode cX9_item 162 = .ok (.iastore, 1) := by decide +kernel
theorem dX9_item_163 : decode cX9_item 163 = .ok (.aload_n 0, 1) := by decide +kernel
theorem dX9_item_164 : decode cX9_item 164 = .ok (.getfield 99, 3) := by decide +kernel
theorem dX9_item_167 : decode cX9_item 167 = .ok (.iload 12, 2) := by decide +kernel
theorem dX9_item_169 : decode cX9_item 169 = .ok (.aload_n 0, 1) := by decide +kernel
theorem dX9_item_170 : decode cX9_item 170 = .ok (.getfield 199, 3) := by decide +kernel
theorem dX9_item_173 : decode cX9_item 173 = .ok (.iastore, 1) := by decide +kernel
theorem dX9_item_174 : decode cX9_item 174 = .ok (.aload_n 0, 1) := by decide +kernel
theorem dX9_item_175 : decode cX9_item 175 = .ok (.getfield 102, 3) := by decide +kernel
theorem dX9_item_178 : decode cX9_item 178 = .ok (.iload 12, 2) := by decide +kernel
theorem dX9_item_180 : decode cX9_item 180 = .ok (.iload 4, 2) := by decide +kernel
theorem dX9_item_182 : decode cX9_item 182 = .ok (.iastore, 1) := by decide +kernel
theorem dX9_item_183 : decode cX9_item 183 = .ok (.aload_n 0, 1) := by decide +kernel
theorem dX9_item_184 : decode cX9_item 184 = .ok (.getfield 105, 3) := by decide +kernel
theorem dX9_item_187 : decode cX9_item 187 = .ok (.iload 12, 2) := by decide +kernel
theorem dX9_item_189 : decode cX9_item 189 = .ok (.iload 5, 2) := by decide +kernel
theorem dX9_item_191 : decode cX9_item 191 = .ok (.iastore, 1) := by decide +kernel
theorem dX9_item_192 : decode cX9_item 192 = .ok (.aload_n 0, 1) := by decide +kernel
theorem dX9_item_193 : decode cX9_item 193 = .ok (.getfield 108, 3) := by decide +kernel
theorem dX9_item_196 : decode cX9_item 196 = .ok (.iload 12, 2) := by decide +kernel
theorem dX9_item_198 : decode cX9_item 198 = .ok (.iload 6, 2) := by decide +kernel
theorem dX9_item_200 : decode cX9_item 200 = .ok (.bastore, 1) := by decide +kernel
theorem dX9_item_201 : decode cX9_item 201 = .ok (.aload_n 0, 1) := by decide +kernel
theorem dX9_item_202 : decode cX9_item 202 = .ok (.getfield 111, 3) := by decide +kernel
theorem dX9_item_205 : decode cX9_item 205 = .ok (.iload 12, 2) := by decide +kernel
theorem dX9_item_207 : decode cX9_item 207 = .ok (.iload 7, 2) := by decide +kernel
theorem dX9_item_209 : decode cX9_item 209 = .ok (.iastore, 1) := by decide +kernel
theorem dX9_item_210 : decode cX9_item 210 = .ok (.aload_n 0, 1) := by decide +kernel
theorem dX9_item_211 : decode cX9_item 211 = .ok (.getfield 114, 3) := by decide +kernel
theorem dX9_item_214 : decode cX9_item 214 = .ok (.iload 12, 2) := by decide +kernel
theorem dX9_item_216 : decode cX9_item 216 = .ok (.lload 8, 2) := by decide +kernel
theorem dX9_item_218 : decode cX9_item 218 = .ok (.lastore, 1) := by decide +kernel
theorem dX9_item_219 : decode cX9_item 219 = .ok (.aload_n 0, 1) := by decide +kernel
theorem dX9_item_220 : decode cX9_item 220 = .ok (.getfield 75, 3) := by decide +kernel
theorem dX9_item_223 : decode cX9_item 223 = .ok (.iload_n 2, 1) := by decide +kernel
theorem dX9_item_224 : decode cX9_item 224 = .ok (.aload_n 0, 1) := by decide +kernel
theorem dX9_item_225 : decode cX9_item 225 = .ok (.getfield 60, 3) := by decide +kernel
theorem dX9_item_228 : decode cX9_item 228 = .ok (.iload_n 2, 1) := by decide +kernel
theorem dX9_item_229 : decode cX9_item 229 = .ok (.iaload, 1) := by decide +kernel
theorem dX9_item_230 : decode cX9_item 230 = .ok (.iastore, 1) := by decide +kernel
theorem dX9_item_231 : decode cX9_item 231 = .ok (.iload 7, 2) := by decide +kernel
theorem dX9_item_233 : decode cX9_item 233 = .ok (.ifCond .le 9, 3) := by decide +kernel
theorem dX9_item_236 : decode cX9_item 236 = .ok (.aload_n 0, 1) := by decide +kernel
theorem dX9_item_237 : decode cX9_item 237 = .ok (.iload 12, 2) := by decide +kernel
theorem dX9_item_239 : decode cX9_item 239 = .ok (.invokevirtual 242, 3) := by decide +kernel
theorem dX9_item_242 : decode cX9_item 242 = .ok (.iload 12, 2) := by decide +kernel
theorem dX9_item_244 : decode cX9_item 244 = .ok (.ireturn, 1) := by decide +kernel
theorem dX9_lacksItem_0 : decode cX9_lacksItem 0 = .ok (.aload_n 0, 1) := by decide +kernel
theorem dX9_lacksItem_1 : decode cX9_lacksItem 1 = .ok (.iload_n 1, 1) := by decide +kernel
theorem dX9_lacksItem_2 : decode cX9_lacksItem 2 = .ok (.invokevirtual 260, 3) := by decide +kernel
theorem dX9_lacksItem_5 : decode cX9_lacksItem 5 = .ok (.istore_n 3, 1) := by decide +kernel
theorem dX9_lacksItem_6 : decode cX9_lacksItem 6 = .ok (.iload_n 3, 1) := by decide +kernel
theorem dX9_lacksItem_7 : decode cX9_lacksItem 7 = .ok (.ifCond .ge 7, 3) := by decide +kernel
theorem dX9_lacksItem_10 : decode cX9_lacksItem 10 = .ok (.iload_n 3, 1) := by decide +kernel
theorem dX9_lacksItem_11 : decode cX9_lacksItem 11 = .ok (.goto 49, 3) := by decide +kernel
theorem dX9_lacksItem_14 : decode cX9_lacksItem 14 = .ok (.iload_n 2, 1) := by decide +kernel
theorem dX9_lacksItem_15 : decode cX9_lacksItem 15 = .ok (.i2l, 1) := by decide +kernel
theorem dX9_lacksItem_16 : decode cX9_lacksItem 16 = .ok (.lconst 0, 1) := by decide +kernel
theorem dX9_lacksItem_17 : decode cX9_lacksItem 17 = .ok (.aload_n 0, 1) := by decide +kernel
theorem dX9_lacksItem_18 : decode cX9_lacksItem 18 = .ok (.getfield 202, 3) := by decide +kernel
theorem dX9_lacksItem_21 : decode cX9_lacksItem 21 = .ok (.iconst 1, 1) := by decide +kernel
theorem dX9_lacksItem_22 : decode cX9_lacksItem 22 = .ok (.isub, 1) := by decide +kernel
theorem dX9_lacksItem_23 : decode cX9_lacksItem 23 = .ok (.i2l, 1) := by decide +kernel
theorem dX9_lacksItem_24 : decode cX9_lacksItem 24 = .ok (.invokestatic 171, 3) := by decide +kernel
theorem dX9_lacksItem_27 : decode cX9_lacksItem 27 = .ok (.ifCond .eq 27, 3) := by decide +kernel
theorem dX9_lacksItem_30 : decode cX9_lacksItem 30 = .ok (.aload_n 0, 1) := by decide +kernel
theorem dX9_lacksItem_31 : decode cX9_lacksItem 31 = .ok (.getfield 90, 3) := by decide +kernel
theorem dX9_lacksItem_34 : decode cX9_lacksItem 34 = .ok (.iload_n 2, 1) := by decide +kernel
theorem dX9_lacksItem_35 : decode cX9_lacksItem 35 = .ok (.baload, 1) := by decide +kernel
theorem dX9_lacksItem_36 : decode cX9_lacksItem 36 = .ok (.ifCond .eq 18, 3) := by decide +kernel
theorem dX9_lacksItem_39 : decode cX9_lacksItem 39 = .ok (.aload_n 0, 1) := by decide +kernel
theorem dX9_lacksItem_40 : decode cX9_lacksItem 40 = .ok (.getfield 48, 3) := by decide +kernel
theorem dX9_lacksItem_43 : decode cX9_lacksItem 43 = .ok (.aload_n 0, 1) := by decide +kernel
theorem dX9_lacksItem_44 : decode cX9_lacksItem 44 = .ok (.getfield 93, 3) := by decide +kernel
theorem dX9_lacksItem_47 : decode cX9_lacksItem 47 = .ok (.iload_n 2, 1) := by decide +kernel
theorem dX9_lacksItem_48 : decode cX9_lacksItem 48 = .ok (.iaload, 1) := by decide +kernel
theorem dX9_lacksItem_49 : decode cX9_lacksItem 49 = .ok (.iaload, 1) := by decide +kernel
theorem dX9_lacksItem_50 : decode cX9_lacksItem 50 = .ok (.iload_n 1, 1) := by decide +kernel
theorem dX9_lacksItem_51 : decode cX9_lacksItem 51 = .ok (.if_icmp .eq 8, 3) := by decide +kernel
theorem dX9_lacksItem_54 : decode cX9_lacksItem 54 = .ok (.bipush (-6), 2) := by decide +kernel
theorem dX9_lacksItem_56 : decode cX9_lacksItem 56 = .ok (.goto 4, 3) := by decide +kernel
theorem dX9_lacksItem_59 : decode cX9_lacksItem 59 = .ok (.iconst 0, 1) := by decide +kernel
theorem dX9_lacksItem_60 : decode cX9_lacksItem 60 = .ok (.ireturn, 1) := by decide +kernel
theorem dX9_mode_0 : decode cX9_mode 0 = .ok (.aload_n 0, 1) := by decide +kernel
theorem dX9_mode_1 : decode cX9_mode 1 = .ok (.iload_n 1, 1) := by decide +kernel
theorem dX9_mode_2 : decode cX9_mode 2 = .ok (.iload_n 2, 1) := by decide +kernel
theorem dX9_mode_3 : decode cX9_mode 3 = .ok (.invokevirtual 289, 3) := by decide +kernel
theorem dX9_mode_6 : decode cX9_mode 6 = .ok (.istore 4, 2) := by decide +kernel
theorem dX9_mode_8 : decode cX9_mode 8 = .ok (.iload 4, 2) := by decide +kernel
theorem dX9_mode_10 : decode cX9_mode 10 = .ok (.ifCond .ge 8, 3) := by decide +kernel
theorem dX9_mode_13 : decode cX9_mode 13 = .ok (.iload 4, 2) := by decide +kernel
theorem dX9_mode_15 : decode cX9_mode 15 = .ok (.goto 21, 3) := by decide +kernel
theorem dX9_mode_18 : decode cX9_mode 18 = .ok (.iload_n 3, 1) := by decide +kernel
theorem dX9_mode_19 : decode cX9_mode 19 = .ok (.i2l, 1) := by decide +kernel
theorem dX9_mode_20 : decode cX9_mode 20 = .ok (.lconst 0, 1) := by decide +kernel
theorem dX9_mode_21 : decode cX9_mode 21 = .ok (.ldc2_w 169, 3) := by decide +kernel
theorem dX9_mode_24 : decode cX9_mode 24 = .ok (.invokestatic 171, 3) := by decide +kernel
theorem dX9_mode_27 : decode cX9_mode 27 = .ok (.ifCond .ne 8, 3) := by decide +kernel
theorem dX9_mode_30 : decode cX9_mode 30 = .ok (.bipush (-7), 2) := by decide +kernel
theorem dX9_mode_32 : decode cX9_mode 32 = .ok (.goto 4, 3) := by decide +kernel
theorem dX9_mode_35 : decode cX9_mode 35 = .ok (.iconst 0, 1) := by decide +kernel
theorem dX9_mode_36 : decode cX9_mode 36 = .ok (.istore 4, 2) := by decide +kernel
theorem dX9_mode_38 : decode cX9_mode 38 = .ok (.iload 4, 2) := by decide +kernel
theorem dX9_mode_40 : decode cX9_mode 40 = .ok (.ifCond .ge 10, 3) := by decide +kernel
theorem dX9_mode_43 : decode cX9_mode 43 = .ok (.aload_n 0, 1) := by decide +kernel
theorem dX9_mode_44 : decode cX9_mode 44 = .ok (.iload 4, 2) := by decide +kernel
theorem dX9_mode_46 : decode cX9_mode 46 = .ok (.invokevirtual 175, 3) := by decide +kernel
theorem dX9_mode_49 : decode cX9_mode 49 = .ok (.ireturn, 1) := by decide +kernel
theorem dX9_mode_50 : decode cX9_mode 50 = .ok (.aload_n 0, 1) := by decide +kernel
theorem dX9_mode_51 : decode cX9_mode 51 = .ok (.getfield 111, 3) := by decide +kernel
theorem dX9_mode_54 : decode cX9_mode 54 = .ok (.iload_n 2, 1) := by decide +kernel
theorem dX9_mode_55 : decode cX9_mode 55 = .ok (.iaload, 1) := by decide +kernel
theorem dX9_mode_56 : decode cX9_mode 56 = .ok (.istore 5, 2) := by decide +kernel
theorem dX9_mode_58 : decode cX9_mode 58 = .ok (.aload_n 0, 1) := by decide +kernel
theorem dX9_mode_59 : decode cX9_mode 59 = .ok (.getfield 111, 3) := by decide +kernel
theorem dX9_mode_62 : decode cX9_mode 62 = .ok (.iload_n 2, 1) := by decide +kernel
theorem dX9_mode_63 : decode cX9_mode 63 = .ok (.iload_n 3, 1) := by decide +kernel
theorem dX9_mode_64 : decode cX9_mode 64 = .ok (.iastore, 1) := by decide +kernel
theorem dX9_mode_65 : decode cX9_mode 65 = .ok (.aload_n 0, 1) := by decide +kernel
theorem dX9_mode_66 : decode cX9_mode 66 = .ok (.getfield 75, 3) := by decide +kernel
theorem dX9_mode_69 : decode cX9_mode 69 = .ok (.aload_n 0, 1) := by decide +kernel
theorem dX9_mode_70 : decode cX9_mode 70 = .ok (.getfield 93, 3) := by decide +kernel
theorem dX9_mode_73 : decode cX9_mode 73 = .ok (.iload_n 2, 1) := by decide +kernel
theorem dX9_mode_74 : decode cX9_mode 74 = .ok (.iaload, 1) := by decide +kernel
theorem dX9_mode_75 : decode cX9_mode 75 = .ok (.aload_n 0, 1) := by decide +kernel
theorem dX9_mode_76 : decode cX9_mode 76 = .ok (.getfield 60, 3) := by decide +kernel
theorem dX9_mode_79 : decode cX9_mode 79 = .ok (.aload_n 0, 1) := by decide +kernel
theorem dX9_mode_80 : decode cX9_mode 80 = .ok (.getfield 93, 3) := by decide +kernel
theorem dX9_mode_83 : decode cX9_mode 83 = .ok (.iload_n 2, 1) := by decide +kernel
theorem dX9_mode_84 : decode cX9_mode 84 = .ok (.iaload, 1) := by decide +kernel
theorem dX9_mode_85 : decode cX9_mode 85 = .ok (.iaload, 1) := by decide +kernel
theorem dX9_mode_86 : decode cX9_mode 86 = .ok (.iastore, 1) := by decide +kernel
theorem dX9_mode_87 : decode cX9_mode 87 = .ok (.iload_n 3, 1) := by decide +kernel
theorem dX9_mode_88 : decode cX9_mode 88 = .ok (.ifCond .ne 20, 3) := by decide +kernel
theorem dX9_mode_91 : decode cX9_mode 91 = .ok (.aload_n 0, 1) := by decide +kernel
theorem dX9_mode_92 : decode cX9_mode 92 = .ok (.getfield 123, 3) := by decide +kernel
theorem dX9_mode_95 : decode cX9_mode 95 = .ok (.iload_n 2, 1) := by decide +kernel
theorem dX9_mode_96 : decode cX9_mode 96 = .ok (.iconst 0, 1) := by decide +kernel
theorem dX9_mode_97 : decode cX9_mode 97 = .ok (.iastore, 1) := by decide +kernel
theorem dX9_mode_98 : decode cX9_mode 98 = .ok (.aload_n 0, 1) := by decide +kernel
theorem dX9_mode_99 : decode cX9_mode 99 = .ok (.getfield 117, 3) := by decide +kernel
theorem dX9_mode_102 : decode cX9_mode 102 = .ok (.iload_n 2, 1) := by decide +kernel
theorem dX9_mode_103 : decode cX9_mode 103 = .ok (.iconst 0, 1) := by decide +kernel
theorem dX9_mode_104 : decode cX9_mode 104 = .ok (.bastore, 1) := by decide +kernel
theorem dX9_mode_105 : decode cX9_mode 105 = .ok (.goto 20, 3) := by decide +kernel
theorem dX9_mode_108 : decode cX9_mode 108 = .ok (.iload 5, 2) := by decide +kernel
theorem dX9_mode_110 : decode cX9_mode 110 = .ok (.ifCond .ne 15, 3) := by decide +kernel
theorem dX9_mode_113 : decode cX9_mode 113 = .ok (.aload_n 0, 1) := by decide +kernel
theorem dX9_mode_114 : decode cX9_mode 114 = .ok (.getfield 117, 3) := by decide +kernel
theorem dX9_mode_117 : decode cX9_mode 117 = .ok (.iload_n 2, 1) := by decide +kernel
theorem dX9_mode_118 : decode cX9_mode 118 = .ok (.iconst 0, 1) := by decide +kernel
theorem dX9_mode_119 : decode cX9_mode 119 = .ok (.bastore, 1) := by decide +kernel
theorem dX9_mode_120 : decode cX9_mode 120 = .ok (.aload_n 0, 1) := by decide +kernel
theorem dX9_mode_121 : decode cX9_mode 121 = .ok (.iload_n 2, 1) := by decide +kernel
theorem dX9_mode_122 : decode cX9_mode 122 = .ok (.invokevirtual 242, 3) := by decide +kernel
theorem dX9_mode_125 : decode cX9_mode 125 = .ok (.iload 5, 2) := by decide +kernel
theorem dX9_mode_127 : decode cX9_mode 127 = .ok (.ireturn, 1) := by decide +kernel
theorem dX9_drop_0 : decode cX9_drop 0 = .ok (.aload_n 0, 1) := by decide +kernel
theorem dX9_drop_1 : decode cX9_drop 1 = .ok (.iload_n 1, 1) := by decide +kernel
theorem dX9_drop_2 : decode cX9_drop 2 = .ok (.iload_n 2, 1) := by decide +kernel
theorem dX9_drop_3 : decode cX9_drop 3 = .ok (.invokevirtual 289, 3) := by decide +kernel
theorem dX9_drop_6 : decode cX9_drop 6 = .ok (.istore_n 3, 1) := by decide +kernel
theorem dX9_drop_7 : decode cX9_drop 7 = .ok (.iload_n 3, 1) := by decide +kernel
theorem dX9_drop_8 : decode cX9_drop 8 = .ok (.ifCond .ge 9, 3) := by decide +kernel
theorem dX9_drop_11 : decode cX9_drop 11 = .ok (.aload_n 0, 1) := by decide +kernel
theorem dX9_drop_12 : decode cX9_drop 12 = .ok (.iload_n 3, 1) := by decide +kernel
theorem dX9_drop_13 : decode cX9_drop 13 = .ok (.invokevirtual 175, 3) := by decide +kernel
theorem dX9_drop_16 : decode cX9_drop 16 = .ok (.ireturn, 1) := by decide +kernel
theorem dX9_drop_17 : decode cX9_drop 17 = .ok (.aload_n 0, 1) := by decide +kernel
theorem dX9_drop_18 : decode cX9_drop 18 = .ok (.getfield 90, 3) := by decide +kernel
theorem dX9_drop_21 : decode cX9_drop 21 = .ok (.iload_n 2, 1) := by decide +kernel
theorem dX9_drop_22 : decode cX9_drop 22 = .ok (.iconst 0, 1) := by decide +kernel
theorem dX9_drop_23 : decode cX9_drop 23 = .ok (.bastore, 1) := by decide +kernel
theorem dX9_drop_24 : decode cX9_drop 24 = .ok (.aload_n 0, 1) := by decide +kernel
theorem dX9_drop_25 : decode cX9_drop 25 = .ok (.getfield 75, 3) := by decide +kernel
theorem dX9_drop_28 : decode cX9_drop 28 = .ok (.aload_n 0, 1) := by decide +kernel
theorem dX9_drop_29 : decode cX9_drop 29 = .ok (.getfield 93, 3) := by decide +kernel
theorem dX9_drop_32 : decode cX9_drop 32 = .ok (.iload_n 2, 1) := by decide +kernel
theorem dX9_drop_33 : decode cX9_drop 33 = .ok (.iaload, 1) := by decide +kernel
theorem dX9_drop_34 : decode cX9_drop 34 = .ok (.aload_n 0, 1) := by decide +kernel
theorem dX9_drop_35 : decode cX9_drop 35 = .ok (.getfield 60, 3) := by decide +kernel
theorem dX9_drop_38 : decode cX9_drop 38 = .ok (.aload_n 0, 1) := by decide +kernel
theorem dX9_drop_39 : decode cX9_drop 39 = .ok (.getfield 93, 3) := by decide +kernel
theorem dX9_drop_42 : decode cX9_drop 42 = .ok (.iload_n 2, 1) := by decide +kernel
theorem dX9_drop_43 : decode cX9_drop 43 = .ok (.iaload, 1) := by decide +kernel
theorem dX9_drop_44 : decode cX9_drop 44 = .ok (.iaload, 1) := by decide +kernel
theorem dX9_drop_45 : decode cX9_drop 45 = .ok (.iastore, 1) := by decide +kernel
theorem dX9_drop_46 : decode cX9_drop 46 = .ok (.aload_n 0, 1) := by decide +kernel
theorem dX9_drop_47 : decode cX9_drop 47 = .ok (.getfield 123, 3) := by decide +kernel
theorem dX9_drop_50 : decode cX9_drop 50 = .ok (.iload_n 2, 1) := by decide +kernel
theorem dX9_drop_51 : decode cX9_drop 51 = .ok (.iaload, 1) := by decide +kernel
theorem dX9_drop_52 : decode cX9_drop 52 = .ok (.ireturn, 1) := by decide +kernel
theorem dX9_findKept_0 : decode cX9_findKept 0 = .ok (.iconst 0, 1) := by decide +kernel
theorem dX9_findKept_1 : decode cX9_findKept 1 = .ok (.istore_n 3, 1) := by decide +kernel
theorem dX9_findKept_2 : decode cX9_findKept 2 = .ok (.iload_n 3, 1) := by decide +kernel
theorem dX9_findKept_3 : decode cX9_findKept 3 = .ok (.aload_n 0, 1) := by decide +kernel
theorem dX9_findKept_4 : decode cX9_findKept 4 = .ok (.getfield 205, 3) := by decide +kernel
theorem dX9_findKept_7 : decode cX9_findKept 7 = .ok (.if_icmp .ge 40, 3) := by decide +kernel
theorem dX9_findKept_10 : decode cX9_findKept 10 = .ok (.aload_n 0, 1) := by decide +kernel
theorem dX9_findKept_11 : decode cX9_findKept 11 = .ok (.getfield 150, 3) := by decide +kernel
theorem dX9_findKept_14 : decode cX9_findKept 14 = .ok (.iload_n 3, 1) := by decide +kernel
theorem dX9_findKept_15 : decode cX9_findKept 15 = .ok (.baload, 1) := by decide +kernel
theorem dX9_findKept_16 : decode cX9_findKept 16 = .ok (.ifCond .eq 25, 3) := by decide +kernel
theorem dX9_findKept_19 : decode cX9_findKept 19 = .ok (.aload_n 0, 1) := by decide +kernel
theorem dX9_findKept_20 : decode cX9_findKept 20 = .ok (.getfield 135, 3) := by decide +kernel
theorem dX9_findKept_23 : decode cX9_findKept 23 = .ok (.iload_n 3, 1) := by decide +kernel
theorem dX9_findKept_24 : decode cX9_findKept 24 = .ok (.iaload, 1) := by decide +kernel
theorem dX9_findKept_25 : decode cX9_findKept 25 = .ok (.iload_n 1, 1) := by decide +kernel
theorem dX9_findKept_26 : decode cX9_findKept 26 = .ok (.if_icmp .ne 15, 3) := by decide +kernel
theorem dX9_findKept_29 : decode cX9_findKept 29 = .ok (.aload_n 0, 1) := by decide +kernel
theorem dX9_findKept_30 : decode cX9_findKept 30 = .ok (.getfield 138, 3) := by decide +kernel
theorem dX9_findKept_33 : decode cX9_findKept 33 = .ok (.iload_n 3, 1) := by decide +kernel
theorem dX9_findKept_34 : decode cX9_findKept 34 = .ok (.iaload, 1) := by decide +kernel
theorem dX9_findKept_35 : decode cX9_findKept 35 = .ok (.iload_n 2, 1) := by decide +kernel
theorem dX9_findKept_36 : decode cX9_findKept 36 = .ok (.if_icmp .ne 5, 3) := by decide +kernel
theorem dX9_findKept_39 : decode cX9_findKept 39 = .ok (.iload_n 3, 1) := by decide +kernel
theorem dX9_findKept_40 : decode cX9_findKept 40 = .ok (.ireturn, 1) := by decide +kernel
theorem dX9_findKept_41 : decode cX9_findKept 41 = .ok (.iinc 3 1, 3) := by decide +kernel
theorem dX9_findKept_44 : decode cX9_findKept 44 = .ok (.goto (-42), 3) := by decide +kernel
theorem dX9_findKept_47 : decode cX9_findKept 47 = .ok (.iconst (-1), 1) := by decide +kernel
theorem dX9_findKept_48 : decode cX9_findKept 48 = .ok (.ireturn, 1) := by decide +kernel
theorem dX9_acknowledge_0 : decode cX9_acknowledge 0 = .ok (.iload_n 2, 1) := by decide +kernel
theorem dX9_acknowledge_1 : decode cX9_acknowledge 1 = .ok (.iconst (-1), 1) := by decide +kernel
theorem dX9_acknowledge_2 : decode cX9_acknowledge 2 = .ok (.if_icmp .ne 5, 3) := by decide +kernel
theorem dX9_acknowledge_5 : decode cX9_acknowledge 5 = .ok (.iconst 0, 1) := by decide +kernel
theorem dX9_acknowledge_6 : decode cX9_acknowledge 6 = .ok (.ireturn, 1) := by decide +kernel
theorem dX9_acknowledge_7 : decode cX9_acknowledge 7 = .ok (.iload_n 2, 1) := by decide +kernel
theorem dX9_acknowledge_8 : decode cX9_acknowledge 8 = .ok (.i2l, 1) := by decide +kernel
theorem dX9_acknowledge_9 : decode cX9_acknowledge 9 = .ok (.lconst 0, 1) := by decide +kernel
theorem dX9_acknowledge_10 : decode cX9_acknowledge 10 = .ok (.aload_n 0, 1) := by decide +kernel
theorem dX9_acknowledge_11 : decode cX9_acknowledge 11 = .ok (.getfield 224, 3) := by decide +kernel
theorem dX9_acknowledge_14 : decode cX9_acknowledge 14 = .ok (.iconst 1, 1) := by decide +kernel
theorem dX9_acknowledge_15 : decode cX9_acknowledge 15 = .ok (.isub, 1) := by decide +kernel
theorem dX9_acknowledge_16 : decode cX9_acknowledge 16 = .ok (.i2l, 1) := by decide +kernel
theorem dX9_acknowledge_17 : decode cX9_acknowledge 17 = .ok (.invokestatic 171, 3) := by decide +kernel
theorem dX9_acknowledge_20 : decode cX9_acknowledge 20 = .ok (.ifCond .eq 22, 3) := by decide +kernel
theorem dX9_acknowledge_23 : decode cX9_acknowledge 23 = .ok (.aload_n 0, 1) := by decide +kernel
theorem dX9_acknowledge_24 : decode cX9_acknowledge 24 = .ok (.getfield 44, 3) := by decide +kernel
theorem dX9_acknowledge_27 : decode cX9_acknowledge 27 = .ok (.iload_n 2, 1) := by decide +kernel
theorem dX9_acknowledge_28 : decode cX9_acknowledge 28 = .ok (.baload, 1) := by decide +kernel
theorem dX9_acknowledge_29 : decode cX9_acknowledge 29 = .ok (.ifCond .eq 13, 3) := by decide +kernel
theorem dX9_acknowledge_32 : decode cX9_acknowledge 32 = .ok (.aload_n 0, 1) := by decide +kernel
theorem dX9_acknowledge_33 : decode cX9_acknowledge 33 = .ok (.getfield 48, 3) := by decide +kernel
theorem dX9_acknowledge_36 : decode cX9_acknowledge 36 = .ok (.iload_n 2, 1) := by decide +kernel
theorem dX9_acknowledge_37 : decode cX9_acknowledge 37 = .ok (.iaload, 1) := by decide +kernel
theorem dX9_acknowledge_38 : decode cX9_acknowledge 38 = .ok (.iload_n 1, 1) := by decide +kernel
theorem dX9_acknowledge_39 : decode cX9_acknowledge 39 = .ok (.if_icmp .eq 6, 3) := by decide +kernel
theorem dX9_acknowledge_42 : decode cX9_acknowledge 42 = .ok (.bipush (-5), 2) := by decide +kernel
theorem dX9_acknowledge_44 : decode cX9_acknowledge 44 = .ok (.ireturn, 1) := by decide +kernel
theorem dX9_acknowledge_45 : decode cX9_acknowledge 45 = .ok (.aload_n 0, 1) := by decide +kernel
theorem dX9_acknowledge_46 : decode cX9_acknowledge 46 = .ok (.iload_n 2, 1) := by decide +kernel
theorem dX9_acknowledge_47 : decode cX9_acknowledge 47 = .ok (.iload_n 3, 1) := by decide +kernel
theorem dX9_acknowledge_48 : decode cX9_acknowledge 48 = .ok (.invokevirtual 292, 3) := by decide +kernel
theorem dX9_acknowledge_51 : decode cX9_acknowledge 51 = .ok (.istore 4, 2) := by decide +kernel
theorem dX9_acknowledge_53 : decode cX9_acknowledge 53 = .ok (.iload 4, 2) := by decide +kernel
theorem dX9_acknowledge_55 : decode cX9_acknowledge 55 = .ok (.ifCond .ge 6, 3) := by decide +kernel
theorem dX9_acknowledge_58 : decode cX9_acknowledge 58 = .ok (.bipush (-9), 2) := by decide +kernel
theorem dX9_acknowledge_60 : decode cX9_acknowledge 60 = .ok (.ireturn, 1) := by decide +kernel
theorem dX9_acknowledge_61 : decode cX9_acknowledge 61 = .ok (.aload_n 0, 1) := by decide +kernel
theorem dX9_acknowledge_62 : decode cX9_acknowledge 62 = .ok (.getfield 150, 3) := by decide +kernel
theorem dX9_acknowledge_65 : decode cX9_acknowledge 65 = .ok (.iload 4, 2) := by decide +kernel
theorem dX9_acknowledge_67 : decode cX9_acknowledge 67 = .ok (.iconst 0, 1) := by decide +kernel
theorem dX9_acknowledge_68 : decode cX9_acknowledge 68 = .ok (.bastore, 1) := by decide +kernel
theorem dX9_acknowledge_69 : decode cX9_acknowledge 69 = .ok (.iconst 1, 1) := by decide +kernel
theorem dX9_acknowledge_70 : decode cX9_acknowledge 70 = .ok (.ireturn, 1) := by decide +kernel
theorem dX9_publish_0 : decode cX9_publish 0 = .ok (.aload_n 0, 1) := by decide +kernel
theorem dX9_publish_1 : decode cX9_publish 1 = .ok (.iload_n 1, 1) := by decide +kernel
theorem dX9_publish_2 : decode cX9_publish 2 = .ok (.invokevirtual 260, 3) := by decide +kernel
theorem dX9_publish_5 : decode cX9_publish 5 = .ok (.istore 4, 2) := by decide +kernel
theorem dX9_publish_7 : decode cX9_publish 7 = .ok (.iconst (-1), 1) := by decide +kernel
theorem dX9_publish_8 : decode cX9_publish 8 = .ok (.istore 5, 2) := by decide +kernel
theorem dX9_publish_10 : decode cX9_publish 10 = .ok (.iconst 0, 1) := by decide +kernel
theorem dX9_publish_11 : decode cX9_publish 11 = .ok (.istore 6, 2) := by decide +kernel
theorem dX9_publish_13 : decode cX9_publish 13 = .ok (.iload 6, 2) := by decide +kernel
theorem dX9_publish_15 : decode cX9_publish 15 = .ok (.aload_n 0, 1) := by decide +kernel
theorem dX9_publish_16 : decode cX9_publish 16 = .ok (.getfield 224, 3) := by decide +kernel
theorem dX9_publish_19 : decode cX9_publish 19 = .ok (.if_icmp .ge 49, 3) := by decide +kernel
theorem dX9_publish_22 : decode cX9_publish 22 = .ok (.iload 4, 2) := by decide +kernel
theorem dX9_publish_24 : decode cX9_publish 24 = .ok (.ifCond .ne 44, 3) := by decide +kernel
theorem dX9_publish_27 : decode cX9_publish 27 = .ok (.iload 5, 2) := by decide +kernel
theorem dX9_publish_29 : decode cX9_publish 29 = .ok (.ifCond .ge 29, 3) := by decide +kernel
theorem dX9_publish_32 : decode cX9_publish 32 = .ok (.aload_n 0, 1) := by decide +kernel
theorem dX9_publish_33 : decode cX9_publish 33 = .ok (.getfield 44, 3) := by decide +kernel
theorem dX9_publish_36 : decode cX9_publish 36 = .ok (.iload 6, 2) := by decide +kernel
theorem dX9_publish_38 : decode cX9_publish 38 = .ok (.baload, 1) := by decide +kernel
theorem dX9_publish_39 : decode cX9_publish 39 = .ok (.ifCond .eq 19, 3) := by decide +kernel
theorem dX9_publish_42 : decode cX9_publish 42 = .ok (.aload_n 0, 1) := by decide +kernel
theorem dX9_publish_43 : decode cX9_publish 43 = .ok (.getfield 48, 3) := by decide +kernel
theorem dX9_publish_46 : decode cX9_publish 46 = .ok (.iload 6, 2) := by decide +kernel
theorem dX9_publish_48 : decode cX9_publish 48 = .ok (.iaload, 1) := by decide +kernel
theorem dX9_publish_49 : decode cX9_publish 49 = .ok (.iload_n 1, 1) := by decide +kernel
theorem dX9_publish_50 : decode cX9_publish 50 = .ok (.if_icmp .ne 8, 3) := by decide +kernel
theorem dX9_publish_53 : decode cX9_publish 53 = .ok (.iload 6, 2) := by decide +kernel
theorem dX9_publish_55 : decode cX9_publish 55 = .ok (.goto 5, 3) := by decide +kernel
theorem dX9_publish_58 : decode cX9_publish 58 = .ok (.iload 5, 2) := by decide +kernel
theorem dX9_publish_60 : decode cX9_publish 60 = .ok (.istore 5, 2) := by decide +kernel
theorem dX9_publish_62 : decode cX9_publish 62 = .ok (.iinc 6 1, 3) := by decide +kernel
theorem dX9_publish_65 : decode cX9_publish 65 = .ok (.goto (-52), 3) := by decide +kernel
theorem dX9_publish_68 : decode cX9_publish 68 = .ok (.iload 4, 2) := by decide +kernel
theorem dX9_publish_70 : decode cX9_publish 70 = .ok (.ifCond .ge 8, 3) := by decide +kernel
theorem dX9_publish_73 : decode cX9_publish 73 = .ok (.iload 4, 2) := by decide +kernel
theorem dX9_publish_75 : decode cX9_publish 75 = .ok (.goto 39, 3) := by decide +kernel
theorem dX9_publish_78 : decode cX9_publish 78 = .ok (.iload 5, 2) := by decide +kernel
theorem dX9_publish_80 : decode cX9_publish 80 = .ok (.ifCond .ge 8, 3) := by decide +kernel
theorem dX9_publish_83 : decode cX9_publish 83 = .ok (.bipush (-9), 2) := by decide +kernel
theorem dX9_publish_85 : decode cX9_publish 85 = .ok (.goto 29, 3) := by decide +kernel
theorem dX9_publish_88 : decode cX9_publish 88 = .ok (.aload_n 0, 1) := by decide +kernel
theorem dX9_publish_89 : decode cX9_publish 89 = .ok (.getfield 35, 3) := by decide +kernel
theorem dX9_publish_92 : decode cX9_publish 92 = .ok (.iload_n 1, 1) := by decide +kernel
theorem dX9_publish_93 : decode cX9_publish 93 = .ok (.iaload, 1) := by decide +kernel
theorem dX9_publish_94 : decode cX9_publish 94 = .ok (.iconst 4, 1) := by decide +kernel
theorem dX9_publish_95 : decode cX9_publish 95 = .ok (.if_icmp .eq 13, 3) := by decide +kernel
theorem dX9_publish_98 : decode cX9_publish 98 = .ok (.aload_n 0, 1) := by decide +kernel
theorem dX9_publish_99 : decode cX9_publish 99 = .ok (.getfield 205, 3) := by decide +kernel
theorem dX9_publish_102 : decode cX9_publish 102 = .ok (.sipush 900, 3) := by decide +kernel
theorem dX9_publish_105 : decode cX9_publish 105 = .ok (.if_icmp .ne 8, 3) := by decide +kernel
theorem dX9_publish_108 : decode cX9_publish 108 = .ok (.bipush (-8), 2) := by decide +kernel
theorem dX9_publish_110 : decode cX9_publish 110 = .ok (.goto 4, 3) := by decide +kernel
theorem dX9_publish_113 : decode cX9_publish 113 = .ok (.iconst 0, 1) := by decide +kernel
theorem dX9_publish_114 : decode cX9_publish 114 = .ok (.istore 4, 2) := by decide +kernel
theorem dX9_publish_116 : decode cX9_publish 116 = .ok (.iload 4, 2) := by decide +kernel
theorem dX9_publish_118 : decode cX9_publish 118 = .ok (.ifCond .ge 10, 3) := by decide +kernel
theorem dX9_publish_121 : decode cX9_publish 121 = .ok (.aload_n 0, 1) := by decide +kernel
theorem dX9_publish_122 : decode cX9_publish 122 = .ok (.iload 4, 2) := by decide +kernel
theorem dX9_publish_124 : decode cX9_publish 124 = .ok (.invokevirtual 175, 3) := by decide +kernel
theorem dX9_publish_127 : decode cX9_publish 127 = .ok (.ireturn, 1) := by decide +kernel
theorem dX9_publish_128 : decode cX9_publish 128 = .ok (.aload_n 0, 1) := by decide +kernel
theorem dX9_publish_129 : decode cX9_publish 129 = .ok (.aload_n 0, 1) := by decide +kernel
theorem dX9_publish_130 : decode cX9_publish 130 = .ok (.iload_n 1, 1) := by decide +kernel
theorem dX9_publish_131 : decode cX9_publish 131 = .ok (.iload_n 2, 1) := by decide +kernel
theorem dX9_publish_132 : decode cX9_publish 132 = .ok (.iload_n 3, 1) := by decide +kernel
theorem dX9_publish_133 : decode cX9_publish 133 = .ok (.invokevirtual 295, 3) := by decide +kernel
theorem dX9_publish_136 : decode cX9_publish 136 = .ok (.putfield 299, 3) := by decide +kernel
theorem dX9_publish_139 : decode cX9_publish 139 = .ok (.aload_n 0, 1) := by decide +kernel
theorem dX9_publish_140 : decode cX9_publish 140 = .ok (.getfield 35, 3) := by decide +kernel
theorem dX9_publish_143 : decode cX9_publish 143 = .ok (.iload_n 1, 1) := by decide +kernel
theorem dX9_publish_144 : decode cX9_publish 144 = .ok (.dup2, 1) := by decide +kernel
theorem dX9_publish_145 : decode cX9_publish 145 = .ok (.iaload, 1) := by decide +kernel
theorem dX9_publish_146 : decode cX9_publish 146 = .ok (.iconst 1, 1) := by decide +kernel
theorem dX9_publish_147 : decode cX9_publish 147 = .ok (.iadd, 1) := by decide +kernel
theorem dX9_publish_148 : decode cX9_publish 148 = .ok (.iastore, 1) := by decide +kernel
theorem dX9_publish_149 : decode cX9_publish 149 = .ok (.iconst (-1), 1) := by decide +kernel
theorem dX9_publish_150 : decode cX9_publish 150 = .ok (.istore 6, 2) := by decide +kernel
theorem dX9_publish_152 : decode cX9_publish 152 = .ok (.iconst 0, 1) := by decide +kernel
theorem dX9_publish_153 : decode cX9_publish 153 = .ok (.istore 7, 2) := by decide +kernel
theorem dX9_publish_155 : decode cX9_publish 155 = .ok (.iload 7, 2) := by decide +kernel
theorem dX9_publish_157 : decode cX9_publish 157 = .ok (.aload_n 0, 1) := by decide +kernel
theorem dX9_publish_158 : decode cX9_publish 158 = .ok (.getfield 224, 3) := by decide +kernel
theorem dX9_publish_161 : decode cX9_publish 161 = .ok (.if_icmp .ge 83, 3) := by decide +kernel
theorem dX9_publish_164 : decode cX9_publish 164 = .ok (.aload_n 0, 1) := by decide +kernel
theorem dX9_publish_165 : decode cX9_publish 165 = .ok (.getfield 44, 3) := by decide +kernel
theorem dX9_publish_168 : decode cX9_publish 168 = .ok (.iload 7, 2) := by decide +kernel
theorem dX9_publish_170 : decode cX9_publish 170 = .ok (.baload, 1) := by decide +kernel
theorem dX9_publish_171 : decode cX9_publish 171 = .ok (.ifCond .eq 28, 3) := by decide +kernel
theorem dX9_publish_174 : decode cX9_publish 174 = .ok (.aload_n 0, 1) := by decide +kernel
theorem dX9_publish_175 : decode cX9_publish 175 = .ok (.getfield 48, 3) := by decide +kernel
theorem dX9_publish_178 : decode cX9_publish 178 = .ok (.iload 7, 2) := by decide +kernel
theorem dX9_publish_180 : decode cX9_publish 180 = .ok (.iaload, 1) := by decide +kernel
theorem dX9_publish_181 : decode cX9_publish 181 = .ok (.iload_n 1, 1) := by decide +kernel
theorem dX9_publish_182 : decode cX9_publish 182 = .ok (.if_icmp .ne 17, 3) := by decide +kernel
theorem dX9_publish_185 : decode cX9_publish 185 = .ok (.aload_n 0, 1) := by decide +kernel
theorem dX9_publish_186 : decode cX9_publish 186 = .ok (.getfield 81, 3) := by decide +kernel
theorem dX9_publish_189 : decode cX9_publish 189 = .ok (.iload 7, 2) := by decide +kernel
theorem dX9_publish_191 : decode cX9_publish 191 = .ok (.baload, 1) := by decide +kernel
theorem dX9_publish_192 : decode cX9_publish 192 = .ok (.ifCond .eq 7, 3) := by decide +kernel
theorem dX9_publish_195 : decode cX9_publish 195 = .ok (.iconst 1, 1) := by decide +kernel
theorem dX9_publish_196 : decode cX9_publish 196 = .ok (.goto 4, 3) := by decide +kernel
theorem dX9_publish_199 : decode cX9_publish 199 = .ok (.iconst 0, 1) := by decide +kernel
theorem dX9_publish_200 : decode cX9_publish 200 = .ok (.istore 8, 2) := by decide +kernel
theorem dX9_publish_202 : decode cX9_publish 202 = .ok (.iload 8, 2) := by decide +kernel
theorem dX9_publish_204 : decode cX9_publish 204 = .ok (.ifCond .eq 30, 3) := by decide +kernel
theorem dX9_publish_207 : decode cX9_publish 207 = .ok (.iload 6, 2) := by decide +kernel
theorem dX9_publish_209 : decode cX9_publish 209 = .ok (.ifCond .lt 20, 3) := by decide +kernel
theorem dX9_publish_212 : decode cX9_publish 212 = .ok (.aload_n 0, 1) := by decide +kernel
theorem dX9_publish_213 : decode cX9_publish 213 = .ok (.getfield 84, 3) := by decide +kernel
theorem dX9_publish_216 : decode cX9_publish 216 = .ok (.iload 7, 2) := by decide +kernel
theorem dX9_publish_218 : decode cX9_publish 218 = .ok (.iaload, 1) := by decide +kernel
theorem dX9_publish_219 : decode cX9_publish 219 = .ok (.aload_n 0, 1) := by decide +kernel
theorem dX9_publish_220 : decode cX9_publish 220 = .ok (.getfield 84, 3) := by decide +kernel
theorem dX9_publish_223 : decode cX9_publish 223 = .ok (.iload 6, 2) := by decide +kernel
theorem dX9_publish_225 : decode cX9_publish 225 = .ok (.iaload, 1) := by decide +kernel
theorem dX9_publish_226 : decode cX9_publish 226 = .ok (.if_icmp .ge 8, 3) := by decide +kernel
theorem dX9_publish_229 : decode cX9_publish 229 = .ok (.iload 7, 2) := by decide +kernel
theorem dX9_publish_231 : decode cX9_publish 231 = .ok (.goto 5, 3) := by decide +kernel
theorem dX9_publish_234 : decode cX9_publish 234 = .ok (.iload 6, 2) := by decide +kernel
theorem dX9_publish_236 : decode cX9_publish 236 = .ok (.istore 6, 2) := by decide +kernel
theorem dX9_publish_238 : decode cX9_publish 238 = .ok (.iinc 7 1, 3) := by decide +kernel
theorem dX9_publish_241 : decode cX9_publish 241 = .ok (.goto (-86), 3) := by decide +kernel
theorem dX9_publish_244 : decode cX9_publish 244 = .ok (.iconst 0, 1) := by decide +kernel
theorem dX9_publish_245 : decode cX9_publish 245 = .ok (.istore 7, 2) := by decide +kernel
theorem dX9_publish_247 : decode cX9_publish 247 = .ok (.iload 7, 2) := by decide +kernel
theorem dX9_publish_249 : decode cX9_publish 249 = .ok (.aload_n 0, 1) := by decide +kernel
theorem dX9_publish_250 : decode cX9_publish 250 = .ok (.getfield 224, 3) := by decide +kernel
theorem dX9_publish_253 : decode cX9_publish 253 = .ok (.if_icmp .ge 63, 3) := by decide +kernel
theorem dX9_publish_256 : decode cX9_publish 256 = .ok (.iload 6, 2) := by decide +kernel
theorem dX9_publish_258 : decode cX9_publish 258 = .ok (.ifCond .ge 58, 3) := by decide +kernel
theorem dX9_publish_261 : decode cX9_publish 261 = .ok (.aload_n 0, 1) := by decide +kernel
theorem dX9_publish_262 : decode cX9_publish 262 = .ok (.getfield 44, 3) := by decide +kernel
theorem dX9_publish_265 : decode cX9_publish 265 = .ok (.iload 7, 2) := by decide +kernel
theorem dX9_publish_267 : decode cX9_publish 267 = .ok (.baload, 1) := by decide +kernel
theorem dX9_publish_268 : decode cX9_publish 268 = .ok (.ifCond .eq 38, 3) := by decide +kernel
theorem dX9_publish_271 : decode cX9_publish 271 = .ok (.aload_n 0, 1) := by decide +kernel
theorem dX9_publish_272 : decode cX9_publish 272 = .ok (.getfield 48, 3) := by decide +kernel
theorem dX9_publish_275 : decode cX9_publish 275 = .ok (.iload 7, 2) := by decide +kernel
theorem dX9_publish_277 : decode cX9_publish 277 = .ok (.iaload, 1) := by decide +kernel
theorem dX9_publish_278 : decode cX9_publish 278 = .ok (.iload_n 1, 1) := by decide +kernel
theorem dX9_publish_279 : decode cX9_publish 279 = .ok (.if_icmp .ne 27, 3) := by decide +kernel
theorem dX9_publish_282 : decode cX9_publish 282 = .ok (.aload_n 0, 1) := by decide +kernel
theorem dX9_publish_283 : decode cX9_publish 283 = .ok (.getfield 87, 3) := by decide +kernel
theorem dX9_publish_286 : decode cX9_publish 286 = .ok (.iload 7, 2) := by decide +kernel
theorem dX9_publish_288 : decode cX9_publish 288 = .ok (.baload, 1) := by decide +kernel
theorem dX9_publish_289 : decode cX9_publish 289 = .ok (.ifCond .eq 17, 3) := by decide +kernel
theorem dX9_publish_292 : decode cX9_publish 292 = .ok (.aload_n 0, 1) := by decide +kernel
theorem dX9_publish_293 : decode cX9_publish 293 = .ok (.iload 7, 2) := by decide +kernel
theorem dX9_publish_295 : decode cX9_publish 295 = .ok (.invokevirtual 208, 3) := by decide +kernel
theorem dX9_publish_298 : decode cX9_publish 298 = .ok (.ifCond .eq 8, 3) := by decide +kernel
theorem dX9_publish_301 : decode cX9_publish 301 = .ok (.iload 7, 2) := by decide +kernel
theorem dX9_publish_303 : decode cX9_publish 303 = .ok (.goto 5, 3) := by decide +kernel
theorem dX9_publish_306 : decode cX9_publish 306 = .ok (.iload 6, 2) := by decide +kernel
theorem dX9_publish_308 : decode cX9_publish 308 = .ok (.istore 6, 2) := by decide +kernel
theorem dX9_publish_310 : decode cX9_publish 310 = .ok (.iinc 7 1, 3) := by decide +kernel
theorem dX9_publish_313 : decode cX9_publish 313 = .ok (.goto (-66), 3) := by decide +kernel
theorem dX9_publish_316 : decode cX9_publish 316 = .ok (.iload 6, 2) := by decide +kernel
theorem dX9_publish_318 : decode cX9_publish 318 = .ok (.ifCond .ge 5, 3) := by decide +kernel
theorem dX9_publish_321 : decode cX9_publish 321 = .ok (.iconst 0, 1) := by decide +kernel
theorem dX9_publish_322 : decode cX9_publish 322 = .ok (.ireturn, 1) := by decide +kernel
theorem dX9_publish_323 : decode cX9_publish 323 = .ok (.aload_n 0, 1) := by decide +kernel
theorem dX9_publish_324 : decode cX9_publish 324 = .ok (.iload 6, 2) := by decide +kernel
theorem dX9_publish_326 : decode cX9_publish 326 = .ok (.invokevirtual 239, 3) := by decide +kernel
theorem dX9_publish_329 : decode cX9_publish 329 = .ok (.iconst 1, 1) := by decide +kernel
theorem dX9_publish_330 : decode cX9_publish 330 = .ok (.ireturn, 1) := by decide +kernel
theorem dX9_acknowledged_0 : decode cX9_acknowledged 0 = .ok (.aload_n 0, 1) := by decide +kernel
theorem dX9_acknowledged_1 : decode cX9_acknowledged 1 = .ok (.getfield 299, 3) := by decide +kernel
theorem dX9_acknowledged_4 : decode cX9_acknowledged 4 = .ok (.ireturn, 1) := by decide +kernel
theorem dX9_again_0 : decode cX9_again 0 = .ok (.aload_n 0, 1) := by decide +kernel
theorem dX9_again_1 : decode cX9_again 1 = .ok (.iload_n 1, 1) := by decide +kernel
theorem dX9_again_2 : decode cX9_again 2 = .ok (.iload_n 2, 1) := by decide +kernel
theorem dX9_again_3 : decode cX9_again 3 = .ok (.invokevirtual 283, 3) := by decide +kernel
theorem dX9_again_6 : decode cX9_again 6 = .ok (.istore 4, 2) := by decide +kernel
theorem dX9_again_8 : decode cX9_again 8 = .ok (.iload 4, 2) := by decide +kernel
theorem dX9_again_10 : decode cX9_again 10 = .ok (.ifCond .ge 7, 3) := by decide +kernel
theorem dX9_again_13 : decode cX9_again 13 = .ok (.iconst (-1), 1) := by decide +kernel
theorem dX9_again_14 : decode cX9_again 14 = .ok (.goto 9, 3) := by decide +kernel
theorem dX9_again_17 : decode cX9_again 17 = .ok (.aload_n 0, 1) := by decide +kernel
theorem dX9_again_18 : decode cX9_again 18 = .ok (.iload_n 2, 1) := by decide +kernel
theorem dX9_again_19 : decode cX9_again 19 = .ok (.iload_n 3, 1) := by decide +kernel
theorem dX9_again_20 : decode cX9_again 20 = .ok (.invokevirtual 292, 3) := by decide +kernel
theorem dX9_again_23 : decode cX9_again 23 = .ok (.istore 5, 2) := by decide +kernel
theorem dX9_again_25 : decode cX9_again 25 = .ok (.iload 4, 2) := by decide +kernel
theorem dX9_again_27 : decode cX9_again 27 = .ok (.ifCond .ge 8, 3) := by decide +kernel
theorem dX9_again_30 : decode cX9_again 30 = .ok (.iload 4, 2) := by decide +kernel
theorem dX9_again_32 : decode cX9_again 32 = .ok (.goto 31, 3) := by decide +kernel
theorem dX9_again_35 : decode cX9_again 35 = .ok (.iload 5, 2) := by decide +kernel
theorem dX9_again_37 : decode cX9_again 37 = .ok (.ifCond .ge 8, 3) := by decide +kernel
theorem dX9_again_40 : decode cX9_again 40 = .ok (.bipush (-9), 2) := by decide +kernel
theorem dX9_again_42 : decode cX9_again 42 = .ok (.goto 21, 3) := by decide +kernel
theorem dX9_again_45 : decode cX9_again 45 = .ok (.aload_n 0, 1) := by decide +kernel
theorem dX9_again_46 : decode cX9_again 46 = .ok (.getfield 38, 3) := by decide +kernel
theorem dX9_again_49 : decode cX9_again 49 = .ok (.iload_n 1, 1) := by decide +kernel
theorem dX9_again_50 : decode cX9_again 50 = .ok (.iaload, 1) := by decide +kernel
theorem dX9_again_51 : decode cX9_again 51 = .ok (.sipush 200, 3) := by decide +kernel
theorem dX9_again_54 : decode cX9_again 54 = .ok (.if_icmp .lt 8, 3) := by decide +kernel
theorem dX9_again_57 : decode cX9_again 57 = .ok (.bipush (-8), 2) := by decide +kernel
theorem dX9_again_59 : decode cX9_again 59 = .ok (.goto 4, 3) := by decide +kernel
theorem dX9_again_62 : decode cX9_again 62 = .ok (.iconst 0, 1) := by decide +kernel
theorem dX9_again_63 : decode cX9_again 63 = .ok (.istore 4, 2) := by decide +kernel
theorem dX9_again_65 : decode cX9_again 65 = .ok (.iload 4, 2) := by decide +kernel
theorem dX9_again_67 : decode cX9_again 67 = .ok (.ifCond .ge 10, 3) := by decide +kernel
theorem dX9_again_70 : decode cX9_again 70 = .ok (.aload_n 0, 1) := by decide +kernel
theorem dX9_again_71 : decode cX9_again 71 = .ok (.iload 4, 2) := by decide +kernel
theorem dX9_again_73 : decode cX9_again 73 = .ok (.invokevirtual 175, 3) := by decide +kernel
theorem dX9_again_76 : decode cX9_again 76 = .ok (.ireturn, 1) := by decide +kernel
theorem dX9_again_77 : decode cX9_again 77 = .ok (.aload_n 0, 1) := by decide +kernel
theorem dX9_again_78 : decode cX9_again 78 = .ok (.iload_n 1, 1) := by decide +kernel
theorem dX9_again_79 : decode cX9_again 79 = .ok (.iload 5, 2) := by decide +kernel
theorem dX9_again_81 : decode cX9_again 81 = .ok (.invokevirtual 217, 3) := by decide +kernel
theorem dX9_again_84 : decode cX9_again 84 = .ok (.aload_n 0, 1) := by decide +kernel
theorem dX9_again_85 : decode cX9_again 85 = .ok (.getfield 75, 3) := by decide +kernel
theorem dX9_again_88 : decode cX9_again 88 = .ok (.iload_n 2, 1) := by decide +kernel
theorem dX9_again_89 : decode cX9_again 89 = .ok (.aload_n 0, 1) := by decide +kernel
theorem dX9_again_90 : decode cX9_again 90 = .ok (.getfield 60, 3) := by decide +kernel
theorem dX9_again_93 : decode cX9_again 93 = .ok (.iload_n 2, 1) := by decide +kernel
theorem dX9_again_94 : decode cX9_again 94 = .ok (.iaload, 1) := by decide +kernel
theorem dX9_again_95 : decode cX9_again 95 = .ok (.iastore, 1) := by decide +kernel
theorem dX9_again_96 : decode cX9_again 96 = .ok (.iload 5, 2) := by decide +kernel
theorem dX9_again_98 : decode cX9_again 98 = .ok (.ireturn, 1) := by decide +kernel
theorem dX9_mail_0 : decode cX9_mail 0 = .ok (.iload_n 1, 1) := by decide +kernel
theorem dX9_mail_1 : decode cX9_mail 1 = .ok (.i2l, 1) := by decide +kernel
theorem dX9_mail_2 : decode cX9_mail 2 = .ok (.lconst 0, 1) := by decide +kernel
theorem dX9_mail_3 : decode cX9_mail 3 = .ok (.aload_n 0, 1) := by decide +kernel
theorem dX9_mail_4 : decode cX9_mail 4 = .ok (.getfield 248, 3) := by decide +kernel
theorem dX9_mail_7 : decode cX9_mail 7 = .ok (.iconst 1, 1) := by decide +kernel
theorem dX9_mail_8 : decode cX9_mail 8 = .ok (.isub, 1) := by decide +kernel
theorem dX9_mail_9 : decode cX9_mail 9 = .ok (.i2l, 1) := by decide +kernel
theorem dX9_mail_10 : decode cX9_mail 10 = .ok (.invokestatic 171, 3) := by decide +kernel
theorem dX9_mail_13 : decode cX9_mail 13 = .ok (.ifCond .ne 7, 3) := by decide +kernel
theorem dX9_mail_16 : decode cX9_mail 16 = .ok (.iconst (-1), 1) := by decide +kernel
theorem dX9_mail_17 : decode cX9_mail 17 = .ok (.goto 38, 3) := by decide +kernel
theorem dX9_mail_20 : decode cX9_mail 20 = .ok (.iload_n 2, 1) := by decide +kernel
theorem dX9_mail_21 : decode cX9_mail 21 = .ok (.i2l, 1) := by decide +kernel
theorem dX9_mail_22 : decode cX9_mail 22 = .ok (.lconst 0, 1) := by decide +kernel
theorem dX9_mail_23 : decode cX9_mail 23 = .ok (.aload_n 0, 1) := by decide +kernel
theorem dX9_mail_24 : decode cX9_mail 24 = .ok (.getfield 38, 3) := by decide +kernel
theorem dX9_mail_27 : decode cX9_mail 27 = .ok (.iload_n 1, 1) := by decide +kernel
theorem dX9_mail_28 : decode cX9_mail 28 = .ok (.iaload, 1) := by decide +kernel
theorem dX9_mail_29 : decode cX9_mail 29 = .ok (.iconst 1, 1) := by decide +kernel
theorem dX9_mail_30 : decode cX9_mail 30 = .ok (.isub, 1) := by decide +kernel
theorem dX9_mail_31 : decode cX9_mail 31 = .ok (.i2l, 1) := by decide +kernel
theorem dX9_mail_32 : decode cX9_mail 32 = .ok (.invokestatic 171, 3) := by decide +kernel
theorem dX9_mail_35 : decode cX9_mail 35 = .ok (.ifCond .eq 18, 3) := by decide +kernel
theorem dX9_mail_38 : decode cX9_mail 38 = .ok (.aload_n 0, 1) := by decide +kernel
theorem dX9_mail_39 : decode cX9_mail 39 = .ok (.getfield 41, 3) := by decide +kernel
theorem dX9_mail_42 : decode cX9_mail 42 = .ok (.sipush 1200, 3) := by decide +kernel
theorem dX9_mail_45 : decode cX9_mail 45 = .ok (.iload_n 1, 1) := by decide +kernel
theorem dX9_mail_46 : decode cX9_mail 46 = .ok (.imul, 1) := by decide +kernel
theorem dX9_mail_47 : decode cX9_mail 47 = .ok (.iload_n 2, 1) := by decide +kernel
theorem dX9_mail_48 : decode cX9_mail 48 = .ok (.iadd, 1) := by decide +kernel
theorem dX9_mail_49 : decode cX9_mail 49 = .ok (.iaload, 1) := by decide +kernel
theorem dX9_mail_50 : decode cX9_mail 50 = .ok (.goto 5, 3) := by decide +kernel
theorem dX9_mail_53 : decode cX9_mail 53 = .ok (.bipush (-9), 2) := by decide +kernel
theorem dX9_mail_55 : decode cX9_mail 55 = .ok (.ireturn, 1) := by decide +kernel
theorem dX9_message_0 : decode cX9_message 0 = .ok (.iload_n 1, 1) := by decide +kernel
theorem dX9_message_1 : decode cX9_message 1 = .ok (.i2l, 1) := by decide +kernel
theorem dX9_message_2 : decode cX9_message 2 = .ok (.lconst 0, 1) := by decide +kernel
theorem dX9_message_3 : decode cX9_message 3 = .ok (.aload_n 0, 1) := by decide +kernel
theorem dX9_message_4 : decode cX9_message 4 = .ok (.getfield 205, 3) := by decide +kernel
theorem dX9_message_7 : decode cX9_message 7 = .ok (.iconst 1, 1) := by decide +kernel
theorem dX9_message_8 : decode cX9_message 8 = .ok (.isub, 1) := by decide +kernel
theorem dX9_message_9 : decode cX9_message 9 = .ok (.i2l, 1) := by decide +kernel
theorem dX9_message_10 : decode cX9_message 10 = .ok (.invokestatic 171, 3) := by decide +kernel
theorem dX9_message_13 : decode cX9_message 13 = .ok (.ifCond .ne 6, 3) := by decide +kernel
theorem dX9_message_16 : decode cX9_message 16 = .ok (.bipush (-9), 2) := by decide +kernel
theorem dX9_message_18 : decode cX9_message 18 = .ok (.ireturn, 1) := by decide +kernel
theorem dX9_message_19 : decode cX9_message 19 = .ok (.iload_n 2, 1) := by decide +kernel
theorem dX9_message_20 : decode cX9_message 20 = .ok (.tableswitch 79 0 4 #[36, 43, 50, 57, 72], 36) := by decide +kernel
theorem dX9_message_56 : decode cX9_message 56 = .ok (.aload_n 0, 1) := by decide +kernel
theorem dX9_message_57 : decode cX9_message 57 = .ok (.getfield 135, 3) := by decide +kernel
theorem dX9_message_60 : decode cX9_message 60 = .ok (.iload_n 1, 1) := by decide +kernel
theorem dX9_message_61 : decode cX9_message 61 = .ok (.iaload, 1) := by decide +kernel
theorem dX9_message_62 : decode cX9_message 62 = .ok (.ireturn, 1) := by decide +kernel
theorem dX9_message_63 : decode cX9_message 63 = .ok (.aload_n 0, 1) := by decide +kernel
theorem dX9_message_64 : decode cX9_message 64 = .ok (.getfield 138, 3) := by decide +kernel
theorem dX9_message_67 : decode cX9_message 67 = .ok (.iload_n 1, 1) := by decide +kernel
theorem dX9_message_68 : decode cX9_message 68 = .ok (.iaload, 1) := by decide +kernel
theorem dX9_message_69 : decode cX9_message 69 = .ok (.ireturn, 1) := by decide +kernel
theorem dX9_message_70 : decode cX9_message 70 = .ok (.aload_n 0, 1) := by decide +kernel
theorem dX9_message_71 : decode cX9_message 71 = .ok (.getfield 141, 3) := by decide +kernel
theorem dX9_message_74 : decode cX9_message 74 = .ok (.iload_n 1, 1) := by decide +kernel
theorem dX9_message_75 : decode cX9_message 75 = .ok (.iaload, 1) := by decide +kernel
theorem dX9_message_76 : decode cX9_message 76 = .ok (.ireturn, 1) := by decide +kernel
theorem dX9_message_77 : decode cX9_message 77 = .ok (.aload_n 0, 1) := by decide +kernel
theorem dX9_message_78 : decode cX9_message 78 = .ok (.getfield 144, 3) := by decide +kernel
theorem dX9_message_81 : decode cX9_message 81 = .ok (.iload_n 1, 1) := by decide +kernel
theorem dX9_message_82 : decode cX9_message 82 = .ok (.baload, 1) := by decide +kernel
theorem dX9_message_83 : decode cX9_message 83 = .ok (.ifCond .eq 7, 3) := by decide +kernel
theorem dX9_message_86 : decode cX9_message 86 = .ok (.iconst 1, 1) := by decide +kernel
theorem dX9_message_87 : decode cX9_message 87 = .ok (.goto 4, 3) := by decide +kernel
theorem dX9_message_90 : decode cX9_message 90 = .ok (.iconst 0, 1) := by decide +kernel
theorem dX9_message_91 : decode cX9_message 91 = .ok (.ireturn, 1) := by decide +kernel
theorem dX9_message_92 : decode cX9_message 92 = .ok (.aload_n 0, 1) := by decide +kernel
theorem dX9_message_93 : decode cX9_message 93 = .ok (.getfield 147, 3) := by decide +kernel
theorem dX9_message_96 : decode cX9_message 96 = .ok (.iload_n 1, 1) := by decide +kernel
theorem dX9_message_97 : decode cX9_message 97 = .ok (.iaload, 1) := by decide +kernel
theorem dX9_message_98 : decode cX9_message 98 = .ok (.ireturn, 1) := by decide +kernel
theorem dX9_message_99 : decode cX9_message 99 = .ok (.iload_n 2, 1) := by decide +kernel
theorem dX9_message_100 : decode cX9_message 100 = .ok (.iconst 5, 1) := by decide +kernel
theorem dX9_message_101 : decode cX9_message 101 = .ok (.if_icmp .ne 20, 3) := by decide +kernel
theorem dX9_message_104 : decode cX9_message 104 = .ok (.aload_n 0, 1) := by decide +kernel
theorem dX9_message_105 : decode cX9_message 105 = .ok (.getfield 150, 3) := by decide +kernel
theorem dX9_message_108 : decode cX9_message 108 = .ok (.iload_n 1, 1) := by decide +kernel
theorem dX9_message_109 : decode cX9_message 109 = .ok (.baload, 1) := by decide +kernel
theorem dX9_message_110 : decode cX9_message 110 = .ok (.ifCond .eq 7, 3) := by decide +kernel
theorem dX9_message_113 : decode cX9_message 113 = .ok (.iconst 1, 1) := by decide +kernel
theorem dX9_message_114 : decode cX9_message 114 = .ok (.goto 9, 3) := by decide +kernel
theorem dX9_message_117 : decode cX9_message 117 = .ok (.iconst 0, 1) := by decide +kernel
theorem dX9_message_118 : decode cX9_message 118 = .ok (.goto 5, 3) := by decide +kernel
theorem dX9_message_121 : decode cX9_message 121 = .ok (.bipush (-9), 2) := by decide +kernel
theorem dX9_message_123 : decode cX9_message 123 = .ok (.ireturn, 1) := by decide +kernel
theorem dX9_entry_0 : decode cX9_entry 0 = .ok (.iload_n 1, 1) := by decide +kernel
theorem dX9_entry_1 : decode cX9_entry 1 = .ok (.i2l, 1) := by decide +kernel
theorem dX9_entry_2 : decode cX9_entry 2 = .ok (.lconst 0, 1) := by decide +kernel
theorem dX9_entry_3 : decode cX9_entry 3 = .ok (.aload_n 0, 1) := by decide +kernel
theorem dX9_entry_4 : decode cX9_entry 4 = .ok (.getfield 205, 3) := by decide +kernel
theorem dX9_entry_7 : decode cX9_entry 7 = .ok (.iconst 1, 1) := by decide +kernel
theorem dX9_entry_8 : decode cX9_entry 8 = .ok (.isub, 1) := by decide +kernel
theorem dX9_entry_9 : decode cX9_entry 9 = .ok (.i2l, 1) := by decide +kernel
theorem dX9_entry_10 : decode cX9_entry 10 = .ok (.invokestatic 171, 3) := by decide +kernel
theorem dX9_entry_13 : decode cX9_entry 13 = .ok (.ifCond .eq 21, 3) := by decide +kernel
theorem dX9_entry_16 : decode cX9_entry 16 = .ok (.iload_n 2, 1) := by decide +kernel
theorem dX9_entry_17 : decode cX9_entry 17 = .ok (.i2l, 1) := by decide +kernel
theorem dX9_entry_18 : decode cX9_entry 18 = .ok (.lconst 0, 1) := by decide +kernel
theorem dX9_entry_19 : decode cX9_entry 19 = .ok (.aload_n 0, 1) := by decide +kernel
theorem dX9_entry_20 : decode cX9_entry 20 = .ok (.getfield 141, 3) := by decide +kernel
theorem dX9_entry_23 : decode cX9_entry 23 = .ok (.iload_n 1, 1) := by decide +kernel
theorem dX9_entry_24 : decode cX9_entry 24 = .ok (.iaload, 1) := by decide +kernel
theorem dX9_entry_25 : decode cX9_entry 25 = .ok (.iconst 1, 1) := by decide +kernel
theorem dX9_entry_26 : decode cX9_entry 26 = .ok (.isub, 1) := by decide +kernel
theorem dX9_entry_27 : decode cX9_entry 27 = .ok (.i2l, 1) := by decide +kernel
theorem dX9_entry_28 : decode cX9_entry 28 = .ok (.invokestatic 171, 3) := by decide +kernel
theorem dX9_entry_31 : decode cX9_entry 31 = .ok (.ifCond .ne 7, 3) := by decide +kernel
theorem dX9_entry_34 : decode cX9_entry 34 = .ok (.ldc2_w 302, 3) := by decide +kernel
theorem dX9_entry_37 : decode cX9_entry 37 = .ok (.lreturn, 1) := by decide +kernel
theorem dX9_entry_38 : decode cX9_entry 38 = .ok (.bipush 40, 2) := by decide +kernel
theorem dX9_entry_40 : decode cX9_entry 40 = .ok (.iload_n 1, 1) := by decide +kernel
theorem dX9_entry_41 : decode cX9_entry 41 = .ok (.imul, 1) := by decide +kernel
theorem dX9_entry_42 : decode cX9_entry 42 = .ok (.iload_n 2, 1) := by decide +kernel
theorem dX9_entry_43 : decode cX9_entry 43 = .ok (.iadd, 1) := by decide +kernel
theorem dX9_entry_44 : decode cX9_entry 44 = .ok (.istore 4, 2) := by decide +kernel
theorem dX9_entry_46 : decode cX9_entry 46 = .ok (.iload_n 3, 1) := by decide +kernel
theorem dX9_entry_47 : decode cX9_entry 47 = .ok (.ifCond .ne 13, 3) := by decide +kernel
theorem dX9_entry_50 : decode cX9_entry 50 = .ok (.aload_n 0, 1) := by decide +kernel
theorem dX9_entry_51 : decode cX9_entry 51 = .ok (.getfield 154, 3) := by decide +kernel
theorem dX9_entry_54 : decode cX9_entry 54 = .ok (.iload 4, 2) := by decide +kernel
theorem dX9_entry_56 : decode cX9_entry 56 = .ok (.laload, 1) := by decide +kernel
theorem dX9_entry_57 : decode cX9_entry 57 = .ok (.goto 54, 3) := by decide +kernel
theorem dX9_entry_60 : decode cX9_entry 60 = .ok (.iload_n 3, 1) := by decide +kernel
theorem dX9_entry_61 : decode cX9_entry 61 = .ok (.iconst 1, 1) := by decide +kernel
theorem dX9_entry_62 : decode cX9_entry 62 = .ok (.if_icmp .ne 14, 3) := by decide +kernel
theorem dX9_entry_65 : decode cX9_entry 65 = .ok (.aload_n 0, 1) := by decide +kernel
theorem dX9_entry_66 : decode cX9_entry 66 = .ok (.getfield 157, 3) := by decide +kernel
theorem dX9_entry_69 : decode cX9_entry 69 = .ok (.iload 4, 2) := by decide +kernel
theorem dX9_entry_71 : decode cX9_entry 71 = .ok (.iaload, 1) := by decide +kernel
theorem dX9_entry_72 : decode cX9_entry 72 = .ok (.i2l, 1) := by decide +kernel
theorem dX9_entry_73 : decode cX9_entry 73 = .ok (.goto 38, 3) := by decide +kernel
theorem dX9_entry_76 : decode cX9_entry 76 = .ok (.iload_n 3, 1) := by decide +kernel
theorem dX9_entry_77 : decode cX9_entry 77 = .ok (.iconst 2, 1) := by decide +kernel
theorem dX9_entry_78 : decode cX9_entry 78 = .ok (.if_icmp .ne 14, 3) := by decide +kernel
theorem dX9_entry_81 : decode cX9_entry 81 = .ok (.aload_n 0, 1) := by decide +kernel
theorem dX9_entry_82 : decode cX9_entry 82 = .ok (.getfield 160, 3) := by decide +kernel
theorem dX9_entry_85 : decode cX9_entry 85 = .ok (.iload 4, 2) := by decide +kernel
theorem dX9_entry_87 : decode cX9_entry 87 = .ok (.iaload, 1) := by decide +kernel
theorem dX9_entry_88 : decode cX9_entry 88 = .ok (.i2l, 1) := by decide +kernel
theorem dX9_entry_89 : decode cX9_entry 89 = .ok (.goto 22, 3) := by decide +kernel
theorem dX9_entry_92 : decode cX9_entry 92 = .ok (.iload_n 3, 1) := by decide +kernel
theorem dX9_entry_93 : decode cX9_entry 93 = .ok (.iconst 3, 1) := by decide +kernel
theorem dX9_entry_94 : decode cX9_entry 94 = .ok (.if_icmp .ne 14, 3) := by decide +kernel
theorem dX9_entry_97 : decode cX9_entry 97 = .ok (.aload_n 0, 1) := by decide +kernel
theorem dX9_entry_98 : decode cX9_entry 98 = .ok (.getfield 163, 3) := by decide +kernel
theorem dX9_entry_101 : decode cX9_entry 101 = .ok (.iload 4, 2) := by decide +kernel
theorem dX9_entry_103 : decode cX9_entry 103 = .ok (.iaload, 1) := by decide +kernel
theorem dX9_entry_104 : decode cX9_entry 104 = .ok (.i2l, 1) := by decide +kernel
theorem dX9_entry_105 : decode cX9_entry 105 = .ok (.goto 6, 3) := by decide +kernel
theorem dX9_entry_108 : decode cX9_entry 108 = .ok (.ldc2_w 302, 3) := by decide +kernel
theorem dX9_entry_111 : decode cX9_entry 111 = .ok (.lreturn, 1) := by decide +kernel
theorem dX9_sessionOf_0 : decode cX9_sessionOf 0 = .ok (.iload_n 1, 1) := by decide +kernel
theorem dX9_sessionOf_1 : decode cX9_sessionOf 1 = .ok (.i2l, 1) := by decide +kernel
theorem dX9_sessionOf_2 : decode cX9_sessionOf 2 = .ok (.lconst 0, 1) := by decide +kernel
theorem dX9_sessionOf_3 : decode cX9_sessionOf 3 = .ok (.aload_n 0, 1) := by decide +kernel
theorem dX9_sessionOf_4 : decode cX9_sessionOf 4 = .ok (.getfield 248, 3) := by decide +kernel
theorem dX9_sessionOf_7 : decode cX9_sessionOf 7 = .ok (.iconst 1, 1) := by decide +kernel
theorem dX9_sessionOf_8 : decode cX9_sessionOf 8 = .ok (.isub, 1) := by decide +kernel
theorem dX9_sessionOf_9 : decode cX9_sessionOf 9 = .ok (.i2l, 1) := by decide +kernel
theorem dX9_sessionOf_10 : decode cX9_sessionOf 10 = .ok (.invokestatic 171, 3) := by decide +kernel
theorem dX9_sessionOf_13 : decode cX9_sessionOf 13 = .ok (.ifCond .ne 6, 3) := by decide +kernel
theorem dX9_sessionOf_16 : decode cX9_sessionOf 16 = .ok (.bipush (-9), 2) := by decide +kernel
theorem dX9_sessionOf_18 : decode cX9_sessionOf 18 = .ok (.ireturn, 1) := by decide +kernel
theorem dX9_sessionOf_19 : decode cX9_sessionOf 19 = .ok (.iconst 0, 1) := by decide +kernel
theorem dX9_sessionOf_20 : decode cX9_sessionOf 20 = .ok (.istore_n 3, 1) := by decide +kernel
theorem dX9_sessionOf_21 : decode cX9_sessionOf 21 = .ok (.iconst 0, 1) := by decide +kernel
theorem dX9_sessionOf_22 : decode cX9_sessionOf 22 = .ok (.istore 4, 2) := by decide +kernel
theorem dX9_sessionOf_24 : decode cX9_sessionOf 24 = .ok (.iload 4, 2) := by decide +kernel
theorem dX9_sessionOf_26 : decode cX9_sessionOf 26 = .ok (.aload_n 0, 1) := by decide +kernel
theorem dX9_sessionOf_27 : decode cX9_sessionOf 27 = .ok (.getfield 224, 3) := by decide +kernel
theorem dX9_sessionOf_30 : decode cX9_sessionOf 30 = .ok (.if_icmp .ge 38, 3) := by decide +kernel
theorem dX9_sessionOf_33 : decode cX9_sessionOf 33 = .ok (.iload_n 3, 1) := by decide +kernel
theorem dX9_sessionOf_34 : decode cX9_sessionOf 34 = .ok (.aload_n 0, 1) := by decide +kernel
theorem dX9_sessionOf_35 : decode cX9_sessionOf 35 = .ok (.getfield 44, 3) := by decide +kernel
theorem dX9_sessionOf_38 : decode cX9_sessionOf 38 = .ok (.iload 4, 2) := by decide +kernel
theorem dX9_sessionOf_40 : decode cX9_sessionOf 40 = .ok (.baload, 1) := by decide +kernel
theorem dX9_sessionOf_41 : decode cX9_sessionOf 41 = .ok (.ifCond .eq 18, 3) := by decide +kernel
theorem dX9_sessionOf_44 : decode cX9_sessionOf 44 = .ok (.aload_n 0, 1) := by decide +kernel
theorem dX9_sessionOf_45 : decode cX9_sessionOf 45 = .ok (.getfield 48, 3) := by decide +kernel
theorem dX9_sessionOf_48 : decode cX9_sessionOf 48 = .ok (.iload 4, 2) := by decide +kernel
theorem dX9_sessionOf_50 : decode cX9_sessionOf 50 = .ok (.iaload, 1) := by decide +kernel
theorem dX9_sessionOf_51 : decode cX9_sessionOf 51 = .ok (.iload_n 1, 1) := by decide +kernel
theorem dX9_sessionOf_52 : decode cX9_sessionOf 52 = .ok (.if_icmp .ne 7, 3) := by decide +kernel
theorem dX9_sessionOf_55 : decode cX9_sessionOf 55 = .ok (.iconst 1, 1) := by decide +kernel
theorem dX9_sessionOf_56 : decode cX9_sessionOf 56 = .ok (.goto 4, 3) := by decide +kernel
theorem dX9_sessionOf_59 : decode cX9_sessionOf 59 = .ok (.iconst 0, 1) := by decide +kernel
theorem dX9_sessionOf_60 : decode cX9_sessionOf 60 = .ok (.iadd, 1) := by decide +kernel
theorem dX9_sessionOf_61 : decode cX9_sessionOf 61 = .ok (.istore_n 3, 1) := by decide +kernel
theorem dX9_sessionOf_62 : decode cX9_sessionOf 62 = .ok (.iinc 4 1, 3) := by decide +kernel
theorem dX9_sessionOf_65 : decode cX9_sessionOf 65 = .ok (.goto (-41), 3) := by decide +kernel
theorem dX9_sessionOf_68 : decode cX9_sessionOf 68 = .ok (.iload_n 2, 1) := by decide +kernel
theorem dX9_sessionOf_69 : decode cX9_sessionOf 69 = .ok (.ifCond .ne 12, 3) := by decide +kernel
theorem dX9_sessionOf_72 : decode cX9_sessionOf 72 = .ok (.aload_n 0, 1) := by decide +kernel
theorem dX9_sessionOf_73 : decode cX9_sessionOf 73 = .ok (.getfield 32, 3) := by decide +kernel
theorem dX9_sessionOf_76 : decode cX9_sessionOf 76 = .ok (.iload_n 1, 1) := by decide +kernel
theorem dX9_sessionOf_77 : decode cX9_sessionOf 77 = .ok (.iaload, 1) := by decide +kernel
theorem dX9_sessionOf_78 : decode cX9_sessionOf 78 = .ok (.goto 61, 3) := by decide +kernel
theorem dX9_sessionOf_81 : decode cX9_sessionOf 81 = .ok (.iload_n 2, 1) := by decide +kernel
theorem dX9_sessionOf_82 : decode cX9_sessionOf 82 = .ok (.iconst 1, 1) := by decide +kernel
theorem dX9_sessionOf_83 : decode cX9_sessionOf 83 = .ok (.if_icmp .ne 17, 3) := by decide +kernel
theorem dX9_sessionOf_86 : decode cX9_sessionOf 86 = .ok (.aload_n 0, 1) := by decide +kernel
theorem dX9_sessionOf_87 : decode cX9_sessionOf 87 = .ok (.getfield 29, 3) := by decide +kernel
theorem dX9_sessionOf_90 : decode cX9_sessionOf 90 = .ok (.iload_n 1, 1) := by decide +kernel
theorem dX9_sessionOf_91 : decode cX9_sessionOf 91 = .ok (.iaload, 1) := by decide +kernel
theorem dX9_sessionOf_92 : decode cX9_sessionOf 92 = .ok (.aload_n 0, 1) := by decide +kernel
theorem dX9_sessionOf_93 : decode cX9_sessionOf 93 = .ok (.getfield 199, 3) := by decide +kernel
theorem dX9_sessionOf_96 : decode cX9_sessionOf 96 = .ok (.isub, 1) := by decide +kernel
theorem dX9_sessionOf_97 : decode cX9_sessionOf 97 = .ok (.goto 42, 3) := by decide +kernel
theorem dX9_sessionOf_100 : decode cX9_sessionOf 100 = .ok (.iload_n 2, 1) := by decide +kernel
theorem dX9_sessionOf_101 : decode cX9_sessionOf 101 = .ok (.iconst 2, 1) := by decide +kernel
theorem dX9_sessionOf_102 : decode cX9_sessionOf 102 = .ok (.if_icmp .ne 12, 3) := by decide +kernel
theorem dX9_sessionOf_105 : decode cX9_sessionOf 105 = .ok (.aload_n 0, 1) := by decide +kernel
theorem dX9_sessionOf_106 : decode cX9_sessionOf 106 = .ok (.getfield 35, 3) := by decide +kernel
theorem dX9_sessionOf_109 : decode cX9_sessionOf 109 = .ok (.iload_n 1, 1) := by decide +kernel
theorem dX9_sessionOf_110 : decode cX9_sessionOf 110 = .ok (.iaload, 1) := by decide +kernel
theorem dX9_sessionOf_111 : decode cX9_sessionOf 111 = .ok (.goto 28, 3) := by decide +kernel
theorem dX9_sessionOf_114 : decode cX9_sessionOf 114 = .ok (.iload_n 2, 1) := by decide +kernel
theorem dX9_sessionOf_115 : decode cX9_sessionOf 115 = .ok (.iconst 3, 1) := by decide +kernel
theorem dX9_sessionOf_116 : decode cX9_sessionOf 116 = .ok (.if_icmp .ne 7, 3) := by decide +kernel
theorem dX9_sessionOf_119 : decode cX9_sessionOf 119 = .ok (.iload_n 3, 1) := by decide +kernel
theorem dX9_sessionOf_120 : decode cX9_sessionOf 120 = .ok (.goto 19, 3) := by decide +kernel
theorem dX9_sessionOf_123 : decode cX9_sessionOf 123 = .ok (.iload_n 2, 1) := by decide +kernel
theorem dX9_sessionOf_124 : decode cX9_sessionOf 124 = .ok (.iconst 4, 1) := by decide +kernel
theorem dX9_sessionOf_125 : decode cX9_sessionOf 125 = .ok (.if_icmp .ne 12, 3) := by decide +kernel
theorem dX9_sessionOf_128 : decode cX9_sessionOf 128 = .ok (.aload_n 0, 1) := by decide +kernel
theorem dX9_sessionOf_129 : decode cX9_sessionOf 129 = .ok (.getfield 38, 3) := by decide +kernel
theorem dX9_sessionOf_132 : decode cX9_sessionOf 132 = .ok (.iload_n 1, 1) := by decide +kernel
theorem dX9_sessionOf_133 : decode cX9_sessionOf 133 = .ok (.iaload, 1) := by decide +kernel
theorem dX9_sessionOf_134 : decode cX9_sessionOf 134 = .ok (.goto 5, 3) := by decide +kernel
theorem dX9_sessionOf_137 : decode cX9_sessionOf 137 = .ok (.bipush (-9), 2) := by decide +kernel
theorem dX9_sessionOf_139 : decode cX9_sessionOf 139 = .ok (.ireturn, 1) := by decide +kernel
theorem dX9_subscription_0 : decode cX9_subscription 0 = .ok (.iload_n 1, 1) := by decide +kernel
theorem dX9_subscription_1 : decode cX9_subscription 1 = .ok (.i2l, 1) := by decide +kernel
theorem dX9_subscription_2 : decode cX9_subscription 2 = .ok (.lconst 0, 1) := by decide +kernel
theorem dX9_subscription_3 : decode cX9_subscription 3 = .ok (.aload_n 0, 1) := by decide +kernel
theorem dX9_subscription_4 : decode cX9_subscription 4 = .ok (.getfield 224, 3) := by decide +kernel
theorem dX9_subscription_7 : decode cX9_subscription 7 = .ok (.iconst 1, 1) := by decide +kernel
theorem dX9_subscription_8 : decode cX9_subscription 8 = .ok (.isub, 1) := by decide +kernel
theorem dX9_subscription_9 : decode cX9_subscription 9 = .ok (.i2l, 1) := by decide +kernel
theorem dX9_subscription_10 : decode cX9_subscription 10 = .ok (.invokestatic 171, 3) := by decide +kernel
theorem dX9_subscription_13 : decode cX9_subscription 13 = .ok (.ifCond .eq 12, 3) := by decide +kernel
theorem dX9_subscription_16 : decode cX9_subscription 16 = .ok (.aload_n 0, 1) := by decide +kernel
theorem dX9_subscription_17 : decode cX9_subscription 17 = .ok (.getfield 44, 3) := by decide +kernel
theorem dX9_subscription_20 : decode cX9_subscription 20 = .ok (.iload_n 1, 1) := by decide +kernel
theorem dX9_subscription_21 : decode cX9_subscription 21 = .ok (.baload, 1) := by decide +kernel
theorem dX9_subscription_22 : decode cX9_subscription 22 = .ok (.ifCond .ne 6, 3) := by decide +kernel
theorem dX9_subscription_25 : decode cX9_subscription 25 = .ok (.bipush (-9), 2) := by decide +kernel
theorem dX9_subscription_27 : decode cX9_subscription 27 = .ok (.ireturn, 1) := by decide +kernel
theorem dX9_subscription_28 : decode cX9_subscription 28 = .ok (.iconst 0, 1) := by decide +kernel
theorem dX9_subscription_29 : decode cX9_subscription 29 = .ok (.istore_n 3, 1) := by decide +kernel
theorem dX9_subscription_30 : decode cX9_subscription 30 = .ok (.iconst 0, 1) := by decide +kernel
theorem dX9_subscription_31 : decode cX9_subscription 31 = .ok (.istore 4, 2) := by decide +kernel
theorem dX9_subscription_33 : decode cX9_subscription 33 = .ok (.iload 4, 2) := by decide +kernel
theorem dX9_subscription_35 : decode cX9_subscription 35 = .ok (.aload_n 0, 1) := by decide +kernel
theorem dX9_subscription_36 : decode cX9_subscription 36 = .ok (.getfield 202, 3) := by decide +kernel
theorem dX9_subscription_39 : decode cX9_subscription 39 = .ok (.if_icmp .ge 38, 3) := by decide +kernel
theorem dX9_subscription_42 : decode cX9_subscription 42 = .ok (.iload_n 3, 1) := by decide +kernel
theorem dX9_subscription_43 : decode cX9_subscription 43 = .ok (.aload_n 0, 1) := by decide +kernel
theorem dX9_subscription_44 : decode cX9_subscription 44 = .ok (.getfield 90, 3) := by decide +kernel
theorem dX9_subscription_47 : decode cX9_subscription 47 = .ok (.iload 4, 2) := by decide +kernel
theorem dX9_subscription_49 : decode cX9_subscription 49 = .ok (.baload, 1) := by decide +kernel
theorem dX9_subscription_50 : decode cX9_subscription 50 = .ok (.ifCond .eq 18, 3) := by decide +kernel
theorem dX9_subscription_53 : decode cX9_subscription 53 = .ok (.aload_n 0, 1) := by decide +kernel
theorem dX9_subscription_54 : decode cX9_subscription 54 = .ok (.getfield 93, 3) := by decide +kernel
theorem dX9_subscription_57 : decode cX9_subscription 57 = .ok (.iload 4, 2) := by decide +kernel
theorem dX9_subscription_59 : decode cX9_subscription 59 = .ok (.iaload, 1) := by decide +kernel
theorem dX9_subscription_60 : decode cX9_subscription 60 = .ok (.iload_n 1, 1) := by decide +kernel
theorem dX9_subscription_61 : decode cX9_subscription 61 = .ok (.if_icmp .ne 7, 3) := by decide +kernel
theorem dX9_subscription_64 : decode cX9_subscription 64 = .ok (.iconst 1, 1) := by decide +kernel
theorem dX9_subscription_65 : decode cX9_subscription 65 = .ok (.goto 4, 3) := by decide +kernel
theorem dX9_subscription_68 : decode cX9_subscription 68 = .ok (.iconst 0, 1) := by decide +kernel
theorem dX9_subscription_69 : decode cX9_subscription 69 = .ok (.iadd, 1) := by decide +kernel
theorem dX9_subscription_70 : decode cX9_subscription 70 = .ok (.istore_n 3, 1) := by decide +kernel
theorem dX9_subscription_71 : decode cX9_subscription 71 = .ok (.iinc 4 1, 3) := by decide +kernel
theorem dX9_subscription_74 : decode cX9_subscription 74 = .ok (.goto (-41), 3) := by decide +kernel
theorem dX9_subscription_77 : decode cX9_subscription 77 = .ok (.iload_n 2, 1) := by decide +kernel
theorem dX9_subscription_78 : decode cX9_subscription 78 = .ok (.tableswitch 112 0 7 #[46, 53, 68, 75, 82, 89, 104, 106], 46) := by decide +kernel
theorem dX9_subscription_124 : decode cX9_subscription 124 = .ok (.aload_n 0, 1) := by decide +kernel
theorem dX9_subscription_125 : decode cX9_subscription 125 = .ok (.getfield 48, 3) := by decide +kernel
theorem dX9_subscription_128 : decode cX9_subscription 128 = .ok (.iload_n 1, 1) := by decide +kernel
theorem dX9_subscription_129 : decode cX9_subscription 129 = .ok (.iaload, 1) := by decide +kernel
theorem dX9_subscription_130 : decode cX9_subscription 130 = .ok (.ireturn, 1) := by decide +kernel
theorem dX9_subscription_131 : decode cX9_subscription 131 = .ok (.aload_n 0, 1) := by decide +kernel
theorem dX9_subscription_132 : decode cX9_subscription 132 = .ok (.getfield 66, 3) := by decide +kernel
theorem dX9_subscription_135 : decode cX9_subscription 135 = .ok (.iload_n 1, 1) := by decide +kernel
theorem dX9_subscription_136 : decode cX9_subscription 136 = .ok (.baload, 1) := by decide +kernel
theorem dX9_subscription_137 : decode cX9_subscription 137 = .ok (.ifCond .eq 7, 3) := by decide +kernel
theorem dX9_subscription_140 : decode cX9_subscription 140 = .ok (.iconst 1, 1) := by decide +kernel
theorem dX9_subscription_141 : decode cX9_subscription 141 = .ok (.goto 4, 3) := by decide +kernel
theorem dX9_subscription_144 : decode cX9_subscription 144 = .ok (.iconst 0, 1) := by decide +kernel
theorem dX9_subscription_145 : decode cX9_subscription 145 = .ok (.ireturn, 1) := by decide +kernel
theorem dX9_subscription_146 : decode cX9_subscription 146 = .ok (.aload_n 0, 1) := by decide +kernel
theorem dX9_subscription_147 : decode cX9_subscription 147 = .ok (.getfield 69, 3) := by decide +kernel
theorem dX9_subscription_150 : decode cX9_subscription 150 = .ok (.iload_n 1, 1) := by decide +kernel
theorem dX9_subscription_151 : decode cX9_subscription 151 = .ok (.iaload, 1) := by decide +kernel
theorem dX9_subscription_152 : decode cX9_subscription 152 = .ok (.ireturn, 1) := by decide +kernel
theorem dX9_subscription_153 : decode cX9_subscription 153 = .ok (.aload_n 0, 1) := by decide +kernel
theorem dX9_subscription_154 : decode cX9_subscription 154 = .ok (.getfield 72, 3) := by decide +kernel
theorem dX9_subscription_157 : decode cX9_subscription 157 = .ok (.iload_n 1, 1) := by decide +kernel
theorem dX9_subscription_158 : decode cX9_subscription 158 = .ok (.iaload, 1) := by decide +kernel
theorem dX9_subscription_159 : decode cX9_subscription 159 = .ok (.ireturn, 1) := by decide +kernel
theorem dX9_subscription_160 : decode cX9_subscription 160 = .ok (.aload_n 0, 1) := by decide +kernel
theorem dX9_subscription_161 : decode cX9_subscription 161 = .ok (.getfield 75, 3) := by decide +kernel
theorem dX9_subscription_164 : decode cX9_subscription 164 = .ok (.iload_n 1, 1) := by decide +kernel
theorem dX9_subscription_165 : decode cX9_subscription 165 = .ok (.iaload, 1) := by decide +kernel
theorem dX9_subscription_166 : decode cX9_subscription 166 = .ok (.ireturn, 1) := by decide +kernel
theorem dX9_subscription_167 : decode cX9_subscription 167 = .ok (.aload_n 0, 1) := by decide +kernel
theorem dX9_subscription_168 : decode cX9_subscription 168 = .ok (.getfield 81, 3) := by decide +kernel
theorem dX9_subscription_171 : decode cX9_subscription 171 = .ok (.iload_n 1, 1) := by decide +kernel
theorem dX9_subscription_172 : decode cX9_subscription 172 = .ok (.baload, 1) := by decide +kernel
theorem dX9_subscription_173 : decode cX9_subscription 173 = .ok (.ifCond .eq 7, 3) := by decide +kernel
theorem dX9_subscription_176 : decode cX9_subscription 176 = .ok (.iconst 1, 1) := by decide +kernel
theorem dX9_subscription_177 : decode cX9_subscription 177 = .ok (.goto 4, 3) := by decide +kernel
theorem dX9_subscription_180 : decode cX9_subscription 180 = .ok (.iconst 0, 1) := by decide +kernel
theorem dX9_subscription_181 : decode cX9_subscription 181 = .ok (.ireturn, 1) := by decide +kernel
theorem dX9_subscription_182 : decode cX9_subscription 182 = .ok (.iload_n 3, 1) := by decide +kernel
theorem dX9_subscription_183 : decode cX9_subscription 183 = .ok (.ireturn, 1) := by decide +kernel
theorem dX9_subscription_184 : decode cX9_subscription 184 = .ok (.aload_n 0, 1) := by decide +kernel
theorem dX9_subscription_185 : decode cX9_subscription 185 = .ok (.iload_n 1, 1) := by decide +kernel
theorem dX9_subscription_186 : decode cX9_subscription 186 = .ok (.invokevirtual 211, 3) := by decide +kernel
theorem dX9_subscription_189 : decode cX9_subscription 189 = .ok (.ireturn, 1) := by decide +kernel
theorem dX9_subscription_190 : decode cX9_subscription 190 = .ok (.iload_n 2, 1) := by decide +kernel
theorem dX9_subscription_191 : decode cX9_subscription 191 = .ok (.bipush 8, 2) := by decide +kernel
theorem dX9_subscription_193 : decode cX9_subscription 193 = .ok (.if_icmp .ne 19, 3) := by decide +kernel
theorem dX9_subscription_196 : decode cX9_subscription 196 = .ok (.aload_n 0, 1) := by decide +kernel
theorem dX9_subscription_197 : decode cX9_subscription 197 = .ok (.iload_n 1, 1) := by decide +kernel
theorem dX9_subscription_198 : decode cX9_subscription 198 = .ok (.invokevirtual 208, 3) := by decide +kernel
theorem dX9_subscription_201 : decode cX9_subscription 201 = .ok (.ifCond .eq 7, 3) := by decide +kernel
theorem dX9_subscription_204 : decode cX9_subscription 204 = .ok (.iconst 1, 1) := by decide +kernel
theorem dX9_subscription_205 : decode cX9_subscription 205 = .ok (.goto 9, 3) := by decide +kernel
theorem dX9_subscription_208 : decode cX9_subscription 208 = .ok (.iconst 0, 1) := by decide +kernel
theorem dX9_subscription_209 : decode cX9_subscription 209 = .ok (.goto 5, 3) := by decide +kernel
theorem dX9_subscription_212 : decode cX9_subscription 212 = .ok (.bipush (-9), 2) := by decide +kernel
theorem dX9_subscription_214 : decode cX9_subscription 214 = .ok (.ireturn, 1) := by decide +kernel
theorem dX9_itemOf_0 : decode cX9_itemOf 0 = .ok (.iload_n 1, 1) := by decide +kernel
theorem dX9_itemOf_1 : decode cX9_itemOf 1 = .ok (.i2l, 1) := by decide +kernel
theorem dX9_itemOf_2 : decode cX9_itemOf 2 = .ok (.lconst 0, 1) := by decide +kernel
theorem dX9_itemOf_3 : decode cX9_itemOf 3 = .ok (.aload_n 0, 1) := by decide +kernel
theorem dX9_itemOf_4 : decode cX9_itemOf 4 = .ok (.getfield 202, 3) := by decide +kernel
theorem dX9_itemOf_7 : decode cX9_itemOf 7 = .ok (.iconst 1, 1) := by decide +kernel
theorem dX9_itemOf_8 : decode cX9_itemOf 8 = .ok (.isub, 1) := by decide +kernel
theorem dX9_itemOf_9 : decode cX9_itemOf 9 = .ok (.i2l, 1) := by decide +kernel
theorem dX9_itemOf_10 : decode cX9_itemOf 10 = .ok (.invokestatic 171, 3) := by decide +kernel
theorem dX9_itemOf_13 : decode cX9_itemOf 13 = .ok (.ifCond .eq 12, 3) := by decide +kernel
theorem dX9_itemOf_16 : decode cX9_itemOf 16 = .ok (.aload_n 0, 1) := by decide +kernel
theorem dX9_itemOf_17 : decode cX9_itemOf 17 = .ok (.getfield 90, 3) := by decide +kernel
theorem dX9_itemOf_20 : decode cX9_itemOf 20 = .ok (.iload_n 1, 1) := by decide +kernel
theorem dX9_itemOf_21 : decode cX9_itemOf 21 = .ok (.baload, 1) := by decide +kernel
theorem dX9_itemOf_22 : decode cX9_itemOf 22 = .ok (.ifCond .ne 6, 3) := by decide +kernel
theorem dX9_itemOf_25 : decode cX9_itemOf 25 = .ok (.bipush (-9), 2) := by decide +kernel
theorem dX9_itemOf_27 : decode cX9_itemOf 27 = .ok (.ireturn, 1) := by decide +kernel
theorem dX9_itemOf_28 : decode cX9_itemOf 28 = .ok (.iload_n 2, 1) := by decide +kernel
theorem dX9_itemOf_29 : decode cX9_itemOf 29 = .ok (.ifCond .ne 12, 3) := by decide +kernel
theorem dX9_itemOf_32 : decode cX9_itemOf 32 = .ok (.aload_n 0, 1) := by decide +kernel
theorem dX9_itemOf_33 : decode cX9_itemOf 33 = .ok (.getfield 93, 3) := by decide +kernel
theorem dX9_itemOf_36 : decode cX9_itemOf 36 = .ok (.iload_n 1, 1) := by decide +kernel
theorem dX9_itemOf_37 : decode cX9_itemOf 37 = .ok (.iaload, 1) := by decide +kernel
theorem dX9_itemOf_38 : decode cX9_itemOf 38 = .ok (.goto 77, 3) := by decide +kernel
theorem dX9_itemOf_41 : decode cX9_itemOf 41 = .ok (.iload_n 2, 1) := by decide +kernel
theorem dX9_itemOf_42 : decode cX9_itemOf 42 = .ok (.iconst 1, 1) := by decide +kernel
theorem dX9_itemOf_43 : decode cX9_itemOf 43 = .ok (.if_icmp .ne 12, 3) := by decide +kernel
theorem dX9_itemOf_46 : decode cX9_itemOf 46 = .ok (.aload_n 0, 1) := by decide +kernel
theorem dX9_itemOf_47 : decode cX9_itemOf 47 = .ok (.getfield 96, 3) := by decide +kernel
theorem dX9_itemOf_50 : decode cX9_itemOf 50 = .ok (.iload_n 1, 1) := by decide +kernel
theorem dX9_itemOf_51 : decode cX9_itemOf 51 = .ok (.iaload, 1) := by decide +kernel
theorem dX9_itemOf_52 : decode cX9_itemOf 52 = .ok (.goto 63, 3) := by decide +kernel
theorem dX9_itemOf_55 : decode cX9_itemOf 55 = .ok (.iload_n 2, 1) := by decide +kernel
theorem dX9_itemOf_56 : decode cX9_itemOf 56 = .ok (.iconst 2, 1) := by decide +kernel
theorem dX9_itemOf_57 : decode cX9_itemOf 57 = .ok (.if_icmp .ne 12, 3) := by decide +kernel
theorem dX9_itemOf_60 : decode cX9_itemOf 60 = .ok (.aload_n 0, 1) := by decide +kernel
theorem dX9_itemOf_61 : decode cX9_itemOf 61 = .ok (.getfield 111, 3) := by decide +kernel
theorem dX9_itemOf_64 : decode cX9_itemOf 64 = .ok (.iload_n 1, 1) := by decide +kernel
theorem dX9_itemOf_65 : decode cX9_itemOf 65 = .ok (.iaload, 1) := by decide +kernel
theorem dX9_itemOf_66 : decode cX9_itemOf 66 = .ok (.goto 49, 3) := by decide +kernel
theorem dX9_itemOf_69 : decode cX9_itemOf 69 = .ok (.iload_n 2, 1) := by decide +kernel
theorem dX9_itemOf_70 : decode cX9_itemOf 70 = .ok (.iconst 3, 1) := by decide +kernel
theorem dX9_itemOf_71 : decode cX9_itemOf 71 = .ok (.if_icmp .ne 12, 3) := by decide +kernel
theorem dX9_itemOf_74 : decode cX9_itemOf 74 = .ok (.aload_n 0, 1) := by decide +kernel
