theorem dX8_isNoEvent_0 : decode cX8_isNoEvent 0 = .ok (.iload_n 1, 1) := by decide +kernel
theorem dX8_isNoEvent_1 : decode cX8_isNoEvent 1 = .ok (.iconst 0, 1) := by decide +kernel
theorem dX8_isNoEvent_2 : decode cX8_isNoEvent 2 = .ok (.aload_n 0, 1) := by decide +kernel
theorem dX8_isNoEvent_3 : decode cX8_isNoEvent 3 = .ok (.getfield 47, 3) := by decide +kernel
theorem dX8_isNoEvent_6 : decode cX8_isNoEvent 6 = .ok (.getfield 282, 3) := by decide +kernel
theorem dX8_isNoEvent_9 : decode cX8_isNoEvent 9 = .ok (.iconst 1, 1) := by decide +kernel
theorem dX8_isNoEvent_10 : decode cX8_isNoEvent 10 = .ok (.isub, 1) := by decide +kernel
theorem dX8_isNoEvent_11 : decode cX8_isNoEvent 11 = .ok (.invokestatic 55, 3) := by decide +kernel
theorem dX8_isNoEvent_14 : decode cX8_isNoEvent 14 = .ok (.ireturn, 1) := by decide +kernel
theorem dX8_isNoLorry_0 : decode cX8_isNoLorry 0 = .ok (.iload_n 1, 1) := by decide +kernel
theorem dX8_isNoLorry_1 : decode cX8_isNoLorry 1 = .ok (.iconst 0, 1) := by decide +kernel
theorem dX8_isNoLorry_2 : decode cX8_isNoLorry 2 = .ok (.aload_n 0, 1) := by decide +kernel
theorem dX8_isNoLorry_3 : decode cX8_isNoLorry 3 = .ok (.getfield 19, 3) := by decide +kernel
theorem dX8_isNoLorry_6 : decode cX8_isNoLorry 6 = .ok (.getfield 103, 3) := by decide +kernel
theorem dX8_isNoLorry_9 : decode cX8_isNoLorry 9 = .ok (.iconst 1, 1) := by decide +kernel
theorem dX8_isNoLorry_10 : decode cX8_isNoLorry 10 = .ok (.isub, 1) := by decide +kernel
theorem dX8_isNoLorry_11 : decode cX8_isNoLorry 11 = .ok (.invokestatic 55, 3) := by decide +kernel
theorem dX8_isNoLorry_14 : decode cX8_isNoLorry 14 = .ok (.ireturn, 1) := by decide +kernel
theorem dX8_isNoFollower_0 : decode cX8_isNoFollower 0 = .ok (.iload_n 1, 1) := by decide +kernel
theorem dX8_isNoFollower_1 : decode cX8_isNoFollower 1 = .ok (.iconst 1, 1) := by decide +kernel
theorem dX8_isNoFollower_2 : decode cX8_isNoFollower 2 = .ok (.aload_n 0, 1) := by decide +kernel
theorem dX8_isNoFollower_3 : decode cX8_isNoFollower 3 = .ok (.getfield 19, 3) := by decide +kernel
theorem dX8_isNoFollower_6 : decode cX8_isNoFollower 6 = .ok (.getfield 103, 3) := by decide +kernel
theorem dX8_isNoFollower_9 : decode cX8_isNoFollower 9 = .ok (.iconst 1, 1) := by decide +kernel
theorem dX8_isNoFollower_10 : decode cX8_isNoFollower 10 = .ok (.isub, 1) := by decide +kernel
theorem dX8_isNoFollower_11 : decode cX8_isNoFollower 11 = .ok (.invokestatic 55, 3) := by decide +kernel
theorem dX8_isNoFollower_14 : decode cX8_isNoFollower 14 = .ok (.ireturn, 1) := by decide +kernel
theorem dX8_areNoPlaces_0 : decode cX8_areNoPlaces 0 = .ok (.iload_n 0, 1) := by decide +kernel
theorem dX8_areNoPlaces_1 : decode cX8_areNoPlaces 1 = .ok (.iconst 0, 1) := by decide +kernel
theorem dX8_areNoPlaces_2 : decode cX8_areNoPlaces 2 = .ok (.sipush 2000, 3) := by decide +kernel
theorem dX8_areNoPlaces_5 : decode cX8_areNoPlaces 5 = .ok (.invokestatic 55, 3) := by decide +kernel
theorem dX8_areNoPlaces_8 : decode cX8_areNoPlaces 8 = .ok (.ifCond .ne 14, 3) := by decide +kernel
theorem dX8_areNoPlaces_11 : decode cX8_areNoPlaces 11 = .ok (.iload_n 1, 1) := by decide +kernel
theorem dX8_areNoPlaces_12 : decode cX8_areNoPlaces 12 = .ok (.iload_n 0, 1) := by decide +kernel
theorem dX8_areNoPlaces_13 : decode cX8_areNoPlaces 13 = .ok (.sipush 2000, 3) := by decide +kernel
theorem dX8_areNoPlaces_16 : decode cX8_areNoPlaces 16 = .ok (.invokestatic 55, 3) := by decide +kernel
theorem dX8_areNoPlaces_19 : decode cX8_areNoPlaces 19 = .ok (.ifCond .eq 7, 3) := by decide +kernel
theorem dX8_areNoPlaces_22 : decode cX8_areNoPlaces 22 = .ok (.iconst 1, 1) := by decide +kernel
theorem dX8_areNoPlaces_23 : decode cX8_areNoPlaces 23 = .ok (.goto 4, 3) := by decide +kernel
theorem dX8_areNoPlaces_26 : decode cX8_areNoPlaces 26 = .ok (.iconst 0, 1) := by decide +kernel
theorem dX8_areNoPlaces_27 : decode cX8_areNoPlaces 27 = .ok (.ireturn, 1) := by decide +kernel
theorem dX8_areNoChances_0 : decode cX8_areNoChances 0 = .ok (.iload_n 0, 1) := by decide +kernel
theorem dX8_areNoChances_1 : decode cX8_areNoChances 1 = .ok (.iconst 0, 1) := by decide +kernel
theorem dX8_areNoChances_2 : decode cX8_areNoChances 2 = .ok (.iconst 4, 1) := by decide +kernel
theorem dX8_areNoChances_3 : decode cX8_areNoChances 3 = .ok (.invokestatic 55, 3) := by decide +kernel
theorem dX8_areNoChances_6 : decode cX8_areNoChances 6 = .ok (.ifCond .ne 12, 3) := by decide +kernel
theorem dX8_areNoChances_9 : decode cX8_areNoChances 9 = .ok (.iload_n 1, 1) := by decide +kernel
theorem dX8_areNoChances_10 : decode cX8_areNoChances 10 = .ok (.iconst 0, 1) := by decide +kernel
theorem dX8_areNoChances_11 : decode cX8_areNoChances 11 = .ok (.iconst 2, 1) := by decide +kernel
theorem dX8_areNoChances_12 : decode cX8_areNoChances 12 = .ok (.invokestatic 55, 3) := by decide +kernel
theorem dX8_areNoChances_15 : decode cX8_areNoChances 15 = .ok (.ifCond .eq 7, 3) := by decide +kernel
theorem dX8_areNoChances_18 : decode cX8_areNoChances 18 = .ok (.iconst 1, 1) := by decide +kernel
theorem dX8_areNoChances_19 : decode cX8_areNoChances 19 = .ok (.goto 4, 3) := by decide +kernel
theorem dX8_areNoChances_22 : decode cX8_areNoChances 22 = .ok (.iconst 0, 1) := by decide +kernel
theorem dX8_areNoChances_23 : decode cX8_areNoChances 23 = .ok (.ireturn, 1) := by decide +kernel
theorem dX8_driveAsTold_0 : decode cX8_driveAsTold 0 = .ok (.aload_n 0, 1) := by decide +kernel
theorem dX8_driveAsTold_1 : decode cX8_driveAsTold 1 = .ok (.getfield 26, 3) := by decide +kernel
theorem dX8_driveAsTold_4 : decode cX8_driveAsTold 4 = .ok (.aload_n 0, 1) := by decide +kernel
theorem dX8_driveAsTold_5 : decode cX8_driveAsTold 5 = .ok (.getfield 19, 3) := by decide +kernel
theorem dX8_driveAsTold_8 : decode cX8_driveAsTold 8 = .ok (.aload_n 0, 1) := by decide +kernel
theorem dX8_driveAsTold_9 : decode cX8_driveAsTold 9 = .ok (.getfield 19, 3) := by decide +kernel
theorem dX8_driveAsTold_12 : decode cX8_driveAsTold 12 = .ok (.getfield 116, 3) := by decide +kernel
theorem dX8_driveAsTold_15 : decode cX8_driveAsTold 15 = .ok (.iconst 0, 1) := by decide +kernel
theorem dX8_driveAsTold_16 : decode cX8_driveAsTold 16 = .ok (.iaload, 1) := by decide +kernel
theorem dX8_driveAsTold_17 : decode cX8_driveAsTold 17 = .ok (.aload_n 0, 1) := by decide +kernel
theorem dX8_driveAsTold_18 : decode cX8_driveAsTold 18 = .ok (.getfield 19, 3) := by decide +kernel
theorem dX8_driveAsTold_21 : decode cX8_driveAsTold 21 = .ok (.getfield 116, 3) := by decide +kernel
theorem dX8_driveAsTold_24 : decode cX8_driveAsTold 24 = .ok (.iconst 2, 1) := by decide +kernel
theorem dX8_driveAsTold_25 : decode cX8_driveAsTold 25 = .ok (.iaload, 1) := by decide +kernel
theorem dX8_driveAsTold_26 : decode cX8_driveAsTold 26 = .ok (.aload_n 0, 1) := by decide +kernel
theorem dX8_driveAsTold_27 : decode cX8_driveAsTold 27 = .ok (.getfield 19, 3) := by decide +kernel
theorem dX8_driveAsTold_30 : decode cX8_driveAsTold 30 = .ok (.getfield 128, 3) := by decide +kernel
theorem dX8_driveAsTold_33 : decode cX8_driveAsTold 33 = .ok (.invokevirtual 316, 3) := by decide +kernel
theorem dX8_driveAsTold_36 : decode cX8_driveAsTold 36 = .ok (.return_, 1) := by decide +kernel
theorem dX9_init_0 : decode cX9_init 0 = .ok (.aload_n 0, 1) := by decide +kernel
theorem dX9_init_1 : decode cX9_init 1 = .ok (.invokespecial 1, 3) := by decide +kernel
theorem dX9_init_4 : decode cX9_init 4 = .ok (.aload_n 0, 1) := by decide +kernel
theorem dX9_init_5 : decode cX9_init 5 = .ok (.iconst 4, 1) := by decide +kernel
theorem dX9_init_6 : decode cX9_init 6 = .ok (.newarray .int, 2) := by decide +kernel
theorem dX9_init_8 : decode cX9_init 8 = .ok (.dup, 1) := by decide +kernel
theorem dX9_init_9 : decode cX9_init 9 = .ok (.iconst 0, 1) := by decide +kernel
theorem dX9_init_10 : decode cX9_init 10 = .ok (.iconst 1, 1) := by decide +kernel
theorem dX9_init_11 : decode cX9_init 11 = .ok (.iastore, 1) := by decide +kernel
theorem dX9_init_12 : decode cX9_init 12 = .ok (.dup, 1) := by decide +kernel
theorem dX9_init_13 : decode cX9_init 13 = .ok (.iconst 1, 1) := by decide +kernel
theorem dX9_init_14 : decode cX9_init 14 = .ok (.iconst 1, 1) := by decide +kernel
theorem dX9_init_15 : decode cX9_init 15 = .ok (.iastore, 1) := by decide +kernel
theorem dX9_init_16 : decode cX9_init 16 = .ok (.dup, 1) := by decide +kernel
theorem dX9_init_17 : decode cX9_init 17 = .ok (.iconst 2, 1) := by decide +kernel
theorem dX9_init_18 : decode cX9_init 18 = .ok (.iconst 1, 1) := by decide +kernel
theorem dX9_init_19 : decode cX9_init 19 = .ok (.iastore, 1) := by decide +kernel
theorem dX9_init_20 : decode cX9_init 20 = .ok (.dup, 1) := by decide +kernel
theorem dX9_init_21 : decode cX9_init 21 = .ok (.iconst 3, 1) := by decide +kernel
theorem dX9_init_22 : decode cX9_init 22 = .ok (.iconst 1, 1) := by decide +kernel
theorem dX9_init_23 : decode cX9_init 23 = .ok (.iastore, 1) := by decide +kernel
theorem dX9_init_24 : decode cX9_init 24 = .ok (.putfield 7, 3) := by decide +kernel
theorem dX9_init_27 : decode cX9_init 27 = .ok (.aload_n 0, 1) := by decide +kernel
theorem dX9_init_28 : decode cX9_init 28 = .ok (.iconst 4, 1) := by decide +kernel
theorem dX9_init_29 : decode cX9_init 29 = .ok (.newarray .int, 2) := by decide +kernel
theorem dX9_init_31 : decode cX9_init 31 = .ok (.dup, 1) := by decide +kernel
theorem dX9_init_32 : decode cX9_init 32 = .ok (.iconst 0, 1) := by decide +kernel
theorem dX9_init_33 : decode cX9_init 33 = .ok (.iconst 4, 1) := by decide +kernel
theorem dX9_init_34 : decode cX9_init 34 = .ok (.iastore, 1) := by decide +kernel
theorem dX9_init_35 : decode cX9_init 35 = .ok (.dup, 1) := by decide +kernel
theorem dX9_init_36 : decode cX9_init 36 = .ok (.iconst 1, 1) := by decide +kernel
theorem dX9_init_37 : decode cX9_init 37 = .ok (.iconst 4, 1) := by decide +kernel
theorem dX9_init_38 : decode cX9_init 38 = .ok (.iastore, 1) := by decide +kernel
theorem dX9_init_39 : decode cX9_init 39 = .ok (.dup, 1) := by decide +kernel
theorem dX9_init_40 : decode cX9_init 40 = .ok (.iconst 2, 1) := by decide +kernel
theorem dX9_init_41 : decode cX9_init 41 = .ok (.iconst 4, 1) := by decide +kernel
theorem dX9_init_42 : decode cX9_init 42 = .ok (.iastore, 1) := by decide +kernel
theorem dX9_init_43 : decode cX9_init 43 = .ok (.dup, 1) := by decide +kernel
theorem dX9_init_44 : decode cX9_init 44 = .ok (.iconst 3, 1) := by decide +kernel
theorem dX9_init_45 : decode cX9_init 45 = .ok (.iconst 4, 1) := by decide +kernel
theorem dX9_init_46 : decode cX9_init 46 = .ok (.iastore, 1) := by decide +kernel
theorem dX9_init_47 : decode cX9_init 47 = .ok (.putfield 13, 3) := by decide +kernel
theorem dX9_init_50 : decode cX9_init 50 = .ok (.aload_n 0, 1) := by decide +kernel
theorem dX9_init_51 : decode cX9_init 51 = .ok (.iconst 4, 1) := by decide +kernel
theorem dX9_init_52 : decode cX9_init 52 = .ok (.newarray .int, 2) := by decide +kernel
theorem dX9_init_54 : decode cX9_init 54 = .ok (.dup, 1) := by decide +kernel
theorem dX9_init_55 : decode cX9_init 55 = .ok (.iconst 0, 1) := by decide +kernel
theorem dX9_init_56 : decode cX9_init 56 = .ok (.iconst 2, 1) := by decide +kernel
theorem dX9_init_57 : decode cX9_init 57 = .ok (.iastore, 1) := by decide +kernel
theorem dX9_init_58 : decode cX9_init 58 = .ok (.dup, 1) := by decide +kernel
theorem dX9_init_59 : decode cX9_init 59 = .ok (.iconst 1, 1) := by decide +kernel
theorem dX9_init_60 : decode cX9_init 60 = .ok (.iconst 2, 1) := by decide +kernel
theorem dX9_init_61 : decode cX9_init 61 = .ok (.iastore, 1) := by decide +kernel
theorem dX9_init_62 : decode cX9_init 62 = .ok (.dup, 1) := by decide +kernel
theorem dX9_init_63 : decode cX9_init 63 = .ok (.iconst 2, 1) := by decide +kernel
theorem dX9_init_64 : decode cX9_init 64 = .ok (.iconst 2, 1) := by decide +kernel
theorem dX9_init_65 : decode cX9_init 65 = .ok (.iastore, 1) := by decide +kernel
theorem dX9_init_66 : decode cX9_init 66 = .ok (.dup, 1) := by decide +kernel
theorem dX9_init_67 : decode cX9_init 67 = .ok (.iconst 3, 1) := by decide +kernel
theorem dX9_init_68 : decode cX9_init 68 = .ok (.iconst 2, 1) := by decide +kernel
theorem dX9_init_69 : decode cX9_init 69 = .ok (.iastore, 1) := by decide +kernel
theorem dX9_init_70 : decode cX9_init 70 = .ok (.putfield 16, 3) := by decide +kernel
theorem dX9_init_73 : decode cX9_init 73 = .ok (.aload_n 0, 1) := by decide +kernel
theorem dX9_init_74 : decode cX9_init 74 = .ok (.iconst 4, 1) := by decide +kernel
theorem dX9_init_75 : decode cX9_init 75 = .ok (.newarray .int, 2) := by decide +kernel
theorem dX9_init_77 : decode cX9_init 77 = .ok (.putfield 19, 3) := by decide +kernel
theorem dX9_init_80 : decode cX9_init 80 = .ok (.aload_n 0, 1) := by decide +kernel
theorem dX9_init_81 : decode cX9_init 81 = .ok (.sipush 160, 3) := by decide +kernel
theorem dX9_init_84 : decode cX9_init 84 = .ok (.newarray .int, 2) := by decide +kernel
theorem dX9_init_86 : decode cX9_init 86 = .ok (.putfield 22, 3) := by decide +kernel
theorem dX9_init_89 : decode cX9_init 89 = .ok (.aload_n 0, 1) := by decide +kernel
theorem dX9_init_90 : decode cX9_init 90 = .ok (.iconst 5, 1) := by decide +kernel
theorem dX9_init_91 : decode cX9_init 91 = .ok (.newarray .int, 2) := by decide +kernel
theorem dX9_init_93 : decode cX9_init 93 = .ok (.putfield 25, 3) := by decide +kernel
theorem dX9_init_96 : decode cX9_init 96 = .ok (.aload_n 0, 1) := by decide +kernel
theorem dX9_init_97 : decode cX9_init 97 = .ok (.bipush 30, 2) := by decide +kernel
theorem dX9_init_99 : decode cX9_init 99 = .ok (.newarray .int, 2) := by decide +kernel
theorem dX9_init_101 : decode cX9_init 101 = .ok (.putfield 28, 3) := by decide +kernel
theorem dX9_init_104 : decode cX9_init 104 = .ok (.aload_n 0, 1) := by decide +kernel
theorem dX9_init_105 : decode cX9_init 105 = .ok (.bipush 30, 2) := by decide +kernel
theorem dX9_init_107 : decode cX9_init 107 = .ok (.newarray .int, 2) := by decide +kernel
theorem dX9_init_109 : decode cX9_init 109 = .ok (.putfield 31, 3) := by decide +kernel
theorem dX9_init_112 : decode cX9_init 112 = .ok (.aload_n 0, 1) := by decide +kernel
theorem dX9_init_113 : decode cX9_init 113 = .ok (.bipush 30, 2) := by decide +kernel
theorem dX9_init_115 : decode cX9_init 115 = .ok (.newarray .int, 2) := by decide +kernel
theorem dX9_init_117 : decode cX9_init 117 = .ok (.putfield 34, 3) := by decide +kernel
theorem dX9_init_120 : decode cX9_init 120 = .ok (.aload_n 0, 1) := by decide +kernel
theorem dX9_init_121 : decode cX9_init 121 = .ok (.bipush 120, 2) := by decide +kernel
theorem dX9_init_123 : decode cX9_init 123 = .ok (.newarray .int, 2) := by decide +kernel
theorem dX9_init_125 : decode cX9_init 125 = .ok (.putfield 37, 3) := by decide +kernel
theorem dX9_init_128 : decode cX9_init 128 = .ok (.aload_n 0, 1) := by decide +kernel
theorem dX9_init_129 : decode cX9_init 129 = .ok (.bipush 120, 2) := by decide +kernel
theorem dX9_init_131 : decode cX9_init 131 = .ok (.newarray .int, 2) := by decide +kernel
theorem dX9_init_133 : decode cX9_init 133 = .ok (.putfield 40, 3) := by decide +kernel
theorem dX9_init_136 : decode cX9_init 136 = .ok (.aload_n 0, 1) := by decide +kernel
theorem dX9_init_137 : decode cX9_init 137 = .ok (.bipush 120, 2) := by decide +kernel
theorem dX9_init_139 : decode cX9_init 139 = .ok (.newarray .int, 2) := by decide +kernel
theorem dX9_init_141 : decode cX9_init 141 = .ok (.putfield 43, 3) := by decide +kernel
theorem dX9_init_144 : decode cX9_init 144 = .ok (.aload_n 0, 1) := by decide +kernel
theorem dX9_init_145 : decode cX9_init 145 = .ok (.iconst 1, 1) := by decide +kernel
theorem dX9_init_146 : decode cX9_init 146 = .ok (.putfield 46, 3) := by decide +kernel
theorem dX9_init_149 : decode cX9_init 149 = .ok (.aload_n 0, 1) := by decide +kernel
theorem dX9_init_150 : decode cX9_init 150 = .ok (.bipush 6, 2) := by decide +kernel
theorem dX9_init_152 : decode cX9_init 152 = .ok (.newarray .int, 2) := by decide +kernel
theorem dX9_init_154 : decode cX9_init 154 = .ok (.putfield 50, 3) := by decide +kernel
theorem dX9_init_157 : decode cX9_init 157 = .ok (.aload_n 0, 1) := by decide +kernel
theorem dX9_init_158 : decode cX9_init 158 = .ok (.iconst 5, 1) := by decide +kernel
theorem dX9_init_159 : decode cX9_init 159 = .ok (.newarray .int, 2) := by decide +kernel
theorem dX9_init_161 : decode cX9_init 161 = .ok (.dup, 1) := by decide +kernel
theorem dX9_init_162 : decode cX9_init 162 = .ok (.iconst 0, 1) := by decide +kernel
theorem dX9_init_163 : decode cX9_init 163 = .ok (.bipush 10, 2) := by decide +kernel
theorem dX9_init_165 : decode cX9_init 165 = .ok (.iastore, 1) := by decide +kernel
theorem dX9_init_166 : decode cX9_init 166 = .ok (.dup, 1) := by decide +kernel
theorem dX9_init_167 : decode cX9_init 167 = .ok (.iconst 1, 1) := by decide +kernel
theorem dX9_init_168 : decode cX9_init 168 = .ok (.bipush 20, 2) := by decide +kernel
theorem dX9_init_170 : decode cX9_init 170 = .ok (.iastore, 1) := by decide +kernel
theorem dX9_init_171 : decode cX9_init 171 = .ok (.dup, 1) := by decide +kernel
theorem dX9_init_172 : decode cX9_init 172 = .ok (.iconst 2, 1) := by decide +kernel
theorem dX9_init_173 : decode cX9_init 173 = .ok (.iconst 1, 1) := by decide +kernel
theorem dX9_init_174 : decode cX9_init 174 = .ok (.iastore, 1) := by decide +kernel
theorem dX9_init_175 : decode cX9_init 175 = .ok (.dup, 1) := by decide +kernel
theorem dX9_init_176 : decode cX9_init 176 = .ok (.iconst 3, 1) := by decide +kernel
theorem dX9_init_177 : decode cX9_init 177 = .ok (.iconst 2, 1) := by decide +kernel
theorem dX9_init_178 : decode cX9_init 178 = .ok (.iastore, 1) := by decide +kernel
theorem dX9_init_179 : decode cX9_init 179 = .ok (.dup, 1) := by decide +kernel
theorem dX9_init_180 : decode cX9_init 180 = .ok (.iconst 4, 1) := by decide +kernel
theorem dX9_init_181 : decode cX9_init 181 = .ok (.iconst 1, 1) := by decide +kernel
theorem dX9_init_182 : decode cX9_init 182 = .ok (.iastore, 1) := by decide +kernel
theorem dX9_init_183 : decode cX9_init 183 = .ok (.putfield 53, 3) := by decide +kernel
theorem dX9_init_186 : decode cX9_init 186 = .ok (.aload_n 0, 1) := by decide +kernel
theorem dX9_init_187 : decode cX9_init 187 = .ok (.bipush 8, 2) := by decide +kernel
theorem dX9_init_189 : decode cX9_init 189 = .ok (.newarray .int, 2) := by decide +kernel
theorem dX9_init_191 : decode cX9_init 191 = .ok (.putfield 56, 3) := by decide +kernel
theorem dX9_init_194 : decode cX9_init 194 = .ok (.aload_n 0, 1) := by decide +kernel
theorem dX9_init_195 : decode cX9_init 195 = .ok (.bipush 8, 2) := by decide +kernel
theorem dX9_init_197 : decode cX9_init 197 = .ok (.newarray .int, 2) := by decide +kernel
theorem dX9_init_199 : decode cX9_init 199 = .ok (.putfield 59, 3) := by decide +kernel
theorem dX9_init_202 : decode cX9_init 202 = .ok (.aload_n 0, 1) := by decide +kernel
theorem dX9_init_203 : decode cX9_init 203 = .ok (.iconst 2, 1) := by decide +kernel
theorem dX9_init_204 : decode cX9_init 204 = .ok (.newarray .int, 2) := by decide +kernel
theorem dX9_init_206 : decode cX9_init 206 = .ok (.putfield 62, 3) := by decide +kernel
theorem dX9_init_209 : decode cX9_init 209 = .ok (.aload_n 0, 1) := by decide +kernel
theorem dX9_init_210 : decode cX9_init 210 = .ok (.iconst 2, 1) := by decide +kernel
theorem dX9_init_211 : decode cX9_init 211 = .ok (.newarray .int, 2) := by decide +kernel
theorem dX9_init_213 : decode cX9_init 213 = .ok (.putfield 65, 3) := by decide +kernel
theorem dX9_init_216 : decode cX9_init 216 = .ok (.aload_n 0, 1) := by decide +kernel
theorem dX9_init_217 : decode cX9_init 217 = .ok (.iconst 2, 1) := by decide +kernel
theorem dX9_init_218 : decode cX9_init 218 = .ok (.newarray .int, 2) := by decide +kernel
theorem dX9_init_220 : decode cX9_init 220 = .ok (.putfield 68, 3) := by decide +kernel
theorem dX9_init_223 : decode cX9_init 223 = .ok (.aload_n 0, 1) := by decide +kernel
theorem dX9_init_224 : decode cX9_init 224 = .ok (.iconst 2, 1) := by decide +kernel
theorem dX9_init_225 : decode cX9_init 225 = .ok (.newarray .int, 2) := by decide +kernel
theorem dX9_init_227 : decode cX9_init 227 = .ok (.putfield 71, 3) := by decide +kernel
theorem dX9_init_230 : decode cX9_init 230 = .ok (.aload_n 0, 1) := by decide +kernel
theorem dX9_init_231 : decode cX9_init 231 = .ok (.iconst 5, 1) := by decide +kernel
theorem dX9_init_232 : decode cX9_init 232 = .ok (.newarray .int, 2) := by decide +kernel
theorem dX9_init_234 : decode cX9_init 234 = .ok (.putfield 74, 3) := by decide +kernel
theorem dX9_init_237 : decode cX9_init 237 = .ok (.aload_n 0, 1) := by decide +kernel
theorem dX9_init_238 : decode cX9_init 238 = .ok (.iconst 5, 1) := by decide +kernel
theorem dX9_init_239 : decode cX9_init 239 = .ok (.newarray .int, 2) := by decide +kernel
theorem dX9_init_241 : decode cX9_init 241 = .ok (.putfield 77, 3) := by decide +kernel
theorem dX9_init_244 : decode cX9_init 244 = .ok (.aload_n 0, 1) := by decide +kernel
theorem dX9_init_245 : decode cX9_init 245 = .ok (.iconst 5, 1) := by decide +kernel
theorem dX9_init_246 : decode cX9_init 246 = .ok (.newarray .int, 2) := by decide +kernel
theorem dX9_init_248 : decode cX9_init 248 = .ok (.putfield 80, 3) := by decide +kernel
theorem dX9_init_251 : decode cX9_init 251 = .ok (.aload_n 0, 1) := by decide +kernel
theorem dX9_init_252 : decode cX9_init 252 = .ok (.iconst 5, 1) := by decide +kernel
theorem dX9_init_253 : decode cX9_init 253 = .ok (.newarray .int, 2) := by decide +kernel
theorem dX9_init_255 : decode cX9_init 255 = .ok (.putfield 83, 3) := by decide +kernel
theorem dX9_init_258 : decode cX9_init 258 = .ok (.aload_n 0, 1) := by decide +kernel
theorem dX9_init_259 : decode cX9_init 259 = .ok (.iconst 5, 1) := by decide +kernel
theorem dX9_init_260 : decode cX9_init 260 = .ok (.newarray .int, 2) := by decide +kernel
theorem dX9_init_262 : decode cX9_init 262 = .ok (.putfield 86, 3) := by decide +kernel
theorem dX9_init_265 : decode cX9_init 265 = .ok (.aload_n 0, 1) := by decide +kernel
theorem dX9_init_266 : decode cX9_init 266 = .ok (.bipush 36, 2) := by decide +kernel
theorem dX9_init_268 : decode cX9_init 268 = .ok (.newarray .int, 2) := by decide +kernel
theorem dX9_init_270 : decode cX9_init 270 = .ok (.putfield 89, 3) := by decide +kernel
theorem dX9_init_273 : decode cX9_init 273 = .ok (.aload_n 0, 1) := by decide +kernel
theorem dX9_init_274 : decode cX9_init 274 = .ok (.bipush 6, 2) := by decide +kernel
theorem dX9_init_276 : decode cX9_init 276 = .ok (.newarray .int, 2) := by decide +kernel
theorem dX9_init_278 : decode cX9_init 278 = .ok (.putfield 92, 3) := by decide +kernel
theorem dX9_init_281 : decode cX9_init 281 = .ok (.aload_n 0, 1) := by decide +kernel
theorem dX9_init_282 : decode cX9_init 282 = .ok (.bipush 12, 2) := by decide +kernel
theorem dX9_init_284 : decode cX9_init 284 = .ok (.newarray .int, 2) := by decide +kernel
theorem dX9_init_286 : decode cX9_init 286 = .ok (.putfield 95, 3) := by decide +kernel
theorem dX9_init_289 : decode cX9_init 289 = .ok (.aload_n 0, 1) := by decide +kernel
theorem dX9_init_290 : decode cX9_init 290 = .ok (.bipush 12, 2) := by decide +kernel
theorem dX9_init_292 : decode cX9_init 292 = .ok (.newarray .int, 2) := by decide +kernel
theorem dX9_init_294 : decode cX9_init 294 = .ok (.putfield 98, 3) := by decide +kernel
theorem dX9_init_297 : decode cX9_init 297 = .ok (.aload_n 0, 1) := by decide +kernel
theorem dX9_init_298 : decode cX9_init 298 = .ok (.bipush 12, 2) := by decide +kernel
theorem dX9_init_300 : decode cX9_init 300 = .ok (.newarray .int, 2) := by decide +kernel
theorem dX9_init_302 : decode cX9_init 302 = .ok (.putfield 101, 3) := by decide +kernel
theorem dX9_init_305 : decode cX9_init 305 = .ok (.aload_n 0, 1) := by decide +kernel
theorem dX9_init_306 : decode cX9_init 306 = .ok (.bipush 12, 2) := by decide +kernel
theorem dX9_init_308 : decode cX9_init 308 = .ok (.newarray .int, 2) := by decide +kernel
theorem dX9_init_310 : decode cX9_init 310 = .ok (.putfield 104, 3) := by decide +kernel
theorem dX9_init_313 : decode cX9_init 313 = .ok (.aload_n 0, 1) := by decide +kernel
theorem dX9_init_314 : decode cX9_init 314 = .ok (.bipush 12, 2) := by decide +kernel
theorem dX9_init_316 : decode cX9_init 316 = .ok (.newarray .int, 2) := by decide +kernel
theorem dX9_init_318 : decode cX9_init 318 = .ok (.putfield 107, 3) := by decide +kernel
theorem dX9_init_321 : decode cX9_init 321 = .ok (.aload_n 0, 1) := by decide +kernel
theorem dX9_init_322 : decode cX9_init 322 = .ok (.sipush 192, 3) := by decide +kernel
theorem dX9_init_325 : decode cX9_init 325 = .ok (.newarray .int, 2) := by decide +kernel
theorem dX9_init_327 : decode cX9_init 327 = .ok (.putfield 110, 3) := by decide +kernel
theorem dX9_init_330 : decode cX9_init 330 = .ok (.aload_n 0, 1) := by decide +kernel
theorem dX9_init_331 : decode cX9_init 331 = .ok (.sipush 192, 3) := by decide +kernel
theorem dX9_init_334 : decode cX9_init 334 = .ok (.newarray .int, 2) := by decide +kernel
theorem dX9_init_336 : decode cX9_init 336 = .ok (.putfield 113, 3) := by decide +kernel
theorem dX9_init_339 : decode cX9_init 339 = .ok (.aload_n 0, 1) := by decide +kernel
theorem dX9_init_340 : decode cX9_init 340 = .ok (.sipush 192, 3) := by decide +kernel
theorem dX9_init_343 : decode cX9_init 343 = .ok (.newarray .int, 2) := by decide +kernel
theorem dX9_init_345 : decode cX9_init 345 = .ok (.putfield 116, 3) := by decide +kernel
theorem dX9_init_348 : decode cX9_init 348 = .ok (.aload_n 0, 1) := by decide +kernel
theorem dX9_init_349 : decode cX9_init 349 = .ok (.sipush 192, 3) := by decide +kernel
theorem dX9_init_352 : decode cX9_init 352 = .ok (.newarray .int, 2) := by decide +kernel
theorem dX9_init_354 : decode cX9_init 354 = .ok (.putfield 119, 3) := by decide +kernel
theorem dX9_init_357 : decode cX9_init 357 = .ok (.aload_n 0, 1) := by decide +kernel
theorem dX9_init_358 : decode cX9_init 358 = .ok (.sipush 192, 3) := by decide +kernel
theorem dX9_init_361 : decode cX9_init 361 = .ok (.newarray .int, 2) := by decide +kernel
theorem dX9_init_363 : decode cX9_init 363 = .ok (.putfield 122, 3) := by decide +kernel
theorem dX9_init_366 : decode cX9_init 366 = .ok (.aload_n 0, 1) := by decide +kernel
theorem dX9_init_367 : decode cX9_init 367 = .ok (.sipush 192, 3) := by decide +kernel
theorem dX9_init_370 : decode cX9_init 370 = .ok (.newarray .int, 2) := by decide +kernel
theorem dX9_init_372 : decode cX9_init 372 = .ok (.putfield 125, 3) := by decide +kernel
theorem dX9_init_375 : decode cX9_init 375 = .ok (.aload_n 0, 1) := by decide +kernel
theorem dX9_init_376 : decode cX9_init 376 = .ok (.bipush 32, 2) := by decide +kernel
theorem dX9_init_378 : decode cX9_init 378 = .ok (.newarray .int, 2) := by decide +kernel
theorem dX9_init_380 : decode cX9_init 380 = .ok (.putfield 128, 3) := by decide +kernel
theorem dX9_init_383 : decode cX9_init 383 = .ok (.aload_n 0, 1) := by decide +kernel
theorem dX9_init_384 : decode cX9_init 384 = .ok (.bipush 6, 2) := by decide +kernel
theorem dX9_init_386 : decode cX9_init 386 = .ok (.newarray .int, 2) := by decide +kernel
theorem dX9_init_388 : decode cX9_init 388 = .ok (.putfield 131, 3) := by decide +kernel
theorem dX9_init_391 : decode cX9_init 391 = .ok (.aload_n 0, 1) := by decide +kernel
theorem dX9_init_392 : decode cX9_init 392 = .ok (.bipush 6, 2) := by decide +kernel
theorem dX9_init_394 : decode cX9_init 394 = .ok (.newarray .int, 2) := by decide +kernel
theorem dX9_init_396 : decode cX9_init 396 = .ok (.putfield 134, 3) := by decide +kernel
theorem dX9_init_399 : decode cX9_init 399 = .ok (.aload_n 0, 1) := by decide +kernel
theorem dX9_init_400 : decode cX9_init 400 = .ok (.bipush 6, 2) := by decide +kernel
theorem dX9_init_402 : decode cX9_init 402 = .ok (.newarray .int, 2) := by decide +kernel
theorem dX9_init_404 : decode cX9_init 404 = .ok (.putfield 137, 3) := by decide +kernel
theorem dX9_init_407 : decode cX9_init 407 = .ok (.aload_n 0, 1) := by decide +kernel
theorem dX9_init_408 : decode cX9_init 408 = .ok (.iconst 5, 1) := by decide +kernel
theorem dX9_init_409 : decode cX9_init 409 = .ok (.newarray .int, 2) := by decide +kernel
theorem dX9_init_411 : decode cX9_init 411 = .ok (.putfield 140, 3) := by decide +kernel
theorem dX9_init_414 : decode cX9_init 414 = .ok (.aload_n 0, 1) := by decide +kernel
theorem dX9_init_415 : decode cX9_init 415 = .ok (.iconst 5, 1) := by decide +kernel
theorem dX9_init_416 : decode cX9_init 416 = .ok (.newarray .int, 2) := by decide +kernel
theorem dX9_init_418 : decode cX9_init 418 = .ok (.putfield 143, 3) := by decide +kernel
theorem dX9_init_421 : decode cX9_init 421 = .ok (.aload_n 0, 1) := by decide +kernel
theorem dX9_init_422 : decode cX9_init 422 = .ok (.bipush 6, 2) := by decide +kernel
theorem dX9_init_424 : decode cX9_init 424 = .ok (.newarray .int, 2) := by decide +kernel
theorem dX9_init_426 : decode cX9_init 426 = .ok (.putfield 146, 3) := by decide +kernel
theorem dX9_init_429 : decode cX9_init 429 = .ok (.aload_n 0, 1) := by decide +kernel
theorem dX9_init_430 : decode cX9_init 430 = .ok (.bipush 6, 2) := by decide +kernel
theorem dX9_init_432 : decode cX9_init 432 = .ok (.newarray .int, 2) := by decide +kernel
theorem dX9_init_434 : decode cX9_init 434 = .ok (.putfield 149, 3) := by decide +kernel
theorem dX9_init_437 : decode cX9_init 437 = .ok (.return_, 1) := by decide +kernel
theorem dX9_in_0 : decode cX9_in 0 = .ok (.lload_n 0, 1) := by decide +kernel
theorem dX9_in_1 : decode cX9_in 1 = .ok (.lload_n 2, 1) := by decide +kernel
theorem dX9_in_2 : decode cX9_in 2 = .ok (.lcmp, 1) := by decide +kernel
theorem dX9_in_3 : decode cX9_in 3 = .ok (.ifCond .lt 14, 3) := by decide +kernel
theorem dX9_in_6 : decode cX9_in 6 = .ok (.lload_n 0, 1) := by decide +kernel
theorem dX9_in_7 : decode cX9_in 7 = .ok (.lload 4, 2) := by decide +kernel
theorem dX9_in_9 : decode cX9_in 9 = .ok (.lcmp, 1) := by decide +kernel
theorem dX9_in_10 : decode cX9_in 10 = .ok (.ifCond .gt 7, 3) := by decide +kernel
theorem dX9_in_13 : decode cX9_in 13 = .ok (.iconst 1, 1) := by decide +kernel
theorem dX9_in_14 : decode cX9_in 14 = .ok (.goto 4, 3) := by decide +kernel
theorem dX9_in_17 : decode cX9_in 17 = .ok (.iconst 0, 1) := by decide +kernel
theorem dX9_in_18 : decode cX9_in 18 = .ok (.ireturn, 1) := by decide +kernel
theorem dX9_isMake_0 : decode cX9_isMake 0 = .ok (.iload_n 0, 1) := by decide +kernel
theorem dX9_isMake_1 : decode cX9_isMake 1 = .ok (.i2l, 1) := by decide +kernel
theorem dX9_isMake_2 : decode cX9_isMake 2 = .ok (.lconst 0, 1) := by decide +kernel
theorem dX9_isMake_3 : decode cX9_isMake 3 = .ok (.ldc2_w 152, 3) := by decide +kernel
theorem dX9_isMake_6 : decode cX9_isMake 6 = .ok (.invokestatic 154, 3) := by decide +kernel
theorem dX9_isMake_9 : decode cX9_isMake 9 = .ok (.ireturn, 1) := by decide +kernel
theorem dX9_isSix_0 : decode cX9_isSix 0 = .ok (.iload_n 0, 1) := by decide +kernel
theorem dX9_isSix_1 : decode cX9_isSix 1 = .ok (.i2l, 1) := by decide +kernel
theorem dX9_isSix_2 : decode cX9_isSix 2 = .ok (.lconst 0, 1) := by decide +kernel
theorem dX9_isSix_3 : decode cX9_isSix 3 = .ok (.ldc2_w 158, 3) := by decide +kernel
theorem dX9_isSix_6 : decode cX9_isSix 6 = .ok (.invokestatic 154, 3) := by decide +kernel
theorem dX9_isSix_9 : decode cX9_isSix 9 = .ok (.ireturn, 1) := by decide +kernel
theorem dX9_lesser_0 : decode cX9_lesser 0 = .ok (.iload_n 0, 1) := by decide +kernel
theorem dX9_lesser_1 : decode cX9_lesser 1 = .ok (.iload_n 1, 1) := by decide +kernel
theorem dX9_lesser_2 : decode cX9_lesser 2 = .ok (.if_icmp .ge 7, 3) := by decide +kernel
theorem dX9_lesser_5 : decode cX9_lesser 5 = .ok (.iload_n 0, 1) := by decide +kernel
theorem dX9_lesser_6 : decode cX9_lesser 6 = .ok (.goto 4, 3) := by decide +kernel
theorem dX9_lesser_9 : decode cX9_lesser 9 = .ok (.iload_n 1, 1) := by decide +kernel
theorem dX9_lesser_10 : decode cX9_lesser 10 = .ok (.ireturn, 1) := by decide +kernel
theorem dX9_make_0 : decode cX9_make 0 = .ok (.iload_n 1, 1) := by decide +kernel
theorem dX9_make_1 : decode cX9_make 1 = .ok (.invokestatic 160, 3) := by decide +kernel
theorem dX9_make_4 : decode cX9_make 4 = .ok (.ifCond .ne 6, 3) := by decide +kernel
theorem dX9_make_7 : decode cX9_make 7 = .ok (.bipush (-2), 2) := by decide +kernel
theorem dX9_make_9 : decode cX9_make 9 = .ok (.ireturn, 1) := by decide +kernel
theorem dX9_make_10 : decode cX9_make 10 = .ok (.iload_n 2, 1) := by decide +kernel
theorem dX9_make_11 : decode cX9_make 11 = .ok (.i2l, 1) := by decide +kernel
theorem dX9_make_12 : decode cX9_make 12 = .ok (.lconst 1, 1) := by decide +kernel
theorem dX9_make_13 : decode cX9_make 13 = .ok (.ldc2_w 164, 3) := by decide +kernel
theorem dX9_make_16 : decode cX9_make 16 = .ok (.invokestatic 154, 3) := by decide +kernel
theorem dX9_make_19 : decode cX9_make 19 = .ok (.ifCond .eq 41, 3) := by decide +kernel
theorem dX9_make_22 : decode cX9_make 22 = .ok (.iload_n 3, 1) := by decide +kernel
theorem dX9_make_23 : decode cX9_make 23 = .ok (.i2l, 1) := by decide +kernel
theorem dX9_make_24 : decode cX9_make 24 = .ok (.lconst 1, 1) := by decide +kernel
theorem dX9_make_25 : decode cX9_make 25 = .ok (.ldc2_w 166, 3) := by decide +kernel
theorem dX9_make_28 : decode cX9_make 28 = .ok (.invokestatic 154, 3) := by decide +kernel
theorem dX9_make_31 : decode cX9_make 31 = .ok (.ifCond .eq 29, 3) := by decide +kernel
theorem dX9_make_34 : decode cX9_make 34 = .ok (.iload 4, 2) := by decide +kernel
theorem dX9_make_36 : decode cX9_make 36 = .ok (.i2l, 1) := by decide +kernel
theorem dX9_make_37 : decode cX9_make 37 = .ok (.lconst 1, 1) := by decide +kernel
theorem dX9_make_38 : decode cX9_make 38 = .ok (.ldc2_w 158, 3) := by decide +kernel
theorem dX9_make_41 : decode cX9_make 41 = .ok (.invokestatic 154, 3) := by decide +kernel
theorem dX9_make_44 : decode cX9_make 44 = .ok (.ifCond .eq 16, 3) := by decide +kernel
theorem dX9_make_47 : decode cX9_make 47 = .ok (.iload 5, 2) := by decide +kernel
theorem dX9_make_49 : decode cX9_make 49 = .ok (.i2l, 1) := by decide +kernel
theorem dX9_make_50 : decode cX9_make 50 = .ok (.lconst 0, 1) := by decide +kernel
theorem dX9_make_51 : decode cX9_make 51 = .ok (.ldc2_w 152, 3) := by decide +kernel
theorem dX9_make_54 : decode cX9_make 54 = .ok (.invokestatic 154, 3) := by decide +kernel
theorem dX9_make_57 : decode cX9_make 57 = .ok (.ifCond .ne 6, 3) := by decide +kernel
theorem dX9_make_60 : decode cX9_make 60 = .ok (.bipush (-3), 2) := by decide +kernel
theorem dX9_make_62 : decode cX9_make 62 = .ok (.ireturn, 1) := by decide +kernel
theorem dX9_make_63 : decode cX9_make 63 = .ok (.aload_n 0, 1) := by decide +kernel
theorem dX9_make_64 : decode cX9_make 64 = .ok (.getfield 7, 3) := by decide +kernel
theorem dX9_make_67 : decode cX9_make 67 = .ok (.iload_n 1, 1) := by decide +kernel
theorem dX9_make_68 : decode cX9_make 68 = .ok (.iload_n 2, 1) := by decide +kernel
theorem dX9_make_69 : decode cX9_make 69 = .ok (.iastore, 1) := by decide +kernel
theorem dX9_make_70 : decode cX9_make 70 = .ok (.aload_n 0, 1) := by decide +kernel
theorem dX9_make_71 : decode cX9_make 71 = .ok (.getfield 13, 3) := by decide +kernel
theorem dX9_make_74 : decode cX9_make 74 = .ok (.iload_n 1, 1) := by decide +kernel
theorem dX9_make_75 : decode cX9_make 75 = .ok (.iload_n 3, 1) := by decide +kernel
theorem dX9_make_76 : decode cX9_make 76 = .ok (.iastore, 1) := by decide +kernel
theorem dX9_make_77 : decode cX9_make 77 = .ok (.aload_n 0, 1) := by decide +kernel
theorem dX9_make_78 : decode cX9_make 78 = .ok (.getfield 16, 3) := by decide +kernel
theorem dX9_make_81 : decode cX9_make 81 = .ok (.iload_n 1, 1) := by decide +kernel
theorem dX9_make_82 : decode cX9_make 82 = .ok (.iload 4, 2) := by decide +kernel
theorem dX9_make_84 : decode cX9_make 84 = .ok (.iastore, 1) := by decide +kernel
theorem dX9_make_85 : decode cX9_make 85 = .ok (.aload_n 0, 1) := by decide +kernel
theorem dX9_make_86 : decode cX9_make 86 = .ok (.getfield 19, 3) := by decide +kernel
theorem dX9_make_89 : decode cX9_make 89 = .ok (.iload_n 1, 1) := by decide +kernel
theorem dX9_make_90 : decode cX9_make 90 = .ok (.iload 5, 2) := by decide +kernel
theorem dX9_make_92 : decode cX9_make 92 = .ok (.iastore, 1) := by decide +kernel
theorem dX9_make_93 : decode cX9_make 93 = .ok (.iconst 1, 1) := by decide +kernel
theorem dX9_make_94 : decode cX9_make 94 = .ok (.ireturn, 1) := by decide +kernel
theorem dX9_write_0 : decode cX9_write 0 = .ok (.iload_n 3, 1) := by decide +kernel
theorem dX9_write_1 : decode cX9_write 1 = .ok (.i2l, 1) := by decide +kernel
theorem dX9_write_2 : decode cX9_write 2 = .ok (.lconst 1, 1) := by decide +kernel
theorem dX9_write_3 : decode cX9_write 3 = .ok (.ldc2_w 168, 3) := by decide +kernel
theorem dX9_write_6 : decode cX9_write 6 = .ok (.invokestatic 154, 3) := by decide +kernel
theorem dX9_write_9 : decode cX9_write 9 = .ok (.ifCond .ne 6, 3) := by decide +kernel
theorem dX9_write_12 : decode cX9_write 12 = .ok (.bipush (-3), 2) := by decide +kernel
theorem dX9_write_14 : decode cX9_write 14 = .ok (.ireturn, 1) := by decide +kernel
theorem dX9_write_15 : decode cX9_write 15 = .ok (.aload_n 0, 1) := by decide +kernel
theorem dX9_write_16 : decode cX9_write 16 = .ok (.getfield 170, 3) := by decide +kernel
theorem dX9_write_19 : decode cX9_write 19 = .ok (.iload_n 3, 1) := by decide +kernel
theorem dX9_write_20 : decode cX9_write 20 = .ok (.iadd, 1) := by decide +kernel
theorem dX9_write_21 : decode cX9_write 21 = .ok (.sipush 160, 3) := by decide +kernel
theorem dX9_write_24 : decode cX9_write 24 = .ok (.if_icmp .le 6, 3) := by decide +kernel
theorem dX9_write_27 : decode cX9_write 27 = .ok (.bipush (-5), 2) := by decide +kernel
theorem dX9_write_29 : decode cX9_write 29 = .ok (.ireturn, 1) := by decide +kernel
theorem dX9_write_30 : decode cX9_write 30 = .ok (.iconst 0, 1) := by decide +kernel
theorem dX9_write_31 : decode cX9_write 31 = .ok (.istore 4, 2) := by decide +kernel
theorem dX9_write_33 : decode cX9_write 33 = .ok (.iload 4, 2) := by decide +kernel
theorem dX9_write_35 : decode cX9_write 35 = .ok (.iload_n 3, 1) := by decide +kernel
theorem dX9_write_36 : decode cX9_write 36 = .ok (.if_icmp .ge 40, 3) := by decide +kernel
theorem dX9_write_39 : decode cX9_write 39 = .ok (.aload_n 0, 1) := by decide +kernel
theorem dX9_write_40 : decode cX9_write 40 = .ok (.getfield 22, 3) := by decide +kernel
theorem dX9_write_43 : decode cX9_write 43 = .ok (.aload_n 0, 1) := by decide +kernel
theorem dX9_write_44 : decode cX9_write 44 = .ok (.getfield 170, 3) := by decide +kernel
theorem dX9_write_47 : decode cX9_write 47 = .ok (.lload_n 1, 1) := by decide +kernel
theorem dX9_write_48 : decode cX9_write 48 = .ok (.bipush 8, 2) := by decide +kernel
theorem dX9_write_50 : decode cX9_write 50 = .ok (.iload 4, 2) := by decide +kernel
theorem dX9_write_52 : decode cX9_write 52 = .ok (.imul, 1) := by decide +kernel
theorem dX9_write_53 : decode cX9_write 53 = .ok (.lshr, 1) := by decide +kernel
theorem dX9_write_54 : decode cX9_write 54 = .ok (.ldc2_w 173, 3) := by decide +kernel
theorem dX9_write_57 : decode cX9_write 57 = .ok (.land, 1) := by decide +kernel
theorem dX9_write_58 : decode cX9_write 58 = .ok (.l2i, 1) := by decide +kernel
theorem dX9_write_59 : decode cX9_write 59 = .ok (.iastore, 1) := by decide +kernel
theorem dX9_write_60 : decode cX9_write 60 = .ok (.aload_n 0, 1) := by decide +kernel
theorem dX9_write_61 : decode cX9_write 61 = .ok (.dup, 1) := by decide +kernel
theorem dX9_write_62 : decode cX9_write 62 = .ok (.getfield 170, 3) := by decide +kernel
theorem dX9_write_65 : decode cX9_write 65 = .ok (.iconst 1, 1) := by decide +kernel
theorem dX9_write_66 : decode cX9_write 66 = .ok (.iadd, 1) := by decide +kernel
theorem dX9_write_67 : decode cX9_write 67 = .ok (.putfield 170, 3) := by decide +kernel
theorem dX9_write_70 : decode cX9_write 70 = .ok (.iinc 4 1, 3) := by decide +kernel
theorem dX9_write_73 : decode cX9_write 73 = .ok (.goto (-40), 3) := by decide +kernel
theorem dX9_write_76 : decode cX9_write 76 = .ok (.aload_n 0, 1) := by decide +kernel
theorem dX9_write_77 : decode cX9_write 77 = .ok (.getfield 170, 3) := by decide +kernel
theorem dX9_write_80 : decode cX9_write 80 = .ok (.ireturn, 1) := by decide +kernel
theorem dX9_erase_0 : decode cX9_erase 0 = .ok (.aload_n 0, 1) := by decide +kernel
theorem dX9_erase_1 : decode cX9_erase 1 = .ok (.getfield 170, 3) := by decide +kernel
theorem dX9_erase_4 : decode cX9_erase 4 = .ok (.istore_n 1, 1) := by decide +kernel
theorem dX9_erase_5 : decode cX9_erase 5 = .ok (.aload_n 0, 1) := by decide +kernel
theorem dX9_erase_6 : decode cX9_erase 6 = .ok (.iconst 0, 1) := by decide +kernel
theorem dX9_erase_7 : decode cX9_erase 7 = .ok (.putfield 170, 3) := by decide +kernel
theorem dX9_erase_10 : decode cX9_erase 10 = .ok (.iload_n 1, 1) := by decide +kernel
theorem dX9_erase_11 : decode cX9_erase 11 = .ok (.ireturn, 1) := by decide +kernel
theorem dX9_sort_0 : decode cX9_sort 0 = .ok (.iload_n 0, 1) := by decide +kernel
theorem dX9_sort_1 : decode cX9_sort 1 = .ok (.bipush 97, 2) := by decide +kernel
theorem dX9_sort_3 : decode cX9_sort 3 = .ok (.if_icmp .lt 13, 3) := by decide +kernel
theorem dX9_sort_6 : decode cX9_sort 6 = .ok (.iload_n 0, 1) := by decide +kernel
theorem dX9_sort_7 : decode cX9_sort 7 = .ok (.bipush 122, 2) := by decide +kernel
theorem dX9_sort_9 : decode cX9_sort 9 = .ok (.if_icmp .gt 7, 3) := by decide +kernel
theorem dX9_sort_12 : decode cX9_sort 12 = .ok (.iconst 1, 1) := by decide +kernel
theorem dX9_sort_13 : decode cX9_sort 13 = .ok (.goto 20, 3) := by decide +kernel
theorem dX9_sort_16 : decode cX9_sort 16 = .ok (.iload_n 0, 1) := by decide +kernel
theorem dX9_sort_17 : decode cX9_sort 17 = .ok (.bipush 48, 2) := by decide +kernel
theorem dX9_sort_19 : decode cX9_sort 19 = .ok (.if_icmp .lt 13, 3) := by decide +kernel
theorem dX9_sort_22 : decode cX9_sort 22 = .ok (.iload_n 0, 1) := by decide +kernel
theorem dX9_sort_23 : decode cX9_sort 23 = .ok (.bipush 57, 2) := by decide +kernel
theorem dX9_sort_25 : decode cX9_sort 25 = .ok (.if_icmp .gt 7, 3) := by decide +kernel
theorem dX9_sort_28 : decode cX9_sort 28 = .ok (.iconst 2, 1) := by decide +kernel
theorem dX9_sort_29 : decode cX9_sort 29 = .ok (.goto 4, 3) := by decide +kernel
theorem dX9_sort_32 : decode cX9_sort 32 = .ok (.iconst 0, 1) := by decide +kernel
theorem dX9_sort_33 : decode cX9_sort 33 = .ok (.ireturn, 1) := by decide +kernel
theorem dX9_token_0 : decode cX9_token 0 = .ok (.aload_n 0, 1) := by decide +kernel
theorem dX9_token_1 : decode cX9_token 1 = .ok (.getfield 175, 3) := by decide +kernel
theorem dX9_token_4 : decode cX9_token 4 = .ok (.aload_n 0, 1) := by decide +kernel
theorem dX9_token_5 : decode cX9_token 5 = .ok (.getfield 170, 3) := by decide +kernel
theorem dX9_token_8 : decode cX9_token 8 = .ok (.if_icmp .ge 30, 3) := by decide +kernel
theorem dX9_token_11 : decode cX9_token 11 = .ok (.aload_n 0, 1) := by decide +kernel
theorem dX9_token_12 : decode cX9_token 12 = .ok (.getfield 22, 3) := by decide +kernel
theorem dX9_token_15 : decode cX9_token 15 = .ok (.aload_n 0, 1) := by decide +kernel
theorem dX9_token_16 : decode cX9_token 16 = .ok (.getfield 175, 3) := by decide +kernel
theorem dX9_token_19 : decode cX9_token 19 = .ok (.iaload, 1) := by decide +kernel
theorem dX9_token_20 : decode cX9_token 20 = .ok (.bipush 32, 2) := by decide +kernel
theorem dX9_token_22 : decode cX9_token 22 = .ok (.if_icmp .ne 16, 3) := by decide +kernel
theorem dX9_token_25 : decode cX9_token 25 = .ok (.aload_n 0, 1) := by decide +kernel
theorem dX9_token_26 : decode cX9_token 26 = .ok (.dup, 1) := by decide +kernel
theorem dX9_token_27 : decode cX9_token 27 = .ok (.getfield 175, 3) := by decide +kernel
theorem dX9_token_30 : decode cX9_token 30 = .ok (.iconst 1, 1) := by decide +kernel
theorem dX9_token_31 : decode cX9_token 31 = .ok (.iadd, 1) := by decide +kernel
theorem dX9_token_32 : decode cX9_token 32 = .ok (.putfield 175, 3) := by decide +kernel
theorem dX9_token_35 : decode cX9_token 35 = .ok (.goto (-35), 3) := by decide +kernel
theorem dX9_token_38 : decode cX9_token 38 = .ok (.aload_n 0, 1) := by decide +kernel
theorem dX9_token_39 : decode cX9_token 39 = .ok (.aload_n 0, 1) := by decide +kernel
theorem dX9_token_40 : decode cX9_token 40 = .ok (.getfield 175, 3) := by decide +kernel
theorem dX9_token_43 : decode cX9_token 43 = .ok (.putfield 178, 3) := by decide +kernel
theorem dX9_token_46 : decode cX9_token 46 = .ok (.aload_n 0, 1) := by decide +kernel
theorem dX9_token_47 : decode cX9_token 47 = .ok (.dup, 1) := by decide +kernel
theorem dX9_token_48 : decode cX9_token 48 = .ok (.getfield 175, 3) := by decide +kernel
theorem dX9_token_51 : decode cX9_token 51 = .ok (.aload_n 0, 1) := by decide +kernel
theorem dX9_token_52 : decode cX9_token 52 = .ok (.getfield 175, 3) := by decide +kernel
theorem dX9_token_55 : decode cX9_token 55 = .ok (.aload_n 0, 1) := by decide +kernel
theorem dX9_token_56 : decode cX9_token 56 = .ok (.getfield 170, 3) := by decide +kernel
theorem dX9_token_59 : decode cX9_token 59 = .ok (.if_icmp .ge 7, 3) := by decide +kernel
theorem dX9_token_62 : decode cX9_token 62 = .ok (.iconst 1, 1) := by decide +kernel
theorem dX9_token_63 : decode cX9_token 63 = .ok (.goto 4, 3) := by decide +kernel
theorem dX9_token_66 : decode cX9_token 66 = .ok (.iconst 0, 1) := by decide +kernel
theorem dX9_token_67 : decode cX9_token 67 = .ok (.iadd, 1) := by decide +kernel
theorem dX9_token_68 : decode cX9_token 68 = .ok (.putfield 175, 3) := by decide +kernel
theorem dX9_token_71 : decode cX9_token 71 = .ok (.aload_n 0, 1) := by decide +kernel
theorem dX9_token_72 : decode cX9_token 72 = .ok (.getfield 175, 3) := by decide +kernel
theorem dX9_token_75 : decode cX9_token 75 = .ok (.aload_n 0, 1) := by decide +kernel
theorem dX9_token_76 : decode cX9_token 76 = .ok (.getfield 170, 3) := by decide +kernel
theorem dX9_token_79 : decode cX9_token 79 = .ok (.if_icmp .ge 58, 3) := by decide +kernel
theorem dX9_token_82 : decode cX9_token 82 = .ok (.aload_n 0, 1) := by decide +kernel
theorem dX9_token_83 : decode cX9_token 83 = .ok (.getfield 22, 3) := by decide +kernel
theorem dX9_token_86 : decode cX9_token 86 = .ok (.aload_n 0, 1) := by decide +kernel
theorem dX9_token_87 : decode cX9_token 87 = .ok (.getfield 178, 3) := by decide +kernel
theorem dX9_token_90 : decode cX9_token 90 = .ok (.iaload, 1) := by decide +kernel
theorem dX9_token_91 : decode cX9_token 91 = .ok (.invokestatic 181, 3) := by decide +kernel
theorem dX9_token_94 : decode cX9_token 94 = .ok (.ifCond .le 43, 3) := by decide +kernel
theorem dX9_token_97 : decode cX9_token 97 = .ok (.aload_n 0, 1) := by decide +kernel
theorem dX9_token_98 : decode cX9_token 98 = .ok (.getfield 22, 3) := by decide +kernel
theorem dX9_token_101 : decode cX9_token 101 = .ok (.aload_n 0, 1) := by decide +kernel
theorem dX9_token_102 : decode cX9_token 102 = .ok (.getfield 175, 3) := by decide +kernel
theorem dX9_token_105 : decode cX9_token 105 = .ok (.iaload, 1) := by decide +kernel
theorem dX9_token_106 : decode cX9_token 106 = .ok (.invokestatic 181, 3) := by decide +kernel
theorem dX9_token_109 : decode cX9_token 109 = .ok (.aload_n 0, 1) := by decide +kernel
theorem dX9_token_110 : decode cX9_token 110 = .ok (.getfield 22, 3) := by decide +kernel
theorem dX9_token_113 : decode cX9_token 113 = .ok (.aload_n 0, 1) := by decide +kernel
theorem dX9_token_114 : decode cX9_token 114 = .ok (.getfield 178, 3) := by decide +kernel
theorem dX9_token_117 : decode cX9_token 117 = .ok (.iaload, 1) := by decide +kernel
theorem dX9_token_118 : decode cX9_token 118 = .ok (.invokestatic 181, 3) := by decide +kernel
theorem dX9_token_121 : decode cX9_token 121 = .ok (.if_icmp .ne 16, 3) := by decide +kernel
theorem dX9_token_124 : decode cX9_token 124 = .ok (.aload_n 0, 1) := by decide +kernel
theorem dX9_token_125 : decode cX9_token 125 = .ok (.dup, 1) := by decide +kernel
theorem dX9_token_126 : decode cX9_token 126 = .ok (.getfield 175, 3) := by decide +kernel
theorem dX9_token_129 : decode cX9_token 129 = .ok (.iconst 1, 1) := by decide +kernel
theorem dX9_token_130 : decode cX9_token 130 = .ok (.iadd, 1) := by decide +kernel
theorem dX9_token_131 : decode cX9_token 131 = .ok (.putfield 175, 3) := by decide +kernel
theorem dX9_token_134 : decode cX9_token 134 = .ok (.goto (-63), 3) := by decide +kernel
theorem dX9_token_137 : decode cX9_token 137 = .ok (.aload_n 0, 1) := by decide +kernel
theorem dX9_token_138 : decode cX9_token 138 = .ok (.aload_n 0, 1) := by decide +kernel
theorem dX9_token_139 : decode cX9_token 139 = .ok (.getfield 175, 3) := by decide +kernel
theorem dX9_token_142 : decode cX9_token 142 = .ok (.putfield 185, 3) := by decide +kernel
theorem dX9_token_145 : decode cX9_token 145 = .ok (.return_, 1) := by decide +kernel
theorem dX9_isWord_0 : decode cX9_isWord 0 = .ok (.aload_n 0, 1) := by decide +kernel
theorem dX9_isWord_1 : decode cX9_isWord 1 = .ok (.getfield 185, 3) := by decide +kernel
theorem dX9_isWord_4 : decode cX9_isWord 4 = .ok (.aload_n 0, 1) := by decide +kernel
theorem dX9_isWord_5 : decode cX9_isWord 5 = .ok (.getfield 178, 3) := by decide +kernel
theorem dX9_isWord_8 : decode cX9_isWord 8 = .ok (.isub, 1) := by decide +kernel
theorem dX9_isWord_9 : decode cX9_isWord 9 = .ok (.iload_n 3, 1) := by decide +kernel
theorem dX9_isWord_10 : decode cX9_isWord 10 = .ok (.if_icmp .ne 7, 3) := by decide +kernel
theorem dX9_isWord_13 : decode cX9_isWord 13 = .ok (.iconst 1, 1) := by decide +kernel
theorem dX9_isWord_14 : decode cX9_isWord 14 = .ok (.goto 4, 3) := by decide +kernel
theorem dX9_isWord_17 : decode cX9_isWord 17 = .ok (.iconst 0, 1) := by decide +kernel
theorem dX9_isWord_18 : decode cX9_isWord 18 = .ok (.istore 4, 2) := by decide +kernel
theorem dX9_isWord_20 : decode cX9_isWord 20 = .ok (.iconst 0, 1) := by decide +kernel
theorem dX9_isWord_21 : decode cX9_isWord 21 = .ok (.istore 5, 2) := by decide +kernel
theorem dX9_isWord_23 : decode cX9_isWord 23 = .ok (.iload 4, 2) := by decide +kernel
theorem dX9_isWord_25 : decode cX9_isWord 25 = .ok (.ifCond .eq 51, 3) := by decide +kernel
theorem dX9_isWord_28 : decode cX9_isWord 28 = .ok (.iload 5, 2) := by decide +kernel
theorem dX9_isWord_30 : decode cX9_isWord 30 = .ok (.iload_n 3, 1) := by decide +kernel
theorem dX9_isWord_31 : decode cX9_isWord 31 = .ok (.if_icmp .ge 45, 3) := by decide +kernel
theorem dX9_isWord_34 : decode cX9_isWord 34 = .ok (.aload_n 0, 1) := by decide +kernel
theorem dX9_isWord_35 : decode cX9_isWord 35 = .ok (.getfield 22, 3) := by decide +kernel
theorem dX9_isWord_38 : decode cX9_isWord 38 = .ok (.aload_n 0, 1) := by decide +kernel
theorem dX9_isWord_39 : decode cX9_isWord 39 = .ok (.getfield 178, 3) := by decide +kernel
theorem dX9_isWord_42 : decode cX9_isWord 42 = .ok (.iload 5, 2) := by decide +kernel
theorem dX9_isWord_44 : decode cX9_isWord 44 = .ok (.iadd, 1) := by decide +kernel
theorem dX9_isWord_45 : decode cX9_isWord 45 = .ok (.iaload, 1) := by decide +kernel
theorem dX9_isWord_46 : decode cX9_isWord 46 = .ok (.bipush 96, 2) := by decide +kernel
theorem dX9_isWord_48 : decode cX9_isWord 48 = .ok (.lload_n 1, 1) := by decide +kernel
theorem dX9_isWord_49 : decode cX9_isWord 49 = .ok (.iconst 5, 1) := by decide +kernel
theorem dX9_isWord_50 : decode cX9_isWord 50 = .ok (.iload 5, 2) := by decide +kernel
theorem dX9_isWord_52 : decode cX9_isWord 52 = .ok (.imul, 1) := by decide +kernel
theorem dX9_isWord_53 : decode cX9_isWord 53 = .ok (.lshr, 1) := by decide +kernel
theorem dX9_isWord_54 : decode cX9_isWord 54 = .ok (.ldc2_w 188, 3) := by decide +kernel
theorem dX9_isWord_57 : decode cX9_isWord 57 = .ok (.land, 1) := by decide +kernel
theorem dX9_isWord_58 : decode cX9_isWord 58 = .ok (.l2i, 1) := by decide +kernel
theorem dX9_isWord_59 : decode cX9_isWord 59 = .ok (.iadd, 1) := by decide +kernel
theorem dX9_isWord_60 : decode cX9_isWord 60 = .ok (.if_icmp .ne 7, 3) := by decide +kernel
theorem dX9_isWord_63 : decode cX9_isWord 63 = .ok (.iconst 1, 1) := by decide +kernel
theorem dX9_isWord_64 : decode cX9_isWord 64 = .ok (.goto 4, 3) := by decide +kernel
theorem dX9_isWord_67 : decode cX9_isWord 67 = .ok (.iconst 0, 1) := by decide +kernel
theorem dX9_isWord_68 : decode cX9_isWord 68 = .ok (.istore 4, 2) := by decide +kernel
theorem dX9_isWord_70 : decode cX9_isWord 70 = .ok (.iinc 5 1, 3) := by decide +kernel
theorem dX9_isWord_73 : decode cX9_isWord 73 = .ok (.goto (-50), 3) := by decide +kernel
theorem dX9_isWord_76 : decode cX9_isWord 76 = .ok (.iload 4, 2) := by decide +kernel
theorem dX9_isWord_78 : decode cX9_isWord 78 = .ok (.ireturn, 1) := by decide +kernel
theorem dX9_skips_0 : decode cX9_skips 0 = .ok (.aload_n 0, 1) := by decide +kernel
theorem dX9_skips_1 : decode cX9_skips 1 = .ok (.lload_n 1, 1) := by decide +kernel
theorem dX9_skips_2 : decode cX9_skips 2 = .ok (.iload_n 3, 1) := by decide +kernel
theorem dX9_skips_3 : decode cX9_skips 3 = .ok (.invokevirtual 190, 3) := by decide +kernel
theorem dX9_skips_6 : decode cX9_skips 6 = .ok (.istore 4, 2) := by decide +kernel
theorem dX9_skips_8 : decode cX9_skips 8 = .ok (.iload 4, 2) := by decide +kernel
theorem dX9_skips_10 : decode cX9_skips 10 = .ok (.ifCond .eq 7, 3) := by decide +kernel
theorem dX9_skips_13 : decode cX9_skips 13 = .ok (.aload_n 0, 1) := by decide +kernel
theorem dX9_skips_14 : decode cX9_skips 14 = .ok (.invokevirtual 194, 3) := by decide +kernel
theorem dX9_skips_17 : decode cX9_skips 17 = .ok (.iload 4, 2) := by decide +kernel
theorem dX9_skips_19 : decode cX9_skips 19 = .ok (.ireturn, 1) := by decide +kernel
theorem dX9_skipsNumber_0 : decode cX9_skipsNumber 0 = .ok (.aload_n 0, 1) := by decide +kernel
theorem dX9_skipsNumber_1 : decode cX9_skipsNumber 1 = .ok (.getfield 178, 3) := by decide +kernel
theorem dX9_skipsNumber_4 : decode cX9_skipsNumber 4 = .ok (.aload_n 0, 1) := by decide +kernel
theorem dX9_skipsNumber_5 : decode cX9_skipsNumber 5 = .ok (.getfield 170, 3) := by decide +kernel
theorem dX9_skipsNumber_8 : decode cX9_skipsNumber 8 = .ok (.if_icmp .ge 36, 3) := by decide +kernel
theorem dX9_skipsNumber_11 : decode cX9_skipsNumber 11 = .ok (.aload_n 0, 1) := by decide +kernel
theorem dX9_skipsNumber_12 : decode cX9_skipsNumber 12 = .ok (.getfield 22, 3) := by decide +kernel
theorem dX9_skipsNumber_15 : decode cX9_skipsNumber 15 = .ok (.aload_n 0, 1) := by decide +kernel
theorem dX9_skipsNumber_16 : decode cX9_skipsNumber 16 = .ok (.getfield 178, 3) := by decide +kernel
theorem dX9_skipsNumber_19 : decode cX9_skipsNumber 19 = .ok (.iaload, 1) := by decide +kernel
theorem dX9_skipsNumber_20 : decode cX9_skipsNumber 20 = .ok (.invokestatic 181, 3) := by decide +kernel
theorem dX9_skipsNumber_23 : decode cX9_skipsNumber 23 = .ok (.iconst 2, 1) := by decide +kernel
theorem dX9_skipsNumber_24 : decode cX9_skipsNumber 24 = .ok (.if_icmp .ne 20, 3) := by decide +kernel
theorem dX9_skipsNumber_27 : decode cX9_skipsNumber 27 = .ok (.aload_n 0, 1) := by decide +kernel
theorem dX9_skipsNumber_28 : decode cX9_skipsNumber 28 = .ok (.getfield 185, 3) := by decide +kernel
theorem dX9_skipsNumber_31 : decode cX9_skipsNumber 31 = .ok (.aload_n 0, 1) := by decide +kernel
theorem dX9_skipsNumber_32 : decode cX9_skipsNumber 32 = .ok (.getfield 178, 3) := by decide +kernel
theorem dX9_skipsNumber_35 : decode cX9_skipsNumber 35 = .ok (.isub, 1) := by decide +kernel
theorem dX9_skipsNumber_36 : decode cX9_skipsNumber 36 = .ok (.iconst 2, 1) := by decide +kernel
theorem dX9_skipsNumber_37 : decode cX9_skipsNumber 37 = .ok (.if_icmp .gt 7, 3) := by decide +kernel
theorem dX9_skipsNumber_40 : decode cX9_skipsNumber 40 = .ok (.iconst 1, 1) := by decide +kernel
theorem dX9_skipsNumber_41 : decode cX9_skipsNumber 41 = .ok (.goto 4, 3) := by decide +kernel
theorem dX9_skipsNumber_44 : decode cX9_skipsNumber 44 = .ok (.iconst 0, 1) := by decide +kernel
theorem dX9_skipsNumber_45 : decode cX9_skipsNumber 45 = .ok (.istore_n 1, 1) := by decide +kernel
theorem dX9_skipsNumber_46 : decode cX9_skipsNumber 46 = .ok (.aload_n 0, 1) := by decide +kernel
theorem dX9_skipsNumber_47 : decode cX9_skipsNumber 47 = .ok (.iconst 0, 1) := by decide +kernel
theorem dX9_skipsNumber_48 : decode cX9_skipsNumber 48 = .ok (.putfield 197, 3) := by decide +kernel
theorem dX9_skipsNumber_51 : decode cX9_skipsNumber 51 = .ok (.aload_n 0, 1) := by decide +kernel
theorem dX9_skipsNumber_52 : decode cX9_skipsNumber 52 = .ok (.getfield 178, 3) := by decide +kernel
theorem dX9_skipsNumber_55 : decode cX9_skipsNumber 55 = .ok (.istore_n 2, 1) := by decide +kernel
theorem dX9_skipsNumber_56 : decode cX9_skipsNumber 56 = .ok (.iload_n 1, 1) := by decide +kernel
theorem dX9_skipsNumber_57 : decode cX9_skipsNumber 57 = .ok (.ifCond .eq 38, 3) := by decide +kernel
theorem dX9_skipsNumber_60 : decode cX9_skipsNumber 60 = .ok (.iload_n 2, 1) := by decide +kernel
theorem dX9_skipsNumber_61 : decode cX9_skipsNumber 61 = .ok (.aload_n 0, 1) := by decide +kernel
theorem dX9_skipsNumber_62 : decode cX9_skipsNumber 62 = .ok (.getfield 185, 3) := by decide +kernel
theorem dX9_skipsNumber_65 : decode cX9_skipsNumber 65 = .ok (.if_icmp .ge 30, 3) := by decide +kernel
theorem dX9_skipsNumber_68 : decode cX9_skipsNumber 68 = .ok (.aload_n 0, 1) := by decide +kernel
theorem dX9_skipsNumber_69 : decode cX9_skipsNumber 69 = .ok (.bipush 10, 2) := by decide +kernel
theorem dX9_skipsNumber_71 : decode cX9_skipsNumber 71 = .ok (.aload_n 0, 1) := by decide +kernel
theorem dX9_skipsNumber_72 : decode cX9_skipsNumber 72 = .ok (.getfield 197, 3) := by decide +kernel
theorem dX9_skipsNumber_75 : decode cX9_skipsNumber 75 = .ok (.imul, 1) := by decide +kernel
theorem dX9_skipsNumber_76 : decode cX9_skipsNumber 76 = .ok (.aload_n 0, 1) := by decide +kernel
theorem dX9_skipsNumber_77 : decode cX9_skipsNumber 77 = .ok (.getfield 22, 3) := by decide +kernel
theorem dX9_skipsNumber_80 : decode cX9_skipsNumber 80 = .ok (.iload_n 2, 1) := by decide +kernel
theorem dX9_skipsNumber_81 : decode cX9_skipsNumber 81 = .ok (.iaload, 1) := by decide +kernel
theorem dX9_skipsNumber_82 : decode cX9_skipsNumber 82 = .ok (.iadd, 1) := by decide +kernel
theorem dX9_skipsNumber_83 : decode cX9_skipsNumber 83 = .ok (.bipush 48, 2) := by decide +kernel
theorem dX9_skipsNumber_85 : decode cX9_skipsNumber 85 = .ok (.isub, 1) := by decide +kernel
theorem dX9_skipsNumber_86 : decode cX9_skipsNumber 86 = .ok (.putfield 197, 3) := by decide +kernel
theorem dX9_skipsNumber_89 : decode cX9_skipsNumber 89 = .ok (.iinc 2 1, 3) := by decide +kernel
theorem dX9_skipsNumber_92 : decode cX9_skipsNumber 92 = .ok (.goto (-36), 3) := by decide +kernel
theorem dX9_skipsNumber_95 : decode cX9_skipsNumber 95 = .ok (.iload_n 1, 1) := by decide +kernel
theorem dX9_skipsNumber_96 : decode cX9_skipsNumber 96 = .ok (.ifCond .eq 7, 3) := by decide +kernel
theorem dX9_skipsNumber_99 : decode cX9_skipsNumber 99 = .ok (.aload_n 0, 1) := by decide +kernel
theorem dX9_skipsNumber_100 : decode cX9_skipsNumber 100 = .ok (.invokevirtual 194, 3) := by decide +kernel
theorem dX9_skipsNumber_103 : decode cX9_skipsNumber 103 = .ok (.iload_n 1, 1) := by decide +kernel
theorem dX9_skipsNumber_104 : decode cX9_skipsNumber 104 = .ok (.ireturn, 1) := by decide +kernel
theorem dX9_readingWord_0 : decode cX9_readingWord 0 = .ok (.aload_n 0, 1) := by decide +kernel
theorem dX9_readingWord_1 : decode cX9_readingWord 1 = .ok (.ldc2_w 200, 3) := by decide +kernel
theorem dX9_readingWord_4 : decode cX9_readingWord 4 = .ok (.iconst 3, 1) := by decide +kernel
theorem dX9_readingWord_5 : decode cX9_readingWord 5 = .ok (.invokevirtual 190, 3) := by decide +kernel
theorem dX9_readingWord_8 : decode cX9_readingWord 8 = .ok (.ifCond .eq 7, 3) := by decide +kernel
theorem dX9_readingWord_11 : decode cX9_readingWord 11 = .ok (.iconst 0, 1) := by decide +kernel
theorem dX9_readingWord_12 : decode cX9_readingWord 12 = .ok (.goto 81, 3) := by decide +kernel
theorem dX9_readingWord_15 : decode cX9_readingWord 15 = .ok (.aload_n 0, 1) := by decide +kernel
theorem dX9_readingWord_16 : decode cX9_readingWord 16 = .ok (.ldc2_w 202, 3) := by decide +kernel
theorem dX9_readingWord_19 : decode cX9_readingWord 19 = .ok (.bipush 7, 2) := by decide +kernel
theorem dX9_readingWord_21 : decode cX9_readingWord 21 = .ok (.invokevirtual 190, 3) := by decide +kernel
theorem dX9_readingWord_24 : decode cX9_readingWord 24 = .ok (.ifCond .eq 7, 3) := by decide +kernel
theorem dX9_readingWord_27 : decode cX9_readingWord 27 = .ok (.iconst 1, 1) := by decide +kernel
theorem dX9_readingWord_28 : decode cX9_readingWord 28 = .ok (.goto 65, 3) := by decide +kernel
theorem dX9_readingWord_31 : decode cX9_readingWord 31 = .ok (.aload_n 0, 1) := by decide +kernel
theorem dX9_readingWord_32 : decode cX9_readingWord 32 = .ok (.ldc2_w 204, 3) := by decide +kernel
theorem dX9_readingWord_35 : decode cX9_readingWord 35 = .ok (.bipush 7, 2) := by decide +kernel
theorem dX9_readingWord_37 : decode cX9_readingWord 37 = .ok (.invokevirtual 190, 3) := by decide +kernel
theorem dX9_readingWord_40 : decode cX9_readingWord 40 = .ok (.ifCond .eq 7, 3) := by decide +kernel
theorem dX9_readingWord_43 : decode cX9_readingWord 43 = .ok (.iconst 2, 1) := by decide +kernel
theorem dX9_readingWord_44 : decode cX9_readingWord 44 = .ok (.goto 49, 3) := by decide +kernel
theorem dX9_readingWord_47 : decode cX9_readingWord 47 = .ok (.aload_n 0, 1) := by decide +kernel
theorem dX9_readingWord_48 : decode cX9_readingWord 48 = .ok (.ldc2_w 206, 3) := by decide +kernel
theorem dX9_readingWord_51 : decode cX9_readingWord 51 = .ok (.iconst 5, 1) := by decide +kernel
theorem dX9_readingWord_52 : decode cX9_readingWord 52 = .ok (.invokevirtual 190, 3) := by decide +kernel
theorem dX9_readingWord_55 : decode cX9_readingWord 55 = .ok (.ifCond .eq 7, 3) := by decide +kernel
theorem dX9_readingWord_58 : decode cX9_readingWord 58 = .ok (.iconst 3, 1) := by decide +kernel
theorem dX9_readingWord_59 : decode cX9_readingWord 59 = .ok (.goto 34, 3) := by decide +kernel
theorem dX9_readingWord_62 : decode cX9_readingWord 62 = .ok (.aload_n 0, 1) := by decide +kernel
theorem dX9_readingWord_63 : decode cX9_readingWord 63 = .ok (.ldc2_w 208, 3) := by decide +kernel
theorem dX9_readingWord_66 : decode cX9_readingWord 66 = .ok (.iconst 5, 1) := by decide +kernel
theorem dX9_readingWord_67 : decode cX9_readingWord 67 = .ok (.invokevirtual 190, 3) := by decide +kernel
theorem dX9_readingWord_70 : decode cX9_readingWord 70 = .ok (.ifCond .eq 7, 3) := by decide +kernel
theorem dX9_readingWord_73 : decode cX9_readingWord 73 = .ok (.iconst 4, 1) := by decide +kernel
theorem dX9_readingWord_74 : decode cX9_readingWord 74 = .ok (.goto 19, 3) := by decide +kernel
theorem dX9_readingWord_77 : decode cX9_readingWord 77 = .ok (.aload_n 0, 1) := by decide +kernel
theorem dX9_readingWord_78 : decode cX9_readingWord 78 = .ok (.ldc2_w 210, 3) := by decide +kernel
theorem dX9_readingWord_81 : decode cX9_readingWord 81 = .ok (.iconst 3, 1) := by decide +kernel
theorem dX9_readingWord_82 : decode cX9_readingWord 82 = .ok (.invokevirtual 190, 3) := by decide +kernel
theorem dX9_readingWord_85 : decode cX9_readingWord 85 = .ok (.ifCond .eq 7, 3) := by decide +kernel
theorem dX9_readingWord_88 : decode cX9_readingWord 88 = .ok (.iconst 5, 1) := by decide +kernel
theorem dX9_readingWord_89 : decode cX9_readingWord 89 = .ok (.goto 4, 3) := by decide +kernel
theorem dX9_readingWord_92 : decode cX9_readingWord 92 = .ok (.iconst (-1), 1) := by decide +kernel
theorem dX9_readingWord_93 : decode cX9_readingWord 93 = .ok (.ireturn, 1) := by decide +kernel
theorem dX9_readsTest_0 : decode cX9_readsTest 0 = .ok (.iconst 4, 1) := by decide +kernel
theorem dX9_readsTest_1 : decode cX9_readsTest 1 = .ok (.iload_n 1, 1) := by decide +kernel
theorem dX9_readsTest_2 : decode cX9_readsTest 2 = .ok (.imul, 1) := by decide +kernel
theorem dX9_readsTest_3 : decode cX9_readsTest 3 = .ok (.aload_n 0, 1) := by decide +kernel
theorem dX9_readsTest_4 : decode cX9_readsTest 4 = .ok (.getfield 34, 3) := by decide +kernel
theorem dX9_readsTest_7 : decode cX9_readsTest 7 = .ok (.iload_n 1, 1) := by decide +kernel
theorem dX9_readsTest_8 : decode cX9_readsTest 8 = .ok (.iaload, 1) := by decide +kernel
theorem dX9_readsTest_9 : decode cX9_readsTest 9 = .ok (.iadd, 1) := by decide +kernel
theorem dX9_readsTest_10 : decode cX9_readsTest 10 = .ok (.istore_n 2, 1) := by decide +kernel
theorem dX9_readsTest_11 : decode cX9_readsTest 11 = .ok (.aload_n 0, 1) := by decide +kernel
theorem dX9_readsTest_12 : decode cX9_readsTest 12 = .ok (.getfield 37, 3) := by decide +kernel
theorem dX9_readsTest_15 : decode cX9_readsTest 15 = .ok (.iload_n 2, 1) := by decide +kernel
theorem dX9_readsTest_16 : decode cX9_readsTest 16 = .ok (.aload_n 0, 1) := by decide +kernel
theorem dX9_readsTest_17 : decode cX9_readsTest 17 = .ok (.invokevirtual 212, 3) := by decide +kernel
theorem dX9_readsTest_20 : decode cX9_readsTest 20 = .ok (.iastore, 1) := by decide +kernel
theorem dX9_readsTest_21 : decode cX9_readsTest 21 = .ok (.aload_n 0, 1) := by decide +kernel
theorem dX9_readsTest_22 : decode cX9_readsTest 22 = .ok (.getfield 37, 3) := by decide +kernel
theorem dX9_readsTest_25 : decode cX9_readsTest 25 = .ok (.iload_n 2, 1) := by decide +kernel
theorem dX9_readsTest_26 : decode cX9_readsTest 26 = .ok (.iaload, 1) := by decide +kernel
theorem dX9_readsTest_27 : decode cX9_readsTest 27 = .ok (.iconst (-1), 1) := by decide +kernel
theorem dX9_readsTest_28 : decode cX9_readsTest 28 = .ok (.if_icmp .ne 5, 3) := by decide +kernel
theorem dX9_readsTest_31 : decode cX9_readsTest 31 = .ok (.iconst 0, 1) := by decide +kernel
theorem dX9_readsTest_32 : decode cX9_readsTest 32 = .ok (.ireturn, 1) := by decide +kernel
theorem dX9_readsTest_33 : decode cX9_readsTest 33 = .ok (.aload_n 0, 1) := by decide +kernel
theorem dX9_readsTest_34 : decode cX9_readsTest 34 = .ok (.invokevirtual 194, 3) := by decide +kernel
theorem dX9_readsTest_37 : decode cX9_readsTest 37 = .ok (.aload_n 0, 1) := by decide +kernel
theorem dX9_readsTest_38 : decode cX9_readsTest 38 = .ok (.ldc2_w 216, 3) := by decide +kernel
theorem dX9_readsTest_41 : decode cX9_readsTest 41 = .ok (.iconst 5, 1) := by decide +kernel
theorem dX9_readsTest_42 : decode cX9_readsTest 42 = .ok (.invokevirtual 190, 3) := by decide +kernel
theorem dX9_readsTest_45 : decode cX9_readsTest 45 = .ok (.istore_n 3, 1) := by decide +kernel
theorem dX9_readsTest_46 : decode cX9_readsTest 46 = .ok (.iload_n 3, 1) := by decide +kernel
theorem dX9_readsTest_47 : decode cX9_readsTest 47 = .ok (.ifCond .ne 16, 3) := by decide +kernel
theorem dX9_readsTest_50 : decode cX9_readsTest 50 = .ok (.aload_n 0, 1) := by decide +kernel
theorem dX9_readsTest_51 : decode cX9_readsTest 51 = .ok (.ldc2_w 218, 3) := by decide +kernel
theorem dX9_readsTest_54 : decode cX9_readsTest 54 = .ok (.iconst 5, 1) := by decide +kernel
theorem dX9_readsTest_55 : decode cX9_readsTest 55 = .ok (.invokevirtual 190, 3) := by decide +kernel
theorem dX9_readsTest_58 : decode cX9_readsTest 58 = .ok (.ifCond .ne 5, 3) := by decide +kernel
theorem dX9_readsTest_61 : decode cX9_readsTest 61 = .ok (.iconst 0, 1) := by decide +kernel
theorem dX9_readsTest_62 : decode cX9_readsTest 62 = .ok (.ireturn, 1) := by decide +kernel
theorem dX9_readsTest_63 : decode cX9_readsTest 63 = .ok (.aload_n 0, 1) := by decide +kernel
theorem dX9_readsTest_64 : decode cX9_readsTest 64 = .ok (.invokevirtual 194, 3) := by decide +kernel
theorem dX9_readsTest_67 : decode cX9_readsTest 67 = .ok (.aload_n 0, 1) := by decide +kernel
theorem dX9_readsTest_68 : decode cX9_readsTest 68 = .ok (.invokevirtual 220, 3) := by decide +kernel
theorem dX9_readsTest_71 : decode cX9_readsTest 71 = .ok (.ifCond .ne 5, 3) := by decide +kernel
theorem dX9_readsTest_74 : decode cX9_readsTest 74 = .ok (.iconst 0, 1) := by decide +kernel
theorem dX9_readsTest_75 : decode cX9_readsTest 75 = .ok (.ireturn, 1) := by decide +kernel
theorem dX9_readsTest_76 : decode cX9_readsTest 76 = .ok (.aload_n 0, 1) := by decide +kernel
theorem dX9_readsTest_77 : decode cX9_readsTest 77 = .ok (.getfield 40, 3) := by decide +kernel
theorem dX9_readsTest_80 : decode cX9_readsTest 80 = .ok (.iload_n 2, 1) := by decide +kernel
theorem dX9_readsTest_81 : decode cX9_readsTest 81 = .ok (.iload_n 3, 1) := by decide +kernel
theorem dX9_readsTest_82 : decode cX9_readsTest 82 = .ok (.ifCond .eq 7, 3) := by decide +kernel
theorem dX9_readsTest_85 : decode cX9_readsTest 85 = .ok (.iconst 1, 1) := by decide +kernel
theorem dX9_readsTest_86 : decode cX9_readsTest 86 = .ok (.goto 4, 3) := by decide +kernel
theorem dX9_readsTest_89 : decode cX9_readsTest 89 = .ok (.iconst 0, 1) := by decide +kernel
theorem dX9_readsTest_90 : decode cX9_readsTest 90 = .ok (.iastore, 1) := by decide +kernel
theorem dX9_readsTest_91 : decode cX9_readsTest 91 = .ok (.aload_n 0, 1) := by decide +kernel
theorem dX9_readsTest_92 : decode cX9_readsTest 92 = .ok (.getfield 43, 3) := by decide +kernel
theorem dX9_readsTest_95 : decode cX9_readsTest 95 = .ok (.iload_n 2, 1) := by decide +kernel
theorem dX9_readsTest_96 : decode cX9_readsTest 96 = .ok (.aload_n 0, 1) := by decide +kernel
theorem dX9_readsTest_97 : decode cX9_readsTest 97 = .ok (.getfield 197, 3) := by decide +kernel
theorem dX9_readsTest_100 : decode cX9_readsTest 100 = .ok (.iastore, 1) := by decide +kernel
theorem dX9_readsTest_101 : decode cX9_readsTest 101 = .ok (.aload_n 0, 1) := by decide +kernel
theorem dX9_readsTest_102 : decode cX9_readsTest 102 = .ok (.getfield 34, 3) := by decide +kernel
theorem dX9_readsTest_105 : decode cX9_readsTest 105 = .ok (.iload_n 1, 1) := by decide +kernel
theorem dX9_readsTest_106 : decode cX9_readsTest 106 = .ok (.dup2, 1) := by decide +kernel
theorem dX9_readsTest_107 : decode cX9_readsTest 107 = .ok (.iaload, 1) := by decide +kernel
theorem dX9_readsTest_108 : decode cX9_readsTest 108 = .ok (.iconst 1, 1) := by decide +kernel
theorem dX9_readsTest_109 : decode cX9_readsTest 109 = .ok (.iadd, 1) := by decide +kernel
theorem dX9_readsTest_110 : decode cX9_readsTest 110 = .ok (.iastore, 1) := by decide +kernel
theorem dX9_readsTest_111 : decode cX9_readsTest 111 = .ok (.iconst 1, 1) := by decide +kernel
theorem dX9_readsTest_112 : decode cX9_readsTest 112 = .ok (.ireturn, 1) := by decide +kernel
theorem dX9_readsLine_0 : decode cX9_readsLine 0 = .ok (.bipush 24, 2) := by decide +kernel
theorem dX9_readsLine_2 : decode cX9_readsLine 2 = .ok (.aload_n 0, 1) := by decide +kernel
theorem dX9_readsLine_3 : decode cX9_readsLine 3 = .ok (.getfield 25, 3) := by decide +kernel
theorem dX9_readsLine_6 : decode cX9_readsLine 6 = .ok (.iconst 4, 1) := by decide +kernel
theorem dX9_readsLine_7 : decode cX9_readsLine 7 = .ok (.iaload, 1) := by decide +kernel
theorem dX9_readsLine_8 : decode cX9_readsLine 8 = .ok (.iadd, 1) := by decide +kernel
theorem dX9_readsLine_9 : decode cX9_readsLine 9 = .ok (.istore_n 1, 1) := by decide +kernel
theorem dX9_readsLine_10 : decode cX9_readsLine 10 = .ok (.aload_n 0, 1) := by decide +kernel
theorem dX9_readsLine_11 : decode cX9_readsLine 11 = .ok (.getfield 34, 3) := by decide +kernel
theorem dX9_readsLine_14 : decode cX9_readsLine 14 = .ok (.iload_n 1, 1) := by decide +kernel
theorem dX9_readsLine_15 : decode cX9_readsLine 15 = .ok (.iconst 0, 1) := by decide +kernel
theorem dX9_readsLine_16 : decode cX9_readsLine 16 = .ok (.iastore, 1) := by decide +kernel
theorem dX9_readsLine_17 : decode cX9_readsLine 17 = .ok (.aload_n 0, 1) := by decide +kernel
theorem dX9_readsLine_18 : decode cX9_readsLine 18 = .ok (.ldc2_w 224, 3) := by decide +kernel
theorem dX9_readsLine_21 : decode cX9_readsLine 21 = .ok (.iconst 4, 1) := by decide +kernel
theorem dX9_readsLine_22 : decode cX9_readsLine 22 = .ok (.invokevirtual 190, 3) := by decide +kernel
theorem dX9_readsLine_25 : decode cX9_readsLine 25 = .ok (.ifCond .eq 7, 3) := by decide +kernel
theorem dX9_readsLine_28 : decode cX9_readsLine 28 = .ok (.iconst 0, 1) := by decide +kernel
theorem dX9_readsLine_29 : decode cX9_readsLine 29 = .ok (.goto 34, 3) := by decide +kernel
theorem dX9_readsLine_32 : decode cX9_readsLine 32 = .ok (.aload_n 0, 1) := by decide +kernel
theorem dX9_readsLine_33 : decode cX9_readsLine 33 = .ok (.ldc2_w 226, 3) := by decide +kernel
theorem dX9_readsLine_36 : decode cX9_readsLine 36 = .ok (.iconst 4, 1) := by decide +kernel
theorem dX9_readsLine_37 : decode cX9_readsLine 37 = .ok (.invokevirtual 190, 3) := by decide +kernel
theorem dX9_readsLine_40 : decode cX9_readsLine 40 = .ok (.ifCond .eq 7, 3) := by decide +kernel
theorem dX9_readsLine_43 : decode cX9_readsLine 43 = .ok (.iconst 1, 1) := by decide +kernel
theorem dX9_readsLine_44 : decode cX9_readsLine 44 = .ok (.goto 19, 3) := by decide +kernel
theorem dX9_readsLine_47 : decode cX9_readsLine 47 = .ok (.aload_n 0, 1) := by decide +kernel
theorem dX9_readsLine_48 : decode cX9_readsLine 48 = .ok (.ldc2_w 228, 3) := by decide +kernel
theorem dX9_readsLine_51 : decode cX9_readsLine 51 = .ok (.iconst 4, 1) := by decide +kernel
theorem dX9_readsLine_52 : decode cX9_readsLine 52 = .ok (.invokevirtual 190, 3) := by decide +kernel
theorem dX9_readsLine_55 : decode cX9_readsLine 55 = .ok (.ifCond .eq 7, 3) := by decide +kernel
theorem dX9_readsLine_58 : decode cX9_readsLine 58 = .ok (.iconst 2, 1) := by decide +kernel
theorem dX9_readsLine_59 : decode cX9_readsLine 59 = .ok (.goto 4, 3) := by decide +kernel
theorem dX9_readsLine_62 : decode cX9_readsLine 62 = .ok (.iconst (-1), 1) := by decide +kernel
theorem dX9_readsLine_63 : decode cX9_readsLine 63 = .ok (.istore_n 2, 1) := by decide +kernel
theorem dX9_readsLine_64 : decode cX9_readsLine 64 = .ok (.iload_n 2, 1) := by decide +kernel
theorem dX9_readsLine_65 : decode cX9_readsLine 65 = .ok (.iconst (-1), 1) := by decide +kernel
theorem dX9_readsLine_66 : decode cX9_readsLine 66 = .ok (.if_icmp .ne 5, 3) := by decide +kernel
theorem dX9_readsLine_69 : decode cX9_readsLine 69 = .ok (.iconst 0, 1) := by decide +kernel
theorem dX9_readsLine_70 : decode cX9_readsLine 70 = .ok (.ireturn, 1) := by decide +kernel
theorem dX9_readsLine_71 : decode cX9_readsLine 71 = .ok (.aload_n 0, 1) := by decide +kernel
theorem dX9_readsLine_72 : decode cX9_readsLine 72 = .ok (.invokevirtual 194, 3) := by decide +kernel
theorem dX9_readsLine_75 : decode cX9_readsLine 75 = .ok (.aload_n 0, 1) := by decide +kernel
theorem dX9_readsLine_76 : decode cX9_readsLine 76 = .ok (.iconst 0, 1) := by decide +kernel
theorem dX9_readsLine_77 : decode cX9_readsLine 77 = .ok (.putfield 197, 3) := by decide +kernel
theorem dX9_readsLine_80 : decode cX9_readsLine 80 = .ok (.iload_n 2, 1) := by decide +kernel
theorem dX9_readsLine_81 : decode cX9_readsLine 81 = .ok (.iconst 2, 1) := by decide +kernel
theorem dX9_readsLine_82 : decode cX9_readsLine 82 = .ok (.if_icmp .eq 12, 3) := by decide +kernel
theorem dX9_readsLine_85 : decode cX9_readsLine 85 = .ok (.aload_n 0, 1) := by decide +kernel
theorem dX9_readsLine_86 : decode cX9_readsLine 86 = .ok (.invokevirtual 220, 3) := by decide +kernel
theorem dX9_readsLine_89 : decode cX9_readsLine 89 = .ok (.ifCond .ne 5, 3) := by decide +kernel
theorem dX9_readsLine_92 : decode cX9_readsLine 92 = .ok (.iconst 0, 1) := by decide +kernel
theorem dX9_readsLine_93 : decode cX9_readsLine 93 = .ok (.ireturn, 1) := by decide +kernel
theorem dX9_readsLine_94 : decode cX9_readsLine 94 = .ok (.aload_n 0, 1) := by decide +kernel
theorem dX9_readsLine_95 : decode cX9_readsLine 95 = .ok (.getfield 28, 3) := by decide +kernel
theorem dX9_readsLine_98 : decode cX9_readsLine 98 = .ok (.iload_n 1, 1) := by decide +kernel
theorem dX9_readsLine_99 : decode cX9_readsLine 99 = .ok (.iload_n 2, 1) := by decide +kernel
theorem dX9_readsLine_100 : decode cX9_readsLine 100 = .ok (.iastore, 1) := by decide +kernel
theorem dX9_readsLine_101 : decode cX9_readsLine 101 = .ok (.aload_n 0, 1) := by decide +kernel
theorem dX9_readsLine_102 : decode cX9_readsLine 102 = .ok (.getfield 31, 3) := by decide +kernel
theorem dX9_readsLine_105 : decode cX9_readsLine 105 = .ok (.iload_n 1, 1) := by decide +kernel
theorem dX9_readsLine_106 : decode cX9_readsLine 106 = .ok (.aload_n 0, 1) := by decide +kernel
theorem dX9_readsLine_107 : decode cX9_readsLine 107 = .ok (.getfield 197, 3) := by decide +kernel
theorem dX9_readsLine_110 : decode cX9_readsLine 110 = .ok (.iastore, 1) := by decide +kernel
theorem dX9_readsLine_111 : decode cX9_readsLine 111 = .ok (.aload_n 0, 1) := by decide +kernel
theorem dX9_readsLine_112 : decode cX9_readsLine 112 = .ok (.ldc2_w 230, 3) := by decide +kernel
theorem dX9_readsLine_115 : decode cX9_readsLine 115 = .ok (.iconst 4, 1) := by decide +kernel
theorem dX9_readsLine_116 : decode cX9_readsLine 116 = .ok (.invokevirtual 232, 3) := by decide +kernel
theorem dX9_readsLine_119 : decode cX9_readsLine 119 = .ok (.istore_n 3, 1) := by decide +kernel
theorem dX9_readsLine_120 : decode cX9_readsLine 120 = .ok (.iload_n 3, 1) := by decide +kernel
theorem dX9_readsLine_121 : decode cX9_readsLine 121 = .ok (.ifCond .eq 43, 3) := by decide +kernel
theorem dX9_readsLine_124 : decode cX9_readsLine 124 = .ok (.aload_n 0, 1) := by decide +kernel
theorem dX9_readsLine_125 : decode cX9_readsLine 125 = .ok (.iload_n 1, 1) := by decide +kernel
theorem dX9_readsLine_126 : decode cX9_readsLine 126 = .ok (.invokevirtual 235, 3) := by decide +kernel
theorem dX9_readsLine_129 : decode cX9_readsLine 129 = .ok (.ifCond .ne 5, 3) := by decide +kernel
theorem dX9_readsLine_132 : decode cX9_readsLine 132 = .ok (.iconst 0, 1) := by decide +kernel
theorem dX9_readsLine_133 : decode cX9_readsLine 133 = .ok (.ireturn, 1) := by decide +kernel
theorem dX9_readsLine_134 : decode cX9_readsLine 134 = .ok (.aload_n 0, 1) := by decide +kernel
theorem dX9_readsLine_135 : decode cX9_readsLine 135 = .ok (.getfield 34, 3) := by decide +kernel
theorem dX9_readsLine_138 : decode cX9_readsLine 138 = .ok (.iload_n 1, 1) := by decide +kernel
theorem dX9_readsLine_139 : decode cX9_readsLine 139 = .ok (.iaload, 1) := by decide +kernel
theorem dX9_readsLine_140 : decode cX9_readsLine 140 = .ok (.iconst 4, 1) := by decide +kernel
theorem dX9_readsLine_141 : decode cX9_readsLine 141 = .ok (.if_icmp .ge 18, 3) := by decide +kernel
theorem dX9_readsLine_144 : decode cX9_readsLine 144 = .ok (.aload_n 0, 1) := by decide +kernel
theorem dX9_readsLine_145 : decode cX9_readsLine 145 = .ok (.ldc2_w 238, 3) := by decide +kernel
theorem dX9_readsLine_148 : decode cX9_readsLine 148 = .ok (.iconst 3, 1) := by decide +kernel
theorem dX9_readsLine_149 : decode cX9_readsLine 149 = .ok (.invokevirtual 232, 3) := by decide +kernel
theorem dX9_readsLine_152 : decode cX9_readsLine 152 = .ok (.ifCond .eq 7, 3) := by decide +kernel
theorem dX9_readsLine_155 : decode cX9_readsLine 155 = .ok (.iconst 1, 1) := by decide +kernel
theorem dX9_readsLine_156 : decode cX9_readsLine 156 = .ok (.goto 4, 3) := by decide +kernel
theorem dX9_readsLine_159 : decode cX9_readsLine 159 = .ok (.iconst 0, 1) := by decide +kernel
theorem dX9_readsLine_160 : decode cX9_readsLine 160 = .ok (.istore_n 3, 1) := by decide +kernel
theorem dX9_readsLine_161 : decode cX9_readsLine 161 = .ok (.goto (-41), 3) := by decide +kernel
theorem dX9_readsLine_164 : decode cX9_readsLine 164 = .ok (.aload_n 0, 1) := by decide +kernel
theorem dX9_readsLine_165 : decode cX9_readsLine 165 = .ok (.getfield 25, 3) := by decide +kernel
theorem dX9_readsLine_168 : decode cX9_readsLine 168 = .ok (.iconst 4, 1) := by decide +kernel
theorem dX9_readsLine_169 : decode cX9_readsLine 169 = .ok (.dup2, 1) := by decide +kernel
theorem dX9_readsLine_170 : decode cX9_readsLine 170 = .ok (.iaload, 1) := by decide +kernel
theorem dX9_readsLine_171 : decode cX9_readsLine 171 = .ok (.iconst 1, 1) := by decide +kernel
theorem dX9_readsLine_172 : decode cX9_readsLine 172 = .ok (.iadd, 1) := by decide +kernel
theorem dX9_readsLine_173 : decode cX9_readsLine 173 = .ok (.iastore, 1) := by decide +kernel
theorem dX9_readsLine_174 : decode cX9_readsLine 174 = .ok (.iconst 1, 1) := by decide +kernel
theorem dX9_readsLine_175 : decode cX9_readsLine 175 = .ok (.ireturn, 1) := by decide +kernel
theorem dX9_fault_0 : decode cX9_fault 0 = .ok (.aload_n 0, 1) := by decide +kernel
theorem dX9_fault_1 : decode cX9_fault 1 = .ok (.iconst 0, 1) := by decide +kernel
theorem dX9_fault_2 : decode cX9_fault 2 = .ok (.putfield 175, 3) := by decide +kernel
theorem dX9_fault_5 : decode cX9_fault 5 = .ok (.aload_n 0, 1) := by decide +kernel
theorem dX9_fault_6 : decode cX9_fault 6 = .ok (.getfield 25, 3) := by decide +kernel
theorem dX9_fault_9 : decode cX9_fault 9 = .ok (.iconst 4, 1) := by decide +kernel
theorem dX9_fault_10 : decode cX9_fault 10 = .ok (.iconst 0, 1) := by decide +kernel
theorem dX9_fault_11 : decode cX9_fault 11 = .ok (.iastore, 1) := by decide +kernel
theorem dX9_fault_12 : decode cX9_fault 12 = .ok (.aload_n 0, 1) := by decide +kernel
theorem dX9_fault_13 : decode cX9_fault 13 = .ok (.invokevirtual 194, 3) := by decide +kernel
theorem dX9_fault_16 : decode cX9_fault 16 = .ok (.aload_n 0, 1) := by decide +kernel
theorem dX9_fault_17 : decode cX9_fault 17 = .ok (.invokevirtual 240, 3) := by decide +kernel
theorem dX9_fault_20 : decode cX9_fault 20 = .ok (.ifCond .ne 8, 3) := by decide +kernel
theorem dX9_fault_23 : decode cX9_fault 23 = .ok (.aload_n 0, 1) := by decide +kernel
theorem dX9_fault_24 : decode cX9_fault 24 = .ok (.getfield 178, 3) := by decide +kernel
theorem dX9_fault_27 : decode cX9_fault 27 = .ok (.ireturn, 1) := by decide +kernel
theorem dX9_fault_28 : decode cX9_fault 28 = .ok (.aload_n 0, 1) := by decide +kernel
theorem dX9_fault_29 : decode cX9_fault 29 = .ok (.getfield 178, 3) := by decide +kernel
theorem dX9_fault_32 : decode cX9_fault 32 = .ok (.aload_n 0, 1) := by decide +kernel
theorem dX9_fault_33 : decode cX9_fault 33 = .ok (.getfield 170, 3) := by decide +kernel
theorem dX9_fault_36 : decode cX9_fault 36 = .ok (.if_icmp .ge 72, 3) := by decide +kernel
theorem dX9_fault_39 : decode cX9_fault 39 = .ok (.aload_n 0, 1) := by decide +kernel
theorem dX9_fault_40 : decode cX9_fault 40 = .ok (.getfield 185, 3) := by decide +kernel
theorem dX9_fault_43 : decode cX9_fault 43 = .ok (.aload_n 0, 1) := by decide +kernel
theorem dX9_fault_44 : decode cX9_fault 44 = .ok (.getfield 178, 3) := by decide +kernel
theorem dX9_fault_47 : decode cX9_fault 47 = .ok (.isub, 1) := by decide +kernel
theorem dX9_fault_48 : decode cX9_fault 48 = .ok (.iconst 1, 1) := by decide +kernel
theorem dX9_fault_49 : decode cX9_fault 49 = .ok (.if_icmp .ne 32, 3) := by decide +kernel
theorem dX9_fault_52 : decode cX9_fault 52 = .ok (.aload_n 0, 1) := by decide +kernel
theorem dX9_fault_53 : decode cX9_fault 53 = .ok (.getfield 22, 3) := by decide +kernel
theorem dX9_fault_56 : decode cX9_fault 56 = .ok (.aload_n 0, 1) := by decide +kernel
theorem dX9_fault_57 : decode cX9_fault 57 = .ok (.getfield 178, 3) := by decide +kernel
theorem dX9_fault_60 : decode cX9_fault 60 = .ok (.iaload, 1) := by decide +kernel
theorem dX9_fault_61 : decode cX9_fault 61 = .ok (.bipush 59, 2) := by decide +kernel
theorem dX9_fault_63 : decode cX9_fault 63 = .ok (.if_icmp .ne 18, 3) := by decide +kernel
theorem dX9_fault_66 : decode cX9_fault 66 = .ok (.aload_n 0, 1) := by decide +kernel
theorem dX9_fault_67 : decode cX9_fault 67 = .ok (.getfield 25, 3) := by decide +kernel
theorem dX9_fault_70 : decode cX9_fault 70 = .ok (.iconst 4, 1) := by decide +kernel
theorem dX9_fault_71 : decode cX9_fault 71 = .ok (.iaload, 1) := by decide +kernel
theorem dX9_fault_72 : decode cX9_fault 72 = .ok (.bipush 6, 2) := by decide +kernel
theorem dX9_fault_74 : decode cX9_fault 74 = .ok (.if_icmp .ge 7, 3) := by decide +kernel
theorem dX9_fault_77 : decode cX9_fault 77 = .ok (.iconst 1, 1) := by decide +kernel
theorem dX9_fault_78 : decode cX9_fault 78 = .ok (.goto 4, 3) := by decide +kernel
theorem dX9_fault_81 : decode cX9_fault 81 = .ok (.iconst 0, 1) := by decide +kernel
theorem dX9_fault_82 : decode cX9_fault 82 = .ok (.istore_n 1, 1) := by decide +kernel
theorem dX9_fault_83 : decode cX9_fault 83 = .ok (.iload_n 1, 1) := by decide +kernel
theorem dX9_fault_84 : decode cX9_fault 84 = .ok (.ifCond .eq 12, 3) := by decide +kernel
theorem dX9_fault_87 : decode cX9_fault 87 = .ok (.aload_n 0, 1) := by decide +kernel
theorem dX9_fault_88 : decode cX9_fault 88 = .ok (.invokevirtual 194, 3) := by decide +kernel
theorem dX9_fault_91 : decode cX9_fault 91 = .ok (.aload_n 0, 1) := by decide +kernel
theorem dX9_fault_92 : decode cX9_fault 92 = .ok (.invokevirtual 240, 3) := by decide +kernel
theorem dX9_fault_95 : decode cX9_fault 95 = .ok (.istore_n 1, 1) := by decide +kernel
theorem dX9_fault_96 : decode cX9_fault 96 = .ok (.iload_n 1, 1) := by decide +kernel
theorem dX9_fault_97 : decode cX9_fault 97 = .ok (.ifCond .ne 8, 3) := by decide +kernel
theorem dX9_fault_100 : decode cX9_fault 100 = .ok (.aload_n 0, 1) := by decide +kernel
theorem dX9_fault_101 : decode cX9_fault 101 = .ok (.getfield 178, 3) := by decide +kernel
theorem dX9_fault_104 : decode cX9_fault 104 = .ok (.ireturn, 1) := by decide +kernel
theorem dX9_fault_105 : decode cX9_fault 105 = .ok (.goto (-77), 3) := by decide +kernel
theorem dX9_fault_108 : decode cX9_fault 108 = .ok (.iconst (-1), 1) := by decide +kernel
theorem dX9_fault_109 : decode cX9_fault 109 = .ok (.ireturn, 1) := by decide +kernel
theorem dX9_table_0 : decode cX9_table 0 = .ok (.iload_n 1, 1) := by decide +kernel
theorem dX9_table_1 : decode cX9_table 1 = .ok (.invokestatic 160, 3) := by decide +kernel
theorem dX9_table_4 : decode cX9_table 4 = .ok (.ifCond .ne 6, 3) := by decide +kernel
theorem dX9_table_7 : decode cX9_table 7 = .ok (.bipush (-2), 2) := by decide +kernel
theorem dX9_table_9 : decode cX9_table 9 = .ok (.ireturn, 1) := by decide +kernel
theorem dX9_table_10 : decode cX9_table 10 = .ok (.aload_n 0, 1) := by decide +kernel
theorem dX9_table_11 : decode cX9_table 11 = .ok (.invokevirtual 243, 3) := by decide +kernel
theorem dX9_table_14 : decode cX9_table 14 = .ok (.iconst (-1), 1) := by decide +kernel
theorem dX9_table_15 : decode cX9_table 15 = .ok (.if_icmp .eq 6, 3) := by decide +kernel
theorem dX9_table_18 : decode cX9_table 18 = .ok (.bipush (-4), 2) := by decide +kernel
theorem dX9_table_20 : decode cX9_table 20 = .ok (.ireturn, 1) := by decide +kernel
theorem dX9_table_21 : decode cX9_table 21 = .ok (.aload_n 0, 1) := by decide +kernel
theorem dX9_table_22 : decode cX9_table 22 = .ok (.getfield 25, 3) := by decide +kernel
theorem dX9_table_25 : decode cX9_table 25 = .ok (.iload_n 1, 1) := by decide +kernel
theorem dX9_table_26 : decode cX9_table 26 = .ok (.aload_n 0, 1) := by decide +kernel
theorem dX9_table_27 : decode cX9_table 27 = .ok (.getfield 25, 3) := by decide +kernel
theorem dX9_table_30 : decode cX9_table 30 = .ok (.iconst 4, 1) := by decide +kernel
theorem dX9_table_31 : decode cX9_table 31 = .ok (.iaload, 1) := by decide +kernel
theorem dX9_table_32 : decode cX9_table 32 = .ok (.iastore, 1) := by decide +kernel
theorem dX9_table_33 : decode cX9_table 33 = .ok (.iconst 0, 1) := by decide +kernel
theorem dX9_table_34 : decode cX9_table 34 = .ok (.istore_n 2, 1) := by decide +kernel
theorem dX9_table_35 : decode cX9_table 35 = .ok (.iload_n 2, 1) := by decide +kernel
theorem dX9_table_36 : decode cX9_table 36 = .ok (.aload_n 0, 1) := by decide +kernel
theorem dX9_table_37 : decode cX9_table 37 = .ok (.getfield 25, 3) := by decide +kernel
theorem dX9_table_40 : decode cX9_table 40 = .ok (.iload_n 1, 1) := by decide +kernel
theorem dX9_table_41 : decode cX9_table 41 = .ok (.iaload, 1) := by decide +kernel
theorem dX9_table_42 : decode cX9_table 42 = .ok (.if_icmp .ge 166, 3) := by decide +kernel
theorem dX9_table_45 : decode cX9_table 45 = .ok (.aload_n 0, 1) := by decide +kernel
theorem dX9_table_46 : decode cX9_table 46 = .ok (.getfield 28, 3) := by decide +kernel
theorem dX9_table_49 : decode cX9_table 49 = .ok (.bipush 6, 2) := by decide +kernel
theorem dX9_table_51 : decode cX9_table 51 = .ok (.iload_n 1, 1) := by decide +kernel
theorem dX9_table_52 : decode cX9_table 52 = .ok (.imul, 1) := by decide +kernel
theorem dX9_table_53 : decode cX9_table 53 = .ok (.iload_n 2, 1) := by decide +kernel
theorem dX9_table_54 : decode cX9_table 54 = .ok (.iadd, 1) := by decide +kernel
theorem dX9_table_55 : decode cX9_table 55 = .ok (.aload_n 0, 1) := by decide +kernel
theorem dX9_table_56 : decode cX9_table 56 = .ok (.getfield 28, 3) := by decide +kernel
theorem dX9_table_59 : decode cX9_table 59 = .ok (.bipush 24, 2) := by decide +kernel
theorem dX9_table_61 : decode cX9_table 61 = .ok (.iload_n 2, 1) := by decide +kernel
theorem dX9_table_62 : decode cX9_table 62 = .ok (.iadd, 1) := by decide +kernel
theorem dX9_table_63 : decode cX9_table 63 = .ok (.iaload, 1) := by decide +kernel
theorem dX9_table_64 : decode cX9_table 64 = .ok (.iastore, 1) := by decide +kernel
theorem dX9_table_65 : decode cX9_table 65 = .ok (.aload_n 0, 1) := by decide +kernel
theorem dX9_table_66 : decode cX9_table 66 = .ok (.getfield 31, 3) := by decide +kernel
theorem dX9_table_69 : decode cX9_table 69 = .ok (.bipush 6, 2) := by decide +kernel
theorem dX9_table_71 : decode cX9_table 71 = .ok (.iload_n 1, 1) := by decide +kernel
theorem dX9_table_72 : decode cX9_table 72 = .ok (.imul, 1) := by decide +kernel
theorem dX9_table_73 : decode cX9_table 73 = .ok (.iload_n 2, 1) := by decide +kernel
theorem dX9_table_74 : decode cX9_table 74 = .ok (.iadd, 1) := by decide +kernel
theorem dX9_table_75 : decode cX9_table 75 = .ok (.aload_n 0, 1) := by decide +kernel
theorem dX9_table_76 : decode cX9_table 76 = .ok (.getfield 31, 3) := by decide +kernel
theorem dX9_table_79 : decode cX9_table 79 = .ok (.bipush 24, 2) := by decide +kernel
theorem dX9_table_81 : decode cX9_table 81 = .ok (.iload_n 2, 1) := by decide +kernel
theorem dX9_table_82 : decode cX9_table 82 = .ok (.iadd, 1) := by decide +kernel
theorem dX9_table_83 : decode cX9_table 83 = .ok (.iaload, 1) := by decide +kernel
theorem dX9_table_84 : decode cX9_table 84 = .ok (.iastore, 1) := by decide +kernel
theorem dX9_table_85 : decode cX9_table 85 = .ok (.aload_n 0, 1) := by decide +kernel
theorem dX9_table_86 : decode cX9_table 86 = .ok (.getfield 34, 3) := by decide +kernel
theorem dX9_table_89 : decode cX9_table 89 = .ok (.bipush 6, 2) := by decide +kernel
theorem dX9_table_91 : decode cX9_table 91 = .ok (.iload_n 1, 1) := by decide +kernel
theorem dX9_table_92 : decode cX9_table 92 = .ok (.imul, 1) := by decide +kernel
theorem dX9_table_93 : decode cX9_table 93 = .ok (.iload_n 2, 1) := by decide +kernel
theorem dX9_table_94 : decode cX9_table 94 = .ok (.iadd, 1) := by decide +kernel
theorem dX9_table_95 : decode cX9_table 95 = .ok (.aload_n 0, 1) := by decide +kernel
theorem dX9_table_96 : decode cX9_table 96 = .ok (.getfield 34, 3) := by decide +kernel
theorem dX9_table_99 : decode cX9_table 99 = .ok (.bipush 24, 2) := by decide +kernel
theorem dX9_table_101 : decode cX9_table 101 = .ok (.iload_n 2, 1) := by decide +kernel
theorem dX9_table_102 : decode cX9_table 102 = .ok (.iadd, 1) := by decide +kernel
theorem dX9_table_103 : decode cX9_table 103 = .ok (.iaload, 1) := by decide +kernel
theorem dX9_table_104 : decode cX9_table 104 = .ok (.iastore, 1) := by decide +kernel
theorem dX9_table_105 : decode cX9_table 105 = .ok (.iconst 0, 1) := by decide +kernel
theorem dX9_table_106 : decode cX9_table 106 = .ok (.istore_n 3, 1) := by decide +kernel
theorem dX9_table_107 : decode cX9_table 107 = .ok (.iload_n 3, 1) := by decide +kernel
theorem dX9_table_108 : decode cX9_table 108 = .ok (.iconst 4, 1) := by decide +kernel
theorem dX9_table_109 : decode cX9_table 109 = .ok (.if_icmp .ge 93, 3) := by decide +kernel
theorem dX9_table_112 : decode cX9_table 112 = .ok (.aload_n 0, 1) := by decide +kernel
theorem dX9_table_113 : decode cX9_table 113 = .ok (.getfield 37, 3) := by decide +kernel
theorem dX9_table_116 : decode cX9_table 116 = .ok (.bipush 24, 2) := by decide +kernel
theorem dX9_table_118 : decode cX9_table 118 = .ok (.iload_n 1, 1) := by decide +kernel
theorem dX9_table_119 : decode cX9_table 119 = .ok (.imul, 1) := by decide +kernel
theorem dX9_table_120 : decode cX9_table 120 = .ok (.iconst 4, 1) := by decide +kernel
theorem dX9_table_121 : decode cX9_table 121 = .ok (.iload_n 2, 1) := by decide +kernel
theorem dX9_table_122 : decode cX9_table 122 = .ok (.imul, 1) := by decide +kernel
theorem dX9_table_123 : decode cX9_table 123 = .ok (.iadd, 1) := by decide +kernel
theorem dX9_table_124 : decode cX9_table 124 = .ok (.iload_n 3, 1) := by decide +kernel
theorem dX9_table_125 : decode cX9_table 125 = .ok (.iadd, 1) := by decide +kernel
theorem dX9_table_126 : decode cX9_table 126 = .ok (.aload_n 0, 1) := by decide +kernel
theorem dX9_table_127 : decode cX9_table 127 = .ok (.getfield 37, 3) := by decide +kernel
theorem dX9_table_130 : decode cX9_table 130 = .ok (.bipush 96, 2) := by decide +kernel
theorem dX9_table_132 : decode cX9_table 132 = .ok (.iconst 4, 1) := by decide +kernel
theorem dX9_table_133 : decode cX9_table 133 = .ok (.iload_n 2, 1) := by decide +kernel
theorem dX9_table_134 : decode cX9_table 134 = .ok (.imul, 1) := by decide +kernel
theorem dX9_table_135 : decode cX9_table 135 = .ok (.iadd, 1) := by decide +kernel
theorem dX9_table_136 : decode cX9_table 136 = .ok (.iload_n 3, 1) := by decide +kernel
theorem dX9_table_137 : decode cX9_table 137 = .ok (.iadd, 1) := by decide +kernel
theorem dX9_table_138 : decode cX9_table 138 = .ok (.iaload, 1) := by decide +kernel
theorem dX9_table_139 : decode cX9_table 139 = .ok (.iastore, 1) := by decide +kernel
theorem dX9_table_140 : decode cX9_table 140 = .ok (.aload_n 0, 1) := by decide +kernel
theorem dX9_table_141 : decode cX9_table 141 = .ok (.getfield 40, 3) := by decide +kernel
theorem dX9_table_144 : decode cX9_table 144 = .ok (.bipush 24, 2) := by decide +kernel
theorem dX9_table_146 : decode cX9_table 146 = .ok (.iload_n 1, 1) := by decide +kernel
theorem dX9_table_147 : decode cX9_table 147 = .ok (.imul, 1) := by decide +kernel
theorem dX9_table_148 : decode cX9_table 148 = .ok (.iconst 4, 1) := by decide +kernel
theorem dX9_table_149 : decode cX9_table 149 = .ok (.iload_n 2, 1) := by decide +kernel
theorem dX9_table_150 : decode cX9_table 150 = .ok (.imul, 1) := by decide +kernel
theorem dX9_table_151 : decode cX9_table 151 = .ok (.iadd, 1) := by decide +kernel
theorem dX9_table_152 : decode cX9_table 152 = .ok (.iload_n 3, 1) := by decide +kernel
theorem dX9_table_153 : decode cX9_table 153 = .ok (.iadd, 1) := by decide +kernel
theorem dX9_table_154 : decode cX9_table 154 = .ok (.aload_n 0, 1) := by decide +kernel
theorem dX9_table_155 : decode cX9_table 155 = .ok (.getfield 40, 3) := by decide +kernel
theorem dX9_table_158 : decode cX9_table 158 = .ok (.bipush 96, 2) := by decide +kernel
theorem dX9_table_160 : decode cX9_table 160 = .ok (.iconst 4, 1) := by decide +kernel
theorem dX9_table_161 : decode cX9_table 161 = .ok (.iload_n 2, 1) := by decide +kernel
theorem dX9_table_162 : decode cX9_table 162 = .ok (.imul, 1) := by decide +kernel
theorem dX9_table_163 : decode cX9_table 163 = .ok (.iadd, 1) := by decide +kernel
theorem dX9_table_164 : decode cX9_table 164 = .ok (.iload_n 3, 1) := by decide +kernel
theorem dX9_table_165 : decode cX9_table 165 = .ok (.iadd, 1) := by decide +kernel
theorem dX9_table_166 : decode cX9_table 166 = .ok (.iaload, 1) := by decide +kernel
theorem dX9_table_167 : decode cX9_table 167 = .ok (.iastore, 1) := by decide +kernel
theorem dX9_table_168 : decode cX9_table 168 = .ok (.aload_n 0, 1) := by decide +kernel
theorem dX9_table_169 : decode cX9_table 169 = .ok (.getfield 43, 3) := by decide +kernel
theorem dX9_table_172 : decode cX9_table 172 = .ok (.bipush 24, 2) := by decide +kernel
theorem dX9_table_174 : decode cX9_table 174 = .ok (.iload_n 1, 1) := by decide +kernel
theorem dX9_table_175 : decode cX9_table 175 = .ok (.imul, 1) := by decide +kernel
theorem dX9_table_176 : decode cX9_table 176 = .ok (.iconst 4, 1) := by decide +kernel
theorem dX9_table_177 : decode cX9_table 177 = .ok (.iload_n 2, 1) := by decide +kernel
theorem dX9_table_178 : decode cX9_table 178 = .ok (.imul, 1) := by decide +kernel
theorem dX9_table_179 : decode cX9_table 179 = .ok (.iadd, 1) := by decide +kernel
theorem dX9_table_180 : decode cX9_table 180 = .ok (.iload_n 3, 1) := by decide +kernel
theorem dX9_table_181 : decode cX9_table 181 = .ok (.iadd, 1) := by decide +kernel
theorem dX9_table_182 : decode cX9_table 182 = .ok (.aload_n 0, 1) := by decide +kernel
theorem dX9_table_183 : decode cX9_table 183 = .ok (.getfield 43, 3) := by decide +kernel
theorem dX9_table_186 : decode cX9_table 186 = .ok (.bipush 96, 2) := by decide +kernel
theorem dX9_table_188 : decode cX9_table 188 = .ok (.iconst 4, 1) := by decide +kernel
theorem dX9_table_189 : decode cX9_table 189 = .ok (.iload_n 2, 1) := by decide +kernel
theorem dX9_table_190 : decode cX9_table 190 = .ok (.imul, 1) := by decide +kernel
theorem dX9_table_191 : decode cX9_table 191 = .ok (.iadd, 1) := by decide +kernel
theorem dX9_table_192 : decode cX9_table 192 = .ok (.iload_n 3, 1) := by decide +kernel
theorem dX9_table_193 : decode cX9_table 193 = .ok (.iadd, 1) := by decide +kernel
theorem dX9_table_194 : decode cX9_table 194 = .ok (.iaload, 1) := by decide +kernel
theorem dX9_table_195 : decode cX9_table 195 = .ok (.iastore, 1) := by decide +kernel
theorem dX9_table_196 : decode cX9_table 196 = .ok (.iinc 3 1, 3) := by decide +kernel
theorem dX9_table_199 : decode cX9_table 199 = .ok (.goto (-92), 3) := by decide +kernel
theorem dX9_table_202 : decode cX9_table 202 = .ok (.iinc 2 1, 3) := by decide +kernel
theorem dX9_table_205 : decode cX9_table 205 = .ok (.goto (-170), 3) := by decide +kernel
theorem dX9_table_208 : decode cX9_table 208 = .ok (.aload_n 0, 1) := by decide +kernel
theorem dX9_table_209 : decode cX9_table 209 = .ok (.iconst 0, 1) := by decide +kernel
theorem dX9_table_210 : decode cX9_table 210 = .ok (.putfield 170, 3) := by decide +kernel
theorem dX9_table_213 : decode cX9_table 213 = .ok (.aload_n 0, 1) := by decide +kernel
theorem dX9_table_214 : decode cX9_table 214 = .ok (.getfield 25, 3) := by decide +kernel
theorem dX9_table_217 : decode cX9_table 217 = .ok (.iload_n 1, 1) := by decide +kernel
theorem dX9_table_218 : decode cX9_table 218 = .ok (.iaload, 1) := by decide +kernel
theorem dX9_table_219 : decode cX9_table 219 = .ok (.ireturn, 1) := by decide +kernel
theorem dX9_row_0 : decode cX9_row 0 = .ok (.iload_n 2, 1) := by decide +kernel
theorem dX9_row_1 : decode cX9_row 1 = .ok (.i2l, 1) := by decide +kernel
theorem dX9_row_2 : decode cX9_row 2 = .ok (.lconst 1, 1) := by decide +kernel
theorem dX9_row_3 : decode cX9_row 3 = .ok (.ldc2_w 246, 3) := by decide +kernel
theorem dX9_row_6 : decode cX9_row 6 = .ok (.invokestatic 154, 3) := by decide +kernel
theorem dX9_row_9 : decode cX9_row 9 = .ok (.ifCond .ne 6, 3) := by decide +kernel
theorem dX9_row_12 : decode cX9_row 12 = .ok (.bipush (-3), 2) := by decide +kernel
theorem dX9_row_14 : decode cX9_row 14 = .ok (.ireturn, 1) := by decide +kernel
theorem dX9_row_15 : decode cX9_row 15 = .ok (.aload_n 0, 1) := by decide +kernel
theorem dX9_row_16 : decode cX9_row 16 = .ok (.iload_n 2, 1) := by decide +kernel
theorem dX9_row_17 : decode cX9_row 17 = .ok (.putfield 46, 3) := by decide +kernel
theorem dX9_row_20 : decode cX9_row 20 = .ok (.iconst 0, 1) := by decide +kernel
theorem dX9_row_21 : decode cX9_row 21 = .ok (.istore_n 3, 1) := by decide +kernel
theorem dX9_row_22 : decode cX9_row 22 = .ok (.iload_n 3, 1) := by decide +kernel
theorem dX9_row_23 : decode cX9_row 23 = .ok (.iload_n 2, 1) := by decide +kernel
theorem dX9_row_24 : decode cX9_row 24 = .ok (.if_icmp .ge 22, 3) := by decide +kernel
theorem dX9_row_27 : decode cX9_row 27 = .ok (.aload_n 0, 1) := by decide +kernel
theorem dX9_row_28 : decode cX9_row 28 = .ok (.getfield 50, 3) := by decide +kernel
theorem dX9_row_31 : decode cX9_row 31 = .ok (.iload_n 3, 1) := by decide +kernel
theorem dX9_row_32 : decode cX9_row 32 = .ok (.iload_n 1, 1) := by decide +kernel
theorem dX9_row_33 : decode cX9_row 33 = .ok (.iconst 2, 1) := by decide +kernel
theorem dX9_row_34 : decode cX9_row 34 = .ok (.iload_n 3, 1) := by decide +kernel
theorem dX9_row_35 : decode cX9_row 35 = .ok (.imul, 1) := by decide +kernel
theorem dX9_row_36 : decode cX9_row 36 = .ok (.ishr, 1) := by decide +kernel
theorem dX9_row_37 : decode cX9_row 37 = .ok (.iconst 3, 1) := by decide +kernel
theorem dX9_row_38 : decode cX9_row 38 = .ok (.iand, 1) := by decide +kernel
theorem dX9_row_39 : decode cX9_row 39 = .ok (.iastore, 1) := by decide +kernel
theorem dX9_row_40 : decode cX9_row 40 = .ok (.iinc 3 1, 3) := by decide +kernel
theorem dX9_row_43 : decode cX9_row 43 = .ok (.goto (-21), 3) := by decide +kernel
theorem dX9_row_46 : decode cX9_row 46 = .ok (.iconst 1, 1) := by decide +kernel
theorem dX9_row_47 : decode cX9_row 47 = .ok (.ireturn, 1) := by decide +kernel
theorem dX9_set_0 : decode cX9_set 0 = .ok (.iload_n 1, 1) := by decide +kernel
theorem dX9_set_1 : decode cX9_set 1 = .ok (.i2l, 1) := by decide +kernel
theorem dX9_set_2 : decode cX9_set 2 = .ok (.lconst 0, 1) := by decide +kernel
theorem dX9_set_3 : decode cX9_set 3 = .ok (.ldc2_w 248, 3) := by decide +kernel
theorem dX9_set_6 : decode cX9_set 6 = .ok (.invokestatic 154, 3) := by decide +kernel
theorem dX9_set_9 : decode cX9_set 9 = .ok (.ifCond .eq 55, 3) := by decide +kernel
theorem dX9_set_12 : decode cX9_set 12 = .ok (.iload_n 2, 1) := by decide +kernel
theorem dX9_set_13 : decode cX9_set 13 = .ok (.i2l, 1) := by decide +kernel
theorem dX9_set_14 : decode cX9_set 14 = .ok (.iload_n 1, 1) := by decide +kernel
theorem dX9_set_15 : decode cX9_set 15 = .ok (.ifCond .ne 7, 3) := by decide +kernel
theorem dX9_set_18 : decode cX9_set 18 = .ok (.lconst 1, 1) := by decide +kernel
theorem dX9_set_19 : decode cX9_set 19 = .ok (.goto 4, 3) := by decide +kernel
theorem dX9_set_22 : decode cX9_set 22 = .ok (.lconst 0, 1) := by decide +kernel
theorem dX9_set_23 : decode cX9_set 23 = .ok (.iload_n 1, 1) := by decide +kernel
theorem dX9_set_24 : decode cX9_set 24 = .ok (.ifCond .ne 9, 3) := by decide +kernel
theorem dX9_set_27 : decode cX9_set 27 = .ok (.ldc2_w 250, 3) := by decide +kernel
theorem dX9_set_30 : decode cX9_set 30 = .ok (.goto 28, 3) := by decide +kernel
theorem dX9_set_33 : decode cX9_set 33 = .ok (.iload_n 1, 1) := by decide +kernel
theorem dX9_set_34 : decode cX9_set 34 = .ok (.iconst 1, 1) := by decide +kernel
theorem dX9_set_35 : decode cX9_set 35 = .ok (.if_icmp .ne 9, 3) := by decide +kernel
theorem dX9_set_38 : decode cX9_set 38 = .ok (.ldc2_w 164, 3) := by decide +kernel
theorem dX9_set_41 : decode cX9_set 41 = .ok (.goto 17, 3) := by decide +kernel
theorem dX9_set_44 : decode cX9_set 44 = .ok (.iload_n 1, 1) := by decide +kernel
theorem dX9_set_45 : decode cX9_set 45 = .ok (.iconst 2, 1) := by decide +kernel
theorem dX9_set_46 : decode cX9_set 46 = .ok (.if_icmp .ne 9, 3) := by decide +kernel
theorem dX9_set_49 : decode cX9_set 49 = .ok (.ldc2_w 248, 3) := by decide +kernel
theorem dX9_set_52 : decode cX9_set 52 = .ok (.goto 6, 3) := by decide +kernel
theorem dX9_set_55 : decode cX9_set 55 = .ok (.ldc2_w 166, 3) := by decide +kernel
theorem dX9_set_58 : decode cX9_set 58 = .ok (.invokestatic 154, 3) := by decide +kernel
theorem dX9_set_61 : decode cX9_set 61 = .ok (.ifCond .ne 6, 3) := by decide +kernel
theorem dX9_set_64 : decode cX9_set 64 = .ok (.bipush (-3), 2) := by decide +kernel
theorem dX9_set_66 : decode cX9_set 66 = .ok (.ireturn, 1) := by decide +kernel
theorem dX9_set_67 : decode cX9_set 67 = .ok (.aload_n 0, 1) := by decide +kernel
theorem dX9_set_68 : decode cX9_set 68 = .ok (.getfield 53, 3) := by decide +kernel
theorem dX9_set_71 : decode cX9_set 71 = .ok (.iload_n 1, 1) := by decide +kernel
theorem dX9_set_72 : decode cX9_set 72 = .ok (.iaload, 1) := by decide +kernel
theorem dX9_set_73 : decode cX9_set 73 = .ok (.istore_n 3, 1) := by decide +kernel
theorem dX9_set_74 : decode cX9_set 74 = .ok (.aload_n 0, 1) := by decide +kernel
theorem dX9_set_75 : decode cX9_set 75 = .ok (.getfield 53, 3) := by decide +kernel
theorem dX9_set_78 : decode cX9_set 78 = .ok (.iload_n 1, 1) := by decide +kernel
theorem dX9_set_79 : decode cX9_set 79 = .ok (.iload_n 2, 1) := by decide +kernel
theorem dX9_set_80 : decode cX9_set 80 = .ok (.iastore, 1) := by decide +kernel
theorem dX9_set_81 : decode cX9_set 81 = .ok (.iload_n 3, 1) := by decide +kernel
theorem dX9_set_82 : decode cX9_set 82 = .ok (.ireturn, 1) := by decide +kernel
theorem dX9_push_0 : decode cX9_push 0 = .ok (.iload_n 1, 1) := by decide +kernel
theorem dX9_push_1 : decode cX9_push 1 = .ok (.i2l, 1) := by decide +kernel
theorem dX9_push_2 : decode cX9_push 2 = .ok (.lconst 0, 1) := by decide +kernel
theorem dX9_push_3 : decode cX9_push 3 = .ok (.ldc2_w 188, 3) := by decide +kernel
theorem dX9_push_6 : decode cX9_push 6 = .ok (.invokestatic 154, 3) := by decide +kernel
theorem dX9_push_9 : decode cX9_push 9 = .ok (.ifCond .eq 17, 3) := by decide +kernel
theorem dX9_push_12 : decode cX9_push 12 = .ok (.iload_n 2, 1) := by decide +kernel
theorem dX9_push_13 : decode cX9_push 13 = .ok (.i2l, 1) := by decide +kernel
theorem dX9_push_14 : decode cX9_push 14 = .ok (.ldc2_w 252, 3) := by decide +kernel
theorem dX9_push_17 : decode cX9_push 17 = .ok (.ldc2_w 158, 3) := by decide +kernel
theorem dX9_push_20 : decode cX9_push 20 = .ok (.invokestatic 154, 3) := by decide +kernel
theorem dX9_push_23 : decode cX9_push 23 = .ok (.ifCond .ne 6, 3) := by decide +kernel
theorem dX9_push_26 : decode cX9_push 26 = .ok (.bipush (-3), 2) := by decide +kernel
theorem dX9_push_28 : decode cX9_push 28 = .ok (.ireturn, 1) := by decide +kernel
theorem dX9_push_29 : decode cX9_push 29 = .ok (.aload_n 0, 1) := by decide +kernel
theorem dX9_push_30 : decode cX9_push 30 = .ok (.getfield 254, 3) := by decide +kernel
theorem dX9_push_33 : decode cX9_push 33 = .ok (.bipush 8, 2) := by decide +kernel
theorem dX9_push_35 : decode cX9_push 35 = .ok (.if_icmp .ne 6, 3) := by decide +kernel
theorem dX9_push_38 : decode cX9_push 38 = .ok (.bipush (-5), 2) := by decide +kernel
theorem dX9_push_40 : decode cX9_push 40 = .ok (.ireturn, 1) := by decide +kernel
theorem dX9_push_41 : decode cX9_push 41 = .ok (.aload_n 0, 1) := by decide +kernel
theorem dX9_push_42 : decode cX9_push 42 = .ok (.getfield 56, 3) := by decide +kernel
theorem dX9_push_45 : decode cX9_push 45 = .ok (.aload_n 0, 1) := by decide +kernel
theorem dX9_push_46 : decode cX9_push 46 = .ok (.getfield 254, 3) := by decide +kernel
theorem dX9_push_49 : decode cX9_push 49 = .ok (.iload_n 1, 1) := by decide +kernel
theorem dX9_push_50 : decode cX9_push 50 = .ok (.iastore, 1) := by decide +kernel
theorem dX9_push_51 : decode cX9_push 51 = .ok (.aload_n 0, 1) := by decide +kernel
theorem dX9_push_52 : decode cX9_push 52 = .ok (.getfield 59, 3) := by decide +kernel
theorem dX9_push_55 : decode cX9_push 55 = .ok (.aload_n 0, 1) := by decide +kernel
theorem dX9_push_56 : decode cX9_push 56 = .ok (.getfield 254, 3) := by decide +kernel
theorem dX9_push_59 : decode cX9_push 59 = .ok (.iload_n 2, 1) := by decide +kernel
theorem dX9_push_60 : decode cX9_push 60 = .ok (.iastore, 1) := by decide +kernel
theorem dX9_push_61 : decode cX9_push 61 = .ok (.aload_n 0, 1) := by decide +kernel
theorem dX9_push_62 : decode cX9_push 62 = .ok (.dup, 1) := by decide +kernel
theorem dX9_push_63 : decode cX9_push 63 = .ok (.getfield 254, 3) := by decide +kernel
theorem dX9_push_66 : decode cX9_push 66 = .ok (.iconst 1, 1) := by decide +kernel
theorem dX9_push_67 : decode cX9_push 67 = .ok (.iadd, 1) := by decide +kernel
theorem dX9_push_68 : decode cX9_push 68 = .ok (.putfield 254, 3) := by decide +kernel
theorem dX9_push_71 : decode cX9_push 71 = .ok (.aload_n 0, 1) := by decide +kernel
theorem dX9_push_72 : decode cX9_push 72 = .ok (.getfield 254, 3) := by decide +kernel
theorem dX9_push_75 : decode cX9_push 75 = .ok (.ireturn, 1) := by decide +kernel
theorem dX9_calm_0 : decode cX9_calm 0 = .ok (.aload_n 0, 1) := by decide +kernel
theorem dX9_calm_1 : decode cX9_calm 1 = .ok (.getfield 254, 3) := by decide +kernel
theorem dX9_calm_4 : decode cX9_calm 4 = .ok (.istore_n 1, 1) := by decide +kernel
theorem dX9_calm_5 : decode cX9_calm 5 = .ok (.aload_n 0, 1) := by decide +kernel
theorem dX9_calm_6 : decode cX9_calm 6 = .ok (.iconst 0, 1) := by decide +kernel
theorem dX9_calm_7 : decode cX9_calm 7 = .ok (.putfield 254, 3) := by decide +kernel
theorem dX9_calm_10 : decode cX9_calm 10 = .ok (.iload_n 1, 1) := by decide +kernel
theorem dX9_calm_11 : decode cX9_calm 11 = .ok (.ireturn, 1) := by decide +kernel
theorem dX9_lose_0 : decode cX9_lose 0 = .ok (.aload_n 0, 1) := by decide +kernel
theorem dX9_lose_1 : decode cX9_lose 1 = .ok (.iload_n 1, 1) := by decide +kernel
theorem dX9_lose_2 : decode cX9_lose 2 = .ok (.putfield 257, 3) := by decide +kernel
theorem dX9_lose_5 : decode cX9_lose 5 = .ok (.iconst 1, 1) := by decide +kernel
theorem dX9_lose_6 : decode cX9_lose 6 = .ok (.ireturn, 1) := by decide +kernel
theorem dX9_hill_0 : decode cX9_hill 0 = .ok (.iload_n 1, 1) := by decide +kernel
theorem dX9_hill_1 : decode cX9_hill 1 = .ok (.i2l, 1) := by decide +kernel
theorem dX9_hill_2 : decode cX9_hill 2 = .ok (.lconst 0, 1) := by decide +kernel
theorem dX9_hill_3 : decode cX9_hill 3 = .ok (.ldc2_w 260, 3) := by decide +kernel
theorem dX9_hill_6 : decode cX9_hill 6 = .ok (.invokestatic 154, 3) := by decide +kernel
theorem dX9_hill_9 : decode cX9_hill 9 = .ok (.ifCond .eq 41, 3) := by decide +kernel
theorem dX9_hill_12 : decode cX9_hill 12 = .ok (.iload_n 2, 1) := by decide +kernel
theorem dX9_hill_13 : decode cX9_hill 13 = .ok (.i2l, 1) := by decide +kernel
theorem dX9_hill_14 : decode cX9_hill 14 = .ok (.iload_n 1, 1) := by decide +kernel
theorem dX9_hill_15 : decode cX9_hill 15 = .ok (.i2l, 1) := by decide +kernel
theorem dX9_hill_16 : decode cX9_hill 16 = .ok (.ldc2_w 260, 3) := by decide +kernel
theorem dX9_hill_19 : decode cX9_hill 19 = .ok (.invokestatic 154, 3) := by decide +kernel
theorem dX9_hill_22 : decode cX9_hill 22 = .ok (.ifCond .eq 28, 3) := by decide +kernel
theorem dX9_hill_25 : decode cX9_hill 25 = .ok (.iload_n 3, 1) := by decide +kernel
theorem dX9_hill_26 : decode cX9_hill 26 = .ok (.i2l, 1) := by decide +kernel
theorem dX9_hill_27 : decode cX9_hill 27 = .ok (.lconst 0, 1) := by decide +kernel
theorem dX9_hill_28 : decode cX9_hill 28 = .ok (.ldc2_w 164, 3) := by decide +kernel
theorem dX9_hill_31 : decode cX9_hill 31 = .ok (.invokestatic 154, 3) := by decide +kernel
theorem dX9_hill_34 : decode cX9_hill 34 = .ok (.ifCond .eq 16, 3) := by decide +kernel
theorem dX9_hill_37 : decode cX9_hill 37 = .ok (.iload 4, 2) := by decide +kernel
theorem dX9_hill_39 : decode cX9_hill 39 = .ok (.i2l, 1) := by decide +kernel
theorem dX9_hill_40 : decode cX9_hill 40 = .ok (.lconst 0, 1) := by decide +kernel
theorem dX9_hill_41 : decode cX9_hill 41 = .ok (.ldc2_w 164, 3) := by decide +kernel
theorem dX9_hill_44 : decode cX9_hill 44 = .ok (.invokestatic 154, 3) := by decide +kernel
theorem dX9_hill_47 : decode cX9_hill 47 = .ok (.ifCond .ne 6, 3) := by decide +kernel
theorem dX9_hill_50 : decode cX9_hill 50 = .ok (.bipush (-3), 2) := by decide +kernel
theorem dX9_hill_52 : decode cX9_hill 52 = .ok (.ireturn, 1) := by decide +kernel
theorem dX9_hill_53 : decode cX9_hill 53 = .ok (.aload_n 0, 1) := by decide +kernel
theorem dX9_hill_54 : decode cX9_hill 54 = .ok (.getfield 262, 3) := by decide +kernel
theorem dX9_hill_57 : decode cX9_hill 57 = .ok (.iconst 2, 1) := by decide +kernel
theorem dX9_hill_58 : decode cX9_hill 58 = .ok (.if_icmp .ne 6, 3) := by decide +kernel
theorem dX9_hill_61 : decode cX9_hill 61 = .ok (.bipush (-5), 2) := by decide +kernel
theorem dX9_hill_63 : decode cX9_hill 63 = .ok (.ireturn, 1) := by decide +kernel
theorem dX9_hill_64 : decode cX9_hill 64 = .ok (.aload_n 0, 1) := by decide +kernel
theorem dX9_hill_65 : decode cX9_hill 65 = .ok (.getfield 62, 3) := by decide +kernel
theorem dX9_hill_68 : decode cX9_hill 68 = .ok (.aload_n 0, 1) := by decide +kernel
theorem dX9_hill_69 : decode cX9_hill 69 = .ok (.getfield 262, 3) := by decide +kernel
theorem dX9_hill_72 : decode cX9_hill 72 = .ok (.iload_n 1, 1) := by decide +kernel
theorem dX9_hill_73 : decode cX9_hill 73 = .ok (.iastore, 1) := by decide +kernel
theorem dX9_hill_74 : decode cX9_hill 74 = .ok (.aload_n 0, 1) := by decide +kernel
theorem dX9_hill_75 : decode cX9_hill 75 = .ok (.getfield 65, 3) := by decide +kernel
theorem dX9_hill_78 : decode cX9_hill 78 = .ok (.aload_n 0, 1) := by decide +kernel
theorem dX9_hill_79 : decode cX9_hill 79 = .ok (.getfield 262, 3) := by decide +kernel
theorem dX9_hill_82 : decode cX9_hill 82 = .ok (.iload_n 2, 1) := by decide +kernel
theorem dX9_hill_83 : decode cX9_hill 83 = .ok (.iastore, 1) := by decide +kernel
theorem dX9_hill_84 : decode cX9_hill 84 = .ok (.aload_n 0, 1) := by decide +kernel
theorem dX9_hill_85 : decode cX9_hill 85 = .ok (.getfield 68, 3) := by decide +kernel
theorem dX9_hill_88 : decode cX9_hill 88 = .ok (.aload_n 0, 1) := by decide +kernel
theorem dX9_hill_89 : decode cX9_hill 89 = .ok (.getfield 262, 3) := by decide +kernel
theorem dX9_hill_92 : decode cX9_hill 92 = .ok (.iload_n 3, 1) := by decide +kernel
theorem dX9_hill_93 : decode cX9_hill 93 = .ok (.iastore, 1) := by decide +kernel
theorem dX9_hill_94 : decode cX9_hill 94 = .ok (.aload_n 0, 1) := by decide +kernel
theorem dX9_hill_95 : decode cX9_hill 95 = .ok (.getfield 71, 3) := by decide +kernel
theorem dX9_hill_98 : decode cX9_hill 98 = .ok (.aload_n 0, 1) := by decide +kernel
theorem dX9_hill_99 : decode cX9_hill 99 = .ok (.getfield 262, 3) := by decide +kernel
theorem dX9_hill_102 : decode cX9_hill 102 = .ok (.iload 4, 2) := by decide +kernel
theorem dX9_hill_104 : decode cX9_hill 104 = .ok (.iastore, 1) := by decide +kernel
theorem dX9_hill_105 : decode cX9_hill 105 = .ok (.aload_n 0, 1) := by decide +kernel
theorem dX9_hill_106 : decode cX9_hill 106 = .ok (.dup, 1) := by decide +kernel
theorem dX9_hill_107 : decode cX9_hill 107 = .ok (.getfield 262, 3) := by decide +kernel
theorem dX9_hill_110 : decode cX9_hill 110 = .ok (.iconst 1, 1) := by decide +kernel
theorem dX9_hill_111 : decode cX9_hill 111 = .ok (.iadd, 1) := by decide +kernel
theorem dX9_hill_112 : decode cX9_hill 112 = .ok (.putfield 262, 3) := by decide +kernel
theorem dX9_hill_115 : decode cX9_hill 115 = .ok (.aload_n 0, 1) := by decide +kernel
theorem dX9_hill_116 : decode cX9_hill 116 = .ok (.getfield 262, 3) := by decide +kernel
theorem dX9_hill_119 : decode cX9_hill 119 = .ok (.ireturn, 1) := by decide +kernel
theorem dX9_isLorry_0 : decode cX9_isLorry 0 = .ok (.iload_n 1, 1) := by decide +kernel
theorem dX9_isLorry_1 : decode cX9_isLorry 1 = .ok (.i2l, 1) := by decide +kernel
theorem dX9_isLorry_2 : decode cX9_isLorry 2 = .ok (.lconst 0, 1) := by decide +kernel
theorem dX9_isLorry_3 : decode cX9_isLorry 3 = .ok (.aload_n 0, 1) := by decide +kernel
theorem dX9_isLorry_4 : decode cX9_isLorry 4 = .ok (.getfield 46, 3) := by decide +kernel
theorem dX9_isLorry_7 : decode cX9_isLorry 7 = .ok (.iconst 1, 1) := by decide +kernel
theorem dX9_isLorry_8 : decode cX9_isLorry 8 = .ok (.isub, 1) := by decide +kernel
theorem dX9_isLorry_9 : decode cX9_isLorry 9 = .ok (.i2l, 1) := by decide +kernel
theorem dX9_isLorry_10 : decode cX9_isLorry 10 = .ok (.invokestatic 154, 3) := by decide +kernel
theorem dX9_isLorry_13 : decode cX9_isLorry 13 = .ok (.ireturn, 1) := by decide +kernel
theorem dX9_stranger_0 : decode cX9_stranger 0 = .ok (.aload_n 0, 1) := by decide +kernel
theorem dX9_stranger_1 : decode cX9_stranger 1 = .ok (.iload_n 1, 1) := by decide +kernel
theorem dX9_stranger_2 : decode cX9_stranger 2 = .ok (.invokevirtual 265, 3) := by decide +kernel
theorem dX9_stranger_5 : decode cX9_stranger 5 = .ok (.ifCond .eq 7, 3) := by decide +kernel
theorem dX9_stranger_8 : decode cX9_stranger 8 = .ok (.iload_n 1, 1) := by decide +kernel
theorem dX9_stranger_9 : decode cX9_stranger 9 = .ok (.ifCond .ne 6, 3) := by decide +kernel
theorem dX9_stranger_12 : decode cX9_stranger 12 = .ok (.bipush (-2), 2) := by decide +kernel
theorem dX9_stranger_14 : decode cX9_stranger 14 = .ok (.ireturn, 1) := by decide +kernel
theorem dX9_stranger_15 : decode cX9_stranger 15 = .ok (.iload_n 2, 1) := by decide +kernel
theorem dX9_stranger_16 : decode cX9_stranger 16 = .ok (.i2l, 1) := by decide +kernel
theorem dX9_stranger_17 : decode cX9_stranger 17 = .ok (.lconst 0, 1) := by decide +kernel
theorem dX9_stranger_18 : decode cX9_stranger 18 = .ok (.ldc2_w 188, 3) := by decide +kernel
theorem dX9_stranger_21 : decode cX9_stranger 21 = .ok (.invokestatic 154, 3) := by decide +kernel
theorem dX9_stranger_24 : decode cX9_stranger 24 = .ok (.ifCond .eq 29, 3) := by decide +kernel
theorem dX9_stranger_27 : decode cX9_stranger 27 = .ok (.iload_n 3, 1) := by decide +kernel
theorem dX9_stranger_28 : decode cX9_stranger 28 = .ok (.i2l, 1) := by decide +kernel
theorem dX9_stranger_29 : decode cX9_stranger 29 = .ok (.iload_n 2, 1) := by decide +kernel
theorem dX9_stranger_30 : decode cX9_stranger 30 = .ok (.i2l, 1) := by decide +kernel
theorem dX9_stranger_31 : decode cX9_stranger 31 = .ok (.ldc2_w 188, 3) := by decide +kernel
theorem dX9_stranger_34 : decode cX9_stranger 34 = .ok (.invokestatic 154, 3) := by decide +kernel
theorem dX9_stranger_37 : decode cX9_stranger 37 = .ok (.ifCond .eq 16, 3) := by decide +kernel
theorem dX9_stranger_40 : decode cX9_stranger 40 = .ok (.iload 4, 2) := by decide +kernel
theorem dX9_stranger_42 : decode cX9_stranger 42 = .ok (.i2l, 1) := by decide +kernel
theorem dX9_stranger_43 : decode cX9_stranger 43 = .ok (.lconst 0, 1) := by decide +kernel
theorem dX9_stranger_44 : decode cX9_stranger 44 = .ok (.ldc2_w 164, 3) := by decide +kernel
theorem dX9_stranger_47 : decode cX9_stranger 47 = .ok (.invokestatic 154, 3) := by decide +kernel
theorem dX9_stranger_50 : decode cX9_stranger 50 = .ok (.ifCond .ne 6, 3) := by decide +kernel
theorem dX9_stranger_53 : decode cX9_stranger 53 = .ok (.bipush (-3), 2) := by decide +kernel
theorem dX9_stranger_55 : decode cX9_stranger 55 = .ok (.ireturn, 1) := by decide +kernel
theorem dX9_stranger_56 : decode cX9_stranger 56 = .ok (.aload_n 0, 1) := by decide +kernel
theorem dX9_stranger_57 : decode cX9_stranger 57 = .ok (.iload_n 1, 1) := by decide +kernel
theorem dX9_stranger_58 : decode cX9_stranger 58 = .ok (.putfield 268, 3) := by decide +kernel
theorem dX9_stranger_61 : decode cX9_stranger 61 = .ok (.aload_n 0, 1) := by decide +kernel
theorem dX9_stranger_62 : decode cX9_stranger 62 = .ok (.iload_n 2, 1) := by decide +kernel
theorem dX9_stranger_63 : decode cX9_stranger 63 = .ok (.putfield 271, 3) := by decide +kernel
theorem dX9_stranger_66 : decode cX9_stranger 66 = .ok (.aload_n 0, 1) := by decide +kernel
theorem dX9_stranger_67 : decode cX9_stranger 67 = .ok (.iload_n 3, 1) := by decide +kernel
theorem dX9_stranger_68 : decode cX9_stranger 68 = .ok (.putfield 274, 3) := by decide +kernel
theorem dX9_stranger_71 : decode cX9_stranger 71 = .ok (.aload_n 0, 1) := by decide +kernel
theorem dX9_stranger_72 : decode cX9_stranger 72 = .ok (.iload 4, 2) := by decide +kernel
theorem dX9_stranger_74 : decode cX9_stranger 74 = .ok (.putfield 277, 3) := by decide +kernel
theorem dX9_stranger_77 : decode cX9_stranger 77 = .ok (.iconst 1, 1) := by decide +kernel
theorem dX9_stranger_78 : decode cX9_stranger 78 = .ok (.ireturn, 1) := by decide +kernel
theorem dX9_pushedIn_0 : decode cX9_pushedIn 0 = .ok (.iconst 0, 1) := by decide +kernel
theorem dX9_pushedIn_1 : decode cX9_pushedIn 1 = .ok (.istore_n 2, 1) := by decide +kernel
theorem dX9_pushedIn_2 : decode cX9_pushedIn 2 = .ok (.iconst 0, 1) := by decide +kernel
theorem dX9_pushedIn_3 : decode cX9_pushedIn 3 = .ok (.istore_n 3, 1) := by decide +kernel
theorem dX9_pushedIn_4 : decode cX9_pushedIn 4 = .ok (.iload_n 3, 1) := by decide +kernel
theorem dX9_pushedIn_5 : decode cX9_pushedIn 5 = .ok (.aload_n 0, 1) := by decide +kernel
theorem dX9_pushedIn_6 : decode cX9_pushedIn 6 = .ok (.getfield 254, 3) := by decide +kernel
theorem dX9_pushedIn_9 : decode cX9_pushedIn 9 = .ok (.if_icmp .ge 30, 3) := by decide +kernel
theorem dX9_pushedIn_12 : decode cX9_pushedIn 12 = .ok (.aload_n 0, 1) := by decide +kernel
theorem dX9_pushedIn_13 : decode cX9_pushedIn 13 = .ok (.getfield 56, 3) := by decide +kernel
theorem dX9_pushedIn_16 : decode cX9_pushedIn 16 = .ok (.iload_n 3, 1) := by decide +kernel
theorem dX9_pushedIn_17 : decode cX9_pushedIn 17 = .ok (.iaload, 1) := by decide +kernel
theorem dX9_pushedIn_18 : decode cX9_pushedIn 18 = .ok (.iload_n 1, 1) := by decide +kernel
theorem dX9_pushedIn_19 : decode cX9_pushedIn 19 = .ok (.if_icmp .ne 12, 3) := by decide +kernel
theorem dX9_pushedIn_22 : decode cX9_pushedIn 22 = .ok (.aload_n 0, 1) := by decide +kernel
theorem dX9_pushedIn_23 : decode cX9_pushedIn 23 = .ok (.getfield 59, 3) := by decide +kernel
theorem dX9_pushedIn_26 : decode cX9_pushedIn 26 = .ok (.iload_n 3, 1) := by decide +kernel
theorem dX9_pushedIn_27 : decode cX9_pushedIn 27 = .ok (.iaload, 1) := by decide +kernel
theorem dX9_pushedIn_28 : decode cX9_pushedIn 28 = .ok (.goto 4, 3) := by decide +kernel
theorem dX9_pushedIn_31 : decode cX9_pushedIn 31 = .ok (.iload_n 2, 1) := by decide +kernel
theorem dX9_pushedIn_32 : decode cX9_pushedIn 32 = .ok (.istore_n 2, 1) := by decide +kernel
theorem dX9_pushedIn_33 : decode cX9_pushedIn 33 = .ok (.iinc 3 1, 3) := by decide +kernel
theorem dX9_pushedIn_36 : decode cX9_pushedIn 36 = .ok (.goto (-32), 3) := by decide +kernel
theorem dX9_pushedIn_39 : decode cX9_pushedIn 39 = .ok (.aload_n 0, 1) := by decide +kernel
theorem dX9_pushedIn_40 : decode cX9_pushedIn 40 = .ok (.getfield 50, 3) := by decide +kernel
theorem dX9_pushedIn_43 : decode cX9_pushedIn 43 = .ok (.iconst 0, 1) := by decide +kernel
theorem dX9_pushedIn_44 : decode cX9_pushedIn 44 = .ok (.iaload, 1) := by decide +kernel
theorem dX9_pushedIn_45 : decode cX9_pushedIn 45 = .ok (.istore_n 3, 1) := by decide +kernel
theorem dX9_pushedIn_46 : decode cX9_pushedIn 46 = .ok (.iload_n 2, 1) := by decide +kernel
theorem dX9_pushedIn_47 : decode cX9_pushedIn 47 = .ok (.ifCond .ge 18, 3) := by decide +kernel
theorem dX9_pushedIn_50 : decode cX9_pushedIn 50 = .ok (.iload_n 2, 1) := by decide +kernel
theorem dX9_pushedIn_51 : decode cX9_pushedIn 51 = .ok (.ineg, 1) := by decide +kernel
theorem dX9_pushedIn_52 : decode cX9_pushedIn 52 = .ok (.aload_n 0, 1) := by decide +kernel
theorem dX9_pushedIn_53 : decode cX9_pushedIn 53 = .ok (.getfield 13, 3) := by decide +kernel
theorem dX9_pushedIn_56 : decode cX9_pushedIn 56 = .ok (.iload_n 3, 1) := by decide +kernel
theorem dX9_pushedIn_57 : decode cX9_pushedIn 57 = .ok (.iaload, 1) := by decide +kernel
theorem dX9_pushedIn_58 : decode cX9_pushedIn 58 = .ok (.invokestatic 280, 3) := by decide +kernel
theorem dX9_pushedIn_61 : decode cX9_pushedIn 61 = .ok (.ineg, 1) := by decide +kernel
theorem dX9_pushedIn_62 : decode cX9_pushedIn 62 = .ok (.goto 13, 3) := by decide +kernel
theorem dX9_pushedIn_65 : decode cX9_pushedIn 65 = .ok (.iload_n 2, 1) := by decide +kernel
theorem dX9_pushedIn_66 : decode cX9_pushedIn 66 = .ok (.aload_n 0, 1) := by decide +kernel
theorem dX9_pushedIn_67 : decode cX9_pushedIn 67 = .ok (.getfield 16, 3) := by decide +kernel
theorem dX9_pushedIn_70 : decode cX9_pushedIn 70 = .ok (.iload_n 3, 1) := by decide +kernel
theorem dX9_pushedIn_71 : decode cX9_pushedIn 71 = .ok (.iaload, 1) := by decide +kernel
theorem dX9_pushedIn_72 : decode cX9_pushedIn 72 = .ok (.invokestatic 280, 3) := by decide +kernel
theorem dX9_pushedIn_75 : decode cX9_pushedIn 75 = .ok (.ireturn, 1) := by decide +kernel
theorem dX9_isStrange_0 : decode cX9_isStrange 0 = .ok (.aload_n 0, 1) := by decide +kernel
theorem dX9_isStrange_1 : decode cX9_isStrange 1 = .ok (.getfield 268, 3) := by decide +kernel
theorem dX9_isStrange_4 : decode cX9_isStrange 4 = .ok (.ifCond .le 33, 3) := by decide +kernel
theorem dX9_isStrange_7 : decode cX9_isStrange 7 = .ok (.aload_n 0, 1) := by decide +kernel
theorem dX9_isStrange_8 : decode cX9_isStrange 8 = .ok (.getfield 268, 3) := by decide +kernel
theorem dX9_isStrange_11 : decode cX9_isStrange 11 = .ok (.iload_n 1, 1) := by decide +kernel
theorem dX9_isStrange_12 : decode cX9_isStrange 12 = .ok (.if_icmp .ne 25, 3) := by decide +kernel
theorem dX9_isStrange_15 : decode cX9_isStrange 15 = .ok (.iload_n 2, 1) := by decide +kernel
theorem dX9_isStrange_16 : decode cX9_isStrange 16 = .ok (.i2l, 1) := by decide +kernel
theorem dX9_isStrange_17 : decode cX9_isStrange 17 = .ok (.aload_n 0, 1) := by decide +kernel
theorem dX9_isStrange_18 : decode cX9_isStrange 18 = .ok (.getfield 271, 3) := by decide +kernel
theorem dX9_isStrange_21 : decode cX9_isStrange 21 = .ok (.i2l, 1) := by decide +kernel
theorem dX9_isStrange_22 : decode cX9_isStrange 22 = .ok (.aload_n 0, 1) := by decide +kernel
theorem dX9_isStrange_23 : decode cX9_isStrange 23 = .ok (.getfield 274, 3) := by decide +kernel
theorem dX9_isStrange_26 : decode cX9_isStrange 26 = .ok (.i2l, 1) := by decide +kernel
theorem dX9_isStrange_27 : decode cX9_isStrange 27 = .ok (.invokestatic 154, 3) := by decide +kernel
theorem dX9_isStrange_30 : decode cX9_isStrange 30 = .ok (.ifCond .eq 7, 3) := by decide +kernel
theorem dX9_isStrange_33 : decode cX9_isStrange 33 = .ok (.iconst 1, 1) := by decide +kernel
theorem dX9_isStrange_34 : decode cX9_isStrange 34 = .ok (.goto 4, 3) := by decide +kernel
theorem dX9_isStrange_37 : decode cX9_isStrange 37 = .ok (.iconst 0, 1) := by decide +kernel
theorem dX9_isStrange_38 : decode cX9_isStrange 38 = .ok (.ireturn, 1) := by decide +kernel
theorem dX9_wishBy_0 : decode cX9_wishBy 0 = .ok (.bipush 6, 2) := by decide +kernel
theorem dX9_wishBy_2 : decode cX9_wishBy 2 = .ok (.iload_n 1, 1) := by decide +kernel
theorem dX9_wishBy_3 : decode cX9_wishBy 3 = .ok (.imul, 1) := by decide +kernel
theorem dX9_wishBy_4 : decode cX9_wishBy 4 = .ok (.istore 7, 2) := by decide +kernel
theorem dX9_wishBy_6 : decode cX9_wishBy 6 = .ok (.iload 7, 2) := by decide +kernel
theorem dX9_wishBy_8 : decode cX9_wishBy 8 = .ok (.bipush 6, 2) := by decide +kernel
theorem dX9_wishBy_10 : decode cX9_wishBy 10 = .ok (.iload_n 1, 1) := by decide +kernel
theorem dX9_wishBy_11 : decode cX9_wishBy 11 = .ok (.imul, 1) := by decide +kernel
theorem dX9_wishBy_12 : decode cX9_wishBy 12 = .ok (.aload_n 0, 1) := by decide +kernel
theorem dX9_wishBy_13 : decode cX9_wishBy 13 = .ok (.getfield 25, 3) := by decide +kernel
theorem dX9_wishBy_16 : decode cX9_wishBy 16 = .ok (.iload_n 1, 1) := by decide +kernel
theorem dX9_wishBy_17 : decode cX9_wishBy 17 = .ok (.iaload, 1) := by decide +kernel
theorem dX9_wishBy_18 : decode cX9_wishBy 18 = .ok (.iadd, 1) := by decide +kernel
theorem dX9_wishBy_19 : decode cX9_wishBy 19 = .ok (.if_icmp .ge 252, 3) := by decide +kernel
theorem dX9_wishBy_22 : decode cX9_wishBy 22 = .ok (.iconst 1, 1) := by decide +kernel
theorem dX9_wishBy_23 : decode cX9_wishBy 23 = .ok (.istore 8, 2) := by decide +kernel
theorem dX9_wishBy_25 : decode cX9_wishBy 25 = .ok (.iconst 4, 1) := by decide +kernel
theorem dX9_wishBy_26 : decode cX9_wishBy 26 = .ok (.iload 7, 2) := by decide +kernel
theorem dX9_wishBy_28 : decode cX9_wishBy 28 = .ok (.imul, 1) := by decide +kernel
theorem dX9_wishBy_29 : decode cX9_wishBy 29 = .ok (.istore 9, 2) := by decide +kernel
theorem dX9_wishBy_31 : decode cX9_wishBy 31 = .ok (.iload 9, 2) := by decide +kernel
theorem dX9_wishBy_33 : decode cX9_wishBy 33 = .ok (.iconst 4, 1) := by decide +kernel
theorem dX9_wishBy_34 : decode cX9_wishBy 34 = .ok (.iload 7, 2) := by decide +kernel
theorem dX9_wishBy_36 : decode cX9_wishBy 36 = .ok (.imul, 1) := by decide +kernel
theorem dX9_wishBy_37 : decode cX9_wishBy 37 = .ok (.aload_n 0, 1) := by decide +kernel
theorem dX9_wishBy_38 : decode cX9_wishBy 38 = .ok (.getfield 34, 3) := by decide +kernel
theorem dX9_wishBy_41 : decode cX9_wishBy 41 = .ok (.iload 7, 2) := by decide +kernel
theorem dX9_wishBy_43 : decode cX9_wishBy 43 = .ok (.iaload, 1) := by decide +kernel
theorem dX9_wishBy_44 : decode cX9_wishBy 44 = .ok (.iadd, 1) := by decide +kernel
theorem dX9_wishBy_45 : decode cX9_wishBy 45 = .ok (.if_icmp .ge 153, 3) := by decide +kernel
theorem dX9_wishBy_48 : decode cX9_wishBy 48 = .ok (.aload_n 0, 1) := by decide +kernel
theorem dX9_wishBy_49 : decode cX9_wishBy 49 = .ok (.getfield 37, 3) := by decide +kernel
theorem dX9_wishBy_52 : decode cX9_wishBy 52 = .ok (.iload 9, 2) := by decide +kernel
theorem dX9_wishBy_54 : decode cX9_wishBy 54 = .ok (.iaload, 1) := by decide +kernel
theorem dX9_wishBy_55 : decode cX9_wishBy 55 = .ok (.istore 10, 2) := by decide +kernel
theorem dX9_wishBy_57 : decode cX9_wishBy 57 = .ok (.iload 10, 2) := by decide +kernel
theorem dX9_wishBy_59 : decode cX9_wishBy 59 = .ok (.ifCond .ne 12, 3) := by decide +kernel
theorem dX9_wishBy_62 : decode cX9_wishBy 62 = .ok (.iload_n 2, 1) := by decide +kernel
theorem dX9_wishBy_63 : decode cX9_wishBy 63 = .ok (.bipush 99, 2) := by decide +kernel
theorem dX9_wishBy_65 : decode cX9_wishBy 65 = .ok (.invokestatic 280, 3) := by decide +kernel
theorem dX9_wishBy_68 : decode cX9_wishBy 68 = .ok (.goto 72, 3) := by decide +kernel
theorem dX9_wishBy_71 : decode cX9_wishBy 71 = .ok (.iload 10, 2) := by decide +kernel
theorem dX9_wishBy_73 : decode cX9_wishBy 73 = .ok (.iconst 1, 1) := by decide +kernel
theorem dX9_wishBy_74 : decode cX9_wishBy 74 = .ok (.if_icmp .ne 20, 3) := by decide +kernel
theorem dX9_wishBy_77 : decode cX9_wishBy 77 = .ok (.iload_n 3, 1) := by decide +kernel
theorem dX9_wishBy_78 : decode cX9_wishBy 78 = .ok (.iload 4, 2) := by decide +kernel
theorem dX9_wishBy_80 : decode cX9_wishBy 80 = .ok (.if_icmp .le 10, 3) := by decide +kernel
theorem dX9_wishBy_83 : decode cX9_wishBy 83 = .ok (.iload_n 3, 1) := by decide +kernel
theorem dX9_wishBy_84 : decode cX9_wishBy 84 = .ok (.iload 4, 2) := by decide +kernel
theorem dX9_wishBy_86 : decode cX9_wishBy 86 = .ok (.isub, 1) := by decide +kernel
theorem dX9_wishBy_87 : decode cX9_wishBy 87 = .ok (.goto 53, 3) := by decide +kernel
theorem dX9_wishBy_90 : decode cX9_wishBy 90 = .ok (.iconst 0, 1) := by decide +kernel
theorem dX9_wishBy_91 : decode cX9_wishBy 91 = .ok (.goto 49, 3) := by decide +kernel
theorem dX9_wishBy_94 : decode cX9_wishBy 94 = .ok (.iload 10, 2) := by decide +kernel
theorem dX9_wishBy_96 : decode cX9_wishBy 96 = .ok (.iconst 2, 1) := by decide +kernel
theorem dX9_wishBy_97 : decode cX9_wishBy 97 = .ok (.if_icmp .ne 20, 3) := by decide +kernel
theorem dX9_wishBy_100 : decode cX9_wishBy 100 = .ok (.iload 4, 2) := by decide +kernel
theorem dX9_wishBy_102 : decode cX9_wishBy 102 = .ok (.iload_n 3, 1) := by decide +kernel
theorem dX9_wishBy_103 : decode cX9_wishBy 103 = .ok (.if_icmp .le 10, 3) := by decide +kernel
theorem dX9_wishBy_106 : decode cX9_wishBy 106 = .ok (.iload 4, 2) := by decide +kernel
theorem dX9_wishBy_108 : decode cX9_wishBy 108 = .ok (.iload_n 3, 1) := by decide +kernel
theorem dX9_wishBy_109 : decode cX9_wishBy 109 = .ok (.isub, 1) := by decide +kernel
theorem dX9_wishBy_110 : decode cX9_wishBy 110 = .ok (.goto 30, 3) := by decide +kernel
theorem dX9_wishBy_113 : decode cX9_wishBy 113 = .ok (.iconst 0, 1) := by decide +kernel
theorem dX9_wishBy_114 : decode cX9_wishBy 114 = .ok (.goto 26, 3) := by decide +kernel
theorem dX9_wishBy_117 : decode cX9_wishBy 117 = .ok (.iload 10, 2) := by decide +kernel
theorem dX9_wishBy_119 : decode cX9_wishBy 119 = .ok (.iconst 3, 1) := by decide +kernel
theorem dX9_wishBy_120 : decode cX9_wishBy 120 = .ok (.if_icmp .ne 7, 3) := by decide +kernel
theorem dX9_wishBy_123 : decode cX9_wishBy 123 = .ok (.iload_n 3, 1) := by decide +kernel
theorem dX9_wishBy_124 : decode cX9_wishBy 124 = .ok (.goto 16, 3) := by decide +kernel
theorem dX9_wishBy_127 : decode cX9_wishBy 127 = .ok (.iload 10, 2) := by decide +kernel
theorem dX9_wishBy_129 : decode cX9_wishBy 129 = .ok (.iconst 4, 1) := by decide +kernel
theorem dX9_wishBy_130 : decode cX9_wishBy 130 = .ok (.if_icmp .ne 8, 3) := by decide +kernel
theorem dX9_wishBy_133 : decode cX9_wishBy 133 = .ok (.iload 5, 2) := by decide +kernel
theorem dX9_wishBy_135 : decode cX9_wishBy 135 = .ok (.goto 5, 3) := by decide +kernel
theorem dX9_wishBy_138 : decode cX9_wishBy 138 = .ok (.iload 6, 2) := by decide +kernel
theorem dX9_wishBy_140 : decode cX9_wishBy 140 = .ok (.istore 11, 2) := by decide +kernel
theorem dX9_wishBy_142 : decode cX9_wishBy 142 = .ok (.iload 8, 2) := by decide +kernel
theorem dX9_wishBy_144 : decode cX9_wishBy 144 = .ok (.ifCond .eq 45, 3) := by decide +kernel
theorem dX9_wishBy_147 : decode cX9_wishBy 147 = .ok (.aload_n 0, 1) := by decide +kernel
theorem dX9_wishBy_148 : decode cX9_wishBy 148 = .ok (.getfield 40, 3) := by decide +kernel
theorem dX9_wishBy_151 : decode cX9_wishBy 151 = .ok (.iload 9, 2) := by decide +kernel
theorem dX9_wishBy_153 : decode cX9_wishBy 153 = .ok (.iaload, 1) := by decide +kernel
theorem dX9_wishBy_154 : decode cX9_wishBy 154 = .ok (.iconst 1, 1) := by decide +kernel
theorem dX9_wishBy_155 : decode cX9_wishBy 155 = .ok (.if_icmp .ne 18, 3) := by decide +kernel
theorem dX9_wishBy_158 : decode cX9_wishBy 158 = .ok (.iload 11, 2) := by decide +kernel
theorem dX9_wishBy_160 : decode cX9_wishBy 160 = .ok (.aload_n 0, 1) := by decide +kernel
theorem dX9_wishBy_161 : decode cX9_wishBy 161 = .ok (.getfield 43, 3) := by decide +kernel
theorem dX9_wishBy_164 : decode cX9_wishBy 164 = .ok (.iload 9, 2) := by decide +kernel
theorem dX9_wishBy_166 : decode cX9_wishBy 166 = .ok (.iaload, 1) := by decide +kernel
theorem dX9_wishBy_167 : decode cX9_wishBy 167 = .ok (.if_icmp .le 22, 3) := by decide +kernel
theorem dX9_wishBy_170 : decode cX9_wishBy 170 = .ok (.goto 15, 3) := by decide +kernel
theorem dX9_wishBy_173 : decode cX9_wishBy 173 = .ok (.iload 11, 2) := by decide +kernel
theorem dX9_wishBy_175 : decode cX9_wishBy 175 = .ok (.aload_n 0, 1) := by decide +kernel
theorem dX9_wishBy_176 : decode cX9_wishBy 176 = .ok (.getfield 43, 3) := by decide +kernel
theorem dX9_wishBy_179 : decode cX9_wishBy 179 = .ok (.iload 9, 2) := by decide +kernel
theorem dX9_wishBy_181 : decode cX9_wishBy 181 = .ok (.iaload, 1) := by decide +kernel
theorem dX9_wishBy_182 : decode cX9_wishBy 182 = .ok (.if_icmp .ge 7, 3) := by decide +kernel
theorem dX9_wishBy_185 : decode cX9_wishBy 185 = .ok (.iconst 1, 1) := by decide +kernel
theorem dX9_wishBy_186 : decode cX9_wishBy 186 = .ok (.goto 4, 3) := by decide +kernel
theorem dX9_wishBy_189 : decode cX9_wishBy 189 = .ok (.iconst 0, 1) := by decide +kernel
theorem dX9_wishBy_190 : decode cX9_wishBy 190 = .ok (.istore 8, 2) := by decide +kernel
theorem dX9_wishBy_192 : decode cX9_wishBy 192 = .ok (.iinc 9 1, 3) := by decide +kernel
theorem dX9_wishBy_195 : decode cX9_wishBy 195 = .ok (.goto (-164), 3) := by decide +kernel
theorem dX9_wishBy_198 : decode cX9_wishBy 198 = .ok (.iload 8, 2) := by decide +kernel
theorem dX9_wishBy_200 : decode cX9_wishBy 200 = .ok (.ifCond .eq 65, 3) := by decide +kernel
theorem dX9_wishBy_203 : decode cX9_wishBy 203 = .ok (.aload_n 0, 1) := by decide +kernel
theorem dX9_wishBy_204 : decode cX9_wishBy 204 = .ok (.getfield 28, 3) := by decide +kernel
theorem dX9_wishBy_207 : decode cX9_wishBy 207 = .ok (.iload 7, 2) := by decide +kernel
theorem dX9_wishBy_209 : decode cX9_wishBy 209 = .ok (.iaload, 1) := by decide +kernel
theorem dX9_wishBy_210 : decode cX9_wishBy 210 = .ok (.ifCond .ne 23, 3) := by decide +kernel
theorem dX9_wishBy_213 : decode cX9_wishBy 213 = .ok (.aload_n 0, 1) := by decide +kernel
theorem dX9_wishBy_214 : decode cX9_wishBy 214 = .ok (.getfield 31, 3) := by decide +kernel
theorem dX9_wishBy_217 : decode cX9_wishBy 217 = .ok (.iload 7, 2) := by decide +kernel
theorem dX9_wishBy_219 : decode cX9_wishBy 219 = .ok (.iaload, 1) := by decide +kernel
theorem dX9_wishBy_220 : decode cX9_wishBy 220 = .ok (.aload_n 0, 1) := by decide +kernel
theorem dX9_wishBy_221 : decode cX9_wishBy 221 = .ok (.getfield 13, 3) := by decide +kernel
theorem dX9_wishBy_224 : decode cX9_wishBy 224 = .ok (.iload_n 1, 1) := by decide +kernel
theorem dX9_wishBy_225 : decode cX9_wishBy 225 = .ok (.iaload, 1) := by decide +kernel
theorem dX9_wishBy_226 : decode cX9_wishBy 226 = .ok (.invokestatic 280, 3) := by decide +kernel
theorem dX9_wishBy_229 : decode cX9_wishBy 229 = .ok (.ineg, 1) := by decide +kernel
theorem dX9_wishBy_230 : decode cX9_wishBy 230 = .ok (.goto 34, 3) := by decide +kernel
theorem dX9_wishBy_233 : decode cX9_wishBy 233 = .ok (.aload_n 0, 1) := by decide +kernel
theorem dX9_wishBy_234 : decode cX9_wishBy 234 = .ok (.getfield 28, 3) := by decide +kernel
theorem dX9_wishBy_237 : decode cX9_wishBy 237 = .ok (.iload 7, 2) := by decide +kernel
theorem dX9_wishBy_239 : decode cX9_wishBy 239 = .ok (.iaload, 1) := by decide +kernel
theorem dX9_wishBy_240 : decode cX9_wishBy 240 = .ok (.iconst 1, 1) := by decide +kernel
theorem dX9_wishBy_241 : decode cX9_wishBy 241 = .ok (.if_icmp .ne 22, 3) := by decide +kernel
theorem dX9_wishBy_244 : decode cX9_wishBy 244 = .ok (.aload_n 0, 1) := by decide +kernel
theorem dX9_wishBy_245 : decode cX9_wishBy 245 = .ok (.getfield 31, 3) := by decide +kernel
theorem dX9_wishBy_248 : decode cX9_wishBy 248 = .ok (.iload 7, 2) := by decide +kernel
theorem dX9_wishBy_250 : decode cX9_wishBy 250 = .ok (.iaload, 1) := by decide +kernel
theorem dX9_wishBy_251 : decode cX9_wishBy 251 = .ok (.aload_n 0, 1) := by decide +kernel
theorem dX9_wishBy_252 : decode cX9_wishBy 252 = .ok (.getfield 16, 3) := by decide +kernel
theorem dX9_wishBy_255 : decode cX9_wishBy 255 = .ok (.iload_n 1, 1) := by decide +kernel
theorem dX9_wishBy_256 : decode cX9_wishBy 256 = .ok (.iaload, 1) := by decide +kernel
theorem dX9_wishBy_257 : decode cX9_wishBy 257 = .ok (.invokestatic 280, 3) := by decide +kernel
theorem dX9_wishBy_260 : decode cX9_wishBy 260 = .ok (.goto 4, 3) := by decide +kernel
theorem dX9_wishBy_263 : decode cX9_wishBy 263 = .ok (.iconst 0, 1) := by decide +kernel
theorem dX9_wishBy_264 : decode cX9_wishBy 264 = .ok (.ireturn, 1) := by decide +kernel
theorem dX9_wishBy_265 : decode cX9_wishBy 265 = .ok (.iinc 7 1, 3) := by decide +kernel
theorem dX9_wishBy_268 : decode cX9_wishBy 268 = .ok (.goto (-262), 3) := by decide +kernel
theorem dX9_wishBy_271 : decode cX9_wishBy 271 = .ok (.iconst 0, 1) := by decide +kernel
theorem dX9_wishBy_272 : decode cX9_wishBy 272 = .ok (.ireturn, 1) := by decide +kernel
theorem dX9_slopeFor_0 : decode cX9_slopeFor 0 = .ok (.bipush 40, 2) := by decide +kernel
theorem dX9_slopeFor_2 : decode cX9_slopeFor 2 = .ok (.istore_n 2, 1) := by decide +kernel
theorem dX9_slopeFor_3 : decode cX9_slopeFor 3 = .ok (.iconst 0, 1) := by decide +kernel
theorem dX9_slopeFor_4 : decode cX9_slopeFor 4 = .ok (.istore_n 3, 1) := by decide +kernel
theorem dX9_slopeFor_5 : decode cX9_slopeFor 5 = .ok (.iload_n 3, 1) := by decide +kernel
theorem dX9_slopeFor_6 : decode cX9_slopeFor 6 = .ok (.aload_n 0, 1) := by decide +kernel
theorem dX9_slopeFor_7 : decode cX9_slopeFor 7 = .ok (.getfield 262, 3) := by decide +kernel
theorem dX9_slopeFor_10 : decode cX9_slopeFor 10 = .ok (.if_icmp .ge 83, 3) := by decide +kernel
theorem dX9_slopeFor_13 : decode cX9_slopeFor 13 = .ok (.aload_n 0, 1) := by decide +kernel
theorem dX9_slopeFor_14 : decode cX9_slopeFor 14 = .ok (.getfield 7, 3) := by decide +kernel
theorem dX9_slopeFor_17 : decode cX9_slopeFor 17 = .ok (.aload_n 0, 1) := by decide +kernel
theorem dX9_slopeFor_18 : decode cX9_slopeFor 18 = .ok (.getfield 50, 3) := by decide +kernel
theorem dX9_slopeFor_21 : decode cX9_slopeFor 21 = .ok (.iload_n 1, 1) := by decide +kernel
theorem dX9_slopeFor_22 : decode cX9_slopeFor 22 = .ok (.iaload, 1) := by decide +kernel
theorem dX9_slopeFor_23 : decode cX9_slopeFor 23 = .ok (.iaload, 1) := by decide +kernel
theorem dX9_slopeFor_24 : decode cX9_slopeFor 24 = .ok (.aload_n 0, 1) := by decide +kernel
theorem dX9_slopeFor_25 : decode cX9_slopeFor 25 = .ok (.getfield 68, 3) := by decide +kernel
theorem dX9_slopeFor_28 : decode cX9_slopeFor 28 = .ok (.iload_n 3, 1) := by decide +kernel
theorem dX9_slopeFor_29 : decode cX9_slopeFor 29 = .ok (.iaload, 1) := by decide +kernel
theorem dX9_slopeFor_30 : decode cX9_slopeFor 30 = .ok (.if_icmp .le 34, 3) := by decide +kernel
theorem dX9_slopeFor_33 : decode cX9_slopeFor 33 = .ok (.aload_n 0, 1) := by decide +kernel
theorem dX9_slopeFor_34 : decode cX9_slopeFor 34 = .ok (.getfield 137, 3) := by decide +kernel
theorem dX9_slopeFor_37 : decode cX9_slopeFor 37 = .ok (.iload_n 1, 1) := by decide +kernel
theorem dX9_slopeFor_38 : decode cX9_slopeFor 38 = .ok (.iaload, 1) := by decide +kernel
theorem dX9_slopeFor_39 : decode cX9_slopeFor 39 = .ok (.i2l, 1) := by decide +kernel
theorem dX9_slopeFor_40 : decode cX9_slopeFor 40 = .ok (.aload_n 0, 1) := by decide +kernel
theorem dX9_slopeFor_41 : decode cX9_slopeFor 41 = .ok (.getfield 62, 3) := by decide +kernel
theorem dX9_slopeFor_44 : decode cX9_slopeFor 44 = .ok (.iload_n 3, 1) := by decide +kernel
theorem dX9_slopeFor_45 : decode cX9_slopeFor 45 = .ok (.iaload, 1) := by decide +kernel
theorem dX9_slopeFor_46 : decode cX9_slopeFor 46 = .ok (.i2l, 1) := by decide +kernel
theorem dX9_slopeFor_47 : decode cX9_slopeFor 47 = .ok (.aload_n 0, 1) := by decide +kernel
theorem dX9_slopeFor_48 : decode cX9_slopeFor 48 = .ok (.getfield 65, 3) := by decide +kernel
theorem dX9_slopeFor_51 : decode cX9_slopeFor 51 = .ok (.iload_n 3, 1) := by decide +kernel
theorem dX9_slopeFor_52 : decode cX9_slopeFor 52 = .ok (.iaload, 1) := by decide +kernel
theorem dX9_slopeFor_53 : decode cX9_slopeFor 53 = .ok (.i2l, 1) := by decide +kernel
theorem dX9_slopeFor_54 : decode cX9_slopeFor 54 = .ok (.invokestatic 154, 3) := by decide +kernel
theorem dX9_slopeFor_57 : decode cX9_slopeFor 57 = .ok (.ifCond .eq 7, 3) := by decide +kernel
theorem dX9_slopeFor_60 : decode cX9_slopeFor 60 = .ok (.iconst 1, 1) := by decide +kernel
theorem dX9_slopeFor_61 : decode cX9_slopeFor 61 = .ok (.goto 4, 3) := by decide +kernel
theorem dX9_slopeFor_64 : decode cX9_slopeFor 64 = .ok (.iconst 0, 1) := by decide +kernel
theorem dX9_slopeFor_65 : decode cX9_slopeFor 65 = .ok (.istore 4, 2) := by decide +kernel
theorem dX9_slopeFor_67 : decode cX9_slopeFor 67 = .ok (.iload 4, 2) := by decide +kernel
theorem dX9_slopeFor_69 : decode cX9_slopeFor 69 = .ok (.ifCond .eq 16, 3) := by decide +kernel
theorem dX9_slopeFor_72 : decode cX9_slopeFor 72 = .ok (.iload_n 2, 1) := by decide +kernel
theorem dX9_slopeFor_73 : decode cX9_slopeFor 73 = .ok (.aload_n 0, 1) := by decide +kernel
theorem dX9_slopeFor_74 : decode cX9_slopeFor 74 = .ok (.getfield 71, 3) := by decide +kernel
theorem dX9_slopeFor_77 : decode cX9_slopeFor 77 = .ok (.iload_n 3, 1) := by decide +kernel
theorem dX9_slopeFor_78 : decode cX9_slopeFor 78 = .ok (.iaload, 1) := by decide +kernel
theorem dX9_slopeFor_79 : decode cX9_slopeFor 79 = .ok (.invokestatic 280, 3) := by decide +kernel
theorem dX9_slopeFor_82 : decode cX9_slopeFor 82 = .ok (.goto 4, 3) := by decide +kernel
theorem dX9_slopeFor_85 : decode cX9_slopeFor 85 = .ok (.iload_n 2, 1) := by decide +kernel
theorem dX9_slopeFor_86 : decode cX9_slopeFor 86 = .ok (.istore_n 2, 1) := by decide +kernel
theorem dX9_slopeFor_87 : decode cX9_slopeFor 87 = .ok (.iinc 3 1, 3) := by decide +kernel
theorem dX9_slopeFor_90 : decode cX9_slopeFor 90 = .ok (.goto (-85), 3) := by decide +kernel
theorem dX9_slopeFor_93 : decode cX9_slopeFor 93 = .ok (.iload_n 2, 1) := by decide +kernel
theorem dX9_slopeFor_94 : decode cX9_slopeFor 94 = .ok (.ireturn, 1) := by decide +kernel
theorem dX9_layRun_0 : decode cX9_layRun 0 = .ok (.aload_n 0, 1) := by decide +kernel
theorem dX9_layRun_1 : decode cX9_layRun 1 = .ok (.iconst (-1), 1) := by decide +kernel
theorem dX9_layRun_2 : decode cX9_layRun 2 = .ok (.putfield 284, 3) := by decide +kernel
theorem dX9_layRun_5 : decode cX9_layRun 5 = .ok (.aload_n 0, 1) := by decide +kernel
theorem dX9_layRun_6 : decode cX9_layRun 6 = .ok (.iconst (-1), 1) := by decide +kernel
theorem dX9_layRun_7 : decode cX9_layRun 7 = .ok (.putfield 287, 3) := by decide +kernel
theorem dX9_layRun_10 : decode cX9_layRun 10 = .ok (.iconst 0, 1) := by decide +kernel
theorem dX9_layRun_11 : decode cX9_layRun 11 = .ok (.istore 4, 2) := by decide +kernel
theorem dX9_layRun_13 : decode cX9_layRun 13 = .ok (.iload 4, 2) := by decide +kernel
theorem dX9_layRun_15 : decode cX9_layRun 15 = .ok (.aload_n 0, 1) := by decide +kernel
theorem dX9_layRun_16 : decode cX9_layRun 16 = .ok (.getfield 46, 3) := by decide +kernel
theorem dX9_layRun_19 : decode cX9_layRun 19 = .ok (.if_icmp .ge 45, 3) := by decide +kernel
theorem dX9_layRun_22 : decode cX9_layRun 22 = .ok (.aload_n 0, 1) := by decide +kernel
theorem dX9_layRun_23 : decode cX9_layRun 23 = .ok (.getfield 131, 3) := by decide +kernel
theorem dX9_layRun_26 : decode cX9_layRun 26 = .ok (.iload 4, 2) := by decide +kernel
theorem dX9_layRun_28 : decode cX9_layRun 28 = .ok (.aload_n 0, 1) := by decide +kernel
theorem dX9_layRun_29 : decode cX9_layRun 29 = .ok (.getfield 53, 3) := by decide +kernel
theorem dX9_layRun_32 : decode cX9_layRun 32 = .ok (.iconst 1, 1) := by decide +kernel
theorem dX9_layRun_33 : decode cX9_layRun 33 = .ok (.iaload, 1) := by decide +kernel
theorem dX9_layRun_34 : decode cX9_layRun 34 = .ok (.iastore, 1) := by decide +kernel
theorem dX9_layRun_35 : decode cX9_layRun 35 = .ok (.aload_n 0, 1) := by decide +kernel
theorem dX9_layRun_36 : decode cX9_layRun 36 = .ok (.getfield 134, 3) := by decide +kernel
theorem dX9_layRun_39 : decode cX9_layRun 39 = .ok (.iload 4, 2) := by decide +kernel
theorem dX9_layRun_41 : decode cX9_layRun 41 = .ok (.iload_n 1, 1) := by decide +kernel
theorem dX9_layRun_42 : decode cX9_layRun 42 = .ok (.iastore, 1) := by decide +kernel
theorem dX9_layRun_43 : decode cX9_layRun 43 = .ok (.aload_n 0, 1) := by decide +kernel
theorem dX9_layRun_44 : decode cX9_layRun 44 = .ok (.getfield 137, 3) := by decide +kernel
theorem dX9_layRun_47 : decode cX9_layRun 47 = .ok (.iload 4, 2) := by decide +kernel
theorem dX9_layRun_49 : decode cX9_layRun 49 = .ok (.sipush 300, 3) := by decide +kernel
theorem dX9_layRun_52 : decode cX9_layRun 52 = .ok (.iload 4, 2) := by decide +kernel
theorem dX9_layRun_54 : decode cX9_layRun 54 = .ok (.iload_n 1, 1) := by decide +kernel
theorem dX9_layRun_55 : decode cX9_layRun 55 = .ok (.imul, 1) := by decide +kernel
theorem dX9_layRun_56 : decode cX9_layRun 56 = .ok (.isub, 1) := by decide +kernel
theorem dX9_layRun_57 : decode cX9_layRun 57 = .ok (.iastore, 1) := by decide +kernel
theorem dX9_layRun_58 : decode cX9_layRun 58 = .ok (.iinc 4 1, 3) := by decide +kernel
theorem dX9_layRun_61 : decode cX9_layRun 61 = .ok (.goto (-48), 3) := by decide +kernel
theorem dX9_layRun_64 : decode cX9_layRun 64 = .ok (.iconst 0, 1) := by decide +kernel
theorem dX9_layRun_65 : decode cX9_layRun 65 = .ok (.istore 4, 2) := by decide +kernel
theorem dX9_layRun_67 : decode cX9_layRun 67 = .ok (.iload 4, 2) := by decide +kernel
theorem dX9_layRun_69 : decode cX9_layRun 69 = .ok (.bipush 32, 2) := by decide +kernel
theorem dX9_layRun_71 : decode cX9_layRun 71 = .ok (.if_icmp .ge 32, 3) := by decide +kernel
theorem dX9_layRun_74 : decode cX9_layRun 74 = .ok (.aload_n 0, 1) := by decide +kernel
theorem dX9_layRun_75 : decode cX9_layRun 75 = .ok (.iload 4, 2) := by decide +kernel
theorem dX9_layRun_77 : decode cX9_layRun 77 = .ok (.iload_n 2, 1) := by decide +kernel
theorem dX9_layRun_78 : decode cX9_layRun 78 = .ok (.iconst 1, 1) := by decide +kernel
theorem dX9_layRun_79 : decode cX9_layRun 79 = .ok (.if_icmp .ge 7, 3) := by decide +kernel
theorem dX9_layRun_82 : decode cX9_layRun 82 = .ok (.iconst 1, 1) := by decide +kernel
theorem dX9_layRun_83 : decode cX9_layRun 83 = .ok (.goto 4, 3) := by decide +kernel
theorem dX9_layRun_86 : decode cX9_layRun 86 = .ok (.iload_n 2, 1) := by decide +kernel
theorem dX9_layRun_87 : decode cX9_layRun 87 = .ok (.iload_n 3, 1) := by decide +kernel
theorem dX9_layRun_88 : decode cX9_layRun 88 = .ok (.invokevirtual 290, 3) := by decide +kernel
theorem dX9_layRun_91 : decode cX9_layRun 91 = .ok (.aload_n 0, 1) := by decide +kernel
theorem dX9_layRun_92 : decode cX9_layRun 92 = .ok (.iload 4, 2) := by decide +kernel
theorem dX9_layRun_94 : decode cX9_layRun 94 = .ok (.invokevirtual 294, 3) := by decide +kernel
theorem dX9_layRun_97 : decode cX9_layRun 97 = .ok (.iinc 4 1, 3) := by decide +kernel
theorem dX9_layRun_100 : decode cX9_layRun 100 = .ok (.goto (-33), 3) := by decide +kernel
theorem dX9_layRun_103 : decode cX9_layRun 103 = .ok (.return_, 1) := by decide +kernel
theorem dX9_layWishes_0 : decode cX9_layWishes 0 = .ok (.iconst (-1), 1) := by decide +kernel
theorem dX9_layWishes_1 : decode cX9_layWishes 1 = .ok (.istore 4, 2) := by decide +kernel
theorem dX9_layWishes_3 : decode cX9_layWishes 3 = .ok (.iconst 0, 1) := by decide +kernel
theorem dX9_layWishes_4 : decode cX9_layWishes 4 = .ok (.istore 5, 2) := by decide +kernel
theorem dX9_layWishes_6 : decode cX9_layWishes 6 = .ok (.iload 5, 2) := by decide +kernel
theorem dX9_layWishes_8 : decode cX9_layWishes 8 = .ok (.iload_n 2, 1) := by decide +kernel
theorem dX9_layWishes_9 : decode cX9_layWishes 9 = .ok (.iadd, 1) := by decide +kernel
theorem dX9_layWishes_10 : decode cX9_layWishes 10 = .ok (.iload_n 1, 1) := by decide +kernel
theorem dX9_layWishes_11 : decode cX9_layWishes 11 = .ok (.if_icmp .gt 27, 3) := by decide +kernel
theorem dX9_layWishes_14 : decode cX9_layWishes 14 = .ok (.iload_n 3, 1) := by decide +kernel
theorem dX9_layWishes_15 : decode cX9_layWishes 15 = .ok (.iload 5, 2) := by decide +kernel
theorem dX9_layWishes_17 : decode cX9_layWishes 17 = .ok (.ishr, 1) := by decide +kernel
theorem dX9_layWishes_18 : decode cX9_layWishes 18 = .ok (.iconst 1, 1) := by decide +kernel
theorem dX9_layWishes_19 : decode cX9_layWishes 19 = .ok (.iand, 1) := by decide +kernel
theorem dX9_layWishes_20 : decode cX9_layWishes 20 = .ok (.ifCond .ne 8, 3) := by decide +kernel
theorem dX9_layWishes_23 : decode cX9_layWishes 23 = .ok (.iload 5, 2) := by decide +kernel
theorem dX9_layWishes_25 : decode cX9_layWishes 25 = .ok (.goto 5, 3) := by decide +kernel
theorem dX9_layWishes_28 : decode cX9_layWishes 28 = .ok (.iload 4, 2) := by decide +kernel
theorem dX9_layWishes_30 : decode cX9_layWishes 30 = .ok (.istore 4, 2) := by decide +kernel
theorem dX9_layWishes_32 : decode cX9_layWishes 32 = .ok (.iinc 5 1, 3) := by decide +kernel
theorem dX9_layWishes_35 : decode cX9_layWishes 35 = .ok (.goto (-29), 3) := by decide +kernel
theorem dX9_layWishes_38 : decode cX9_layWishes 38 = .ok (.iconst 0, 1) := by decide +kernel
theorem dX9_layWishes_39 : decode cX9_layWishes 39 = .ok (.istore 5, 2) := by decide +kernel
theorem dX9_layWishes_41 : decode cX9_layWishes 41 = .ok (.iload 5, 2) := by decide +kernel
theorem dX9_layWishes_43 : decode cX9_layWishes 43 = .ok (.aload_n 0, 1) := by decide +kernel
theorem dX9_layWishes_44 : decode cX9_layWishes 44 = .ok (.getfield 46, 3) := by decide +kernel
theorem dX9_layWishes_47 : decode cX9_layWishes 47 = .ok (.if_icmp .ge 230, 3) := by decide +kernel
theorem dX9_layWishes_50 : decode cX9_layWishes 50 = .ok (.bipush 6, 2) := by decide +kernel
theorem dX9_layWishes_52 : decode cX9_layWishes 52 = .ok (.iload_n 1, 1) := by decide +kernel
theorem dX9_layWishes_53 : decode cX9_layWishes 53 = .ok (.imul, 1) := by decide +kernel
theorem dX9_layWishes_54 : decode cX9_layWishes 54 = .ok (.iload 5, 2) := by decide +kernel
theorem dX9_layWishes_56 : decode cX9_layWishes 56 = .ok (.iadd, 1) := by decide +kernel
theorem dX9_layWishes_57 : decode cX9_layWishes 57 = .ok (.istore 6, 2) := by decide +kernel
theorem dX9_layWishes_59 : decode cX9_layWishes 59 = .ok (.aload_n 0, 1) := by decide +kernel
theorem dX9_layWishes_60 : decode cX9_layWishes 60 = .ok (.getfield 122, 3) := by decide +kernel
theorem dX9_layWishes_63 : decode cX9_layWishes 63 = .ok (.iload 6, 2) := by decide +kernel
theorem dX9_layWishes_65 : decode cX9_layWishes 65 = .ok (.iload 5, 2) := by decide +kernel
theorem dX9_layWishes_67 : decode cX9_layWishes 67 = .ok (.ifCond .eq 9, 3) := by decide +kernel
theorem dX9_layWishes_70 : decode cX9_layWishes 70 = .ok (.iload 4, 2) := by decide +kernel
theorem dX9_layWishes_72 : decode cX9_layWishes 72 = .ok (.iconst (-1), 1) := by decide +kernel
theorem dX9_layWishes_73 : decode cX9_layWishes 73 = .ok (.if_icmp .ne 7, 3) := by decide +kernel
theorem dX9_layWishes_76 : decode cX9_layWishes 76 = .ok (.iconst 0, 1) := by decide +kernel
theorem dX9_layWishes_77 : decode cX9_layWishes 77 = .ok (.goto 10, 3) := by decide +kernel
theorem dX9_layWishes_80 : decode cX9_layWishes 80 = .ok (.aload_n 0, 1) := by decide +kernel
theorem dX9_layWishes_81 : decode cX9_layWishes 81 = .ok (.getfield 128, 3) := by decide +kernel
theorem dX9_layWishes_84 : decode cX9_layWishes 84 = .ok (.iload 4, 2) := by decide +kernel
theorem dX9_layWishes_86 : decode cX9_layWishes 86 = .ok (.iaload, 1) := by decide +kernel
theorem dX9_layWishes_87 : decode cX9_layWishes 87 = .ok (.iastore, 1) := by decide +kernel
theorem dX9_layWishes_88 : decode cX9_layWishes 88 = .ok (.aload_n 0, 1) := by decide +kernel
theorem dX9_layWishes_89 : decode cX9_layWishes 89 = .ok (.getfield 125, 3) := by decide +kernel
theorem dX9_layWishes_92 : decode cX9_layWishes 92 = .ok (.iload 6, 2) := by decide +kernel
theorem dX9_layWishes_94 : decode cX9_layWishes 94 = .ok (.iload 5, 2) := by decide +kernel
theorem dX9_layWishes_96 : decode cX9_layWishes 96 = .ok (.ifCond .eq 9, 3) := by decide +kernel
theorem dX9_layWishes_99 : decode cX9_layWishes 99 = .ok (.iload 4, 2) := by decide +kernel
theorem dX9_layWishes_101 : decode cX9_layWishes 101 = .ok (.iconst (-1), 1) := by decide +kernel
theorem dX9_layWishes_102 : decode cX9_layWishes 102 = .ok (.if_icmp .ne 8, 3) := by decide +kernel
theorem dX9_layWishes_105 : decode cX9_layWishes 105 = .ok (.bipush 99, 2) := by decide +kernel
theorem dX9_layWishes_107 : decode cX9_layWishes 107 = .ok (.goto 7, 3) := by decide +kernel
theorem dX9_layWishes_110 : decode cX9_layWishes 110 = .ok (.iload_n 1, 1) := by decide +kernel
theorem dX9_layWishes_111 : decode cX9_layWishes 111 = .ok (.iload 4, 2) := by decide +kernel
theorem dX9_layWishes_113 : decode cX9_layWishes 113 = .ok (.isub, 1) := by decide +kernel
theorem dX9_layWishes_114 : decode cX9_layWishes 114 = .ok (.iastore, 1) := by decide +kernel
theorem dX9_layWishes_115 : decode cX9_layWishes 115 = .ok (.aload_n 0, 1) := by decide +kernel
theorem dX9_layWishes_116 : decode cX9_layWishes 116 = .ok (.iload 5, 2) := by decide +kernel
theorem dX9_layWishes_118 : decode cX9_layWishes 118 = .ok (.iload_n 1, 1) := by decide +kernel
theorem dX9_layWishes_119 : decode cX9_layWishes 119 = .ok (.invokevirtual 298, 3) := by decide +kernel
theorem dX9_layWishes_122 : decode cX9_layWishes 122 = .ok (.ifCond .eq 81, 3) := by decide +kernel
theorem dX9_layWishes_125 : decode cX9_layWishes 125 = .ok (.aload_n 0, 1) := by decide +kernel
theorem dX9_layWishes_126 : decode cX9_layWishes 126 = .ok (.iload_n 1, 1) := by decide +kernel
theorem dX9_layWishes_127 : decode cX9_layWishes 127 = .ok (.aload_n 0, 1) := by decide +kernel
theorem dX9_layWishes_128 : decode cX9_layWishes 128 = .ok (.getfield 271, 3) := by decide +kernel
theorem dX9_layWishes_131 : decode cX9_layWishes 131 = .ok (.if_icmp .ne 15, 3) := by decide +kernel
theorem dX9_layWishes_134 : decode cX9_layWishes 134 = .ok (.aload_n 0, 1) := by decide +kernel
theorem dX9_layWishes_135 : decode cX9_layWishes 135 = .ok (.getfield 134, 3) := by decide +kernel
theorem dX9_layWishes_138 : decode cX9_layWishes 138 = .ok (.iload 5, 2) := by decide +kernel
theorem dX9_layWishes_140 : decode cX9_layWishes 140 = .ok (.iaload, 1) := by decide +kernel
theorem dX9_layWishes_141 : decode cX9_layWishes 141 = .ok (.iconst 2, 1) := by decide +kernel
theorem dX9_layWishes_142 : decode cX9_layWishes 142 = .ok (.idiv, 1) := by decide +kernel
theorem dX9_layWishes_143 : decode cX9_layWishes 143 = .ok (.goto 7, 3) := by decide +kernel
theorem dX9_layWishes_146 : decode cX9_layWishes 146 = .ok (.aload_n 0, 1) := by decide +kernel
theorem dX9_layWishes_147 : decode cX9_layWishes 147 = .ok (.getfield 302, 3) := by decide +kernel
theorem dX9_layWishes_150 : decode cX9_layWishes 150 = .ok (.putfield 302, 3) := by decide +kernel
theorem dX9_layWishes_153 : decode cX9_layWishes 153 = .ok (.aload_n 0, 1) := by decide +kernel
theorem dX9_layWishes_154 : decode cX9_layWishes 154 = .ok (.getfield 119, 3) := by decide +kernel
theorem dX9_layWishes_157 : decode cX9_layWishes 157 = .ok (.iload 6, 2) := by decide +kernel
theorem dX9_layWishes_159 : decode cX9_layWishes 159 = .ok (.aload_n 0, 1) := by decide +kernel
theorem dX9_layWishes_160 : decode cX9_layWishes 160 = .ok (.aload_n 0, 1) := by decide +kernel
theorem dX9_layWishes_161 : decode cX9_layWishes 161 = .ok (.getfield 50, 3) := by decide +kernel
theorem dX9_layWishes_164 : decode cX9_layWishes 164 = .ok (.iload 5, 2) := by decide +kernel
theorem dX9_layWishes_166 : decode cX9_layWishes 166 = .ok (.iaload, 1) := by decide +kernel
theorem dX9_layWishes_167 : decode cX9_layWishes 167 = .ok (.aload_n 0, 1) := by decide +kernel
theorem dX9_layWishes_168 : decode cX9_layWishes 168 = .ok (.getfield 302, 3) := by decide +kernel
theorem dX9_layWishes_171 : decode cX9_layWishes 171 = .ok (.aload_n 0, 1) := by decide +kernel
theorem dX9_layWishes_172 : decode cX9_layWishes 172 = .ok (.getfield 131, 3) := by decide +kernel
theorem dX9_layWishes_175 : decode cX9_layWishes 175 = .ok (.iload 5, 2) := by decide +kernel
theorem dX9_layWishes_177 : decode cX9_layWishes 177 = .ok (.iaload, 1) := by decide +kernel
theorem dX9_layWishes_178 : decode cX9_layWishes 178 = .ok (.aload_n 0, 1) := by decide +kernel
theorem dX9_layWishes_179 : decode cX9_layWishes 179 = .ok (.getfield 277, 3) := by decide +kernel
theorem dX9_layWishes_182 : decode cX9_layWishes 182 = .ok (.aload_n 0, 1) := by decide +kernel
theorem dX9_layWishes_183 : decode cX9_layWishes 183 = .ok (.getfield 122, 3) := by decide +kernel
theorem dX9_layWishes_186 : decode cX9_layWishes 186 = .ok (.iload 6, 2) := by decide +kernel
theorem dX9_layWishes_188 : decode cX9_layWishes 188 = .ok (.iaload, 1) := by decide +kernel
theorem dX9_layWishes_189 : decode cX9_layWishes 189 = .ok (.aload_n 0, 1) := by decide +kernel
theorem dX9_layWishes_190 : decode cX9_layWishes 190 = .ok (.getfield 125, 3) := by decide +kernel
theorem dX9_layWishes_193 : decode cX9_layWishes 193 = .ok (.iload 6, 2) := by decide +kernel
theorem dX9_layWishes_195 : decode cX9_layWishes 195 = .ok (.iaload, 1) := by decide +kernel
theorem dX9_layWishes_196 : decode cX9_layWishes 196 = .ok (.invokevirtual 305, 3) := by decide +kernel
theorem dX9_layWishes_199 : decode cX9_layWishes 199 = .ok (.iastore, 1) := by decide +kernel
theorem dX9_layWishes_200 : decode cX9_layWishes 200 = .ok (.goto 71, 3) := by decide +kernel
theorem dX9_layWishes_203 : decode cX9_layWishes 203 = .ok (.aload_n 0, 1) := by decide +kernel
theorem dX9_layWishes_204 : decode cX9_layWishes 204 = .ok (.getfield 119, 3) := by decide +kernel
theorem dX9_layWishes_207 : decode cX9_layWishes 207 = .ok (.iload 6, 2) := by decide +kernel
theorem dX9_layWishes_209 : decode cX9_layWishes 209 = .ok (.iload 5, 2) := by decide +kernel
theorem dX9_layWishes_211 : decode cX9_layWishes 211 = .ok (.ifCond .ne 11, 3) := by decide +kernel
theorem dX9_layWishes_214 : decode cX9_layWishes 214 = .ok (.aload_n 0, 1) := by decide +kernel
theorem dX9_layWishes_215 : decode cX9_layWishes 215 = .ok (.iload_n 1, 1) := by decide +kernel
theorem dX9_layWishes_216 : decode cX9_layWishes 216 = .ok (.invokevirtual 309, 3) := by decide +kernel
theorem dX9_layWishes_219 : decode cX9_layWishes 219 = .ok (.goto 51, 3) := by decide +kernel
theorem dX9_layWishes_222 : decode cX9_layWishes 222 = .ok (.aload_n 0, 1) := by decide +kernel
theorem dX9_layWishes_223 : decode cX9_layWishes 223 = .ok (.aload_n 0, 1) := by decide +kernel
theorem dX9_layWishes_224 : decode cX9_layWishes 224 = .ok (.getfield 50, 3) := by decide +kernel
theorem dX9_layWishes_227 : decode cX9_layWishes 227 = .ok (.iload 5, 2) := by decide +kernel
theorem dX9_layWishes_229 : decode cX9_layWishes 229 = .ok (.iaload, 1) := by decide +kernel
theorem dX9_layWishes_230 : decode cX9_layWishes 230 = .ok (.aload_n 0, 1) := by decide +kernel
theorem dX9_layWishes_231 : decode cX9_layWishes 231 = .ok (.getfield 134, 3) := by decide +kernel
theorem dX9_layWishes_234 : decode cX9_layWishes 234 = .ok (.iload 5, 2) := by decide +kernel
theorem dX9_layWishes_236 : decode cX9_layWishes 236 = .ok (.iaload, 1) := by decide +kernel
theorem dX9_layWishes_237 : decode cX9_layWishes 237 = .ok (.aload_n 0, 1) := by decide +kernel
theorem dX9_layWishes_238 : decode cX9_layWishes 238 = .ok (.getfield 131, 3) := by decide +kernel
theorem dX9_layWishes_241 : decode cX9_layWishes 241 = .ok (.iload 5, 2) := by decide +kernel
theorem dX9_layWishes_243 : decode cX9_layWishes 243 = .ok (.iaload, 1) := by decide +kernel
theorem dX9_layWishes_244 : decode cX9_layWishes 244 = .ok (.aload_n 0, 1) := by decide +kernel
theorem dX9_layWishes_245 : decode cX9_layWishes 245 = .ok (.getfield 131, 3) := by decide +kernel
theorem dX9_layWishes_248 : decode cX9_layWishes 248 = .ok (.iload 5, 2) := by decide +kernel
theorem dX9_layWishes_250 : decode cX9_layWishes 250 = .ok (.iconst 1, 1) := by decide +kernel
theorem dX9_layWishes_251 : decode cX9_layWishes 251 = .ok (.isub, 1) := by decide +kernel
theorem dX9_layWishes_252 : decode cX9_layWishes 252 = .ok (.iaload, 1) := by decide +kernel
theorem dX9_layWishes_253 : decode cX9_layWishes 253 = .ok (.aload_n 0, 1) := by decide +kernel
theorem dX9_layWishes_254 : decode cX9_layWishes 254 = .ok (.getfield 122, 3) := by decide +kernel
theorem dX9_layWishes_257 : decode cX9_layWishes 257 = .ok (.iload 6, 2) := by decide +kernel
theorem dX9_layWishes_259 : decode cX9_layWishes 259 = .ok (.iaload, 1) := by decide +kernel
theorem dX9_layWishes_260 : decode cX9_layWishes 260 = .ok (.aload_n 0, 1) := by decide +kernel
theorem dX9_layWishes_261 : decode cX9_layWishes 261 = .ok (.getfield 125, 3) := by decide +kernel
theorem dX9_layWishes_264 : decode cX9_layWishes 264 = .ok (.iload 6, 2) := by decide +kernel
theorem dX9_layWishes_266 : decode cX9_layWishes 266 = .ok (.iaload, 1) := by decide +kernel
theorem dX9_layWishes_267 : decode cX9_layWishes 267 = .ok (.invokevirtual 305, 3) := by decide +kernel
theorem dX9_layWishes_270 : decode cX9_layWishes 270 = .ok (.iastore, 1) := by decide +kernel
theorem dX9_layWishes_271 : decode cX9_layWishes 271 = .ok (.iinc 5 1, 3) := by decide +kernel
theorem dX9_layWishes_274 : decode cX9_layWishes 274 = .ok (.goto (-233), 3) := by decide +kernel
theorem dX9_layWishes_277 : decode cX9_layWishes 277 = .ok (.aload_n 0, 1) := by decide +kernel
theorem dX9_layWishes_278 : decode cX9_layWishes 278 = .ok (.getfield 128, 3) := by decide +kernel
theorem dX9_layWishes_281 : decode cX9_layWishes 281 = .ok (.iload_n 1, 1) := by decide +kernel
theorem dX9_layWishes_282 : decode cX9_layWishes 282 = .ok (.aload_n 0, 1) := by decide +kernel
theorem dX9_layWishes_283 : decode cX9_layWishes 283 = .ok (.getfield 119, 3) := by decide +kernel
theorem dX9_layWishes_286 : decode cX9_layWishes 286 = .ok (.bipush 6, 2) := by decide +kernel
theorem dX9_layWishes_288 : decode cX9_layWishes 288 = .ok (.iload_n 1, 1) := by decide +kernel
theorem dX9_layWishes_289 : decode cX9_layWishes 289 = .ok (.imul, 1) := by decide +kernel
theorem dX9_layWishes_290 : decode cX9_layWishes 290 = .ok (.iaload, 1) := by decide +kernel
theorem dX9_layWishes_291 : decode cX9_layWishes 291 = .ok (.ifCond .ge 16, 3) := by decide +kernel
theorem dX9_layWishes_294 : decode cX9_layWishes 294 = .ok (.aload_n 0, 1) := by decide +kernel
theorem dX9_layWishes_295 : decode cX9_layWishes 295 = .ok (.getfield 119, 3) := by decide +kernel
theorem dX9_layWishes_298 : decode cX9_layWishes 298 = .ok (.bipush 6, 2) := by decide +kernel
theorem dX9_layWishes_300 : decode cX9_layWishes 300 = .ok (.iload_n 1, 1) := by decide +kernel
theorem dX9_layWishes_301 : decode cX9_layWishes 301 = .ok (.imul, 1) := by decide +kernel
theorem dX9_layWishes_302 : decode cX9_layWishes 302 = .ok (.iaload, 1) := by decide +kernel
theorem dX9_layWishes_303 : decode cX9_layWishes 303 = .ok (.ineg, 1) := by decide +kernel
theorem dX9_layWishes_304 : decode cX9_layWishes 304 = .ok (.goto 4, 3) := by decide +kernel
theorem dX9_layWishes_307 : decode cX9_layWishes 307 = .ok (.iconst 0, 1) := by decide +kernel
theorem dX9_layWishes_308 : decode cX9_layWishes 308 = .ok (.iastore, 1) := by decide +kernel
theorem dX9_layWishes_309 : decode cX9_layWishes 309 = .ok (.return_, 1) := by decide +kernel
