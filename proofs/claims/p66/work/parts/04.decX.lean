theorem dX0_init_0 : decode cX0_init 0 = .ok (.aload_n 0, 1) := by decide +kernel
theorem dX0_init_1 : decode cX0_init 1 = .ok (.invokespecial 3, 3) := by decide +kernel
theorem dX0_init_4 : decode cX0_init 4 = .ok (.aload_n 0, 1) := by decide +kernel
theorem dX0_init_5 : decode cX0_init 5 = .ok (.iconst 0, 1) := by decide +kernel
theorem dX0_init_6 : decode cX0_init 6 = .ok (.putfield 9, 3) := by decide +kernel
theorem dX0_init_9 : decode cX0_init 9 = .ok (.aload_n 0, 1) := by decide +kernel
theorem dX0_init_10 : decode cX0_init 10 = .ok (.iconst 0, 1) := by decide +kernel
theorem dX0_init_11 : decode cX0_init 11 = .ok (.putfield 15, 3) := by decide +kernel
theorem dX0_init_14 : decode cX0_init 14 = .ok (.aload_n 0, 1) := by decide +kernel
theorem dX0_init_15 : decode cX0_init 15 = .ok (.iconst 0, 1) := by decide +kernel
theorem dX0_init_16 : decode cX0_init 16 = .ok (.putfield 18, 3) := by decide +kernel
theorem dX0_init_19 : decode cX0_init 19 = .ok (.aload_n 0, 1) := by decide +kernel
theorem dX0_init_20 : decode cX0_init 20 = .ok (.iconst 0, 1) := by decide +kernel
theorem dX0_init_21 : decode cX0_init 21 = .ok (.putfield 21, 3) := by decide +kernel
theorem dX0_init_24 : decode cX0_init 24 = .ok (.aload_n 0, 1) := by decide +kernel
theorem dX0_init_25 : decode cX0_init 25 = .ok (.new 24, 3) := by decide +kernel
theorem dX0_init_28 : decode cX0_init 28 = .ok (.dup, 1) := by decide +kernel
theorem dX0_init_29 : decode cX0_init 29 = .ok (.bipush 16, 2) := by decide +kernel
theorem dX0_init_31 : decode cX0_init 31 = .ok (.invokespecial 26, 3) := by decide +kernel
theorem dX0_init_34 : decode cX0_init 34 = .ok (.putfield 29, 3) := by decide +kernel
theorem dX0_init_37 : decode cX0_init 37 = .ok (.aload_n 0, 1) := by decide +kernel
theorem dX0_init_38 : decode cX0_init 38 = .ok (.new 24, 3) := by decide +kernel
theorem dX0_init_41 : decode cX0_init 41 = .ok (.dup, 1) := by decide +kernel
theorem dX0_init_42 : decode cX0_init 42 = .ok (.bipush 16, 2) := by decide +kernel
theorem dX0_init_44 : decode cX0_init 44 = .ok (.invokespecial 26, 3) := by decide +kernel
theorem dX0_init_47 : decode cX0_init 47 = .ok (.putfield 33, 3) := by decide +kernel
theorem dX0_init_50 : decode cX0_init 50 = .ok (.aload_n 0, 1) := by decide +kernel
theorem dX0_init_51 : decode cX0_init 51 = .ok (.new 24, 3) := by decide +kernel
theorem dX0_init_54 : decode cX0_init 54 = .ok (.dup, 1) := by decide +kernel
theorem dX0_init_55 : decode cX0_init 55 = .ok (.bipush 16, 2) := by decide +kernel
theorem dX0_init_57 : decode cX0_init 57 = .ok (.invokespecial 26, 3) := by decide +kernel
theorem dX0_init_60 : decode cX0_init 60 = .ok (.putfield 36, 3) := by decide +kernel
theorem dX0_init_63 : decode cX0_init 63 = .ok (.aload_n 0, 1) := by decide +kernel
theorem dX0_init_64 : decode cX0_init 64 = .ok (.new 24, 3) := by decide +kernel
theorem dX0_init_67 : decode cX0_init 67 = .ok (.dup, 1) := by decide +kernel
theorem dX0_init_68 : decode cX0_init 68 = .ok (.bipush 16, 2) := by decide +kernel
theorem dX0_init_70 : decode cX0_init 70 = .ok (.invokespecial 26, 3) := by decide +kernel
theorem dX0_init_73 : decode cX0_init 73 = .ok (.putfield 39, 3) := by decide +kernel
theorem dX0_init_76 : decode cX0_init 76 = .ok (.aload_n 0, 1) := by decide +kernel
theorem dX0_init_77 : decode cX0_init 77 = .ok (.new 24, 3) := by decide +kernel
theorem dX0_init_80 : decode cX0_init 80 = .ok (.dup, 1) := by decide +kernel
theorem dX0_init_81 : decode cX0_init 81 = .ok (.bipush 16, 2) := by decide +kernel
theorem dX0_init_83 : decode cX0_init 83 = .ok (.invokespecial 26, 3) := by decide +kernel
theorem dX0_init_86 : decode cX0_init 86 = .ok (.putfield 42, 3) := by decide +kernel
theorem dX0_init_89 : decode cX0_init 89 = .ok (.aload_n 0, 1) := by decide +kernel
theorem dX0_init_90 : decode cX0_init 90 = .ok (.new 24, 3) := by decide +kernel
theorem dX0_init_93 : decode cX0_init 93 = .ok (.dup, 1) := by decide +kernel
theorem dX0_init_94 : decode cX0_init 94 = .ok (.bipush 16, 2) := by decide +kernel
theorem dX0_init_96 : decode cX0_init 96 = .ok (.invokespecial 26, 3) := by decide +kernel
theorem dX0_init_99 : decode cX0_init 99 = .ok (.putfield 45, 3) := by decide +kernel
theorem dX0_init_102 : decode cX0_init 102 = .ok (.aload_n 0, 1) := by decide +kernel
theorem dX0_init_103 : decode cX0_init 103 = .ok (.new 24, 3) := by decide +kernel
theorem dX0_init_106 : decode cX0_init 106 = .ok (.dup, 1) := by decide +kernel
theorem dX0_init_107 : decode cX0_init 107 = .ok (.bipush 96, 2) := by decide +kernel
theorem dX0_init_109 : decode cX0_init 109 = .ok (.invokespecial 26, 3) := by decide +kernel
theorem dX0_init_112 : decode cX0_init 112 = .ok (.putfield 48, 3) := by decide +kernel
theorem dX0_init_115 : decode cX0_init 115 = .ok (.aload_n 0, 1) := by decide +kernel
theorem dX0_init_116 : decode cX0_init 116 = .ok (.new 24, 3) := by decide +kernel
theorem dX0_init_119 : decode cX0_init 119 = .ok (.dup, 1) := by decide +kernel
theorem dX0_init_120 : decode cX0_init 120 = .ok (.sipush 128, 3) := by decide +kernel
theorem dX0_init_123 : decode cX0_init 123 = .ok (.invokespecial 26, 3) := by decide +kernel
theorem dX0_init_126 : decode cX0_init 126 = .ok (.putfield 51, 3) := by decide +kernel
theorem dX0_init_129 : decode cX0_init 129 = .ok (.aload_n 0, 1) := by decide +kernel
theorem dX0_init_130 : decode cX0_init 130 = .ok (.new 24, 3) := by decide +kernel
theorem dX0_init_133 : decode cX0_init 133 = .ok (.dup, 1) := by decide +kernel
theorem dX0_init_134 : decode cX0_init 134 = .ok (.sipush 128, 3) := by decide +kernel
theorem dX0_init_137 : decode cX0_init 137 = .ok (.invokespecial 26, 3) := by decide +kernel
theorem dX0_init_140 : decode cX0_init 140 = .ok (.putfield 54, 3) := by decide +kernel
theorem dX0_init_143 : decode cX0_init 143 = .ok (.aload_n 0, 1) := by decide +kernel
theorem dX0_init_144 : decode cX0_init 144 = .ok (.new 24, 3) := by decide +kernel
theorem dX0_init_147 : decode cX0_init 147 = .ok (.dup, 1) := by decide +kernel
theorem dX0_init_148 : decode cX0_init 148 = .ok (.sipush 128, 3) := by decide +kernel
theorem dX0_init_151 : decode cX0_init 151 = .ok (.invokespecial 26, 3) := by decide +kernel
theorem dX0_init_154 : decode cX0_init 154 = .ok (.putfield 57, 3) := by decide +kernel
theorem dX0_init_157 : decode cX0_init 157 = .ok (.aload_n 0, 1) := by decide +kernel
theorem dX0_init_158 : decode cX0_init 158 = .ok (.new 24, 3) := by decide +kernel
theorem dX0_init_161 : decode cX0_init 161 = .ok (.dup, 1) := by decide +kernel
theorem dX0_init_162 : decode cX0_init 162 = .ok (.bipush 8, 2) := by decide +kernel
theorem dX0_init_164 : decode cX0_init 164 = .ok (.invokespecial 26, 3) := by decide +kernel
theorem dX0_init_167 : decode cX0_init 167 = .ok (.putfield 60, 3) := by decide +kernel
theorem dX0_init_170 : decode cX0_init 170 = .ok (.aload_n 0, 1) := by decide +kernel
theorem dX0_init_171 : decode cX0_init 171 = .ok (.new 24, 3) := by decide +kernel
theorem dX0_init_174 : decode cX0_init 174 = .ok (.dup, 1) := by decide +kernel
theorem dX0_init_175 : decode cX0_init 175 = .ok (.bipush 6, 2) := by decide +kernel
theorem dX0_init_177 : decode cX0_init 177 = .ok (.invokespecial 26, 3) := by decide +kernel
theorem dX0_init_180 : decode cX0_init 180 = .ok (.putfield 63, 3) := by decide +kernel
theorem dX0_init_183 : decode cX0_init 183 = .ok (.aload_n 0, 1) := by decide +kernel
theorem dX0_init_184 : decode cX0_init 184 = .ok (.new 66, 3) := by decide +kernel
theorem dX0_init_187 : decode cX0_init 187 = .ok (.dup, 1) := by decide +kernel
theorem dX0_init_188 : decode cX0_init 188 = .ok (.invokespecial 68, 3) := by decide +kernel
theorem dX0_init_191 : decode cX0_init 191 = .ok (.putfield 69, 3) := by decide +kernel
theorem dX0_init_194 : decode cX0_init 194 = .ok (.return_, 1) := by decide +kernel
theorem dX0_copyFrom_0 : decode cX0_copyFrom 0 = .ok (.aload_n 0, 1) := by decide +kernel
theorem dX0_copyFrom_1 : decode cX0_copyFrom 1 = .ok (.aload_n 1, 1) := by decide +kernel
theorem dX0_copyFrom_2 : decode cX0_copyFrom 2 = .ok (.getfield 9, 3) := by decide +kernel
theorem dX0_copyFrom_5 : decode cX0_copyFrom 5 = .ok (.putfield 9, 3) := by decide +kernel
theorem dX0_copyFrom_8 : decode cX0_copyFrom 8 = .ok (.aload_n 0, 1) := by decide +kernel
theorem dX0_copyFrom_9 : decode cX0_copyFrom 9 = .ok (.aload_n 1, 1) := by decide +kernel
theorem dX0_copyFrom_10 : decode cX0_copyFrom 10 = .ok (.getfield 15, 3) := by decide +kernel
theorem dX0_copyFrom_13 : decode cX0_copyFrom 13 = .ok (.putfield 15, 3) := by decide +kernel
theorem dX0_copyFrom_16 : decode cX0_copyFrom 16 = .ok (.aload_n 0, 1) := by decide +kernel
theorem dX0_copyFrom_17 : decode cX0_copyFrom 17 = .ok (.aload_n 1, 1) := by decide +kernel
theorem dX0_copyFrom_18 : decode cX0_copyFrom 18 = .ok (.getfield 18, 3) := by decide +kernel
theorem dX0_copyFrom_21 : decode cX0_copyFrom 21 = .ok (.putfield 18, 3) := by decide +kernel
theorem dX0_copyFrom_24 : decode cX0_copyFrom 24 = .ok (.aload_n 0, 1) := by decide +kernel
theorem dX0_copyFrom_25 : decode cX0_copyFrom 25 = .ok (.aload_n 1, 1) := by decide +kernel
theorem dX0_copyFrom_26 : decode cX0_copyFrom 26 = .ok (.getfield 21, 3) := by decide +kernel
theorem dX0_copyFrom_29 : decode cX0_copyFrom 29 = .ok (.putfield 21, 3) := by decide +kernel
theorem dX0_copyFrom_32 : decode cX0_copyFrom 32 = .ok (.aload_n 0, 1) := by decide +kernel
theorem dX0_copyFrom_33 : decode cX0_copyFrom 33 = .ok (.getfield 29, 3) := by decide +kernel
theorem dX0_copyFrom_36 : decode cX0_copyFrom 36 = .ok (.aload_n 1, 1) := by decide +kernel
theorem dX0_copyFrom_37 : decode cX0_copyFrom 37 = .ok (.getfield 29, 3) := by decide +kernel
theorem dX0_copyFrom_40 : decode cX0_copyFrom 40 = .ok (.invokevirtual 73, 3) := by decide +kernel
theorem dX0_copyFrom_43 : decode cX0_copyFrom 43 = .ok (.aload_n 0, 1) := by decide +kernel
theorem dX0_copyFrom_44 : decode cX0_copyFrom 44 = .ok (.getfield 33, 3) := by decide +kernel
theorem dX0_copyFrom_47 : decode cX0_copyFrom 47 = .ok (.aload_n 1, 1) := by decide +kernel
theorem dX0_copyFrom_48 : decode cX0_copyFrom 48 = .ok (.getfield 33, 3) := by decide +kernel
theorem dX0_copyFrom_51 : decode cX0_copyFrom 51 = .ok (.invokevirtual 73, 3) := by decide +kernel
theorem dX0_copyFrom_54 : decode cX0_copyFrom 54 = .ok (.aload_n 0, 1) := by decide +kernel
theorem dX0_copyFrom_55 : decode cX0_copyFrom 55 = .ok (.getfield 36, 3) := by decide +kernel
theorem dX0_copyFrom_58 : decode cX0_copyFrom 58 = .ok (.aload_n 1, 1) := by decide +kernel
theorem dX0_copyFrom_59 : decode cX0_copyFrom 59 = .ok (.getfield 36, 3) := by decide +kernel
theorem dX0_copyFrom_62 : decode cX0_copyFrom 62 = .ok (.invokevirtual 73, 3) := by decide +kernel
theorem dX0_copyFrom_65 : decode cX0_copyFrom 65 = .ok (.aload_n 0, 1) := by decide +kernel
theorem dX0_copyFrom_66 : decode cX0_copyFrom 66 = .ok (.getfield 39, 3) := by decide +kernel
theorem dX0_copyFrom_69 : decode cX0_copyFrom 69 = .ok (.aload_n 1, 1) := by decide +kernel
theorem dX0_copyFrom_70 : decode cX0_copyFrom 70 = .ok (.getfield 39, 3) := by decide +kernel
theorem dX0_copyFrom_73 : decode cX0_copyFrom 73 = .ok (.invokevirtual 73, 3) := by decide +kernel
theorem dX0_copyFrom_76 : decode cX0_copyFrom 76 = .ok (.aload_n 0, 1) := by decide +kernel
theorem dX0_copyFrom_77 : decode cX0_copyFrom 77 = .ok (.getfield 42, 3) := by decide +kernel
theorem dX0_copyFrom_80 : decode cX0_copyFrom 80 = .ok (.aload_n 1, 1) := by decide +kernel
theorem dX0_copyFrom_81 : decode cX0_copyFrom 81 = .ok (.getfield 42, 3) := by decide +kernel
theorem dX0_copyFrom_84 : decode cX0_copyFrom 84 = .ok (.invokevirtual 73, 3) := by decide +kernel
theorem dX0_copyFrom_87 : decode cX0_copyFrom 87 = .ok (.aload_n 0, 1) := by decide +kernel
theorem dX0_copyFrom_88 : decode cX0_copyFrom 88 = .ok (.getfield 45, 3) := by decide +kernel
theorem dX0_copyFrom_91 : decode cX0_copyFrom 91 = .ok (.aload_n 1, 1) := by decide +kernel
theorem dX0_copyFrom_92 : decode cX0_copyFrom 92 = .ok (.getfield 45, 3) := by decide +kernel
theorem dX0_copyFrom_95 : decode cX0_copyFrom 95 = .ok (.invokevirtual 73, 3) := by decide +kernel
theorem dX0_copyFrom_98 : decode cX0_copyFrom 98 = .ok (.aload_n 0, 1) := by decide +kernel
theorem dX0_copyFrom_99 : decode cX0_copyFrom 99 = .ok (.getfield 48, 3) := by decide +kernel
theorem dX0_copyFrom_102 : decode cX0_copyFrom 102 = .ok (.aload_n 1, 1) := by decide +kernel
theorem dX0_copyFrom_103 : decode cX0_copyFrom 103 = .ok (.getfield 48, 3) := by decide +kernel
theorem dX0_copyFrom_106 : decode cX0_copyFrom 106 = .ok (.invokevirtual 73, 3) := by decide +kernel
theorem dX0_copyFrom_109 : decode cX0_copyFrom 109 = .ok (.aload_n 0, 1) := by decide +kernel
theorem dX0_copyFrom_110 : decode cX0_copyFrom 110 = .ok (.getfield 51, 3) := by decide +kernel
theorem dX0_copyFrom_113 : decode cX0_copyFrom 113 = .ok (.aload_n 1, 1) := by decide +kernel
theorem dX0_copyFrom_114 : decode cX0_copyFrom 114 = .ok (.getfield 51, 3) := by decide +kernel
theorem dX0_copyFrom_117 : decode cX0_copyFrom 117 = .ok (.invokevirtual 73, 3) := by decide +kernel
theorem dX0_copyFrom_120 : decode cX0_copyFrom 120 = .ok (.aload_n 0, 1) := by decide +kernel
theorem dX0_copyFrom_121 : decode cX0_copyFrom 121 = .ok (.getfield 54, 3) := by decide +kernel
theorem dX0_copyFrom_124 : decode cX0_copyFrom 124 = .ok (.aload_n 1, 1) := by decide +kernel
theorem dX0_copyFrom_125 : decode cX0_copyFrom 125 = .ok (.getfield 54, 3) := by decide +kernel
theorem dX0_copyFrom_128 : decode cX0_copyFrom 128 = .ok (.invokevirtual 73, 3) := by decide +kernel
theorem dX0_copyFrom_131 : decode cX0_copyFrom 131 = .ok (.aload_n 0, 1) := by decide +kernel
theorem dX0_copyFrom_132 : decode cX0_copyFrom 132 = .ok (.getfield 57, 3) := by decide +kernel
theorem dX0_copyFrom_135 : decode cX0_copyFrom 135 = .ok (.aload_n 1, 1) := by decide +kernel
theorem dX0_copyFrom_136 : decode cX0_copyFrom 136 = .ok (.getfield 57, 3) := by decide +kernel
theorem dX0_copyFrom_139 : decode cX0_copyFrom 139 = .ok (.invokevirtual 73, 3) := by decide +kernel
theorem dX0_copyFrom_142 : decode cX0_copyFrom 142 = .ok (.aload_n 0, 1) := by decide +kernel
theorem dX0_copyFrom_143 : decode cX0_copyFrom 143 = .ok (.getfield 60, 3) := by decide +kernel
theorem dX0_copyFrom_146 : decode cX0_copyFrom 146 = .ok (.aload_n 1, 1) := by decide +kernel
theorem dX0_copyFrom_147 : decode cX0_copyFrom 147 = .ok (.getfield 60, 3) := by decide +kernel
theorem dX0_copyFrom_150 : decode cX0_copyFrom 150 = .ok (.invokevirtual 73, 3) := by decide +kernel
theorem dX0_copyFrom_153 : decode cX0_copyFrom 153 = .ok (.aload_n 0, 1) := by decide +kernel
theorem dX0_copyFrom_154 : decode cX0_copyFrom 154 = .ok (.getfield 63, 3) := by decide +kernel
theorem dX0_copyFrom_157 : decode cX0_copyFrom 157 = .ok (.aload_n 1, 1) := by decide +kernel
theorem dX0_copyFrom_158 : decode cX0_copyFrom 158 = .ok (.getfield 63, 3) := by decide +kernel
theorem dX0_copyFrom_161 : decode cX0_copyFrom 161 = .ok (.invokevirtual 73, 3) := by decide +kernel
theorem dX0_copyFrom_164 : decode cX0_copyFrom 164 = .ok (.aload_n 0, 1) := by decide +kernel
theorem dX0_copyFrom_165 : decode cX0_copyFrom 165 = .ok (.getfield 69, 3) := by decide +kernel
theorem dX0_copyFrom_168 : decode cX0_copyFrom 168 = .ok (.getfield 77, 3) := by decide +kernel
theorem dX0_copyFrom_171 : decode cX0_copyFrom 171 = .ok (.aload_n 1, 1) := by decide +kernel
theorem dX0_copyFrom_172 : decode cX0_copyFrom 172 = .ok (.getfield 69, 3) := by decide +kernel
theorem dX0_copyFrom_175 : decode cX0_copyFrom 175 = .ok (.getfield 77, 3) := by decide +kernel
theorem dX0_copyFrom_178 : decode cX0_copyFrom 178 = .ok (.invokevirtual 73, 3) := by decide +kernel
theorem dX0_copyFrom_181 : decode cX0_copyFrom 181 = .ok (.return_, 1) := by decide +kernel
theorem dX0_faultOf_0 : decode cX0_faultOf 0 = .ok (.iload_n 1, 1) := by decide +kernel
theorem dX0_faultOf_1 : decode cX0_faultOf 1 = .ok (.tableswitch 70 0 4 #[35, 42, 48, 57, 64], 35) := by decide +kernel
theorem dX0_faultOf_36 : decode cX0_faultOf 36 = .ok (.aload_n 0, 1) := by decide +kernel
theorem dX0_faultOf_37 : decode cX0_faultOf 37 = .ok (.iload_n 2, 1) := by decide +kernel
theorem dX0_faultOf_38 : decode cX0_faultOf 38 = .ok (.iload_n 3, 1) := by decide +kernel
theorem dX0_faultOf_39 : decode cX0_faultOf 39 = .ok (.invokevirtual 80, 3) := by decide +kernel
theorem dX0_faultOf_42 : decode cX0_faultOf 42 = .ok (.areturn, 1) := by decide +kernel
theorem dX0_faultOf_43 : decode cX0_faultOf 43 = .ok (.aload_n 0, 1) := by decide +kernel
theorem dX0_faultOf_44 : decode cX0_faultOf 44 = .ok (.iload_n 2, 1) := by decide +kernel
theorem dX0_faultOf_45 : decode cX0_faultOf 45 = .ok (.invokevirtual 84, 3) := by decide +kernel
theorem dX0_faultOf_48 : decode cX0_faultOf 48 = .ok (.areturn, 1) := by decide +kernel
theorem dX0_faultOf_49 : decode cX0_faultOf 49 = .ok (.aload_n 0, 1) := by decide +kernel
theorem dX0_faultOf_50 : decode cX0_faultOf 50 = .ok (.iload_n 2, 1) := by decide +kernel
theorem dX0_faultOf_51 : decode cX0_faultOf 51 = .ok (.iload_n 3, 1) := by decide +kernel
theorem dX0_faultOf_52 : decode cX0_faultOf 52 = .ok (.iload 4, 2) := by decide +kernel
theorem dX0_faultOf_54 : decode cX0_faultOf 54 = .ok (.invokevirtual 88, 3) := by decide +kernel
theorem dX0_faultOf_57 : decode cX0_faultOf 57 = .ok (.areturn, 1) := by decide +kernel
theorem dX0_faultOf_58 : decode cX0_faultOf 58 = .ok (.aload_n 0, 1) := by decide +kernel
theorem dX0_faultOf_59 : decode cX0_faultOf 59 = .ok (.iload_n 2, 1) := by decide +kernel
theorem dX0_faultOf_60 : decode cX0_faultOf 60 = .ok (.iload_n 3, 1) := by decide +kernel
theorem dX0_faultOf_61 : decode cX0_faultOf 61 = .ok (.invokevirtual 92, 3) := by decide +kernel
theorem dX0_faultOf_64 : decode cX0_faultOf 64 = .ok (.areturn, 1) := by decide +kernel
theorem dX0_faultOf_65 : decode cX0_faultOf 65 = .ok (.aload_n 0, 1) := by decide +kernel
theorem dX0_faultOf_66 : decode cX0_faultOf 66 = .ok (.iload_n 2, 1) := by decide +kernel
theorem dX0_faultOf_67 : decode cX0_faultOf 67 = .ok (.invokevirtual 95, 3) := by decide +kernel
theorem dX0_faultOf_70 : decode cX0_faultOf 70 = .ok (.areturn, 1) := by decide +kernel
theorem dX0_faultOf_71 : decode cX0_faultOf 71 = .ok (.aload_n 0, 1) := by decide +kernel
theorem dX0_faultOf_72 : decode cX0_faultOf 72 = .ok (.iload_n 2, 1) := by decide +kernel
theorem dX0_faultOf_73 : decode cX0_faultOf 73 = .ok (.invokevirtual 98, 3) := by decide +kernel
theorem dX0_faultOf_76 : decode cX0_faultOf 76 = .ok (.areturn, 1) := by decide +kernel
theorem dX0_perform_0 : decode cX0_perform 0 = .ok (.iload_n 1, 1) := by decide +kernel
theorem dX0_perform_1 : decode cX0_perform 1 = .ok (.tableswitch 84 0 5 #[39, 46, 52, 63, 72, 78], 39) := by decide +kernel
theorem dX0_perform_40 : decode cX0_perform 40 = .ok (.aload_n 0, 1) := by decide +kernel
theorem dX0_perform_41 : decode cX0_perform 41 = .ok (.iload_n 2, 1) := by decide +kernel
theorem dX0_perform_42 : decode cX0_perform 42 = .ok (.iload_n 3, 1) := by decide +kernel
theorem dX0_perform_43 : decode cX0_perform 43 = .ok (.invokevirtual 101, 3) := by decide +kernel
theorem dX0_perform_46 : decode cX0_perform 46 = .ok (.ireturn, 1) := by decide +kernel
theorem dX0_perform_47 : decode cX0_perform 47 = .ok (.aload_n 0, 1) := by decide +kernel
theorem dX0_perform_48 : decode cX0_perform 48 = .ok (.iload_n 2, 1) := by decide +kernel
theorem dX0_perform_49 : decode cX0_perform 49 = .ok (.invokevirtual 105, 3) := by decide +kernel
theorem dX0_perform_52 : decode cX0_perform 52 = .ok (.ireturn, 1) := by decide +kernel
theorem dX0_perform_53 : decode cX0_perform 53 = .ok (.aload_n 0, 1) := by decide +kernel
theorem dX0_perform_54 : decode cX0_perform 54 = .ok (.iload_n 2, 1) := by decide +kernel
theorem dX0_perform_55 : decode cX0_perform 55 = .ok (.iload_n 3, 1) := by decide +kernel
theorem dX0_perform_56 : decode cX0_perform 56 = .ok (.iload 4, 2) := by decide +kernel
theorem dX0_perform_58 : decode cX0_perform 58 = .ok (.iload 5, 2) := by decide +kernel
theorem dX0_perform_60 : decode cX0_perform 60 = .ok (.invokevirtual 109, 3) := by decide +kernel
theorem dX0_perform_63 : decode cX0_perform 63 = .ok (.ireturn, 1) := by decide +kernel
theorem dX0_perform_64 : decode cX0_perform 64 = .ok (.aload_n 0, 1) := by decide +kernel
theorem dX0_perform_65 : decode cX0_perform 65 = .ok (.iload_n 2, 1) := by decide +kernel
theorem dX0_perform_66 : decode cX0_perform 66 = .ok (.iload_n 3, 1) := by decide +kernel
theorem dX0_perform_67 : decode cX0_perform 67 = .ok (.iload 4, 2) := by decide +kernel
theorem dX0_perform_69 : decode cX0_perform 69 = .ok (.invokevirtual 113, 3) := by decide +kernel
theorem dX0_perform_72 : decode cX0_perform 72 = .ok (.ireturn, 1) := by decide +kernel
theorem dX0_perform_73 : decode cX0_perform 73 = .ok (.aload_n 0, 1) := by decide +kernel
theorem dX0_perform_74 : decode cX0_perform 74 = .ok (.iload_n 2, 1) := by decide +kernel
theorem dX0_perform_75 : decode cX0_perform 75 = .ok (.invokevirtual 117, 3) := by decide +kernel
theorem dX0_perform_78 : decode cX0_perform 78 = .ok (.ireturn, 1) := by decide +kernel
theorem dX0_perform_79 : decode cX0_perform 79 = .ok (.aload_n 0, 1) := by decide +kernel
theorem dX0_perform_80 : decode cX0_perform 80 = .ok (.iload_n 2, 1) := by decide +kernel
theorem dX0_perform_81 : decode cX0_perform 81 = .ok (.invokevirtual 120, 3) := by decide +kernel
theorem dX0_perform_84 : decode cX0_perform 84 = .ok (.ireturn, 1) := by decide +kernel
theorem dX0_perform_85 : decode cX0_perform 85 = .ok (.aload_n 0, 1) := by decide +kernel
theorem dX0_perform_86 : decode cX0_perform 86 = .ok (.iload_n 2, 1) := by decide +kernel
theorem dX0_perform_87 : decode cX0_perform 87 = .ok (.invokevirtual 123, 3) := by decide +kernel
theorem dX0_perform_90 : decode cX0_perform 90 = .ok (.ireturn, 1) := by decide +kernel
theorem dX0_faultOfCharge_0 : decode cX0_faultOfCharge 0 = .ok (.iload_n 1, 1) := by decide +kernel
theorem dX0_faultOfCharge_1 : decode cX0_faultOfCharge 1 = .ok (.invokestatic 126, 3) := by decide +kernel
theorem dX0_faultOfCharge_4 : decode cX0_faultOfCharge 4 = .ok (.ifCond .eq 10, 3) := by decide +kernel
theorem dX0_faultOfCharge_7 : decode cX0_faultOfCharge 7 = .ok (.iload_n 2, 1) := by decide +kernel
theorem dX0_faultOfCharge_8 : decode cX0_faultOfCharge 8 = .ok (.invokestatic 130, 3) := by decide +kernel
theorem dX0_faultOfCharge_11 : decode cX0_faultOfCharge 11 = .ok (.ifCond .ne 7, 3) := by decide +kernel
theorem dX0_faultOfCharge_14 : decode cX0_faultOfCharge 14 = .ok (.getstatic 133, 3) := by decide +kernel
theorem dX0_faultOfCharge_17 : decode cX0_faultOfCharge 17 = .ok (.areturn, 1) := by decide +kernel
theorem dX0_faultOfCharge_18 : decode cX0_faultOfCharge 18 = .ok (.aload_n 0, 1) := by decide +kernel
theorem dX0_faultOfCharge_19 : decode cX0_faultOfCharge 19 = .ok (.iload_n 1, 1) := by decide +kernel
theorem dX0_faultOfCharge_20 : decode cX0_faultOfCharge 20 = .ok (.iload_n 2, 1) := by decide +kernel
theorem dX0_faultOfCharge_21 : decode cX0_faultOfCharge 21 = .ok (.invokevirtual 139, 3) := by decide +kernel
theorem dX0_faultOfCharge_24 : decode cX0_faultOfCharge 24 = .ok (.iconst (-1), 1) := by decide +kernel
theorem dX0_faultOfCharge_25 : decode cX0_faultOfCharge 25 = .ok (.if_icmp .eq 7, 3) := by decide +kernel
theorem dX0_faultOfCharge_28 : decode cX0_faultOfCharge 28 = .ok (.iconst 1, 1) := by decide +kernel
theorem dX0_faultOfCharge_29 : decode cX0_faultOfCharge 29 = .ok (.goto 4, 3) := by decide +kernel
theorem dX0_faultOfCharge_32 : decode cX0_faultOfCharge 32 = .ok (.iconst 0, 1) := by decide +kernel
theorem dX0_faultOfCharge_33 : decode cX0_faultOfCharge 33 = .ok (.istore_n 3, 1) := by decide +kernel
theorem dX0_faultOfCharge_34 : decode cX0_faultOfCharge 34 = .ok (.iload_n 3, 1) := by decide +kernel
theorem dX0_faultOfCharge_35 : decode cX0_faultOfCharge 35 = .ok (.ifCond .ne 12, 3) := by decide +kernel
theorem dX0_faultOfCharge_38 : decode cX0_faultOfCharge 38 = .ok (.aload_n 0, 1) := by decide +kernel
theorem dX0_faultOfCharge_39 : decode cX0_faultOfCharge 39 = .ok (.getfield 9, 3) := by decide +kernel
theorem dX0_faultOfCharge_42 : decode cX0_faultOfCharge 42 = .ok (.bipush 16, 2) := by decide +kernel
theorem dX0_faultOfCharge_44 : decode cX0_faultOfCharge 44 = .ok (.if_icmp .lt 9, 3) := by decide +kernel
theorem dX0_faultOfCharge_47 : decode cX0_faultOfCharge 47 = .ok (.getstatic 142, 3) := by decide +kernel
theorem dX0_faultOfCharge_50 : decode cX0_faultOfCharge 50 = .ok (.goto 6, 3) := by decide +kernel
theorem dX0_faultOfCharge_53 : decode cX0_faultOfCharge 53 = .ok (.getstatic 145, 3) := by decide +kernel
theorem dX0_faultOfCharge_56 : decode cX0_faultOfCharge 56 = .ok (.areturn, 1) := by decide +kernel
theorem dX0_faultOfWitness_0 : decode cX0_faultOfWitness 0 = .ok (.iload_n 1, 1) := by decide +kernel
theorem dX0_faultOfWitness_1 : decode cX0_faultOfWitness 1 = .ok (.ifCond .lt 9, 3) := by decide +kernel
theorem dX0_faultOfWitness_4 : decode cX0_faultOfWitness 4 = .ok (.iload_n 1, 1) := by decide +kernel
theorem dX0_faultOfWitness_5 : decode cX0_faultOfWitness 5 = .ok (.bipush 9, 2) := by decide +kernel
theorem dX0_faultOfWitness_7 : decode cX0_faultOfWitness 7 = .ok (.if_icmp .le 7, 3) := by decide +kernel
theorem dX0_faultOfWitness_10 : decode cX0_faultOfWitness 10 = .ok (.getstatic 133, 3) := by decide +kernel
theorem dX0_faultOfWitness_13 : decode cX0_faultOfWitness 13 = .ok (.areturn, 1) := by decide +kernel
theorem dX0_faultOfWitness_14 : decode cX0_faultOfWitness 14 = .ok (.aload_n 0, 1) := by decide +kernel
theorem dX0_faultOfWitness_15 : decode cX0_faultOfWitness 15 = .ok (.getfield 15, 3) := by decide +kernel
theorem dX0_faultOfWitness_18 : decode cX0_faultOfWitness 18 = .ok (.bipush 8, 2) := by decide +kernel
theorem dX0_faultOfWitness_20 : decode cX0_faultOfWitness 20 = .ok (.if_icmp .lt 9, 3) := by decide +kernel
theorem dX0_faultOfWitness_23 : decode cX0_faultOfWitness 23 = .ok (.getstatic 142, 3) := by decide +kernel
theorem dX0_faultOfWitness_26 : decode cX0_faultOfWitness 26 = .ok (.goto 6, 3) := by decide +kernel
theorem dX0_faultOfWitness_29 : decode cX0_faultOfWitness 29 = .ok (.getstatic 145, 3) := by decide +kernel
theorem dX0_faultOfWitness_32 : decode cX0_faultOfWitness 32 = .ok (.areturn, 1) := by decide +kernel
theorem dX0_faultOfTestimony_0 : decode cX0_faultOfTestimony 0 = .ok (.aload_n 0, 1) := by decide +kernel
theorem dX0_faultOfTestimony_1 : decode cX0_faultOfTestimony 1 = .ok (.iload_n 1, 1) := by decide +kernel
theorem dX0_faultOfTestimony_2 : decode cX0_faultOfTestimony 2 = .ok (.invokevirtual 148, 3) := by decide +kernel
theorem dX0_faultOfTestimony_5 : decode cX0_faultOfTestimony 5 = .ok (.ifCond .eq 11, 3) := by decide +kernel
theorem dX0_faultOfTestimony_8 : decode cX0_faultOfTestimony 8 = .ok (.aload_n 0, 1) := by decide +kernel
theorem dX0_faultOfTestimony_9 : decode cX0_faultOfTestimony 9 = .ok (.iload_n 2, 1) := by decide +kernel
theorem dX0_faultOfTestimony_10 : decode cX0_faultOfTestimony 10 = .ok (.invokevirtual 151, 3) := by decide +kernel
theorem dX0_faultOfTestimony_13 : decode cX0_faultOfTestimony 13 = .ok (.ifCond .ne 7, 3) := by decide +kernel
theorem dX0_faultOfTestimony_16 : decode cX0_faultOfTestimony 16 = .ok (.getstatic 154, 3) := by decide +kernel
theorem dX0_faultOfTestimony_19 : decode cX0_faultOfTestimony 19 = .ok (.areturn, 1) := by decide +kernel
theorem dX0_faultOfTestimony_20 : decode cX0_faultOfTestimony 20 = .ok (.iload_n 3, 1) := by decide +kernel
theorem dX0_faultOfTestimony_21 : decode cX0_faultOfTestimony 21 = .ok (.iconst 1, 1) := by decide +kernel
theorem dX0_faultOfTestimony_22 : decode cX0_faultOfTestimony 22 = .ok (.if_icmp .lt 8, 3) := by decide +kernel
theorem dX0_faultOfTestimony_25 : decode cX0_faultOfTestimony 25 = .ok (.iload_n 3, 1) := by decide +kernel
theorem dX0_faultOfTestimony_26 : decode cX0_faultOfTestimony 26 = .ok (.iconst 5, 1) := by decide +kernel
theorem dX0_faultOfTestimony_27 : decode cX0_faultOfTestimony 27 = .ok (.if_icmp .le 7, 3) := by decide +kernel
theorem dX0_faultOfTestimony_30 : decode cX0_faultOfTestimony 30 = .ok (.getstatic 133, 3) := by decide +kernel
theorem dX0_faultOfTestimony_33 : decode cX0_faultOfTestimony 33 = .ok (.areturn, 1) := by decide +kernel
theorem dX0_faultOfTestimony_34 : decode cX0_faultOfTestimony 34 = .ok (.aload_n 0, 1) := by decide +kernel
theorem dX0_faultOfTestimony_35 : decode cX0_faultOfTestimony 35 = .ok (.getfield 45, 3) := by decide +kernel
theorem dX0_faultOfTestimony_38 : decode cX0_faultOfTestimony 38 = .ok (.iload_n 1, 1) := by decide +kernel
theorem dX0_faultOfTestimony_39 : decode cX0_faultOfTestimony 39 = .ok (.invokevirtual 157, 3) := by decide +kernel
theorem dX0_faultOfTestimony_42 : decode cX0_faultOfTestimony 42 = .ok (.bipush 6, 2) := by decide +kernel
theorem dX0_faultOfTestimony_44 : decode cX0_faultOfTestimony 44 = .ok (.if_icmp .lt 7, 3) := by decide +kernel
theorem dX0_faultOfTestimony_47 : decode cX0_faultOfTestimony 47 = .ok (.iconst 1, 1) := by decide +kernel
theorem dX0_faultOfTestimony_48 : decode cX0_faultOfTestimony 48 = .ok (.goto 4, 3) := by decide +kernel
theorem dX0_faultOfTestimony_51 : decode cX0_faultOfTestimony 51 = .ok (.iconst 0, 1) := by decide +kernel
theorem dX0_faultOfTestimony_52 : decode cX0_faultOfTestimony 52 = .ok (.istore 4, 2) := by decide +kernel
theorem dX0_faultOfTestimony_54 : decode cX0_faultOfTestimony 54 = .ok (.aload_n 0, 1) := by decide +kernel
theorem dX0_faultOfTestimony_55 : decode cX0_faultOfTestimony 55 = .ok (.iconst 0, 1) := by decide +kernel
theorem dX0_faultOfTestimony_56 : decode cX0_faultOfTestimony 56 = .ok (.iload_n 1, 1) := by decide +kernel
theorem dX0_faultOfTestimony_57 : decode cX0_faultOfTestimony 57 = .ok (.invokevirtual 160, 3) := by decide +kernel
theorem dX0_faultOfTestimony_60 : decode cX0_faultOfTestimony 60 = .ok (.ifCond .eq 17, 3) := by decide +kernel
theorem dX0_faultOfTestimony_63 : decode cX0_faultOfTestimony 63 = .ok (.aload_n 0, 1) := by decide +kernel
theorem dX0_faultOfTestimony_64 : decode cX0_faultOfTestimony 64 = .ok (.iload_n 1, 1) := by decide +kernel
theorem dX0_faultOfTestimony_65 : decode cX0_faultOfTestimony 65 = .ok (.iload_n 2, 1) := by decide +kernel
theorem dX0_faultOfTestimony_66 : decode cX0_faultOfTestimony 66 = .ok (.invokevirtual 164, 3) := by decide +kernel
theorem dX0_faultOfTestimony_69 : decode cX0_faultOfTestimony 69 = .ok (.ifCond .ne 8, 3) := by decide +kernel
theorem dX0_faultOfTestimony_72 : decode cX0_faultOfTestimony 72 = .ok (.iload 4, 2) := by decide +kernel
theorem dX0_faultOfTestimony_74 : decode cX0_faultOfTestimony 74 = .ok (.ifCond .eq 7, 3) := by decide +kernel
theorem dX0_faultOfTestimony_77 : decode cX0_faultOfTestimony 77 = .ok (.iconst 1, 1) := by decide +kernel
theorem dX0_faultOfTestimony_78 : decode cX0_faultOfTestimony 78 = .ok (.goto 4, 3) := by decide +kernel
theorem dX0_faultOfTestimony_81 : decode cX0_faultOfTestimony 81 = .ok (.iconst 0, 1) := by decide +kernel
theorem dX0_faultOfTestimony_82 : decode cX0_faultOfTestimony 82 = .ok (.istore 5, 2) := by decide +kernel
theorem dX0_faultOfTestimony_84 : decode cX0_faultOfTestimony 84 = .ok (.iload 5, 2) := by decide +kernel
theorem dX0_faultOfTestimony_86 : decode cX0_faultOfTestimony 86 = .ok (.ifCond .eq 9, 3) := by decide +kernel
theorem dX0_faultOfTestimony_89 : decode cX0_faultOfTestimony 89 = .ok (.getstatic 142, 3) := by decide +kernel
theorem dX0_faultOfTestimony_92 : decode cX0_faultOfTestimony 92 = .ok (.goto 6, 3) := by decide +kernel
theorem dX0_faultOfTestimony_95 : decode cX0_faultOfTestimony 95 = .ok (.getstatic 145, 3) := by decide +kernel
theorem dX0_faultOfTestimony_98 : decode cX0_faultOfTestimony 98 = .ok (.areturn, 1) := by decide +kernel
theorem dX0_faultOfQuestion_0 : decode cX0_faultOfQuestion 0 = .ok (.aload_n 0, 1) := by decide +kernel
theorem dX0_faultOfQuestion_1 : decode cX0_faultOfQuestion 1 = .ok (.iload_n 1, 1) := by decide +kernel
theorem dX0_faultOfQuestion_2 : decode cX0_faultOfQuestion 2 = .ok (.invokevirtual 148, 3) := by decide +kernel
theorem dX0_faultOfQuestion_5 : decode cX0_faultOfQuestion 5 = .ok (.ifCond .eq 11, 3) := by decide +kernel
theorem dX0_faultOfQuestion_8 : decode cX0_faultOfQuestion 8 = .ok (.aload_n 0, 1) := by decide +kernel
theorem dX0_faultOfQuestion_9 : decode cX0_faultOfQuestion 9 = .ok (.iload_n 2, 1) := by decide +kernel
theorem dX0_faultOfQuestion_10 : decode cX0_faultOfQuestion 10 = .ok (.invokevirtual 151, 3) := by decide +kernel
theorem dX0_faultOfQuestion_13 : decode cX0_faultOfQuestion 13 = .ok (.ifCond .ne 7, 3) := by decide +kernel
theorem dX0_faultOfQuestion_16 : decode cX0_faultOfQuestion 16 = .ok (.getstatic 154, 3) := by decide +kernel
theorem dX0_faultOfQuestion_19 : decode cX0_faultOfQuestion 19 = .ok (.areturn, 1) := by decide +kernel
theorem dX0_faultOfQuestion_20 : decode cX0_faultOfQuestion 20 = .ok (.aload_n 0, 1) := by decide +kernel
theorem dX0_faultOfQuestion_21 : decode cX0_faultOfQuestion 21 = .ok (.iload_n 1, 1) := by decide +kernel
theorem dX0_faultOfQuestion_22 : decode cX0_faultOfQuestion 22 = .ok (.iload_n 2, 1) := by decide +kernel
theorem dX0_faultOfQuestion_23 : decode cX0_faultOfQuestion 23 = .ok (.invokevirtual 164, 3) := by decide +kernel
theorem dX0_faultOfQuestion_26 : decode cX0_faultOfQuestion 26 = .ok (.ifCond .ne 7, 3) := by decide +kernel
theorem dX0_faultOfQuestion_29 : decode cX0_faultOfQuestion 29 = .ok (.getstatic 167, 3) := by decide +kernel
theorem dX0_faultOfQuestion_32 : decode cX0_faultOfQuestion 32 = .ok (.areturn, 1) := by decide +kernel
theorem dX0_faultOfQuestion_33 : decode cX0_faultOfQuestion 33 = .ok (.aload_n 0, 1) := by decide +kernel
theorem dX0_faultOfQuestion_34 : decode cX0_faultOfQuestion 34 = .ok (.iload_n 1, 1) := by decide +kernel
theorem dX0_faultOfQuestion_35 : decode cX0_faultOfQuestion 35 = .ok (.iload_n 2, 1) := by decide +kernel
theorem dX0_faultOfQuestion_36 : decode cX0_faultOfQuestion 36 = .ok (.invokevirtual 170, 3) := by decide +kernel
theorem dX0_faultOfQuestion_39 : decode cX0_faultOfQuestion 39 = .ok (.iconst 2, 1) := by decide +kernel
theorem dX0_faultOfQuestion_40 : decode cX0_faultOfQuestion 40 = .ok (.if_icmp .lt 7, 3) := by decide +kernel
theorem dX0_faultOfQuestion_43 : decode cX0_faultOfQuestion 43 = .ok (.iconst 1, 1) := by decide +kernel
theorem dX0_faultOfQuestion_44 : decode cX0_faultOfQuestion 44 = .ok (.goto 4, 3) := by decide +kernel
theorem dX0_faultOfQuestion_47 : decode cX0_faultOfQuestion 47 = .ok (.iconst 0, 1) := by decide +kernel
theorem dX0_faultOfQuestion_48 : decode cX0_faultOfQuestion 48 = .ok (.istore_n 3, 1) := by decide +kernel
theorem dX0_faultOfQuestion_49 : decode cX0_faultOfQuestion 49 = .ok (.aload_n 0, 1) := by decide +kernel
theorem dX0_faultOfQuestion_50 : decode cX0_faultOfQuestion 50 = .ok (.iconst 0, 1) := by decide +kernel
theorem dX0_faultOfQuestion_51 : decode cX0_faultOfQuestion 51 = .ok (.iload_n 1, 1) := by decide +kernel
theorem dX0_faultOfQuestion_52 : decode cX0_faultOfQuestion 52 = .ok (.invokevirtual 160, 3) := by decide +kernel
theorem dX0_faultOfQuestion_55 : decode cX0_faultOfQuestion 55 = .ok (.ifCond .eq 7, 3) := by decide +kernel
theorem dX0_faultOfQuestion_58 : decode cX0_faultOfQuestion 58 = .ok (.iload_n 3, 1) := by decide +kernel
theorem dX0_faultOfQuestion_59 : decode cX0_faultOfQuestion 59 = .ok (.ifCond .eq 9, 3) := by decide +kernel
theorem dX0_faultOfQuestion_62 : decode cX0_faultOfQuestion 62 = .ok (.getstatic 142, 3) := by decide +kernel
theorem dX0_faultOfQuestion_65 : decode cX0_faultOfQuestion 65 = .ok (.goto 6, 3) := by decide +kernel
theorem dX0_faultOfQuestion_68 : decode cX0_faultOfQuestion 68 = .ok (.getstatic 145, 3) := by decide +kernel
theorem dX0_faultOfQuestion_71 : decode cX0_faultOfQuestion 71 = .ok (.areturn, 1) := by decide +kernel
theorem dX0_faultOfDecision_0 : decode cX0_faultOfDecision 0 = .ok (.aload_n 0, 1) := by decide +kernel
theorem dX0_faultOfDecision_1 : decode cX0_faultOfDecision 1 = .ok (.iload_n 1, 1) := by decide +kernel
theorem dX0_faultOfDecision_2 : decode cX0_faultOfDecision 2 = .ok (.invokevirtual 148, 3) := by decide +kernel
theorem dX0_faultOfDecision_5 : decode cX0_faultOfDecision 5 = .ok (.ifCond .ne 7, 3) := by decide +kernel
theorem dX0_faultOfDecision_8 : decode cX0_faultOfDecision 8 = .ok (.getstatic 154, 3) := by decide +kernel
theorem dX0_faultOfDecision_11 : decode cX0_faultOfDecision 11 = .ok (.areturn, 1) := by decide +kernel
theorem dX0_faultOfDecision_12 : decode cX0_faultOfDecision 12 = .ok (.aload_n 0, 1) := by decide +kernel
theorem dX0_faultOfDecision_13 : decode cX0_faultOfDecision 13 = .ok (.iconst 0, 1) := by decide +kernel
theorem dX0_faultOfDecision_14 : decode cX0_faultOfDecision 14 = .ok (.iload_n 1, 1) := by decide +kernel
theorem dX0_faultOfDecision_15 : decode cX0_faultOfDecision 15 = .ok (.invokevirtual 160, 3) := by decide +kernel
theorem dX0_faultOfDecision_18 : decode cX0_faultOfDecision 18 = .ok (.ifCond .eq 18, 3) := by decide +kernel
theorem dX0_faultOfDecision_21 : decode cX0_faultOfDecision 21 = .ok (.aload_n 0, 1) := by decide +kernel
theorem dX0_faultOfDecision_22 : decode cX0_faultOfDecision 22 = .ok (.getfield 45, 3) := by decide +kernel
theorem dX0_faultOfDecision_25 : decode cX0_faultOfDecision 25 = .ok (.iload_n 1, 1) := by decide +kernel
theorem dX0_faultOfDecision_26 : decode cX0_faultOfDecision 26 = .ok (.invokevirtual 157, 3) := by decide +kernel
theorem dX0_faultOfDecision_29 : decode cX0_faultOfDecision 29 = .ok (.ifCond .le 7, 3) := by decide +kernel
theorem dX0_faultOfDecision_32 : decode cX0_faultOfDecision 32 = .ok (.iconst 1, 1) := by decide +kernel
theorem dX0_faultOfDecision_33 : decode cX0_faultOfDecision 33 = .ok (.goto 4, 3) := by decide +kernel
theorem dX0_faultOfDecision_36 : decode cX0_faultOfDecision 36 = .ok (.iconst 0, 1) := by decide +kernel
theorem dX0_faultOfDecision_37 : decode cX0_faultOfDecision 37 = .ok (.istore_n 2, 1) := by decide +kernel
theorem dX0_faultOfDecision_38 : decode cX0_faultOfDecision 38 = .ok (.iload_n 2, 1) := by decide +kernel
theorem dX0_faultOfDecision_39 : decode cX0_faultOfDecision 39 = .ok (.ifCond .eq 9, 3) := by decide +kernel
theorem dX0_faultOfDecision_42 : decode cX0_faultOfDecision 42 = .ok (.getstatic 145, 3) := by decide +kernel
theorem dX0_faultOfDecision_45 : decode cX0_faultOfDecision 45 = .ok (.goto 6, 3) := by decide +kernel
theorem dX0_faultOfDecision_48 : decode cX0_faultOfDecision 48 = .ok (.getstatic 142, 3) := by decide +kernel
theorem dX0_faultOfDecision_51 : decode cX0_faultOfDecision 51 = .ok (.areturn, 1) := by decide +kernel
theorem dX0_faultAfterVerdict_0 : decode cX0_faultAfterVerdict 0 = .ok (.aload_n 0, 1) := by decide +kernel
theorem dX0_faultAfterVerdict_1 : decode cX0_faultAfterVerdict 1 = .ok (.iload_n 1, 1) := by decide +kernel
theorem dX0_faultAfterVerdict_2 : decode cX0_faultAfterVerdict 2 = .ok (.invokevirtual 148, 3) := by decide +kernel
theorem dX0_faultAfterVerdict_5 : decode cX0_faultAfterVerdict 5 = .ok (.ifCond .ne 7, 3) := by decide +kernel
theorem dX0_faultAfterVerdict_8 : decode cX0_faultAfterVerdict 8 = .ok (.getstatic 154, 3) := by decide +kernel
theorem dX0_faultAfterVerdict_11 : decode cX0_faultAfterVerdict 11 = .ok (.areturn, 1) := by decide +kernel
theorem dX0_faultAfterVerdict_12 : decode cX0_faultAfterVerdict 12 = .ok (.aload_n 0, 1) := by decide +kernel
theorem dX0_faultAfterVerdict_13 : decode cX0_faultAfterVerdict 13 = .ok (.iconst 1, 1) := by decide +kernel
theorem dX0_faultAfterVerdict_14 : decode cX0_faultAfterVerdict 14 = .ok (.iload_n 1, 1) := by decide +kernel
theorem dX0_faultAfterVerdict_15 : decode cX0_faultAfterVerdict 15 = .ok (.invokevirtual 160, 3) := by decide +kernel
theorem dX0_faultAfterVerdict_18 : decode cX0_faultAfterVerdict 18 = .ok (.ifCond .eq 9, 3) := by decide +kernel
theorem dX0_faultAfterVerdict_21 : decode cX0_faultAfterVerdict 21 = .ok (.getstatic 145, 3) := by decide +kernel
theorem dX0_faultAfterVerdict_24 : decode cX0_faultAfterVerdict 24 = .ok (.goto 6, 3) := by decide +kernel
theorem dX0_faultAfterVerdict_27 : decode cX0_faultAfterVerdict 27 = .ok (.getstatic 142, 3) := by decide +kernel
theorem dX0_faultAfterVerdict_30 : decode cX0_faultAfterVerdict 30 = .ok (.areturn, 1) := by decide +kernel
theorem dX0_openCase_0 : decode cX0_openCase 0 = .ok (.aload_n 0, 1) := by decide +kernel
theorem dX0_openCase_1 : decode cX0_openCase 1 = .ok (.getfield 9, 3) := by decide +kernel
theorem dX0_openCase_4 : decode cX0_openCase 4 = .ok (.istore_n 3, 1) := by decide +kernel
theorem dX0_openCase_5 : decode cX0_openCase 5 = .ok (.aload_n 0, 1) := by decide +kernel
theorem dX0_openCase_6 : decode cX0_openCase 6 = .ok (.getfield 29, 3) := by decide +kernel
theorem dX0_openCase_9 : decode cX0_openCase 9 = .ok (.iload_n 3, 1) := by decide +kernel
theorem dX0_openCase_10 : decode cX0_openCase 10 = .ok (.iload_n 1, 1) := by decide +kernel
theorem dX0_openCase_11 : decode cX0_openCase 11 = .ok (.invokevirtual 173, 3) := by decide +kernel
theorem dX0_openCase_14 : decode cX0_openCase 14 = .ok (.aload_n 0, 1) := by decide +kernel
theorem dX0_openCase_15 : decode cX0_openCase 15 = .ok (.getfield 33, 3) := by decide +kernel
theorem dX0_openCase_18 : decode cX0_openCase 18 = .ok (.iload_n 3, 1) := by decide +kernel
theorem dX0_openCase_19 : decode cX0_openCase 19 = .ok (.iload_n 2, 1) := by decide +kernel
theorem dX0_openCase_20 : decode cX0_openCase 20 = .ok (.invokevirtual 173, 3) := by decide +kernel
theorem dX0_openCase_23 : decode cX0_openCase 23 = .ok (.aload_n 0, 1) := by decide +kernel
theorem dX0_openCase_24 : decode cX0_openCase 24 = .ok (.getfield 36, 3) := by decide +kernel
theorem dX0_openCase_27 : decode cX0_openCase 27 = .ok (.iload_n 3, 1) := by decide +kernel
theorem dX0_openCase_28 : decode cX0_openCase 28 = .ok (.iconst 0, 1) := by decide +kernel
theorem dX0_openCase_29 : decode cX0_openCase 29 = .ok (.invokevirtual 173, 3) := by decide +kernel
theorem dX0_openCase_32 : decode cX0_openCase 32 = .ok (.aload_n 0, 1) := by decide +kernel
theorem dX0_openCase_33 : decode cX0_openCase 33 = .ok (.iload_n 3, 1) := by decide +kernel
theorem dX0_openCase_34 : decode cX0_openCase 34 = .ok (.iconst 1, 1) := by decide +kernel
theorem dX0_openCase_35 : decode cX0_openCase 35 = .ok (.iadd, 1) := by decide +kernel
theorem dX0_openCase_36 : decode cX0_openCase 36 = .ok (.putfield 9, 3) := by decide +kernel
theorem dX0_openCase_39 : decode cX0_openCase 39 = .ok (.iload_n 3, 1) := by decide +kernel
theorem dX0_openCase_40 : decode cX0_openCase 40 = .ok (.ireturn, 1) := by decide +kernel
theorem dX0_register_0 : decode cX0_register 0 = .ok (.aload_n 0, 1) := by decide +kernel
theorem dX0_register_1 : decode cX0_register 1 = .ok (.getfield 15, 3) := by decide +kernel
theorem dX0_register_4 : decode cX0_register 4 = .ok (.istore_n 2, 1) := by decide +kernel
theorem dX0_register_5 : decode cX0_register 5 = .ok (.aload_n 0, 1) := by decide +kernel
theorem dX0_register_6 : decode cX0_register 6 = .ok (.getfield 60, 3) := by decide +kernel
theorem dX0_register_9 : decode cX0_register 9 = .ok (.iload_n 2, 1) := by decide +kernel
theorem dX0_register_10 : decode cX0_register 10 = .ok (.iload_n 1, 1) := by decide +kernel
theorem dX0_register_11 : decode cX0_register 11 = .ok (.invokevirtual 173, 3) := by decide +kernel
theorem dX0_register_14 : decode cX0_register 14 = .ok (.aload_n 0, 1) := by decide +kernel
theorem dX0_register_15 : decode cX0_register 15 = .ok (.getfield 69, 3) := by decide +kernel
theorem dX0_register_18 : decode cX0_register 18 = .ok (.iload_n 2, 1) := by decide +kernel
theorem dX0_register_19 : decode cX0_register 19 = .ok (.invokevirtual 177, 3) := by decide +kernel
theorem dX0_register_22 : decode cX0_register 22 = .ok (.aload_n 0, 1) := by decide +kernel
theorem dX0_register_23 : decode cX0_register 23 = .ok (.iload_n 2, 1) := by decide +kernel
theorem dX0_register_24 : decode cX0_register 24 = .ok (.iconst 1, 1) := by decide +kernel
theorem dX0_register_25 : decode cX0_register 25 = .ok (.iadd, 1) := by decide +kernel
theorem dX0_register_26 : decode cX0_register 26 = .ok (.putfield 15, 3) := by decide +kernel
theorem dX0_register_29 : decode cX0_register 29 = .ok (.iload_n 2, 1) := by decide +kernel
theorem dX0_register_30 : decode cX0_register 30 = .ok (.ireturn, 1) := by decide +kernel
theorem dX0_hear_0 : decode cX0_hear 0 = .ok (.aload_n 0, 1) := by decide +kernel
theorem dX0_hear_1 : decode cX0_hear 1 = .ok (.getfield 45, 3) := by decide +kernel
theorem dX0_hear_4 : decode cX0_hear 4 = .ok (.iload_n 1, 1) := by decide +kernel
theorem dX0_hear_5 : decode cX0_hear 5 = .ok (.invokevirtual 157, 3) := by decide +kernel
theorem dX0_hear_8 : decode cX0_hear 8 = .ok (.istore 5, 2) := by decide +kernel
theorem dX0_hear_10 : decode cX0_hear 10 = .ok (.aload_n 0, 1) := by decide +kernel
theorem dX0_hear_11 : decode cX0_hear 11 = .ok (.getfield 48, 3) := by decide +kernel
theorem dX0_hear_14 : decode cX0_hear 14 = .ok (.iload_n 1, 1) := by decide +kernel
theorem dX0_hear_15 : decode cX0_hear 15 = .ok (.bipush 6, 2) := by decide +kernel
theorem dX0_hear_17 : decode cX0_hear 17 = .ok (.imul, 1) := by decide +kernel
theorem dX0_hear_18 : decode cX0_hear 18 = .ok (.iload 5, 2) := by decide +kernel
theorem dX0_hear_20 : decode cX0_hear 20 = .ok (.iadd, 1) := by decide +kernel
theorem dX0_hear_21 : decode cX0_hear 21 = .ok (.iload_n 2, 1) := by decide +kernel
theorem dX0_hear_22 : decode cX0_hear 22 = .ok (.invokevirtual 173, 3) := by decide +kernel
theorem dX0_hear_25 : decode cX0_hear 25 = .ok (.aload_n 0, 1) := by decide +kernel
theorem dX0_hear_26 : decode cX0_hear 26 = .ok (.getfield 51, 3) := by decide +kernel
theorem dX0_hear_29 : decode cX0_hear 29 = .ok (.iload_n 1, 1) := by decide +kernel
theorem dX0_hear_30 : decode cX0_hear 30 = .ok (.iload_n 2, 1) := by decide +kernel
theorem dX0_hear_31 : decode cX0_hear 31 = .ok (.invokestatic 180, 3) := by decide +kernel
theorem dX0_hear_34 : decode cX0_hear 34 = .ok (.iload_n 3, 1) := by decide +kernel
theorem dX0_hear_35 : decode cX0_hear 35 = .ok (.ifCond .eq 7, 3) := by decide +kernel
theorem dX0_hear_38 : decode cX0_hear 38 = .ok (.iconst 1, 1) := by decide +kernel
theorem dX0_hear_39 : decode cX0_hear 39 = .ok (.goto 4, 3) := by decide +kernel
theorem dX0_hear_42 : decode cX0_hear 42 = .ok (.iconst (-1), 1) := by decide +kernel
theorem dX0_hear_43 : decode cX0_hear 43 = .ok (.invokevirtual 173, 3) := by decide +kernel
theorem dX0_hear_46 : decode cX0_hear 46 = .ok (.aload_n 0, 1) := by decide +kernel
theorem dX0_hear_47 : decode cX0_hear 47 = .ok (.getfield 54, 3) := by decide +kernel
theorem dX0_hear_50 : decode cX0_hear 50 = .ok (.iload_n 1, 1) := by decide +kernel
theorem dX0_hear_51 : decode cX0_hear 51 = .ok (.iload_n 2, 1) := by decide +kernel
theorem dX0_hear_52 : decode cX0_hear 52 = .ok (.invokestatic 180, 3) := by decide +kernel
theorem dX0_hear_55 : decode cX0_hear 55 = .ok (.iload 4, 2) := by decide +kernel
theorem dX0_hear_57 : decode cX0_hear 57 = .ok (.invokevirtual 173, 3) := by decide +kernel
theorem dX0_hear_60 : decode cX0_hear 60 = .ok (.aload_n 0, 1) := by decide +kernel
theorem dX0_hear_61 : decode cX0_hear 61 = .ok (.getfield 45, 3) := by decide +kernel
theorem dX0_hear_64 : decode cX0_hear 64 = .ok (.iload_n 1, 1) := by decide +kernel
theorem dX0_hear_65 : decode cX0_hear 65 = .ok (.iload 5, 2) := by decide +kernel
theorem dX0_hear_67 : decode cX0_hear 67 = .ok (.iconst 1, 1) := by decide +kernel
theorem dX0_hear_68 : decode cX0_hear 68 = .ok (.iadd, 1) := by decide +kernel
theorem dX0_hear_69 : decode cX0_hear 69 = .ok (.invokevirtual 173, 3) := by decide +kernel
theorem dX0_hear_72 : decode cX0_hear 72 = .ok (.aload_n 0, 1) := by decide +kernel
theorem dX0_hear_73 : decode cX0_hear 73 = .ok (.getfield 69, 3) := by decide +kernel
theorem dX0_hear_76 : decode cX0_hear 76 = .ok (.aload_n 0, 1) := by decide +kernel
theorem dX0_hear_77 : decode cX0_hear 77 = .ok (.iload_n 1, 1) := by decide +kernel
theorem dX0_hear_78 : decode cX0_hear 78 = .ok (.iconst 0, 1) := by decide +kernel
theorem dX0_hear_79 : decode cX0_hear 79 = .ok (.invokevirtual 183, 3) := by decide +kernel
theorem dX0_hear_82 : decode cX0_hear 82 = .ok (.iload_n 2, 1) := by decide +kernel
theorem dX0_hear_83 : decode cX0_hear 83 = .ok (.invokevirtual 186, 3) := by decide +kernel
theorem dX0_hear_86 : decode cX0_hear 86 = .ok (.iload 5, 2) := by decide +kernel
theorem dX0_hear_88 : decode cX0_hear 88 = .ok (.iconst 1, 1) := by decide +kernel
theorem dX0_hear_89 : decode cX0_hear 89 = .ok (.iadd, 1) := by decide +kernel
theorem dX0_hear_90 : decode cX0_hear 90 = .ok (.ireturn, 1) := by decide +kernel
theorem dX0_ask_0 : decode cX0_ask 0 = .ok (.aload_n 0, 1) := by decide +kernel
theorem dX0_ask_1 : decode cX0_ask 1 = .ok (.getfield 60, 3) := by decide +kernel
theorem dX0_ask_4 : decode cX0_ask 4 = .ok (.iload_n 2, 1) := by decide +kernel
theorem dX0_ask_5 : decode cX0_ask 5 = .ok (.invokevirtual 157, 3) := by decide +kernel
theorem dX0_ask_8 : decode cX0_ask 8 = .ok (.istore 4, 2) := by decide +kernel
theorem dX0_ask_10 : decode cX0_ask 10 = .ok (.iload_n 3, 1) := by decide +kernel
theorem dX0_ask_11 : decode cX0_ask 11 = .ok (.ifCond .eq 15, 3) := by decide +kernel
theorem dX0_ask_14 : decode cX0_ask 14 = .ok (.iload 4, 2) := by decide +kernel
theorem dX0_ask_16 : decode cX0_ask 16 = .ok (.iconst 1, 1) := by decide +kernel
theorem dX0_ask_17 : decode cX0_ask 17 = .ok (.iadd, 1) := by decide +kernel
theorem dX0_ask_18 : decode cX0_ask 18 = .ok (.bipush 9, 2) := by decide +kernel
theorem dX0_ask_20 : decode cX0_ask 20 = .ok (.invokestatic 189, 3) := by decide +kernel
theorem dX0_ask_23 : decode cX0_ask 23 = .ok (.goto 11, 3) := by decide +kernel
theorem dX0_ask_26 : decode cX0_ask 26 = .ok (.iload 4, 2) := by decide +kernel
theorem dX0_ask_28 : decode cX0_ask 28 = .ok (.iconst 2, 1) := by decide +kernel
theorem dX0_ask_29 : decode cX0_ask 29 = .ok (.isub, 1) := by decide +kernel
theorem dX0_ask_30 : decode cX0_ask 30 = .ok (.iconst 0, 1) := by decide +kernel
theorem dX0_ask_31 : decode cX0_ask 31 = .ok (.invokestatic 194, 3) := by decide +kernel
theorem dX0_ask_34 : decode cX0_ask 34 = .ok (.istore 5, 2) := by decide +kernel
theorem dX0_ask_36 : decode cX0_ask 36 = .ok (.aload_n 0, 1) := by decide +kernel
theorem dX0_ask_37 : decode cX0_ask 37 = .ok (.getfield 60, 3) := by decide +kernel
theorem dX0_ask_40 : decode cX0_ask 40 = .ok (.iload_n 2, 1) := by decide +kernel
theorem dX0_ask_41 : decode cX0_ask 41 = .ok (.iload 5, 2) := by decide +kernel
theorem dX0_ask_43 : decode cX0_ask 43 = .ok (.invokevirtual 173, 3) := by decide +kernel
theorem dX0_ask_46 : decode cX0_ask 46 = .ok (.aload_n 0, 1) := by decide +kernel
theorem dX0_ask_47 : decode cX0_ask 47 = .ok (.getfield 57, 3) := by decide +kernel
theorem dX0_ask_50 : decode cX0_ask 50 = .ok (.iload_n 1, 1) := by decide +kernel
theorem dX0_ask_51 : decode cX0_ask 51 = .ok (.iload_n 2, 1) := by decide +kernel
theorem dX0_ask_52 : decode cX0_ask 52 = .ok (.invokestatic 180, 3) := by decide +kernel
theorem dX0_ask_55 : decode cX0_ask 55 = .ok (.iconst 1, 1) := by decide +kernel
theorem dX0_ask_56 : decode cX0_ask 56 = .ok (.invokevirtual 197, 3) := by decide +kernel
theorem dX0_ask_59 : decode cX0_ask 59 = .ok (.aload_n 0, 1) := by decide +kernel
theorem dX0_ask_60 : decode cX0_ask 60 = .ok (.dup, 1) := by decide +kernel
theorem dX0_ask_61 : decode cX0_ask 61 = .ok (.getfield 21, 3) := by decide +kernel
theorem dX0_ask_64 : decode cX0_ask 64 = .ok (.iconst 1, 1) := by decide +kernel
theorem dX0_ask_65 : decode cX0_ask 65 = .ok (.iadd, 1) := by decide +kernel
theorem dX0_ask_66 : decode cX0_ask 66 = .ok (.putfield 21, 3) := by decide +kernel
theorem dX0_ask_69 : decode cX0_ask 69 = .ok (.iload 5, 2) := by decide +kernel
theorem dX0_ask_71 : decode cX0_ask 71 = .ok (.ireturn, 1) := by decide +kernel
theorem dX0_judge_0 : decode cX0_judge 0 = .ok (.aload_n 0, 1) := by decide +kernel
theorem dX0_judge_1 : decode cX0_judge 1 = .ok (.iload_n 1, 1) := by decide +kernel
theorem dX0_judge_2 : decode cX0_judge 2 = .ok (.invokestatic 200, 3) := by decide +kernel
theorem dX0_judge_5 : decode cX0_judge 5 = .ok (.ifCond .le 7, 3) := by decide +kernel
theorem dX0_judge_8 : decode cX0_judge 8 = .ok (.iconst 1, 1) := by decide +kernel
theorem dX0_judge_9 : decode cX0_judge 9 = .ok (.goto 4, 3) := by decide +kernel
theorem dX0_judge_12 : decode cX0_judge 12 = .ok (.iconst 0, 1) := by decide +kernel
theorem dX0_judge_13 : decode cX0_judge 13 = .ok (.istore_n 2, 1) := by decide +kernel
theorem dX0_judge_14 : decode cX0_judge 14 = .ok (.iload_n 2, 1) := by decide +kernel
theorem dX0_judge_15 : decode cX0_judge 15 = .ok (.ifCond .eq 23, 3) := by decide +kernel
theorem dX0_judge_18 : decode cX0_judge 18 = .ok (.aload_n 0, 1) := by decide +kernel
theorem dX0_judge_19 : decode cX0_judge 19 = .ok (.getfield 63, 3) := by decide +kernel
theorem dX0_judge_22 : decode cX0_judge 22 = .ok (.aload_n 0, 1) := by decide +kernel
theorem dX0_judge_23 : decode cX0_judge 23 = .ok (.getfield 29, 3) := by decide +kernel
theorem dX0_judge_26 : decode cX0_judge 26 = .ok (.iload_n 1, 1) := by decide +kernel
theorem dX0_judge_27 : decode cX0_judge 27 = .ok (.invokevirtual 157, 3) := by decide +kernel
theorem dX0_judge_30 : decode cX0_judge 30 = .ok (.aload_n 0, 1) := by decide +kernel
theorem dX0_judge_31 : decode cX0_judge 31 = .ok (.iload_n 1, 1) := by decide +kernel
theorem dX0_judge_32 : decode cX0_judge 32 = .ok (.invokevirtual 206, 3) := by decide +kernel
theorem dX0_judge_35 : decode cX0_judge 35 = .ok (.invokevirtual 197, 3) := by decide +kernel
theorem dX0_judge_38 : decode cX0_judge 38 = .ok (.aload_n 0, 1) := by decide +kernel
theorem dX0_judge_39 : decode cX0_judge 39 = .ok (.getfield 39, 3) := by decide +kernel
theorem dX0_judge_42 : decode cX0_judge 42 = .ok (.iload_n 1, 1) := by decide +kernel
theorem dX0_judge_43 : decode cX0_judge 43 = .ok (.iload_n 2, 1) := by decide +kernel
theorem dX0_judge_44 : decode cX0_judge 44 = .ok (.ifCond .eq 7, 3) := by decide +kernel
theorem dX0_judge_47 : decode cX0_judge 47 = .ok (.iconst 1, 1) := by decide +kernel
theorem dX0_judge_48 : decode cX0_judge 48 = .ok (.goto 4, 3) := by decide +kernel
theorem dX0_judge_51 : decode cX0_judge 51 = .ok (.iconst 0, 1) := by decide +kernel
theorem dX0_judge_52 : decode cX0_judge 52 = .ok (.invokevirtual 173, 3) := by decide +kernel
theorem dX0_judge_55 : decode cX0_judge 55 = .ok (.aload_n 0, 1) := by decide +kernel
theorem dX0_judge_56 : decode cX0_judge 56 = .ok (.getfield 36, 3) := by decide +kernel
theorem dX0_judge_59 : decode cX0_judge 59 = .ok (.iload_n 1, 1) := by decide +kernel
theorem dX0_judge_60 : decode cX0_judge 60 = .ok (.aload_n 0, 1) := by decide +kernel
theorem dX0_judge_61 : decode cX0_judge 61 = .ok (.getfield 42, 3) := by decide +kernel
theorem dX0_judge_64 : decode cX0_judge 64 = .ok (.iload_n 1, 1) := by decide +kernel
theorem dX0_judge_65 : decode cX0_judge 65 = .ok (.invokevirtual 157, 3) := by decide +kernel
theorem dX0_judge_68 : decode cX0_judge 68 = .ok (.iconst 2, 1) := by decide +kernel
theorem dX0_judge_69 : decode cX0_judge 69 = .ok (.if_icmp .lt 7, 3) := by decide +kernel
theorem dX0_judge_72 : decode cX0_judge 72 = .ok (.iconst 2, 1) := by decide +kernel
theorem dX0_judge_73 : decode cX0_judge 73 = .ok (.goto 4, 3) := by decide +kernel
theorem dX0_judge_76 : decode cX0_judge 76 = .ok (.iconst 1, 1) := by decide +kernel
theorem dX0_judge_77 : decode cX0_judge 77 = .ok (.invokevirtual 173, 3) := by decide +kernel
theorem dX0_judge_80 : decode cX0_judge 80 = .ok (.aload_n 0, 1) := by decide +kernel
theorem dX0_judge_81 : decode cX0_judge 81 = .ok (.dup, 1) := by decide +kernel
theorem dX0_judge_82 : decode cX0_judge 82 = .ok (.getfield 18, 3) := by decide +kernel
theorem dX0_judge_85 : decode cX0_judge 85 = .ok (.iconst 1, 1) := by decide +kernel
theorem dX0_judge_86 : decode cX0_judge 86 = .ok (.iadd, 1) := by decide +kernel
theorem dX0_judge_87 : decode cX0_judge 87 = .ok (.putfield 18, 3) := by decide +kernel
theorem dX0_judge_90 : decode cX0_judge 90 = .ok (.iload_n 2, 1) := by decide +kernel
theorem dX0_judge_91 : decode cX0_judge 91 = .ok (.ifCond .eq 7, 3) := by decide +kernel
theorem dX0_judge_94 : decode cX0_judge 94 = .ok (.iconst 1, 1) := by decide +kernel
theorem dX0_judge_95 : decode cX0_judge 95 = .ok (.goto 4, 3) := by decide +kernel
theorem dX0_judge_98 : decode cX0_judge 98 = .ok (.iconst 0, 1) := by decide +kernel
theorem dX0_judge_99 : decode cX0_judge 99 = .ok (.ireturn, 1) := by decide +kernel
theorem dX0_reopen_0 : decode cX0_reopen 0 = .ok (.aload_n 0, 1) := by decide +kernel
theorem dX0_reopen_1 : decode cX0_reopen 1 = .ok (.iload_n 1, 1) := by decide +kernel
theorem dX0_reopen_2 : decode cX0_reopen 2 = .ok (.invokevirtual 209, 3) := by decide +kernel
theorem dX0_reopen_5 : decode cX0_reopen 5 = .ok (.ifCond .eq 24, 3) := by decide +kernel
theorem dX0_reopen_8 : decode cX0_reopen 8 = .ok (.aload_n 0, 1) := by decide +kernel
theorem dX0_reopen_9 : decode cX0_reopen 9 = .ok (.getfield 63, 3) := by decide +kernel
theorem dX0_reopen_12 : decode cX0_reopen 12 = .ok (.aload_n 0, 1) := by decide +kernel
theorem dX0_reopen_13 : decode cX0_reopen 13 = .ok (.getfield 29, 3) := by decide +kernel
theorem dX0_reopen_16 : decode cX0_reopen 16 = .ok (.iload_n 1, 1) := by decide +kernel
theorem dX0_reopen_17 : decode cX0_reopen 17 = .ok (.invokevirtual 157, 3) := by decide +kernel
theorem dX0_reopen_20 : decode cX0_reopen 20 = .ok (.aload_n 0, 1) := by decide +kernel
theorem dX0_reopen_21 : decode cX0_reopen 21 = .ok (.iload_n 1, 1) := by decide +kernel
theorem dX0_reopen_22 : decode cX0_reopen 22 = .ok (.invokevirtual 206, 3) := by decide +kernel
theorem dX0_reopen_25 : decode cX0_reopen 25 = .ok (.ineg, 1) := by decide +kernel
theorem dX0_reopen_26 : decode cX0_reopen 26 = .ok (.invokevirtual 197, 3) := by decide +kernel
theorem dX0_reopen_29 : decode cX0_reopen 29 = .ok (.aload_n 0, 1) := by decide +kernel
theorem dX0_reopen_30 : decode cX0_reopen 30 = .ok (.getfield 39, 3) := by decide +kernel
theorem dX0_reopen_33 : decode cX0_reopen 33 = .ok (.iload_n 1, 1) := by decide +kernel
theorem dX0_reopen_34 : decode cX0_reopen 34 = .ok (.iconst 0, 1) := by decide +kernel
theorem dX0_reopen_35 : decode cX0_reopen 35 = .ok (.invokevirtual 173, 3) := by decide +kernel
theorem dX0_reopen_38 : decode cX0_reopen 38 = .ok (.aload_n 0, 1) := by decide +kernel
theorem dX0_reopen_39 : decode cX0_reopen 39 = .ok (.getfield 36, 3) := by decide +kernel
theorem dX0_reopen_42 : decode cX0_reopen 42 = .ok (.iload_n 1, 1) := by decide +kernel
theorem dX0_reopen_43 : decode cX0_reopen 43 = .ok (.iconst 0, 1) := by decide +kernel
theorem dX0_reopen_44 : decode cX0_reopen 44 = .ok (.invokevirtual 173, 3) := by decide +kernel
theorem dX0_reopen_47 : decode cX0_reopen 47 = .ok (.aload_n 0, 1) := by decide +kernel
theorem dX0_reopen_48 : decode cX0_reopen 48 = .ok (.getfield 42, 3) := by decide +kernel
theorem dX0_reopen_51 : decode cX0_reopen 51 = .ok (.iload_n 1, 1) := by decide +kernel
theorem dX0_reopen_52 : decode cX0_reopen 52 = .ok (.iconst 1, 1) := by decide +kernel
theorem dX0_reopen_53 : decode cX0_reopen 53 = .ok (.invokevirtual 197, 3) := by decide +kernel
theorem dX0_reopen_56 : decode cX0_reopen 56 = .ok (.aload_n 0, 1) := by decide +kernel
theorem dX0_reopen_57 : decode cX0_reopen 57 = .ok (.getfield 42, 3) := by decide +kernel
theorem dX0_reopen_60 : decode cX0_reopen 60 = .ok (.iload_n 1, 1) := by decide +kernel
theorem dX0_reopen_61 : decode cX0_reopen 61 = .ok (.invokevirtual 157, 3) := by decide +kernel
theorem dX0_reopen_64 : decode cX0_reopen 64 = .ok (.ireturn, 1) := by decide +kernel
theorem dX0_finish_0 : decode cX0_finish 0 = .ok (.aload_n 0, 1) := by decide +kernel
theorem dX0_finish_1 : decode cX0_finish 1 = .ok (.getfield 36, 3) := by decide +kernel
theorem dX0_finish_4 : decode cX0_finish 4 = .ok (.iload_n 1, 1) := by decide +kernel
theorem dX0_finish_5 : decode cX0_finish 5 = .ok (.iconst 2, 1) := by decide +kernel
theorem dX0_finish_6 : decode cX0_finish 6 = .ok (.invokevirtual 173, 3) := by decide +kernel
theorem dX0_finish_9 : decode cX0_finish 9 = .ok (.aload_n 0, 1) := by decide +kernel
theorem dX0_finish_10 : decode cX0_finish 10 = .ok (.iconst 2, 1) := by decide +kernel
theorem dX0_finish_11 : decode cX0_finish 11 = .ok (.invokevirtual 212, 3) := by decide +kernel
theorem dX0_finish_14 : decode cX0_finish 14 = .ok (.ireturn, 1) := by decide +kernel
theorem dX0_hasCase_0 : decode cX0_hasCase 0 = .ok (.iload_n 1, 1) := by decide +kernel
theorem dX0_hasCase_1 : decode cX0_hasCase 1 = .ok (.ifCond .lt 15, 3) := by decide +kernel
theorem dX0_hasCase_4 : decode cX0_hasCase 4 = .ok (.iload_n 1, 1) := by decide +kernel
theorem dX0_hasCase_5 : decode cX0_hasCase 5 = .ok (.aload_n 0, 1) := by decide +kernel
theorem dX0_hasCase_6 : decode cX0_hasCase 6 = .ok (.getfield 9, 3) := by decide +kernel
theorem dX0_hasCase_9 : decode cX0_hasCase 9 = .ok (.if_icmp .ge 7, 3) := by decide +kernel
theorem dX0_hasCase_12 : decode cX0_hasCase 12 = .ok (.iconst 1, 1) := by decide +kernel
theorem dX0_hasCase_13 : decode cX0_hasCase 13 = .ok (.goto 4, 3) := by decide +kernel
theorem dX0_hasCase_16 : decode cX0_hasCase 16 = .ok (.iconst 0, 1) := by decide +kernel
theorem dX0_hasCase_17 : decode cX0_hasCase 17 = .ok (.ireturn, 1) := by decide +kernel
theorem dX0_hasWitness_0 : decode cX0_hasWitness 0 = .ok (.iload_n 1, 1) := by decide +kernel
theorem dX0_hasWitness_1 : decode cX0_hasWitness 1 = .ok (.ifCond .lt 15, 3) := by decide +kernel
theorem dX0_hasWitness_4 : decode cX0_hasWitness 4 = .ok (.iload_n 1, 1) := by decide +kernel
theorem dX0_hasWitness_5 : decode cX0_hasWitness 5 = .ok (.aload_n 0, 1) := by decide +kernel
theorem dX0_hasWitness_6 : decode cX0_hasWitness 6 = .ok (.getfield 15, 3) := by decide +kernel
theorem dX0_hasWitness_9 : decode cX0_hasWitness 9 = .ok (.if_icmp .ge 7, 3) := by decide +kernel
theorem dX0_hasWitness_12 : decode cX0_hasWitness 12 = .ok (.iconst 1, 1) := by decide +kernel
theorem dX0_hasWitness_13 : decode cX0_hasWitness 13 = .ok (.goto 4, 3) := by decide +kernel
theorem dX0_hasWitness_16 : decode cX0_hasWitness 16 = .ok (.iconst 0, 1) := by decide +kernel
theorem dX0_hasWitness_17 : decode cX0_hasWitness 17 = .ok (.ireturn, 1) := by decide +kernel
theorem dX0_isIn_0 : decode cX0_isIn 0 = .ok (.aload_n 0, 1) := by decide +kernel
theorem dX0_isIn_1 : decode cX0_isIn 1 = .ok (.getfield 36, 3) := by decide +kernel
theorem dX0_isIn_4 : decode cX0_isIn 4 = .ok (.iload_n 2, 1) := by decide +kernel
theorem dX0_isIn_5 : decode cX0_isIn 5 = .ok (.invokevirtual 157, 3) := by decide +kernel
theorem dX0_isIn_8 : decode cX0_isIn 8 = .ok (.iload_n 1, 1) := by decide +kernel
theorem dX0_isIn_9 : decode cX0_isIn 9 = .ok (.if_icmp .ne 7, 3) := by decide +kernel
theorem dX0_isIn_12 : decode cX0_isIn 12 = .ok (.iconst 1, 1) := by decide +kernel
theorem dX0_isIn_13 : decode cX0_isIn 13 = .ok (.goto 4, 3) := by decide +kernel
theorem dX0_isIn_16 : decode cX0_isIn 16 = .ok (.iconst 0, 1) := by decide +kernel
theorem dX0_isIn_17 : decode cX0_isIn 17 = .ok (.ireturn, 1) := by decide +kernel
theorem dX0_isFoundGuilty_0 : decode cX0_isFoundGuilty 0 = .ok (.aload_n 0, 1) := by decide +kernel
theorem dX0_isFoundGuilty_1 : decode cX0_isFoundGuilty 1 = .ok (.getfield 39, 3) := by decide +kernel
theorem dX0_isFoundGuilty_4 : decode cX0_isFoundGuilty 4 = .ok (.iload_n 1, 1) := by decide +kernel
theorem dX0_isFoundGuilty_5 : decode cX0_isFoundGuilty 5 = .ok (.invokevirtual 157, 3) := by decide +kernel
theorem dX0_isFoundGuilty_8 : decode cX0_isFoundGuilty 8 = .ok (.ifCond .eq 7, 3) := by decide +kernel
theorem dX0_isFoundGuilty_11 : decode cX0_isFoundGuilty 11 = .ok (.iconst 1, 1) := by decide +kernel
theorem dX0_isFoundGuilty_12 : decode cX0_isFoundGuilty 12 = .ok (.goto 4, 3) := by decide +kernel
theorem dX0_isFoundGuilty_15 : decode cX0_isFoundGuilty 15 = .ok (.iconst 0, 1) := by decide +kernel
theorem dX0_isFoundGuilty_16 : decode cX0_isFoundGuilty 16 = .ok (.ireturn, 1) := by decide +kernel
theorem dX0_severityIn_0 : decode cX0_severityIn 0 = .ok (.aload_n 0, 1) := by decide +kernel
theorem dX0_severityIn_1 : decode cX0_severityIn 1 = .ok (.getfield 33, 3) := by decide +kernel
theorem dX0_severityIn_4 : decode cX0_severityIn 4 = .ok (.iload_n 1, 1) := by decide +kernel
theorem dX0_severityIn_5 : decode cX0_severityIn 5 = .ok (.invokevirtual 157, 3) := by decide +kernel
theorem dX0_severityIn_8 : decode cX0_severityIn 8 = .ok (.iconst 1, 1) := by decide +kernel
theorem dX0_severityIn_9 : decode cX0_severityIn 9 = .ok (.iadd, 1) := by decide +kernel
theorem dX0_severityIn_10 : decode cX0_severityIn 10 = .ok (.ireturn, 1) := by decide +kernel
theorem dX0_caseAgainst_0 : decode cX0_caseAgainst 0 = .ok (.iconst 0, 1) := by decide +kernel
theorem dX0_caseAgainst_1 : decode cX0_caseAgainst 1 = .ok (.istore_n 3, 1) := by decide +kernel
theorem dX0_caseAgainst_2 : decode cX0_caseAgainst 2 = .ok (.iload_n 3, 1) := by decide +kernel
theorem dX0_caseAgainst_3 : decode cX0_caseAgainst 3 = .ok (.aload_n 0, 1) := by decide +kernel
theorem dX0_caseAgainst_4 : decode cX0_caseAgainst 4 = .ok (.getfield 9, 3) := by decide +kernel
theorem dX0_caseAgainst_7 : decode cX0_caseAgainst 7 = .ok (.if_icmp .ge 35, 3) := by decide +kernel
theorem dX0_caseAgainst_10 : decode cX0_caseAgainst 10 = .ok (.aload_n 0, 1) := by decide +kernel
theorem dX0_caseAgainst_11 : decode cX0_caseAgainst 11 = .ok (.getfield 29, 3) := by decide +kernel
theorem dX0_caseAgainst_14 : decode cX0_caseAgainst 14 = .ok (.iload_n 3, 1) := by decide +kernel
theorem dX0_caseAgainst_15 : decode cX0_caseAgainst 15 = .ok (.invokevirtual 157, 3) := by decide +kernel
theorem dX0_caseAgainst_18 : decode cX0_caseAgainst 18 = .ok (.iload_n 1, 1) := by decide +kernel
theorem dX0_caseAgainst_19 : decode cX0_caseAgainst 19 = .ok (.if_icmp .ne 17, 3) := by decide +kernel
theorem dX0_caseAgainst_22 : decode cX0_caseAgainst 22 = .ok (.aload_n 0, 1) := by decide +kernel
theorem dX0_caseAgainst_23 : decode cX0_caseAgainst 23 = .ok (.getfield 33, 3) := by decide +kernel
theorem dX0_caseAgainst_26 : decode cX0_caseAgainst 26 = .ok (.iload_n 3, 1) := by decide +kernel
theorem dX0_caseAgainst_27 : decode cX0_caseAgainst 27 = .ok (.invokevirtual 157, 3) := by decide +kernel
theorem dX0_caseAgainst_30 : decode cX0_caseAgainst 30 = .ok (.iload_n 2, 1) := by decide +kernel
theorem dX0_caseAgainst_31 : decode cX0_caseAgainst 31 = .ok (.if_icmp .ne 5, 3) := by decide +kernel
theorem dX0_caseAgainst_34 : decode cX0_caseAgainst 34 = .ok (.iload_n 3, 1) := by decide +kernel
theorem dX0_caseAgainst_35 : decode cX0_caseAgainst 35 = .ok (.ireturn, 1) := by decide +kernel
theorem dX0_caseAgainst_36 : decode cX0_caseAgainst 36 = .ok (.iinc 3 1, 3) := by decide +kernel
theorem dX0_caseAgainst_39 : decode cX0_caseAgainst 39 = .ok (.goto (-37), 3) := by decide +kernel
theorem dX0_caseAgainst_42 : decode cX0_caseAgainst 42 = .ok (.iconst (-1), 1) := by decide +kernel
theorem dX0_caseAgainst_43 : decode cX0_caseAgainst 43 = .ok (.ireturn, 1) := by decide +kernel
theorem dX0_cellOf_0 : decode cX0_cellOf 0 = .ok (.iload_n 0, 1) := by decide +kernel
theorem dX0_cellOf_1 : decode cX0_cellOf 1 = .ok (.bipush 8, 2) := by decide +kernel
theorem dX0_cellOf_3 : decode cX0_cellOf 3 = .ok (.imul, 1) := by decide +kernel
theorem dX0_cellOf_4 : decode cX0_cellOf 4 = .ok (.iload_n 1, 1) := by decide +kernel
theorem dX0_cellOf_5 : decode cX0_cellOf 5 = .ok (.iadd, 1) := by decide +kernel
theorem dX0_cellOf_6 : decode cX0_cellOf 6 = .ok (.ireturn, 1) := by decide +kernel
theorem dX0_hasHeard_0 : decode cX0_hasHeard 0 = .ok (.aload_n 0, 1) := by decide +kernel
theorem dX0_hasHeard_1 : decode cX0_hasHeard 1 = .ok (.getfield 54, 3) := by decide +kernel
theorem dX0_hasHeard_4 : decode cX0_hasHeard 4 = .ok (.iload_n 1, 1) := by decide +kernel
theorem dX0_hasHeard_5 : decode cX0_hasHeard 5 = .ok (.iload_n 2, 1) := by decide +kernel
theorem dX0_hasHeard_6 : decode cX0_hasHeard 6 = .ok (.invokestatic 180, 3) := by decide +kernel
theorem dX0_hasHeard_9 : decode cX0_hasHeard 9 = .ok (.invokevirtual 157, 3) := by decide +kernel
theorem dX0_hasHeard_12 : decode cX0_hasHeard 12 = .ok (.ifCond .le 7, 3) := by decide +kernel
theorem dX0_hasHeard_15 : decode cX0_hasHeard 15 = .ok (.iconst 1, 1) := by decide +kernel
theorem dX0_hasHeard_16 : decode cX0_hasHeard 16 = .ok (.goto 4, 3) := by decide +kernel
theorem dX0_hasHeard_19 : decode cX0_hasHeard 19 = .ok (.iconst 0, 1) := by decide +kernel
theorem dX0_hasHeard_20 : decode cX0_hasHeard 20 = .ok (.ireturn, 1) := by decide +kernel
theorem dX0_witnessHeardAt_0 : decode cX0_witnessHeardAt 0 = .ok (.aload_n 0, 1) := by decide +kernel
theorem dX0_witnessHeardAt_1 : decode cX0_witnessHeardAt 1 = .ok (.getfield 48, 3) := by decide +kernel
theorem dX0_witnessHeardAt_4 : decode cX0_witnessHeardAt 4 = .ok (.iload_n 1, 1) := by decide +kernel
theorem dX0_witnessHeardAt_5 : decode cX0_witnessHeardAt 5 = .ok (.bipush 6, 2) := by decide +kernel
theorem dX0_witnessHeardAt_7 : decode cX0_witnessHeardAt 7 = .ok (.imul, 1) := by decide +kernel
theorem dX0_witnessHeardAt_8 : decode cX0_witnessHeardAt 8 = .ok (.iload_n 2, 1) := by decide +kernel
theorem dX0_witnessHeardAt_9 : decode cX0_witnessHeardAt 9 = .ok (.iadd, 1) := by decide +kernel
theorem dX0_witnessHeardAt_10 : decode cX0_witnessHeardAt 10 = .ok (.invokevirtual 157, 3) := by decide +kernel
theorem dX0_witnessHeardAt_13 : decode cX0_witnessHeardAt 13 = .ok (.ireturn, 1) := by decide +kernel
theorem dX0_sideOf_0 : decode cX0_sideOf 0 = .ok (.aload_n 0, 1) := by decide +kernel
theorem dX0_sideOf_1 : decode cX0_sideOf 1 = .ok (.getfield 51, 3) := by decide +kernel
theorem dX0_sideOf_4 : decode cX0_sideOf 4 = .ok (.iload_n 1, 1) := by decide +kernel
theorem dX0_sideOf_5 : decode cX0_sideOf 5 = .ok (.iload_n 2, 1) := by decide +kernel
theorem dX0_sideOf_6 : decode cX0_sideOf 6 = .ok (.invokestatic 180, 3) := by decide +kernel
theorem dX0_sideOf_9 : decode cX0_sideOf 9 = .ok (.invokevirtual 157, 3) := by decide +kernel
theorem dX0_sideOf_12 : decode cX0_sideOf 12 = .ok (.ireturn, 1) := by decide +kernel
theorem dX0_strengthOf_0 : decode cX0_strengthOf 0 = .ok (.aload_n 0, 1) := by decide +kernel
theorem dX0_strengthOf_1 : decode cX0_strengthOf 1 = .ok (.getfield 54, 3) := by decide +kernel
theorem dX0_strengthOf_4 : decode cX0_strengthOf 4 = .ok (.iload_n 1, 1) := by decide +kernel
theorem dX0_strengthOf_5 : decode cX0_strengthOf 5 = .ok (.iload_n 2, 1) := by decide +kernel
theorem dX0_strengthOf_6 : decode cX0_strengthOf 6 = .ok (.invokestatic 180, 3) := by decide +kernel
theorem dX0_strengthOf_9 : decode cX0_strengthOf 9 = .ok (.invokevirtual 157, 3) := by decide +kernel
theorem dX0_strengthOf_12 : decode cX0_strengthOf 12 = .ok (.ireturn, 1) := by decide +kernel
theorem dX0_weightOf_0 : decode cX0_weightOf 0 = .ok (.aload_n 0, 1) := by decide +kernel
theorem dX0_weightOf_1 : decode cX0_weightOf 1 = .ok (.getfield 54, 3) := by decide +kernel
theorem dX0_weightOf_4 : decode cX0_weightOf 4 = .ok (.iload_n 1, 1) := by decide +kernel
theorem dX0_weightOf_5 : decode cX0_weightOf 5 = .ok (.iload_n 2, 1) := by decide +kernel
theorem dX0_weightOf_6 : decode cX0_weightOf 6 = .ok (.invokestatic 180, 3) := by decide +kernel
theorem dX0_weightOf_9 : decode cX0_weightOf 9 = .ok (.invokevirtual 157, 3) := by decide +kernel
theorem dX0_weightOf_12 : decode cX0_weightOf 12 = .ok (.aload_n 0, 1) := by decide +kernel
theorem dX0_weightOf_13 : decode cX0_weightOf 13 = .ok (.getfield 60, 3) := by decide +kernel
theorem dX0_weightOf_16 : decode cX0_weightOf 16 = .ok (.iload_n 2, 1) := by decide +kernel
theorem dX0_weightOf_17 : decode cX0_weightOf 17 = .ok (.invokevirtual 157, 3) := by decide +kernel
theorem dX0_weightOf_20 : decode cX0_weightOf 20 = .ok (.imul, 1) := by decide +kernel
theorem dX0_weightOf_21 : decode cX0_weightOf 21 = .ok (.ireturn, 1) := by decide +kernel
theorem dX0_questionsTo_0 : decode cX0_questionsTo 0 = .ok (.aload_n 0, 1) := by decide +kernel
theorem dX0_questionsTo_1 : decode cX0_questionsTo 1 = .ok (.getfield 57, 3) := by decide +kernel
theorem dX0_questionsTo_4 : decode cX0_questionsTo 4 = .ok (.iload_n 1, 1) := by decide +kernel
theorem dX0_questionsTo_5 : decode cX0_questionsTo 5 = .ok (.iload_n 2, 1) := by decide +kernel
theorem dX0_questionsTo_6 : decode cX0_questionsTo 6 = .ok (.invokestatic 180, 3) := by decide +kernel
theorem dX0_questionsTo_9 : decode cX0_questionsTo 9 = .ok (.invokevirtual 157, 3) := by decide +kernel
theorem dX0_questionsTo_12 : decode cX0_questionsTo 12 = .ok (.ireturn, 1) := by decide +kernel
theorem dX0_casesHearing_0 : decode cX0_casesHearing 0 = .ok (.iconst 0, 1) := by decide +kernel
theorem dX0_casesHearing_1 : decode cX0_casesHearing 1 = .ok (.istore_n 2, 1) := by decide +kernel
theorem dX0_casesHearing_2 : decode cX0_casesHearing 2 = .ok (.iconst 0, 1) := by decide +kernel
theorem dX0_casesHearing_3 : decode cX0_casesHearing 3 = .ok (.istore_n 3, 1) := by decide +kernel
theorem dX0_casesHearing_4 : decode cX0_casesHearing 4 = .ok (.iload_n 3, 1) := by decide +kernel
theorem dX0_casesHearing_5 : decode cX0_casesHearing 5 = .ok (.aload_n 0, 1) := by decide +kernel
theorem dX0_casesHearing_6 : decode cX0_casesHearing 6 = .ok (.getfield 9, 3) := by decide +kernel
theorem dX0_casesHearing_9 : decode cX0_casesHearing 9 = .ok (.if_icmp .ge 21, 3) := by decide +kernel
theorem dX0_casesHearing_12 : decode cX0_casesHearing 12 = .ok (.aload_n 0, 1) := by decide +kernel
theorem dX0_casesHearing_13 : decode cX0_casesHearing 13 = .ok (.iload_n 3, 1) := by decide +kernel
theorem dX0_casesHearing_14 : decode cX0_casesHearing 14 = .ok (.iload_n 1, 1) := by decide +kernel
theorem dX0_casesHearing_15 : decode cX0_casesHearing 15 = .ok (.invokevirtual 164, 3) := by decide +kernel
theorem dX0_casesHearing_18 : decode cX0_casesHearing 18 = .ok (.ifCond .eq 6, 3) := by decide +kernel
theorem dX0_casesHearing_21 : decode cX0_casesHearing 21 = .ok (.iinc 2 1, 3) := by decide +kernel
theorem dX0_casesHearing_24 : decode cX0_casesHearing 24 = .ok (.iinc 3 1, 3) := by decide +kernel
theorem dX0_casesHearing_27 : decode cX0_casesHearing 27 = .ok (.goto (-23), 3) := by decide +kernel
theorem dX0_casesHearing_30 : decode cX0_casesHearing 30 = .ok (.iload_n 2, 1) := by decide +kernel
theorem dX0_casesHearing_31 : decode cX0_casesHearing 31 = .ok (.ireturn, 1) := by decide +kernel
theorem dX0_agreementOf_0 : decode cX0_agreementOf 0 = .ok (.iconst 0, 1) := by decide +kernel
theorem dX0_agreementOf_1 : decode cX0_agreementOf 1 = .ok (.istore_n 3, 1) := by decide +kernel
theorem dX0_agreementOf_2 : decode cX0_agreementOf 2 = .ok (.iconst 0, 1) := by decide +kernel
theorem dX0_agreementOf_3 : decode cX0_agreementOf 3 = .ok (.istore 4, 2) := by decide +kernel
theorem dX0_agreementOf_5 : decode cX0_agreementOf 5 = .ok (.iload 4, 2) := by decide +kernel
theorem dX0_agreementOf_7 : decode cX0_agreementOf 7 = .ok (.aload_n 0, 1) := by decide +kernel
theorem dX0_agreementOf_8 : decode cX0_agreementOf 8 = .ok (.getfield 9, 3) := by decide +kernel
theorem dX0_agreementOf_11 : decode cX0_agreementOf 11 = .ok (.if_icmp .ge 27, 3) := by decide +kernel
theorem dX0_agreementOf_14 : decode cX0_agreementOf 14 = .ok (.iload_n 3, 1) := by decide +kernel
theorem dX0_agreementOf_15 : decode cX0_agreementOf 15 = .ok (.aload_n 0, 1) := by decide +kernel
theorem dX0_agreementOf_16 : decode cX0_agreementOf 16 = .ok (.iload 4, 2) := by decide +kernel
theorem dX0_agreementOf_18 : decode cX0_agreementOf 18 = .ok (.iload_n 1, 1) := by decide +kernel
theorem dX0_agreementOf_19 : decode cX0_agreementOf 19 = .ok (.invokevirtual 215, 3) := by decide +kernel
theorem dX0_agreementOf_22 : decode cX0_agreementOf 22 = .ok (.aload_n 0, 1) := by decide +kernel
theorem dX0_agreementOf_23 : decode cX0_agreementOf 23 = .ok (.iload 4, 2) := by decide +kernel
theorem dX0_agreementOf_25 : decode cX0_agreementOf 25 = .ok (.iload_n 2, 1) := by decide +kernel
theorem dX0_agreementOf_26 : decode cX0_agreementOf 26 = .ok (.invokevirtual 215, 3) := by decide +kernel
theorem dX0_agreementOf_29 : decode cX0_agreementOf 29 = .ok (.imul, 1) := by decide +kernel
theorem dX0_agreementOf_30 : decode cX0_agreementOf 30 = .ok (.iadd, 1) := by decide +kernel
theorem dX0_agreementOf_31 : decode cX0_agreementOf 31 = .ok (.istore_n 3, 1) := by decide +kernel
theorem dX0_agreementOf_32 : decode cX0_agreementOf 32 = .ok (.iinc 4 1, 3) := by decide +kernel
theorem dX0_agreementOf_35 : decode cX0_agreementOf 35 = .ok (.goto (-30), 3) := by decide +kernel
theorem dX0_agreementOf_38 : decode cX0_agreementOf 38 = .ok (.iload_n 3, 1) := by decide +kernel
theorem dX0_agreementOf_39 : decode cX0_agreementOf 39 = .ok (.ireturn, 1) := by decide +kernel
theorem dX0_witnessOfRank_0 : decode cX0_witnessOfRank 0 = .ok (.iconst 0, 1) := by decide +kernel
theorem dX0_witnessOfRank_1 : decode cX0_witnessOfRank 1 = .ok (.istore_n 2, 1) := by decide +kernel
theorem dX0_witnessOfRank_2 : decode cX0_witnessOfRank 2 = .ok (.iload_n 2, 1) := by decide +kernel
theorem dX0_witnessOfRank_3 : decode cX0_witnessOfRank 3 = .ok (.aload_n 0, 1) := by decide +kernel
theorem dX0_witnessOfRank_4 : decode cX0_witnessOfRank 4 = .ok (.getfield 15, 3) := by decide +kernel
theorem dX0_witnessOfRank_7 : decode cX0_witnessOfRank 7 = .ok (.if_icmp .ge 20, 3) := by decide +kernel
theorem dX0_witnessOfRank_10 : decode cX0_witnessOfRank 10 = .ok (.aload_n 0, 1) := by decide +kernel
theorem dX0_witnessOfRank_11 : decode cX0_witnessOfRank 11 = .ok (.iload_n 2, 1) := by decide +kernel
theorem dX0_witnessOfRank_12 : decode cX0_witnessOfRank 12 = .ok (.invokevirtual 218, 3) := by decide +kernel
theorem dX0_witnessOfRank_15 : decode cX0_witnessOfRank 15 = .ok (.iload_n 1, 1) := by decide +kernel
theorem dX0_witnessOfRank_16 : decode cX0_witnessOfRank 16 = .ok (.if_icmp .ne 5, 3) := by decide +kernel
theorem dX0_witnessOfRank_19 : decode cX0_witnessOfRank 19 = .ok (.iload_n 2, 1) := by decide +kernel
theorem dX0_witnessOfRank_20 : decode cX0_witnessOfRank 20 = .ok (.ireturn, 1) := by decide +kernel
theorem dX0_witnessOfRank_21 : decode cX0_witnessOfRank 21 = .ok (.iinc 2 1, 3) := by decide +kernel
theorem dX0_witnessOfRank_24 : decode cX0_witnessOfRank 24 = .ok (.goto (-22), 3) := by decide +kernel
theorem dX0_witnessOfRank_27 : decode cX0_witnessOfRank 27 = .ok (.iconst (-1), 1) := by decide +kernel
theorem dX0_witnessOfRank_28 : decode cX0_witnessOfRank 28 = .ok (.ireturn, 1) := by decide +kernel
theorem dX0_rankOf_0 : decode cX0_rankOf 0 = .ok (.iconst 0, 1) := by decide +kernel
theorem dX0_rankOf_1 : decode cX0_rankOf 1 = .ok (.istore_n 2, 1) := by decide +kernel
theorem dX0_rankOf_2 : decode cX0_rankOf 2 = .ok (.iconst 0, 1) := by decide +kernel
theorem dX0_rankOf_3 : decode cX0_rankOf 3 = .ok (.istore_n 3, 1) := by decide +kernel
theorem dX0_rankOf_4 : decode cX0_rankOf 4 = .ok (.iload_n 3, 1) := by decide +kernel
theorem dX0_rankOf_5 : decode cX0_rankOf 5 = .ok (.aload_n 0, 1) := by decide +kernel
theorem dX0_rankOf_6 : decode cX0_rankOf 6 = .ok (.getfield 15, 3) := by decide +kernel
theorem dX0_rankOf_9 : decode cX0_rankOf 9 = .ok (.if_icmp .ge 21, 3) := by decide +kernel
theorem dX0_rankOf_12 : decode cX0_rankOf 12 = .ok (.aload_n 0, 1) := by decide +kernel
theorem dX0_rankOf_13 : decode cX0_rankOf 13 = .ok (.iload_n 3, 1) := by decide +kernel
theorem dX0_rankOf_14 : decode cX0_rankOf 14 = .ok (.iload_n 1, 1) := by decide +kernel
theorem dX0_rankOf_15 : decode cX0_rankOf 15 = .ok (.invokevirtual 221, 3) := by decide +kernel
theorem dX0_rankOf_18 : decode cX0_rankOf 18 = .ok (.ifCond .eq 6, 3) := by decide +kernel
theorem dX0_rankOf_21 : decode cX0_rankOf 21 = .ok (.iinc 2 1, 3) := by decide +kernel
theorem dX0_rankOf_24 : decode cX0_rankOf 24 = .ok (.iinc 3 1, 3) := by decide +kernel
theorem dX0_rankOf_27 : decode cX0_rankOf 27 = .ok (.goto (-23), 3) := by decide +kernel
theorem dX0_rankOf_30 : decode cX0_rankOf 30 = .ok (.iload_n 2, 1) := by decide +kernel
theorem dX0_rankOf_31 : decode cX0_rankOf 31 = .ok (.ireturn, 1) := by decide +kernel
theorem dX0_isMoreCredible_0 : decode cX0_isMoreCredible 0 = .ok (.aload_n 0, 1) := by decide +kernel
theorem dX0_isMoreCredible_1 : decode cX0_isMoreCredible 1 = .ok (.getfield 60, 3) := by decide +kernel
theorem dX0_isMoreCredible_4 : decode cX0_isMoreCredible 4 = .ok (.iload_n 1, 1) := by decide +kernel
theorem dX0_isMoreCredible_5 : decode cX0_isMoreCredible 5 = .ok (.invokevirtual 157, 3) := by decide +kernel
theorem dX0_isMoreCredible_8 : decode cX0_isMoreCredible 8 = .ok (.aload_n 0, 1) := by decide +kernel
theorem dX0_isMoreCredible_9 : decode cX0_isMoreCredible 9 = .ok (.getfield 60, 3) := by decide +kernel
theorem dX0_isMoreCredible_12 : decode cX0_isMoreCredible 12 = .ok (.iload_n 2, 1) := by decide +kernel
theorem dX0_isMoreCredible_13 : decode cX0_isMoreCredible 13 = .ok (.invokevirtual 157, 3) := by decide +kernel
theorem dX0_isMoreCredible_16 : decode cX0_isMoreCredible 16 = .ok (.if_icmp .eq 28, 3) := by decide +kernel
theorem dX0_isMoreCredible_19 : decode cX0_isMoreCredible 19 = .ok (.aload_n 0, 1) := by decide +kernel
theorem dX0_isMoreCredible_20 : decode cX0_isMoreCredible 20 = .ok (.getfield 60, 3) := by decide +kernel
theorem dX0_isMoreCredible_23 : decode cX0_isMoreCredible 23 = .ok (.iload_n 1, 1) := by decide +kernel
theorem dX0_isMoreCredible_24 : decode cX0_isMoreCredible 24 = .ok (.invokevirtual 157, 3) := by decide +kernel
theorem dX0_isMoreCredible_27 : decode cX0_isMoreCredible 27 = .ok (.aload_n 0, 1) := by decide +kernel
theorem dX0_isMoreCredible_28 : decode cX0_isMoreCredible 28 = .ok (.getfield 60, 3) := by decide +kernel
theorem dX0_isMoreCredible_31 : decode cX0_isMoreCredible 31 = .ok (.iload_n 2, 1) := by decide +kernel
theorem dX0_isMoreCredible_32 : decode cX0_isMoreCredible 32 = .ok (.invokevirtual 157, 3) := by decide +kernel
theorem dX0_isMoreCredible_35 : decode cX0_isMoreCredible 35 = .ok (.if_icmp .le 7, 3) := by decide +kernel
theorem dX0_isMoreCredible_38 : decode cX0_isMoreCredible 38 = .ok (.iconst 1, 1) := by decide +kernel
theorem dX0_isMoreCredible_39 : decode cX0_isMoreCredible 39 = .ok (.goto 4, 3) := by decide +kernel
theorem dX0_isMoreCredible_42 : decode cX0_isMoreCredible 42 = .ok (.iconst 0, 1) := by decide +kernel
theorem dX0_isMoreCredible_43 : decode cX0_isMoreCredible 43 = .ok (.ireturn, 1) := by decide +kernel
theorem dX0_isMoreCredible_44 : decode cX0_isMoreCredible 44 = .ok (.aload_n 0, 1) := by decide +kernel
theorem dX0_isMoreCredible_45 : decode cX0_isMoreCredible 45 = .ok (.iload_n 1, 1) := by decide +kernel
theorem dX0_isMoreCredible_46 : decode cX0_isMoreCredible 46 = .ok (.invokevirtual 224, 3) := by decide +kernel
theorem dX0_isMoreCredible_49 : decode cX0_isMoreCredible 49 = .ok (.istore_n 3, 1) := by decide +kernel
theorem dX0_isMoreCredible_50 : decode cX0_isMoreCredible 50 = .ok (.aload_n 0, 1) := by decide +kernel
theorem dX0_isMoreCredible_51 : decode cX0_isMoreCredible 51 = .ok (.iload_n 2, 1) := by decide +kernel
theorem dX0_isMoreCredible_52 : decode cX0_isMoreCredible 52 = .ok (.invokevirtual 224, 3) := by decide +kernel
theorem dX0_isMoreCredible_55 : decode cX0_isMoreCredible 55 = .ok (.istore 4, 2) := by decide +kernel
theorem dX0_isMoreCredible_57 : decode cX0_isMoreCredible 57 = .ok (.iload_n 3, 1) := by decide +kernel
theorem dX0_isMoreCredible_58 : decode cX0_isMoreCredible 58 = .ok (.iload 4, 2) := by decide +kernel
theorem dX0_isMoreCredible_60 : decode cX0_isMoreCredible 60 = .ok (.if_icmp .eq 17, 3) := by decide +kernel
theorem dX0_isMoreCredible_63 : decode cX0_isMoreCredible 63 = .ok (.iload_n 3, 1) := by decide +kernel
theorem dX0_isMoreCredible_64 : decode cX0_isMoreCredible 64 = .ok (.iload 4, 2) := by decide +kernel
theorem dX0_isMoreCredible_66 : decode cX0_isMoreCredible 66 = .ok (.if_icmp .le 7, 3) := by decide +kernel
theorem dX0_isMoreCredible_69 : decode cX0_isMoreCredible 69 = .ok (.iconst 1, 1) := by decide +kernel
theorem dX0_isMoreCredible_70 : decode cX0_isMoreCredible 70 = .ok (.goto 17, 3) := by decide +kernel
theorem dX0_isMoreCredible_73 : decode cX0_isMoreCredible 73 = .ok (.iconst 0, 1) := by decide +kernel
theorem dX0_isMoreCredible_74 : decode cX0_isMoreCredible 74 = .ok (.goto 13, 3) := by decide +kernel
theorem dX0_isMoreCredible_77 : decode cX0_isMoreCredible 77 = .ok (.iload_n 1, 1) := by decide +kernel
theorem dX0_isMoreCredible_78 : decode cX0_isMoreCredible 78 = .ok (.iload_n 2, 1) := by decide +kernel
theorem dX0_isMoreCredible_79 : decode cX0_isMoreCredible 79 = .ok (.if_icmp .ge 7, 3) := by decide +kernel
theorem dX0_isMoreCredible_82 : decode cX0_isMoreCredible 82 = .ok (.iconst 1, 1) := by decide +kernel
theorem dX0_isMoreCredible_83 : decode cX0_isMoreCredible 83 = .ok (.goto 4, 3) := by decide +kernel
theorem dX0_isMoreCredible_86 : decode cX0_isMoreCredible 86 = .ok (.iconst 0, 1) := by decide +kernel
theorem dX0_isMoreCredible_87 : decode cX0_isMoreCredible 87 = .ok (.ireturn, 1) := by decide +kernel
theorem dX0_credibilitySum_0 : decode cX0_credibilitySum 0 = .ok (.iconst 0, 1) := by decide +kernel
theorem dX0_credibilitySum_1 : decode cX0_credibilitySum 1 = .ok (.istore_n 1, 1) := by decide +kernel
theorem dX0_credibilitySum_2 : decode cX0_credibilitySum 2 = .ok (.iconst 0, 1) := by decide +kernel
theorem dX0_credibilitySum_3 : decode cX0_credibilitySum 3 = .ok (.istore_n 2, 1) := by decide +kernel
theorem dX0_credibilitySum_4 : decode cX0_credibilitySum 4 = .ok (.iload_n 2, 1) := by decide +kernel
theorem dX0_credibilitySum_5 : decode cX0_credibilitySum 5 = .ok (.aload_n 0, 1) := by decide +kernel
theorem dX0_credibilitySum_6 : decode cX0_credibilitySum 6 = .ok (.getfield 15, 3) := by decide +kernel
theorem dX0_credibilitySum_9 : decode cX0_credibilitySum 9 = .ok (.if_icmp .ge 20, 3) := by decide +kernel
theorem dX0_credibilitySum_12 : decode cX0_credibilitySum 12 = .ok (.iload_n 1, 1) := by decide +kernel
theorem dX0_credibilitySum_13 : decode cX0_credibilitySum 13 = .ok (.aload_n 0, 1) := by decide +kernel
theorem dX0_credibilitySum_14 : decode cX0_credibilitySum 14 = .ok (.getfield 60, 3) := by decide +kernel
theorem dX0_credibilitySum_17 : decode cX0_credibilitySum 17 = .ok (.iload_n 2, 1) := by decide +kernel
theorem dX0_credibilitySum_18 : decode cX0_credibilitySum 18 = .ok (.invokevirtual 157, 3) := by decide +kernel
theorem dX0_credibilitySum_21 : decode cX0_credibilitySum 21 = .ok (.iadd, 1) := by decide +kernel
theorem dX0_credibilitySum_22 : decode cX0_credibilitySum 22 = .ok (.istore_n 1, 1) := by decide +kernel
theorem dX0_credibilitySum_23 : decode cX0_credibilitySum 23 = .ok (.iinc 2 1, 3) := by decide +kernel
theorem dX0_credibilitySum_26 : decode cX0_credibilitySum 26 = .ok (.goto (-22), 3) := by decide +kernel
theorem dX0_credibilitySum_29 : decode cX0_credibilitySum 29 = .ok (.iload_n 1, 1) := by decide +kernel
theorem dX0_credibilitySum_30 : decode cX0_credibilitySum 30 = .ok (.ireturn, 1) := by decide +kernel
theorem dX0_addedSentence_0 : decode cX0_addedSentence 0 = .ok (.iconst 0, 1) := by decide +kernel
theorem dX0_addedSentence_1 : decode cX0_addedSentence 1 = .ok (.istore_n 2, 1) := by decide +kernel
theorem dX0_addedSentence_2 : decode cX0_addedSentence 2 = .ok (.iconst 0, 1) := by decide +kernel
theorem dX0_addedSentence_3 : decode cX0_addedSentence 3 = .ok (.istore_n 3, 1) := by decide +kernel
theorem dX0_addedSentence_4 : decode cX0_addedSentence 4 = .ok (.iload_n 3, 1) := by decide +kernel
theorem dX0_addedSentence_5 : decode cX0_addedSentence 5 = .ok (.aload_n 0, 1) := by decide +kernel
theorem dX0_addedSentence_6 : decode cX0_addedSentence 6 = .ok (.getfield 9, 3) := by decide +kernel
theorem dX0_addedSentence_9 : decode cX0_addedSentence 9 = .ok (.if_icmp .ge 37, 3) := by decide +kernel
theorem dX0_addedSentence_12 : decode cX0_addedSentence 12 = .ok (.aload_n 0, 1) := by decide +kernel
theorem dX0_addedSentence_13 : decode cX0_addedSentence 13 = .ok (.getfield 29, 3) := by decide +kernel
theorem dX0_addedSentence_16 : decode cX0_addedSentence 16 = .ok (.iload_n 3, 1) := by decide +kernel
theorem dX0_addedSentence_17 : decode cX0_addedSentence 17 = .ok (.invokevirtual 157, 3) := by decide +kernel
theorem dX0_addedSentence_20 : decode cX0_addedSentence 20 = .ok (.iload_n 1, 1) := by decide +kernel
theorem dX0_addedSentence_21 : decode cX0_addedSentence 21 = .ok (.if_icmp .ne 19, 3) := by decide +kernel
theorem dX0_addedSentence_24 : decode cX0_addedSentence 24 = .ok (.aload_n 0, 1) := by decide +kernel
theorem dX0_addedSentence_25 : decode cX0_addedSentence 25 = .ok (.iload_n 3, 1) := by decide +kernel
theorem dX0_addedSentence_26 : decode cX0_addedSentence 26 = .ok (.invokevirtual 209, 3) := by decide +kernel
theorem dX0_addedSentence_29 : decode cX0_addedSentence 29 = .ok (.ifCond .eq 11, 3) := by decide +kernel
theorem dX0_addedSentence_32 : decode cX0_addedSentence 32 = .ok (.iload_n 2, 1) := by decide +kernel
theorem dX0_addedSentence_33 : decode cX0_addedSentence 33 = .ok (.aload_n 0, 1) := by decide +kernel
theorem dX0_addedSentence_34 : decode cX0_addedSentence 34 = .ok (.iload_n 3, 1) := by decide +kernel
theorem dX0_addedSentence_35 : decode cX0_addedSentence 35 = .ok (.invokevirtual 206, 3) := by decide +kernel
theorem dX0_addedSentence_38 : decode cX0_addedSentence 38 = .ok (.iadd, 1) := by decide +kernel
theorem dX0_addedSentence_39 : decode cX0_addedSentence 39 = .ok (.istore_n 2, 1) := by decide +kernel
theorem dX0_addedSentence_40 : decode cX0_addedSentence 40 = .ok (.iinc 3 1, 3) := by decide +kernel
theorem dX0_addedSentence_43 : decode cX0_addedSentence 43 = .ok (.goto (-39), 3) := by decide +kernel
theorem dX0_addedSentence_46 : decode cX0_addedSentence 46 = .ok (.iload_n 2, 1) := by decide +kernel
theorem dX0_addedSentence_47 : decode cX0_addedSentence 47 = .ok (.ireturn, 1) := by decide +kernel
theorem dX0_countIn_0 : decode cX0_countIn 0 = .ok (.iconst 0, 1) := by decide +kernel
theorem dX0_countIn_1 : decode cX0_countIn 1 = .ok (.istore_n 2, 1) := by decide +kernel
theorem dX0_countIn_2 : decode cX0_countIn 2 = .ok (.iconst 0, 1) := by decide +kernel
theorem dX0_countIn_3 : decode cX0_countIn 3 = .ok (.istore_n 3, 1) := by decide +kernel
theorem dX0_countIn_4 : decode cX0_countIn 4 = .ok (.iload_n 3, 1) := by decide +kernel
theorem dX0_countIn_5 : decode cX0_countIn 5 = .ok (.aload_n 0, 1) := by decide +kernel
theorem dX0_countIn_6 : decode cX0_countIn 6 = .ok (.getfield 9, 3) := by decide +kernel
theorem dX0_countIn_9 : decode cX0_countIn 9 = .ok (.if_icmp .ge 21, 3) := by decide +kernel
theorem dX0_countIn_12 : decode cX0_countIn 12 = .ok (.aload_n 0, 1) := by decide +kernel
theorem dX0_countIn_13 : decode cX0_countIn 13 = .ok (.iload_n 1, 1) := by decide +kernel
theorem dX0_countIn_14 : decode cX0_countIn 14 = .ok (.iload_n 3, 1) := by decide +kernel
theorem dX0_countIn_15 : decode cX0_countIn 15 = .ok (.invokevirtual 160, 3) := by decide +kernel
theorem dX0_countIn_18 : decode cX0_countIn 18 = .ok (.ifCond .eq 6, 3) := by decide +kernel
theorem dX0_countIn_21 : decode cX0_countIn 21 = .ok (.iinc 2 1, 3) := by decide +kernel
theorem dX0_countIn_24 : decode cX0_countIn 24 = .ok (.iinc 3 1, 3) := by decide +kernel
theorem dX0_countIn_27 : decode cX0_countIn 27 = .ok (.goto (-23), 3) := by decide +kernel
theorem dX0_countIn_30 : decode cX0_countIn 30 = .ok (.iload_n 2, 1) := by decide +kernel
theorem dX0_countIn_31 : decode cX0_countIn 31 = .ok (.ireturn, 1) := by decide +kernel
theorem dX0_countGuilty_0 : decode cX0_countGuilty 0 = .ok (.iconst 0, 1) := by decide +kernel
theorem dX0_countGuilty_1 : decode cX0_countGuilty 1 = .ok (.istore_n 1, 1) := by decide +kernel
theorem dX0_countGuilty_2 : decode cX0_countGuilty 2 = .ok (.iconst 0, 1) := by decide +kernel
theorem dX0_countGuilty_3 : decode cX0_countGuilty 3 = .ok (.istore_n 2, 1) := by decide +kernel
theorem dX0_countGuilty_4 : decode cX0_countGuilty 4 = .ok (.iload_n 2, 1) := by decide +kernel
theorem dX0_countGuilty_5 : decode cX0_countGuilty 5 = .ok (.aload_n 0, 1) := by decide +kernel
theorem dX0_countGuilty_6 : decode cX0_countGuilty 6 = .ok (.getfield 9, 3) := by decide +kernel
theorem dX0_countGuilty_9 : decode cX0_countGuilty 9 = .ok (.if_icmp .ge 20, 3) := by decide +kernel
theorem dX0_countGuilty_12 : decode cX0_countGuilty 12 = .ok (.aload_n 0, 1) := by decide +kernel
theorem dX0_countGuilty_13 : decode cX0_countGuilty 13 = .ok (.iload_n 2, 1) := by decide +kernel
theorem dX0_countGuilty_14 : decode cX0_countGuilty 14 = .ok (.invokevirtual 209, 3) := by decide +kernel
theorem dX0_countGuilty_17 : decode cX0_countGuilty 17 = .ok (.ifCond .eq 6, 3) := by decide +kernel
theorem dX0_countGuilty_20 : decode cX0_countGuilty 20 = .ok (.iinc 1 1, 3) := by decide +kernel
theorem dX0_countGuilty_23 : decode cX0_countGuilty 23 = .ok (.iinc 2 1, 3) := by decide +kernel
theorem dX0_countGuilty_26 : decode cX0_countGuilty 26 = .ok (.goto (-22), 3) := by decide +kernel
theorem dX0_countGuilty_29 : decode cX0_countGuilty 29 = .ok (.iload_n 1, 1) := by decide +kernel
theorem dX0_countGuilty_30 : decode cX0_countGuilty 30 = .ok (.ireturn, 1) := by decide +kernel
theorem dX0_openCasesBefore_0 : decode cX0_openCasesBefore 0 = .ok (.iconst 0, 1) := by decide +kernel
theorem dX0_openCasesBefore_1 : decode cX0_openCasesBefore 1 = .ok (.istore_n 2, 1) := by decide +kernel
theorem dX0_openCasesBefore_2 : decode cX0_openCasesBefore 2 = .ok (.iconst 0, 1) := by decide +kernel
theorem dX0_openCasesBefore_3 : decode cX0_openCasesBefore 3 = .ok (.istore_n 3, 1) := by decide +kernel
theorem dX0_openCasesBefore_4 : decode cX0_openCasesBefore 4 = .ok (.iload_n 3, 1) := by decide +kernel
theorem dX0_openCasesBefore_5 : decode cX0_openCasesBefore 5 = .ok (.aload_n 0, 1) := by decide +kernel
theorem dX0_openCasesBefore_6 : decode cX0_openCasesBefore 6 = .ok (.getfield 9, 3) := by decide +kernel
theorem dX0_openCasesBefore_9 : decode cX0_openCasesBefore 9 = .ok (.if_icmp .ge 30, 3) := by decide +kernel
theorem dX0_openCasesBefore_12 : decode cX0_openCasesBefore 12 = .ok (.aload_n 0, 1) := by decide +kernel
theorem dX0_openCasesBefore_13 : decode cX0_openCasesBefore 13 = .ok (.iconst 0, 1) := by decide +kernel
theorem dX0_openCasesBefore_14 : decode cX0_openCasesBefore 14 = .ok (.iload_n 3, 1) := by decide +kernel
theorem dX0_openCasesBefore_15 : decode cX0_openCasesBefore 15 = .ok (.invokevirtual 160, 3) := by decide +kernel
theorem dX0_openCasesBefore_18 : decode cX0_openCasesBefore 18 = .ok (.ifCond .eq 15, 3) := by decide +kernel
theorem dX0_openCasesBefore_21 : decode cX0_openCasesBefore 21 = .ok (.aload_n 0, 1) := by decide +kernel
theorem dX0_openCasesBefore_22 : decode cX0_openCasesBefore 22 = .ok (.iload_n 3, 1) := by decide +kernel
theorem dX0_openCasesBefore_23 : decode cX0_openCasesBefore 23 = .ok (.iload_n 1, 1) := by decide +kernel
theorem dX0_openCasesBefore_24 : decode cX0_openCasesBefore 24 = .ok (.invokevirtual 227, 3) := by decide +kernel
theorem dX0_openCasesBefore_27 : decode cX0_openCasesBefore 27 = .ok (.ifCond .eq 6, 3) := by decide +kernel
theorem dX0_openCasesBefore_30 : decode cX0_openCasesBefore 30 = .ok (.iinc 2 1, 3) := by decide +kernel
theorem dX0_openCasesBefore_33 : decode cX0_openCasesBefore 33 = .ok (.iinc 3 1, 3) := by decide +kernel
theorem dX0_openCasesBefore_36 : decode cX0_openCasesBefore 36 = .ok (.goto (-32), 3) := by decide +kernel
theorem dX0_openCasesBefore_39 : decode cX0_openCasesBefore 39 = .ok (.iload_n 2, 1) := by decide +kernel
theorem dX0_openCasesBefore_40 : decode cX0_openCasesBefore 40 = .ok (.ireturn, 1) := by decide +kernel
theorem dX0_comesBefore_0 : decode cX0_comesBefore 0 = .ok (.aload_n 0, 1) := by decide +kernel
theorem dX0_comesBefore_1 : decode cX0_comesBefore 1 = .ok (.getfield 33, 3) := by decide +kernel
theorem dX0_comesBefore_4 : decode cX0_comesBefore 4 = .ok (.iload_n 1, 1) := by decide +kernel
theorem dX0_comesBefore_5 : decode cX0_comesBefore 5 = .ok (.invokevirtual 157, 3) := by decide +kernel
theorem dX0_comesBefore_8 : decode cX0_comesBefore 8 = .ok (.aload_n 0, 1) := by decide +kernel
theorem dX0_comesBefore_9 : decode cX0_comesBefore 9 = .ok (.getfield 33, 3) := by decide +kernel
theorem dX0_comesBefore_12 : decode cX0_comesBefore 12 = .ok (.iload_n 2, 1) := by decide +kernel
theorem dX0_comesBefore_13 : decode cX0_comesBefore 13 = .ok (.invokevirtual 157, 3) := by decide +kernel
theorem dX0_comesBefore_16 : decode cX0_comesBefore 16 = .ok (.if_icmp .eq 28, 3) := by decide +kernel
theorem dX0_comesBefore_19 : decode cX0_comesBefore 19 = .ok (.aload_n 0, 1) := by decide +kernel
theorem dX0_comesBefore_20 : decode cX0_comesBefore 20 = .ok (.getfield 33, 3) := by decide +kernel
theorem dX0_comesBefore_23 : decode cX0_comesBefore 23 = .ok (.iload_n 1, 1) := by decide +kernel
theorem dX0_comesBefore_24 : decode cX0_comesBefore 24 = .ok (.invokevirtual 157, 3) := by decide +kernel
theorem dX0_comesBefore_27 : decode cX0_comesBefore 27 = .ok (.aload_n 0, 1) := by decide +kernel
theorem dX0_comesBefore_28 : decode cX0_comesBefore 28 = .ok (.getfield 33, 3) := by decide +kernel
theorem dX0_comesBefore_31 : decode cX0_comesBefore 31 = .ok (.iload_n 2, 1) := by decide +kernel
theorem dX0_comesBefore_32 : decode cX0_comesBefore 32 = .ok (.invokevirtual 157, 3) := by decide +kernel
theorem dX0_comesBefore_35 : decode cX0_comesBefore 35 = .ok (.if_icmp .le 7, 3) := by decide +kernel
theorem dX0_comesBefore_38 : decode cX0_comesBefore 38 = .ok (.iconst 1, 1) := by decide +kernel
theorem dX0_comesBefore_39 : decode cX0_comesBefore 39 = .ok (.goto 4, 3) := by decide +kernel
theorem dX0_comesBefore_42 : decode cX0_comesBefore 42 = .ok (.iconst 0, 1) := by decide +kernel
theorem dX0_comesBefore_43 : decode cX0_comesBefore 43 = .ok (.ireturn, 1) := by decide +kernel
theorem dX0_comesBefore_44 : decode cX0_comesBefore 44 = .ok (.aload_n 0, 1) := by decide +kernel
theorem dX0_comesBefore_45 : decode cX0_comesBefore 45 = .ok (.getfield 45, 3) := by decide +kernel
theorem dX0_comesBefore_48 : decode cX0_comesBefore 48 = .ok (.iload_n 1, 1) := by decide +kernel
theorem dX0_comesBefore_49 : decode cX0_comesBefore 49 = .ok (.invokevirtual 157, 3) := by decide +kernel
theorem dX0_comesBefore_52 : decode cX0_comesBefore 52 = .ok (.aload_n 0, 1) := by decide +kernel
theorem dX0_comesBefore_53 : decode cX0_comesBefore 53 = .ok (.getfield 45, 3) := by decide +kernel
theorem dX0_comesBefore_56 : decode cX0_comesBefore 56 = .ok (.iload_n 2, 1) := by decide +kernel
theorem dX0_comesBefore_57 : decode cX0_comesBefore 57 = .ok (.invokevirtual 157, 3) := by decide +kernel
theorem dX0_comesBefore_60 : decode cX0_comesBefore 60 = .ok (.if_icmp .eq 28, 3) := by decide +kernel
theorem dX0_comesBefore_63 : decode cX0_comesBefore 63 = .ok (.aload_n 0, 1) := by decide +kernel
theorem dX0_comesBefore_64 : decode cX0_comesBefore 64 = .ok (.getfield 45, 3) := by decide +kernel
theorem dX0_comesBefore_67 : decode cX0_comesBefore 67 = .ok (.iload_n 1, 1) := by decide +kernel
theorem dX0_comesBefore_68 : decode cX0_comesBefore 68 = .ok (.invokevirtual 157, 3) := by decide +kernel
theorem dX0_comesBefore_71 : decode cX0_comesBefore 71 = .ok (.aload_n 0, 1) := by decide +kernel
theorem dX0_comesBefore_72 : decode cX0_comesBefore 72 = .ok (.getfield 45, 3) := by decide +kernel
theorem dX0_comesBefore_75 : decode cX0_comesBefore 75 = .ok (.iload_n 2, 1) := by decide +kernel
theorem dX0_comesBefore_76 : decode cX0_comesBefore 76 = .ok (.invokevirtual 157, 3) := by decide +kernel
theorem dX0_comesBefore_79 : decode cX0_comesBefore 79 = .ok (.if_icmp .le 7, 3) := by decide +kernel
theorem dX0_comesBefore_82 : decode cX0_comesBefore 82 = .ok (.iconst 1, 1) := by decide +kernel
theorem dX0_comesBefore_83 : decode cX0_comesBefore 83 = .ok (.goto 4, 3) := by decide +kernel
theorem dX0_comesBefore_86 : decode cX0_comesBefore 86 = .ok (.iconst 0, 1) := by decide +kernel
theorem dX0_comesBefore_87 : decode cX0_comesBefore 87 = .ok (.ireturn, 1) := by decide +kernel
theorem dX0_comesBefore_88 : decode cX0_comesBefore 88 = .ok (.iload_n 1, 1) := by decide +kernel
theorem dX0_comesBefore_89 : decode cX0_comesBefore 89 = .ok (.iload_n 2, 1) := by decide +kernel
theorem dX0_comesBefore_90 : decode cX0_comesBefore 90 = .ok (.if_icmp .ge 7, 3) := by decide +kernel
theorem dX0_comesBefore_93 : decode cX0_comesBefore 93 = .ok (.iconst 1, 1) := by decide +kernel
theorem dX0_comesBefore_94 : decode cX0_comesBefore 94 = .ok (.goto 4, 3) := by decide +kernel
theorem dX0_comesBefore_97 : decode cX0_comesBefore 97 = .ok (.iconst 0, 1) := by decide +kernel
theorem dX0_comesBefore_98 : decode cX0_comesBefore 98 = .ok (.ireturn, 1) := by decide +kernel
theorem dX1_init_0 : decode cX1_init 0 = .ok (.aload_n 0, 1) := by decide +kernel
theorem dX1_init_1 : decode cX1_init 1 = .ok (.invokespecial 3, 3) := by decide +kernel
theorem dX1_init_4 : decode cX1_init 4 = .ok (.aload_n 0, 1) := by decide +kernel
theorem dX1_init_5 : decode cX1_init 5 = .ok (.new 9, 3) := by decide +kernel
theorem dX1_init_8 : decode cX1_init 8 = .ok (.dup, 1) := by decide +kernel
theorem dX1_init_9 : decode cX1_init 9 = .ok (.bipush 16, 2) := by decide +kernel
theorem dX1_init_11 : decode cX1_init 11 = .ok (.invokespecial 11, 3) := by decide +kernel
theorem dX1_init_14 : decode cX1_init 14 = .ok (.putfield 14, 3) := by decide +kernel
theorem dX1_init_17 : decode cX1_init 17 = .ok (.aload_n 0, 1) := by decide +kernel
theorem dX1_init_18 : decode cX1_init 18 = .ok (.iconst 0, 1) := by decide +kernel
theorem dX1_init_19 : decode cX1_init 19 = .ok (.putfield 20, 3) := by decide +kernel
theorem dX1_init_22 : decode cX1_init 22 = .ok (.return_, 1) := by decide +kernel
theorem dX1_fill_0 : decode cX1_fill 0 = .ok (.aload_n 0, 1) := by decide +kernel
theorem dX1_fill_1 : decode cX1_fill 1 = .ok (.iconst 0, 1) := by decide +kernel
theorem dX1_fill_2 : decode cX1_fill 2 = .ok (.putfield 20, 3) := by decide +kernel
theorem dX1_fill_5 : decode cX1_fill 5 = .ok (.iconst 0, 1) := by decide +kernel
theorem dX1_fill_6 : decode cX1_fill 6 = .ok (.istore_n 2, 1) := by decide +kernel
theorem dX1_fill_7 : decode cX1_fill 7 = .ok (.iload_n 2, 1) := by decide +kernel
theorem dX1_fill_8 : decode cX1_fill 8 = .ok (.aload_n 1, 1) := by decide +kernel
theorem dX1_fill_9 : decode cX1_fill 9 = .ok (.getfield 24, 3) := by decide +kernel
theorem dX1_fill_12 : decode cX1_fill 12 = .ok (.if_icmp .ge 24, 3) := by decide +kernel
theorem dX1_fill_15 : decode cX1_fill 15 = .ok (.aload_n 1, 1) := by decide +kernel
theorem dX1_fill_16 : decode cX1_fill 16 = .ok (.iconst 0, 1) := by decide +kernel
theorem dX1_fill_17 : decode cX1_fill 17 = .ok (.iload_n 2, 1) := by decide +kernel
theorem dX1_fill_18 : decode cX1_fill 18 = .ok (.invokevirtual 29, 3) := by decide +kernel
theorem dX1_fill_21 : decode cX1_fill 21 = .ok (.ifCond .eq 9, 3) := by decide +kernel
theorem dX1_fill_24 : decode cX1_fill 24 = .ok (.aload_n 0, 1) := by decide +kernel
theorem dX1_fill_25 : decode cX1_fill 25 = .ok (.iload_n 2, 1) := by decide +kernel
theorem dX1_fill_26 : decode cX1_fill 26 = .ok (.aload_n 1, 1) := by decide +kernel
theorem dX1_fill_27 : decode cX1_fill 27 = .ok (.invokevirtual 33, 3) := by decide +kernel
theorem dX1_fill_30 : decode cX1_fill 30 = .ok (.iinc 2 1, 3) := by decide +kernel
theorem dX1_fill_33 : decode cX1_fill 33 = .ok (.goto (-26), 3) := by decide +kernel
theorem dX1_fill_36 : decode cX1_fill 36 = .ok (.return_, 1) := by decide +kernel
theorem dX1_insert_0 : decode cX1_insert 0 = .ok (.aload_n 0, 1) := by decide +kernel
theorem dX1_insert_1 : decode cX1_insert 1 = .ok (.getfield 20, 3) := by decide +kernel
theorem dX1_insert_4 : decode cX1_insert 4 = .ok (.istore_n 3, 1) := by decide +kernel
theorem dX1_insert_5 : decode cX1_insert 5 = .ok (.iload_n 3, 1) := by decide +kernel
theorem dX1_insert_6 : decode cX1_insert 6 = .ok (.ifCond .le 45, 3) := by decide +kernel
theorem dX1_insert_9 : decode cX1_insert 9 = .ok (.aload_n 2, 1) := by decide +kernel
theorem dX1_insert_10 : decode cX1_insert 10 = .ok (.iload_n 1, 1) := by decide +kernel
theorem dX1_insert_11 : decode cX1_insert 11 = .ok (.aload_n 0, 1) := by decide +kernel
theorem dX1_insert_12 : decode cX1_insert 12 = .ok (.getfield 14, 3) := by decide +kernel
theorem dX1_insert_15 : decode cX1_insert 15 = .ok (.iload_n 3, 1) := by decide +kernel
theorem dX1_insert_16 : decode cX1_insert 16 = .ok (.iconst 1, 1) := by decide +kernel
theorem dX1_insert_17 : decode cX1_insert 17 = .ok (.isub, 1) := by decide +kernel
theorem dX1_insert_18 : decode cX1_insert 18 = .ok (.invokevirtual 37, 3) := by decide +kernel
theorem dX1_insert_21 : decode cX1_insert 21 = .ok (.invokevirtual 41, 3) := by decide +kernel
theorem dX1_insert_24 : decode cX1_insert 24 = .ok (.ifCond .eq 27, 3) := by decide +kernel
theorem dX1_insert_27 : decode cX1_insert 27 = .ok (.aload_n 0, 1) := by decide +kernel
theorem dX1_insert_28 : decode cX1_insert 28 = .ok (.getfield 14, 3) := by decide +kernel
theorem dX1_insert_31 : decode cX1_insert 31 = .ok (.iload_n 3, 1) := by decide +kernel
theorem dX1_insert_32 : decode cX1_insert 32 = .ok (.aload_n 0, 1) := by decide +kernel
theorem dX1_insert_33 : decode cX1_insert 33 = .ok (.getfield 14, 3) := by decide +kernel
theorem dX1_insert_36 : decode cX1_insert 36 = .ok (.iload_n 3, 1) := by decide +kernel
theorem dX1_insert_37 : decode cX1_insert 37 = .ok (.iconst 1, 1) := by decide +kernel
theorem dX1_insert_38 : decode cX1_insert 38 = .ok (.isub, 1) := by decide +kernel
theorem dX1_insert_39 : decode cX1_insert 39 = .ok (.invokevirtual 37, 3) := by decide +kernel
theorem dX1_insert_42 : decode cX1_insert 42 = .ok (.invokevirtual 44, 3) := by decide +kernel
theorem dX1_insert_45 : decode cX1_insert 45 = .ok (.iinc 3 (-1), 3) := by decide +kernel
theorem dX1_insert_48 : decode cX1_insert 48 = .ok (.goto (-43), 3) := by decide +kernel
theorem dX1_insert_51 : decode cX1_insert 51 = .ok (.aload_n 0, 1) := by decide +kernel
theorem dX1_insert_52 : decode cX1_insert 52 = .ok (.getfield 14, 3) := by decide +kernel
theorem dX1_insert_55 : decode cX1_insert 55 = .ok (.iload_n 3, 1) := by decide +kernel
theorem dX1_insert_56 : decode cX1_insert 56 = .ok (.iload_n 1, 1) := by decide +kernel
theorem dX1_insert_57 : decode cX1_insert 57 = .ok (.invokevirtual 44, 3) := by decide +kernel
theorem dX1_insert_60 : decode cX1_insert 60 = .ok (.aload_n 0, 1) := by decide +kernel
theorem dX1_insert_61 : decode cX1_insert 61 = .ok (.dup, 1) := by decide +kernel
theorem dX1_insert_62 : decode cX1_insert 62 = .ok (.getfield 20, 3) := by decide +kernel
theorem dX1_insert_65 : decode cX1_insert 65 = .ok (.iconst 1, 1) := by decide +kernel
theorem dX1_insert_66 : decode cX1_insert 66 = .ok (.iadd, 1) := by decide +kernel
theorem dX1_insert_67 : decode cX1_insert 67 = .ok (.putfield 20, 3) := by decide +kernel
theorem dX1_insert_70 : decode cX1_insert 70 = .ok (.return_, 1) := by decide +kernel
theorem dX1_holdsAt_0 : decode cX1_holdsAt 0 = .ok (.iload_n 1, 1) := by decide +kernel
theorem dX1_holdsAt_1 : decode cX1_holdsAt 1 = .ok (.aload_n 0, 1) := by decide +kernel
theorem dX1_holdsAt_2 : decode cX1_holdsAt 2 = .ok (.getfield 20, 3) := by decide +kernel
theorem dX1_holdsAt_5 : decode cX1_holdsAt 5 = .ok (.if_icmp .ge 19, 3) := by decide +kernel
theorem dX1_holdsAt_8 : decode cX1_holdsAt 8 = .ok (.aload_n 0, 1) := by decide +kernel
theorem dX1_holdsAt_9 : decode cX1_holdsAt 9 = .ok (.getfield 14, 3) := by decide +kernel
theorem dX1_holdsAt_12 : decode cX1_holdsAt 12 = .ok (.iload_n 1, 1) := by decide +kernel
theorem dX1_holdsAt_13 : decode cX1_holdsAt 13 = .ok (.invokevirtual 37, 3) := by decide +kernel
theorem dX1_holdsAt_16 : decode cX1_holdsAt 16 = .ok (.iload_n 2, 1) := by decide +kernel
theorem dX1_holdsAt_17 : decode cX1_holdsAt 17 = .ok (.if_icmp .ne 7, 3) := by decide +kernel
theorem dX1_holdsAt_20 : decode cX1_holdsAt 20 = .ok (.iconst 1, 1) := by decide +kernel
theorem dX1_holdsAt_21 : decode cX1_holdsAt 21 = .ok (.goto 4, 3) := by decide +kernel
theorem dX1_holdsAt_24 : decode cX1_holdsAt 24 = .ok (.iconst 0, 1) := by decide +kernel
theorem dX1_holdsAt_25 : decode cX1_holdsAt 25 = .ok (.ireturn, 1) := by decide +kernel
theorem dX1_firstHeard_0 : decode cX1_firstHeard 0 = .ok (.iconst 0, 1) := by decide +kernel
theorem dX1_firstHeard_1 : decode cX1_firstHeard 1 = .ok (.istore_n 2, 1) := by decide +kernel
theorem dX1_firstHeard_2 : decode cX1_firstHeard 2 = .ok (.iload_n 2, 1) := by decide +kernel
theorem dX1_firstHeard_3 : decode cX1_firstHeard 3 = .ok (.aload_n 0, 1) := by decide +kernel
theorem dX1_firstHeard_4 : decode cX1_firstHeard 4 = .ok (.getfield 20, 3) := by decide +kernel
theorem dX1_firstHeard_7 : decode cX1_firstHeard 7 = .ok (.if_icmp .ge 36, 3) := by decide +kernel
theorem dX1_firstHeard_10 : decode cX1_firstHeard 10 = .ok (.aload_n 1, 1) := by decide +kernel
theorem dX1_firstHeard_11 : decode cX1_firstHeard 11 = .ok (.getfield 48, 3) := by decide +kernel
theorem dX1_firstHeard_14 : decode cX1_firstHeard 14 = .ok (.aload_n 0, 1) := by decide +kernel
theorem dX1_firstHeard_15 : decode cX1_firstHeard 15 = .ok (.getfield 14, 3) := by decide +kernel
theorem dX1_firstHeard_18 : decode cX1_firstHeard 18 = .ok (.iload_n 2, 1) := by decide +kernel
theorem dX1_firstHeard_19 : decode cX1_firstHeard 19 = .ok (.invokevirtual 37, 3) := by decide +kernel
theorem dX1_firstHeard_22 : decode cX1_firstHeard 22 = .ok (.invokevirtual 37, 3) := by decide +kernel
theorem dX1_firstHeard_25 : decode cX1_firstHeard 25 = .ok (.ifCond .le 12, 3) := by decide +kernel
theorem dX1_firstHeard_28 : decode cX1_firstHeard 28 = .ok (.aload_n 0, 1) := by decide +kernel
theorem dX1_firstHeard_29 : decode cX1_firstHeard 29 = .ok (.getfield 14, 3) := by decide +kernel
theorem dX1_firstHeard_32 : decode cX1_firstHeard 32 = .ok (.iload_n 2, 1) := by decide +kernel
theorem dX1_firstHeard_33 : decode cX1_firstHeard 33 = .ok (.invokevirtual 37, 3) := by decide +kernel
theorem dX1_firstHeard_36 : decode cX1_firstHeard 36 = .ok (.ireturn, 1) := by decide +kernel
theorem dX1_firstHeard_37 : decode cX1_firstHeard 37 = .ok (.iinc 2 1, 3) := by decide +kernel
theorem dX1_firstHeard_40 : decode cX1_firstHeard 40 = .ok (.goto (-38), 3) := by decide +kernel
theorem dX1_firstHeard_43 : decode cX1_firstHeard 43 = .ok (.iconst (-1), 1) := by decide +kernel
theorem dX1_firstHeard_44 : decode cX1_firstHeard 44 = .ok (.ireturn, 1) := by decide +kernel
theorem dX3_init_0 : decode cX3_init 0 = .ok (.aload_n 0, 1) := by decide +kernel
theorem dX3_init_1 : decode cX3_init 1 = .ok (.invokespecial 3, 3) := by decide +kernel
theorem dX3_init_4 : decode cX3_init 4 = .ok (.aload_n 0, 1) := by decide +kernel
theorem dX3_init_5 : decode cX3_init 5 = .ok (.new 9, 3) := by decide +kernel
theorem dX3_init_8 : decode cX3_init 8 = .ok (.dup, 1) := by decide +kernel
theorem dX3_init_9 : decode cX3_init 9 = .ok (.bipush 8, 2) := by decide +kernel
theorem dX3_init_11 : decode cX3_init 11 = .ok (.invokespecial 11, 3) := by decide +kernel
theorem dX3_init_14 : decode cX3_init 14 = .ok (.putfield 14, 3) := by decide +kernel
theorem dX3_init_17 : decode cX3_init 17 = .ok (.return_, 1) := by decide +kernel
theorem dX3_found_0 : decode cX3_found 0 = .ok (.aload_n 0, 1) := by decide +kernel
theorem dX3_found_1 : decode cX3_found 1 = .ok (.getfield 14, 3) := by decide +kernel
theorem dX3_found_4 : decode cX3_found 4 = .ok (.iload_n 1, 1) := by decide +kernel
theorem dX3_found_5 : decode cX3_found 5 = .ok (.iload_n 1, 1) := by decide +kernel
theorem dX3_found_6 : decode cX3_found 6 = .ok (.invokevirtual 20, 3) := by decide +kernel
theorem dX3_found_9 : decode cX3_found 9 = .ok (.return_, 1) := by decide +kernel
theorem dX3_unite_0 : decode cX3_unite 0 = .ok (.aload_n 0, 1) := by decide +kernel
theorem dX3_unite_1 : decode cX3_unite 1 = .ok (.getfield 14, 3) := by decide +kernel
theorem dX3_unite_4 : decode cX3_unite 4 = .ok (.aload_n 0, 1) := by decide +kernel
theorem dX3_unite_5 : decode cX3_unite 5 = .ok (.iload_n 2, 1) := by decide +kernel
theorem dX3_unite_6 : decode cX3_unite 6 = .ok (.invokevirtual 24, 3) := by decide +kernel
theorem dX3_unite_9 : decode cX3_unite 9 = .ok (.aload_n 0, 1) := by decide +kernel
theorem dX3_unite_10 : decode cX3_unite 10 = .ok (.iload_n 1, 1) := by decide +kernel
theorem dX3_unite_11 : decode cX3_unite 11 = .ok (.invokevirtual 24, 3) := by decide +kernel
theorem dX3_unite_14 : decode cX3_unite 14 = .ok (.invokevirtual 20, 3) := by decide +kernel
theorem dX3_unite_17 : decode cX3_unite 17 = .ok (.return_, 1) := by decide +kernel
theorem dX3_areUnited_0 : decode cX3_areUnited 0 = .ok (.aload_n 0, 1) := by decide +kernel
theorem dX3_areUnited_1 : decode cX3_areUnited 1 = .ok (.iload_n 1, 1) := by decide +kernel
theorem dX3_areUnited_2 : decode cX3_areUnited 2 = .ok (.invokevirtual 24, 3) := by decide +kernel
theorem dX3_areUnited_5 : decode cX3_areUnited 5 = .ok (.aload_n 0, 1) := by decide +kernel
theorem dX3_areUnited_6 : decode cX3_areUnited 6 = .ok (.iload_n 2, 1) := by decide +kernel
theorem dX3_areUnited_7 : decode cX3_areUnited 7 = .ok (.invokevirtual 24, 3) := by decide +kernel
theorem dX3_areUnited_10 : decode cX3_areUnited 10 = .ok (.if_icmp .ne 7, 3) := by decide +kernel
theorem dX3_areUnited_13 : decode cX3_areUnited 13 = .ok (.iconst 1, 1) := by decide +kernel
theorem dX3_areUnited_14 : decode cX3_areUnited 14 = .ok (.goto 4, 3) := by decide +kernel
theorem dX3_areUnited_17 : decode cX3_areUnited 17 = .ok (.iconst 0, 1) := by decide +kernel
theorem dX3_areUnited_18 : decode cX3_areUnited 18 = .ok (.ireturn, 1) := by decide +kernel
theorem dX3_sizeAround_0 : decode cX3_sizeAround 0 = .ok (.iconst 0, 1) := by decide +kernel
theorem dX3_sizeAround_1 : decode cX3_sizeAround 1 = .ok (.istore_n 3, 1) := by decide +kernel
theorem dX3_sizeAround_2 : decode cX3_sizeAround 2 = .ok (.iconst 0, 1) := by decide +kernel
theorem dX3_sizeAround_3 : decode cX3_sizeAround 3 = .ok (.istore 4, 2) := by decide +kernel
theorem dX3_sizeAround_5 : decode cX3_sizeAround 5 = .ok (.iload 4, 2) := by decide +kernel
theorem dX3_sizeAround_7 : decode cX3_sizeAround 7 = .ok (.iload_n 2, 1) := by decide +kernel
theorem dX3_sizeAround_8 : decode cX3_sizeAround 8 = .ok (.if_icmp .ge 22, 3) := by decide +kernel
theorem dX3_sizeAround_11 : decode cX3_sizeAround 11 = .ok (.aload_n 0, 1) := by decide +kernel
theorem dX3_sizeAround_12 : decode cX3_sizeAround 12 = .ok (.iload_n 1, 1) := by decide +kernel
theorem dX3_sizeAround_13 : decode cX3_sizeAround 13 = .ok (.iload 4, 2) := by decide +kernel
theorem dX3_sizeAround_15 : decode cX3_sizeAround 15 = .ok (.invokevirtual 28, 3) := by decide +kernel
theorem dX3_sizeAround_18 : decode cX3_sizeAround 18 = .ok (.ifCond .eq 6, 3) := by decide +kernel
theorem dX3_sizeAround_21 : decode cX3_sizeAround 21 = .ok (.iinc 3 1, 3) := by decide +kernel
theorem dX3_sizeAround_24 : decode cX3_sizeAround 24 = .ok (.iinc 4 1, 3) := by decide +kernel
theorem dX3_sizeAround_27 : decode cX3_sizeAround 27 = .ok (.goto (-22), 3) := by decide +kernel
theorem dX3_sizeAround_30 : decode cX3_sizeAround 30 = .ok (.iload_n 3, 1) := by decide +kernel
theorem dX3_sizeAround_31 : decode cX3_sizeAround 31 = .ok (.ireturn, 1) := by decide +kernel
theorem dX3_countAmong_0 : decode cX3_countAmong 0 = .ok (.iconst 0, 1) := by decide +kernel
theorem dX3_countAmong_1 : decode cX3_countAmong 1 = .ok (.istore_n 2, 1) := by decide +kernel
theorem dX3_countAmong_2 : decode cX3_countAmong 2 = .ok (.iconst 0, 1) := by decide +kernel
theorem dX3_countAmong_3 : decode cX3_countAmong 3 = .ok (.istore_n 3, 1) := by decide +kernel
theorem dX3_countAmong_4 : decode cX3_countAmong 4 = .ok (.iload_n 3, 1) := by decide +kernel
theorem dX3_countAmong_5 : decode cX3_countAmong 5 = .ok (.iload_n 1, 1) := by decide +kernel
theorem dX3_countAmong_6 : decode cX3_countAmong 6 = .ok (.if_icmp .ge 24, 3) := by decide +kernel
theorem dX3_countAmong_9 : decode cX3_countAmong 9 = .ok (.aload_n 0, 1) := by decide +kernel
theorem dX3_countAmong_10 : decode cX3_countAmong 10 = .ok (.getfield 14, 3) := by decide +kernel
theorem dX3_countAmong_13 : decode cX3_countAmong 13 = .ok (.iload_n 3, 1) := by decide +kernel
theorem dX3_countAmong_14 : decode cX3_countAmong 14 = .ok (.invokevirtual 32, 3) := by decide +kernel
theorem dX3_countAmong_17 : decode cX3_countAmong 17 = .ok (.iload_n 3, 1) := by decide +kernel
theorem dX3_countAmong_18 : decode cX3_countAmong 18 = .ok (.if_icmp .ne 6, 3) := by decide +kernel
theorem dX3_countAmong_21 : decode cX3_countAmong 21 = .ok (.iinc 2 1, 3) := by decide +kernel
theorem dX3_countAmong_24 : decode cX3_countAmong 24 = .ok (.iinc 3 1, 3) := by decide +kernel
theorem dX3_countAmong_27 : decode cX3_countAmong 27 = .ok (.goto (-23), 3) := by decide +kernel
theorem dX3_countAmong_30 : decode cX3_countAmong 30 = .ok (.iload_n 2, 1) := by decide +kernel
theorem dX3_countAmong_31 : decode cX3_countAmong 31 = .ok (.ireturn, 1) := by decide +kernel
theorem dX3_rootOf_0 : decode cX3_rootOf 0 = .ok (.iload_n 1, 1) := by decide +kernel
theorem dX3_rootOf_1 : decode cX3_rootOf 1 = .ok (.istore_n 2, 1) := by decide +kernel
theorem dX3_rootOf_2 : decode cX3_rootOf 2 = .ok (.iconst 0, 1) := by decide +kernel
theorem dX3_rootOf_3 : decode cX3_rootOf 3 = .ok (.istore_n 3, 1) := by decide +kernel
theorem dX3_rootOf_4 : decode cX3_rootOf 4 = .ok (.iload_n 3, 1) := by decide +kernel
theorem dX3_rootOf_5 : decode cX3_rootOf 5 = .ok (.bipush 8, 2) := by decide +kernel
theorem dX3_rootOf_7 : decode cX3_rootOf 7 = .ok (.if_icmp .ge 30, 3) := by decide +kernel
theorem dX3_rootOf_10 : decode cX3_rootOf 10 = .ok (.aload_n 0, 1) := by decide +kernel
theorem dX3_rootOf_11 : decode cX3_rootOf 11 = .ok (.getfield 14, 3) := by decide +kernel
theorem dX3_rootOf_14 : decode cX3_rootOf 14 = .ok (.iload_n 2, 1) := by decide +kernel
theorem dX3_rootOf_15 : decode cX3_rootOf 15 = .ok (.invokevirtual 32, 3) := by decide +kernel
theorem dX3_rootOf_18 : decode cX3_rootOf 18 = .ok (.iload_n 2, 1) := by decide +kernel
theorem dX3_rootOf_19 : decode cX3_rootOf 19 = .ok (.if_icmp .eq 18, 3) := by decide +kernel
theorem dX3_rootOf_22 : decode cX3_rootOf 22 = .ok (.aload_n 0, 1) := by decide +kernel
theorem dX3_rootOf_23 : decode cX3_rootOf 23 = .ok (.getfield 14, 3) := by decide +kernel
theorem dX3_rootOf_26 : decode cX3_rootOf 26 = .ok (.iload_n 2, 1) := by decide +kernel
theorem dX3_rootOf_27 : decode cX3_rootOf 27 = .ok (.invokevirtual 32, 3) := by decide +kernel
theorem dX3_rootOf_30 : decode cX3_rootOf 30 = .ok (.istore_n 2, 1) := by decide +kernel
theorem dX3_rootOf_31 : decode cX3_rootOf 31 = .ok (.iinc 3 1, 3) := by decide +kernel
theorem dX3_rootOf_34 : decode cX3_rootOf 34 = .ok (.goto (-30), 3) := by decide +kernel
theorem dX3_rootOf_37 : decode cX3_rootOf 37 = .ok (.iload_n 2, 1) := by decide +kernel
theorem dX3_rootOf_38 : decode cX3_rootOf 38 = .ok (.ireturn, 1) := by decide +kernel
theorem dX4_init_0 : decode cX4_init 0 = .ok (.aload_n 0, 1) := by decide +kernel
theorem dX4_init_1 : decode cX4_init 1 = .ok (.invokespecial 3, 3) := by decide +kernel
theorem dX4_init_4 : decode cX4_init 4 = .ok (.aload_n 0, 1) := by decide +kernel
theorem dX4_init_5 : decode cX4_init 5 = .ok (.bipush 8, 2) := by decide +kernel
theorem dX4_init_7 : decode cX4_init 7 = .ok (.anewarray 9, 3) := by decide +kernel
theorem dX4_init_10 : decode cX4_init 10 = .ok (.putfield 11, 3) := by decide +kernel
theorem dX4_init_13 : decode cX4_init 13 = .ok (.aload_n 0, 1) := by decide +kernel
theorem dX4_init_14 : decode cX4_init 14 = .ok (.iconst 0, 1) := by decide +kernel
theorem dX4_init_15 : decode cX4_init 15 = .ok (.putfield 17, 3) := by decide +kernel
theorem dX4_init_18 : decode cX4_init 18 = .ok (.aload_n 0, 1) := by decide +kernel
theorem dX4_init_19 : decode cX4_init 19 = .ok (.iconst 0, 1) := by decide +kernel
theorem dX4_init_20 : decode cX4_init 20 = .ok (.putfield 21, 3) := by decide +kernel
theorem dX4_init_23 : decode cX4_init 23 = .ok (.iconst 0, 1) := by decide +kernel
theorem dX4_init_24 : decode cX4_init 24 = .ok (.istore_n 1, 1) := by decide +kernel
theorem dX4_init_25 : decode cX4_init 25 = .ok (.iload_n 1, 1) := by decide +kernel
theorem dX4_init_26 : decode cX4_init 26 = .ok (.aload_n 0, 1) := by decide +kernel
theorem dX4_init_27 : decode cX4_init 27 = .ok (.getfield 11, 3) := by decide +kernel
theorem dX4_init_30 : decode cX4_init 30 = .ok (.arraylength, 1) := by decide +kernel
theorem dX4_init_31 : decode cX4_init 31 = .ok (.if_icmp .ge 22, 3) := by decide +kernel
theorem dX4_init_34 : decode cX4_init 34 = .ok (.aload_n 0, 1) := by decide +kernel
theorem dX4_init_35 : decode cX4_init 35 = .ok (.getfield 11, 3) := by decide +kernel
theorem dX4_init_38 : decode cX4_init 38 = .ok (.iload_n 1, 1) := by decide +kernel
theorem dX4_init_39 : decode cX4_init 39 = .ok (.new 9, 3) := by decide +kernel
theorem dX4_init_42 : decode cX4_init 42 = .ok (.dup, 1) := by decide +kernel
theorem dX4_init_43 : decode cX4_init 43 = .ok (.invokespecial 24, 3) := by decide +kernel
theorem dX4_init_46 : decode cX4_init 46 = .ok (.aastore, 1) := by decide +kernel
theorem dX4_init_47 : decode cX4_init 47 = .ok (.iinc 1 1, 3) := by decide +kernel
theorem dX4_init_50 : decode cX4_init 50 = .ok (.goto (-25), 3) := by decide +kernel
theorem dX4_init_53 : decode cX4_init 53 = .ok (.return_, 1) := by decide +kernel
theorem dX4_keep_0 : decode cX4_keep 0 = .ok (.aload_n 0, 1) := by decide +kernel
theorem dX4_keep_1 : decode cX4_keep 1 = .ok (.aload_n 0, 1) := by decide +kernel
theorem dX4_keep_2 : decode cX4_keep 2 = .ok (.getfield 17, 3) := by decide +kernel
theorem dX4_keep_5 : decode cX4_keep 5 = .ok (.invokevirtual 25, 3) := by decide +kernel
theorem dX4_keep_8 : decode cX4_keep 8 = .ok (.astore_n 2, 1) := by decide +kernel
theorem dX4_keep_9 : decode cX4_keep 9 = .ok (.aload_n 2, 1) := by decide +kernel
theorem dX4_keep_10 : decode cX4_keep 10 = .ok (.ifnull 48, 3) := by decide +kernel
theorem dX4_keep_13 : decode cX4_keep 13 = .ok (.aload_n 2, 1) := by decide +kernel
theorem dX4_keep_14 : decode cX4_keep 14 = .ok (.aload_n 1, 1) := by decide +kernel
theorem dX4_keep_15 : decode cX4_keep 15 = .ok (.invokevirtual 29, 3) := by decide +kernel
theorem dX4_keep_18 : decode cX4_keep 18 = .ok (.aload_n 0, 1) := by decide +kernel
theorem dX4_keep_19 : decode cX4_keep 19 = .ok (.aload_n 0, 1) := by decide +kernel
theorem dX4_keep_20 : decode cX4_keep 20 = .ok (.getfield 17, 3) := by decide +kernel
theorem dX4_keep_23 : decode cX4_keep 23 = .ok (.iconst 1, 1) := by decide +kernel
theorem dX4_keep_24 : decode cX4_keep 24 = .ok (.iadd, 1) := by decide +kernel
theorem dX4_keep_25 : decode cX4_keep 25 = .ok (.bipush 8, 2) := by decide +kernel
theorem dX4_keep_27 : decode cX4_keep 27 = .ok (.if_icmp .ge 12, 3) := by decide +kernel
theorem dX4_keep_30 : decode cX4_keep 30 = .ok (.aload_n 0, 1) := by decide +kernel
theorem dX4_keep_31 : decode cX4_keep 31 = .ok (.getfield 17, 3) := by decide +kernel
theorem dX4_keep_34 : decode cX4_keep 34 = .ok (.iconst 1, 1) := by decide +kernel
theorem dX4_keep_35 : decode cX4_keep 35 = .ok (.iadd, 1) := by decide +kernel
theorem dX4_keep_36 : decode cX4_keep 36 = .ok (.goto 4, 3) := by decide +kernel
theorem dX4_keep_39 : decode cX4_keep 39 = .ok (.iconst 0, 1) := by decide +kernel
theorem dX4_keep_40 : decode cX4_keep 40 = .ok (.putfield 17, 3) := by decide +kernel
theorem dX4_keep_43 : decode cX4_keep 43 = .ok (.aload_n 0, 1) := by decide +kernel
theorem dX4_keep_44 : decode cX4_keep 44 = .ok (.aload_n 0, 1) := by decide +kernel
theorem dX4_keep_45 : decode cX4_keep 45 = .ok (.getfield 21, 3) := by decide +kernel
theorem dX4_keep_48 : decode cX4_keep 48 = .ok (.iconst 1, 1) := by decide +kernel
theorem dX4_keep_49 : decode cX4_keep 49 = .ok (.iadd, 1) := by decide +kernel
theorem dX4_keep_50 : decode cX4_keep 50 = .ok (.bipush 8, 2) := by decide +kernel
theorem dX4_keep_52 : decode cX4_keep 52 = .ok (.invokestatic 33, 3) := by decide +kernel
theorem dX4_keep_55 : decode cX4_keep 55 = .ok (.putfield 21, 3) := by decide +kernel
theorem dX4_keep_58 : decode cX4_keep 58 = .ok (.return_, 1) := by decide +kernel
theorem dX4_placeAt_0 : decode cX4_placeAt 0 = .ok (.iload_n 1, 1) := by decide +kernel
theorem dX4_placeAt_1 : decode cX4_placeAt 1 = .ok (.ifCond .lt 21, 3) := by decide +kernel
theorem dX4_placeAt_4 : decode cX4_placeAt 4 = .ok (.iload_n 1, 1) := by decide +kernel
theorem dX4_placeAt_5 : decode cX4_placeAt 5 = .ok (.aload_n 0, 1) := by decide +kernel
theorem dX4_placeAt_6 : decode cX4_placeAt 6 = .ok (.getfield 11, 3) := by decide +kernel
theorem dX4_placeAt_9 : decode cX4_placeAt 9 = .ok (.arraylength, 1) := by decide +kernel
theorem dX4_placeAt_10 : decode cX4_placeAt 10 = .ok (.if_icmp .ge 12, 3) := by decide +kernel
theorem dX4_placeAt_13 : decode cX4_placeAt 13 = .ok (.aload_n 0, 1) := by decide +kernel
theorem dX4_placeAt_14 : decode cX4_placeAt 14 = .ok (.getfield 11, 3) := by decide +kernel
theorem dX4_placeAt_17 : decode cX4_placeAt 17 = .ok (.iload_n 1, 1) := by decide +kernel
theorem dX4_placeAt_18 : decode cX4_placeAt 18 = .ok (.aaload, 1) := by decide +kernel
theorem dX4_placeAt_19 : decode cX4_placeAt 19 = .ok (.goto 4, 3) := by decide +kernel
theorem dX4_placeAt_22 : decode cX4_placeAt 22 = .ok (.aconst_null, 1) := by decide +kernel
theorem dX4_placeAt_23 : decode cX4_placeAt 23 = .ok (.areturn, 1) := by decide +kernel
theorem dX5_init_0 : decode cX5_init 0 = .ok (.aload_n 0, 1) := by decide +kernel
theorem dX5_init_1 : decode cX5_init 1 = .ok (.invokespecial 3, 3) := by decide +kernel
theorem dX5_init_4 : decode cX5_init 4 = .ok (.aload_n 0, 1) := by decide +kernel
theorem dX5_init_5 : decode cX5_init 5 = .ok (.new 9, 3) := by decide +kernel
theorem dX5_init_8 : decode cX5_init 8 = .ok (.dup, 1) := by decide +kernel
theorem dX5_init_9 : decode cX5_init 9 = .ok (.invokespecial 11, 3) := by decide +kernel
theorem dX5_init_12 : decode cX5_init 12 = .ok (.putfield 12, 3) := by decide +kernel
theorem dX5_init_15 : decode cX5_init 15 = .ok (.aload_n 0, 1) := by decide +kernel
theorem dX5_init_16 : decode cX5_init 16 = .ok (.iconst 0, 1) := by decide +kernel
theorem dX5_init_17 : decode cX5_init 17 = .ok (.putfield 18, 3) := by decide +kernel
theorem dX5_init_20 : decode cX5_init 20 = .ok (.aload_n 0, 1) := by decide +kernel
theorem dX5_init_21 : decode cX5_init 21 = .ok (.iconst 0, 1) := by decide +kernel
theorem dX5_init_22 : decode cX5_init 22 = .ok (.putfield 22, 3) := by decide +kernel
theorem dX5_init_25 : decode cX5_init 25 = .ok (.aload_n 0, 1) := by decide +kernel
theorem dX5_init_26 : decode cX5_init 26 = .ok (.new 25, 3) := by decide +kernel
theorem dX5_init_29 : decode cX5_init 29 = .ok (.dup, 1) := by decide +kernel
theorem dX5_init_30 : decode cX5_init 30 = .ok (.bipush 8, 2) := by decide +kernel
theorem dX5_init_32 : decode cX5_init 32 = .ok (.invokespecial 27, 3) := by decide +kernel
theorem dX5_init_35 : decode cX5_init 35 = .ok (.putfield 30, 3) := by decide +kernel
theorem dX5_init_38 : decode cX5_init 38 = .ok (.aload_n 0, 1) := by decide +kernel
theorem dX5_init_39 : decode cX5_init 39 = .ok (.new 25, 3) := by decide +kernel
theorem dX5_init_42 : decode cX5_init 42 = .ok (.dup, 1) := by decide +kernel
theorem dX5_init_43 : decode cX5_init 43 = .ok (.bipush 8, 2) := by decide +kernel
theorem dX5_init_45 : decode cX5_init 45 = .ok (.invokespecial 27, 3) := by decide +kernel
theorem dX5_init_48 : decode cX5_init 48 = .ok (.putfield 34, 3) := by decide +kernel
theorem dX5_init_51 : decode cX5_init 51 = .ok (.aload_n 0, 1) := by decide +kernel
theorem dX5_init_52 : decode cX5_init 52 = .ok (.new 25, 3) := by decide +kernel
theorem dX5_init_55 : decode cX5_init 55 = .ok (.dup, 1) := by decide +kernel
theorem dX5_init_56 : decode cX5_init 56 = .ok (.bipush 8, 2) := by decide +kernel
theorem dX5_init_58 : decode cX5_init 58 = .ok (.invokespecial 27, 3) := by decide +kernel
theorem dX5_init_61 : decode cX5_init 61 = .ok (.putfield 37, 3) := by decide +kernel
theorem dX5_init_64 : decode cX5_init 64 = .ok (.aload_n 0, 1) := by decide +kernel
theorem dX5_init_65 : decode cX5_init 65 = .ok (.new 25, 3) := by decide +kernel
theorem dX5_init_68 : decode cX5_init 68 = .ok (.dup, 1) := by decide +kernel
theorem dX5_init_69 : decode cX5_init 69 = .ok (.bipush 8, 2) := by decide +kernel
theorem dX5_init_71 : decode cX5_init 71 = .ok (.invokespecial 27, 3) := by decide +kernel
theorem dX5_init_74 : decode cX5_init 74 = .ok (.putfield 40, 3) := by decide +kernel
theorem dX5_init_77 : decode cX5_init 77 = .ok (.aload_n 0, 1) := by decide +kernel
theorem dX5_init_78 : decode cX5_init 78 = .ok (.new 25, 3) := by decide +kernel
theorem dX5_init_81 : decode cX5_init 81 = .ok (.dup, 1) := by decide +kernel
theorem dX5_init_82 : decode cX5_init 82 = .ok (.bipush 8, 2) := by decide +kernel
theorem dX5_init_84 : decode cX5_init 84 = .ok (.invokespecial 27, 3) := by decide +kernel
theorem dX5_init_87 : decode cX5_init 87 = .ok (.putfield 43, 3) := by decide +kernel
theorem dX5_init_90 : decode cX5_init 90 = .ok (.return_, 1) := by decide +kernel
theorem dX6_init_0 : decode cX6_init 0 = .ok (.aload_n 0, 1) := by decide +kernel
theorem dX6_init_1 : decode cX6_init 1 = .ok (.invokespecial 1, 3) := by decide +kernel
theorem dX6_init_4 : decode cX6_init 4 = .ok (.aload_n 0, 1) := by decide +kernel
theorem dX6_init_5 : decode cX6_init 5 = .ok (.iload_n 1, 1) := by decide +kernel
theorem dX6_init_6 : decode cX6_init 6 = .ok (.ifCond .ge 7, 3) := by decide +kernel
theorem dX6_init_9 : decode cX6_init 9 = .ok (.iconst 0, 1) := by decide +kernel
theorem dX6_init_10 : decode cX6_init 10 = .ok (.goto 4, 3) := by decide +kernel
theorem dX6_init_13 : decode cX6_init 13 = .ok (.iload_n 1, 1) := by decide +kernel
theorem dX6_init_14 : decode cX6_init 14 = .ok (.newarray .int, 2) := by decide +kernel
theorem dX6_init_16 : decode cX6_init 16 = .ok (.putfield 7, 3) := by decide +kernel
theorem dX6_init_19 : decode cX6_init 19 = .ok (.return_, 1) := by decide +kernel
theorem dX6_get_0 : decode cX6_get 0 = .ok (.iload_n 1, 1) := by decide +kernel
theorem dX6_get_1 : decode cX6_get 1 = .ok (.ifCond .lt 21, 3) := by decide +kernel
theorem dX6_get_4 : decode cX6_get 4 = .ok (.iload_n 1, 1) := by decide +kernel
theorem dX6_get_5 : decode cX6_get 5 = .ok (.aload_n 0, 1) := by decide +kernel
theorem dX6_get_6 : decode cX6_get 6 = .ok (.getfield 7, 3) := by decide +kernel
theorem dX6_get_9 : decode cX6_get 9 = .ok (.arraylength, 1) := by decide +kernel
theorem dX6_get_10 : decode cX6_get 10 = .ok (.if_icmp .ge 12, 3) := by decide +kernel
theorem dX6_get_13 : decode cX6_get 13 = .ok (.aload_n 0, 1) := by decide +kernel
theorem dX6_get_14 : decode cX6_get 14 = .ok (.getfield 7, 3) := by decide +kernel
theorem dX6_get_17 : decode cX6_get 17 = .ok (.iload_n 1, 1) := by decide +kernel
theorem dX6_get_18 : decode cX6_get 18 = .ok (.iaload, 1) := by decide +kernel
theorem dX6_get_19 : decode cX6_get 19 = .ok (.goto 4, 3) := by decide +kernel
theorem dX6_get_22 : decode cX6_get 22 = .ok (.iconst 0, 1) := by decide +kernel
theorem dX6_get_23 : decode cX6_get 23 = .ok (.ireturn, 1) := by decide +kernel
theorem dX6_put_0 : decode cX6_put 0 = .ok (.iload_n 1, 1) := by decide +kernel
theorem dX6_put_1 : decode cX6_put 1 = .ok (.ifCond .lt 19, 3) := by decide +kernel
theorem dX6_put_4 : decode cX6_put 4 = .ok (.iload_n 1, 1) := by decide +kernel
theorem dX6_put_5 : decode cX6_put 5 = .ok (.aload_n 0, 1) := by decide +kernel
theorem dX6_put_6 : decode cX6_put 6 = .ok (.getfield 7, 3) := by decide +kernel
theorem dX6_put_9 : decode cX6_put 9 = .ok (.arraylength, 1) := by decide +kernel
theorem dX6_put_10 : decode cX6_put 10 = .ok (.if_icmp .ge 10, 3) := by decide +kernel
theorem dX6_put_13 : decode cX6_put 13 = .ok (.aload_n 0, 1) := by decide +kernel
theorem dX6_put_14 : decode cX6_put 14 = .ok (.getfield 7, 3) := by decide +kernel
theorem dX6_put_17 : decode cX6_put 17 = .ok (.iload_n 1, 1) := by decide +kernel
theorem dX6_put_18 : decode cX6_put 18 = .ok (.iload_n 2, 1) := by decide +kernel
theorem dX6_put_19 : decode cX6_put 19 = .ok (.iastore, 1) := by decide +kernel
theorem dX6_put_20 : decode cX6_put 20 = .ok (.return_, 1) := by decide +kernel
theorem dX6_add_0 : decode cX6_add 0 = .ok (.aload_n 0, 1) := by decide +kernel
theorem dX6_add_1 : decode cX6_add 1 = .ok (.iload_n 1, 1) := by decide +kernel
theorem dX6_add_2 : decode cX6_add 2 = .ok (.aload_n 0, 1) := by decide +kernel
theorem dX6_add_3 : decode cX6_add 3 = .ok (.iload_n 1, 1) := by decide +kernel
theorem dX6_add_4 : decode cX6_add 4 = .ok (.invokevirtual 13, 3) := by decide +kernel
theorem dX6_add_7 : decode cX6_add 7 = .ok (.iload_n 2, 1) := by decide +kernel
theorem dX6_add_8 : decode cX6_add 8 = .ok (.iadd, 1) := by decide +kernel
theorem dX6_add_9 : decode cX6_add 9 = .ok (.invokevirtual 17, 3) := by decide +kernel
theorem dX6_add_12 : decode cX6_add 12 = .ok (.return_, 1) := by decide +kernel
theorem dX6_clear_0 : decode cX6_clear 0 = .ok (.iconst 0, 1) := by decide +kernel
theorem dX6_clear_1 : decode cX6_clear 1 = .ok (.istore_n 1, 1) := by decide +kernel
theorem dX6_clear_2 : decode cX6_clear 2 = .ok (.iload_n 1, 1) := by decide +kernel
theorem dX6_clear_3 : decode cX6_clear 3 = .ok (.aload_n 0, 1) := by decide +kernel
theorem dX6_clear_4 : decode cX6_clear 4 = .ok (.getfield 7, 3) := by decide +kernel
theorem dX6_clear_7 : decode cX6_clear 7 = .ok (.arraylength, 1) := by decide +kernel
theorem dX6_clear_8 : decode cX6_clear 8 = .ok (.if_icmp .ge 16, 3) := by decide +kernel
theorem dX6_clear_11 : decode cX6_clear 11 = .ok (.aload_n 0, 1) := by decide +kernel
theorem dX6_clear_12 : decode cX6_clear 12 = .ok (.getfield 7, 3) := by decide +kernel
theorem dX6_clear_15 : decode cX6_clear 15 = .ok (.iload_n 1, 1) := by decide +kernel
theorem dX6_clear_16 : decode cX6_clear 16 = .ok (.iconst 0, 1) := by decide +kernel
theorem dX6_clear_17 : decode cX6_clear 17 = .ok (.iastore, 1) := by decide +kernel
theorem dX6_clear_18 : decode cX6_clear 18 = .ok (.iinc 1 1, 3) := by decide +kernel
theorem dX6_clear_21 : decode cX6_clear 21 = .ok (.goto (-19), 3) := by decide +kernel
theorem dX6_clear_24 : decode cX6_clear 24 = .ok (.return_, 1) := by decide +kernel
theorem dX6_copyFrom_0 : decode cX6_copyFrom 0 = .ok (.aload_n 1, 1) := by decide +kernel
theorem dX6_copyFrom_1 : decode cX6_copyFrom 1 = .ok (.getfield 7, 3) := by decide +kernel
theorem dX6_copyFrom_4 : decode cX6_copyFrom 4 = .ok (.iconst 0, 1) := by decide +kernel
theorem dX6_copyFrom_5 : decode cX6_copyFrom 5 = .ok (.aload_n 0, 1) := by decide +kernel
theorem dX6_copyFrom_6 : decode cX6_copyFrom 6 = .ok (.getfield 7, 3) := by decide +kernel
theorem dX6_copyFrom_9 : decode cX6_copyFrom 9 = .ok (.iconst 0, 1) := by decide +kernel
theorem dX6_copyFrom_10 : decode cX6_copyFrom 10 = .ok (.aload_n 0, 1) := by decide +kernel
theorem dX6_copyFrom_11 : decode cX6_copyFrom 11 = .ok (.getfield 7, 3) := by decide +kernel
theorem dX6_copyFrom_14 : decode cX6_copyFrom 14 = .ok (.arraylength, 1) := by decide +kernel
theorem dX6_copyFrom_15 : decode cX6_copyFrom 15 = .ok (.aload_n 1, 1) := by decide +kernel
theorem dX6_copyFrom_16 : decode cX6_copyFrom 16 = .ok (.getfield 7, 3) := by decide +kernel
theorem dX6_copyFrom_19 : decode cX6_copyFrom 19 = .ok (.arraylength, 1) := by decide +kernel
theorem dX6_copyFrom_20 : decode cX6_copyFrom 20 = .ok (.invokestatic 21, 3) := by decide +kernel
theorem dX6_copyFrom_23 : decode cX6_copyFrom 23 = .ok (.invokestatic 27, 3) := by decide +kernel
theorem dX6_copyFrom_26 : decode cX6_copyFrom 26 = .ok (.return_, 1) := by decide +kernel
theorem dX7_init_0 : decode cX7_init 0 = .ok (.aload_n 0, 1) := by decide +kernel
theorem dX7_init_1 : decode cX7_init 1 = .ok (.invokespecial 3, 3) := by decide +kernel
theorem dX7_init_4 : decode cX7_init 4 = .ok (.aload_n 0, 1) := by decide +kernel
theorem dX7_init_5 : decode cX7_init 5 = .ok (.new 9, 3) := by decide +kernel
theorem dX7_init_8 : decode cX7_init 8 = .ok (.dup, 1) := by decide +kernel
theorem dX7_init_9 : decode cX7_init 9 = .ok (.bipush 8, 2) := by decide +kernel
theorem dX7_init_11 : decode cX7_init 11 = .ok (.invokespecial 11, 3) := by decide +kernel
theorem dX7_init_14 : decode cX7_init 14 = .ok (.putfield 14, 3) := by decide +kernel
theorem dX7_init_17 : decode cX7_init 17 = .ok (.aload_n 0, 1) := by decide +kernel
theorem dX7_init_18 : decode cX7_init 18 = .ok (.new 9, 3) := by decide +kernel
theorem dX7_init_21 : decode cX7_init 21 = .ok (.dup, 1) := by decide +kernel
theorem dX7_init_22 : decode cX7_init 22 = .ok (.bipush 8, 2) := by decide +kernel
theorem dX7_init_24 : decode cX7_init 24 = .ok (.invokespecial 11, 3) := by decide +kernel
theorem dX7_init_27 : decode cX7_init 27 = .ok (.putfield 20, 3) := by decide +kernel
theorem dX7_init_30 : decode cX7_init 30 = .ok (.aload_n 0, 1) := by decide +kernel
theorem dX7_init_31 : decode cX7_init 31 = .ok (.iconst 0, 1) := by decide +kernel
theorem dX7_init_32 : decode cX7_init 32 = .ok (.putfield 23, 3) := by decide +kernel
theorem dX7_init_35 : decode cX7_init 35 = .ok (.return_, 1) := by decide +kernel
theorem dX7_startAt_0 : decode cX7_startAt 0 = .ok (.aload_n 0, 1) := by decide +kernel
theorem dX7_startAt_1 : decode cX7_startAt 1 = .ok (.getfield 20, 3) := by decide +kernel
theorem dX7_startAt_4 : decode cX7_startAt 4 = .ok (.invokevirtual 27, 3) := by decide +kernel
theorem dX7_startAt_7 : decode cX7_startAt 7 = .ok (.aload_n 0, 1) := by decide +kernel
theorem dX7_startAt_8 : decode cX7_startAt 8 = .ok (.iconst 0, 1) := by decide +kernel
theorem dX7_startAt_9 : decode cX7_startAt 9 = .ok (.putfield 23, 3) := by decide +kernel
theorem dX7_startAt_12 : decode cX7_startAt 12 = .ok (.aload_n 0, 1) := by decide +kernel
theorem dX7_startAt_13 : decode cX7_startAt 13 = .ok (.iload_n 1, 1) := by decide +kernel
theorem dX7_startAt_14 : decode cX7_startAt 14 = .ok (.invokevirtual 30, 3) := by decide +kernel
theorem dX7_startAt_17 : decode cX7_startAt 17 = .ok (.iconst 0, 1) := by decide +kernel
theorem dX7_startAt_18 : decode cX7_startAt 18 = .ok (.istore_n 3, 1) := by decide +kernel
theorem dX7_startAt_19 : decode cX7_startAt 19 = .ok (.iload_n 3, 1) := by decide +kernel
theorem dX7_startAt_20 : decode cX7_startAt 20 = .ok (.aload_n 0, 1) := by decide +kernel
theorem dX7_startAt_21 : decode cX7_startAt 21 = .ok (.getfield 23, 3) := by decide +kernel
theorem dX7_startAt_24 : decode cX7_startAt 24 = .ok (.if_icmp .ge 28, 3) := by decide +kernel
theorem dX7_startAt_27 : decode cX7_startAt 27 = .ok (.iload_n 3, 1) := by decide +kernel
theorem dX7_startAt_28 : decode cX7_startAt 28 = .ok (.bipush 8, 2) := by decide +kernel
theorem dX7_startAt_30 : decode cX7_startAt 30 = .ok (.if_icmp .ge 22, 3) := by decide +kernel
theorem dX7_startAt_33 : decode cX7_startAt 33 = .ok (.aload_n 0, 1) := by decide +kernel
theorem dX7_startAt_34 : decode cX7_startAt 34 = .ok (.aload_n 0, 1) := by decide +kernel
theorem dX7_startAt_35 : decode cX7_startAt 35 = .ok (.getfield 14, 3) := by decide +kernel
theorem dX7_startAt_38 : decode cX7_startAt 38 = .ok (.iload_n 3, 1) := by decide +kernel
theorem dX7_startAt_39 : decode cX7_startAt 39 = .ok (.invokevirtual 33, 3) := by decide +kernel
theorem dX7_startAt_42 : decode cX7_startAt 42 = .ok (.aload_n 2, 1) := by decide +kernel
theorem dX7_startAt_43 : decode cX7_startAt 43 = .ok (.invokevirtual 37, 3) := by decide +kernel
theorem dX7_startAt_46 : decode cX7_startAt 46 = .ok (.iinc 3 1, 3) := by decide +kernel
theorem dX7_startAt_49 : decode cX7_startAt 49 = .ok (.goto (-30), 3) := by decide +kernel
theorem dX7_startAt_52 : decode cX7_startAt 52 = .ok (.return_, 1) := by decide +kernel
theorem dX7_hasReached_0 : decode cX7_hasReached 0 = .ok (.aload_n 0, 1) := by decide +kernel
theorem dX7_hasReached_1 : decode cX7_hasReached 1 = .ok (.getfield 20, 3) := by decide +kernel
theorem dX7_hasReached_4 : decode cX7_hasReached 4 = .ok (.iload_n 1, 1) := by decide +kernel
theorem dX7_hasReached_5 : decode cX7_hasReached 5 = .ok (.invokevirtual 33, 3) := by decide +kernel
theorem dX7_hasReached_8 : decode cX7_hasReached 8 = .ok (.ifCond .eq 7, 3) := by decide +kernel
theorem dX7_hasReached_11 : decode cX7_hasReached 11 = .ok (.iconst 1, 1) := by decide +kernel
theorem dX7_hasReached_12 : decode cX7_hasReached 12 = .ok (.goto 4, 3) := by decide +kernel
theorem dX7_hasReached_15 : decode cX7_hasReached 15 = .ok (.iconst 0, 1) := by decide +kernel
theorem dX7_hasReached_16 : decode cX7_hasReached 16 = .ok (.ireturn, 1) := by decide +kernel
theorem dX7_spreadFrom_0 : decode cX7_spreadFrom 0 = .ok (.iconst 0, 1) := by decide +kernel
theorem dX7_spreadFrom_1 : decode cX7_spreadFrom 1 = .ok (.istore_n 3, 1) := by decide +kernel
theorem dX7_spreadFrom_2 : decode cX7_spreadFrom 2 = .ok (.iload_n 3, 1) := by decide +kernel
theorem dX7_spreadFrom_3 : decode cX7_spreadFrom 3 = .ok (.aload_n 2, 1) := by decide +kernel
theorem dX7_spreadFrom_4 : decode cX7_spreadFrom 4 = .ok (.getfield 41, 3) := by decide +kernel
theorem dX7_spreadFrom_7 : decode cX7_spreadFrom 7 = .ok (.if_icmp .ge 24, 3) := by decide +kernel
theorem dX7_spreadFrom_10 : decode cX7_spreadFrom 10 = .ok (.aload_n 2, 1) := by decide +kernel
theorem dX7_spreadFrom_11 : decode cX7_spreadFrom 11 = .ok (.iload_n 3, 1) := by decide +kernel
theorem dX7_spreadFrom_12 : decode cX7_spreadFrom 12 = .ok (.iload_n 1, 1) := by decide +kernel
theorem dX7_spreadFrom_13 : decode cX7_spreadFrom 13 = .ok (.invokevirtual 46, 3) := by decide +kernel
theorem dX7_spreadFrom_16 : decode cX7_spreadFrom 16 = .ok (.ifCond .eq 9, 3) := by decide +kernel
theorem dX7_spreadFrom_19 : decode cX7_spreadFrom 19 = .ok (.aload_n 0, 1) := by decide +kernel
theorem dX7_spreadFrom_20 : decode cX7_spreadFrom 20 = .ok (.iload_n 3, 1) := by decide +kernel
theorem dX7_spreadFrom_21 : decode cX7_spreadFrom 21 = .ok (.aload_n 2, 1) := by decide +kernel
theorem dX7_spreadFrom_22 : decode cX7_spreadFrom 22 = .ok (.invokevirtual 50, 3) := by decide +kernel
theorem dX7_spreadFrom_25 : decode cX7_spreadFrom 25 = .ok (.iinc 3 1, 3) := by decide +kernel
theorem dX7_spreadFrom_28 : decode cX7_spreadFrom 28 = .ok (.goto (-26), 3) := by decide +kernel
theorem dX7_spreadFrom_31 : decode cX7_spreadFrom 31 = .ok (.return_, 1) := by decide +kernel
theorem dX7_reachAllOf_0 : decode cX7_reachAllOf 0 = .ok (.iconst 0, 1) := by decide +kernel
theorem dX7_reachAllOf_1 : decode cX7_reachAllOf 1 = .ok (.istore_n 3, 1) := by decide +kernel
theorem dX7_reachAllOf_2 : decode cX7_reachAllOf 2 = .ok (.iload_n 3, 1) := by decide +kernel
theorem dX7_reachAllOf_3 : decode cX7_reachAllOf 3 = .ok (.aload_n 2, 1) := by decide +kernel
theorem dX7_reachAllOf_4 : decode cX7_reachAllOf 4 = .ok (.getfield 53, 3) := by decide +kernel
theorem dX7_reachAllOf_7 : decode cX7_reachAllOf 7 = .ok (.iload_n 1, 1) := by decide +kernel
theorem dX7_reachAllOf_8 : decode cX7_reachAllOf 8 = .ok (.invokevirtual 33, 3) := by decide +kernel
theorem dX7_reachAllOf_11 : decode cX7_reachAllOf 11 = .ok (.if_icmp .ge 19, 3) := by decide +kernel
theorem dX7_reachAllOf_14 : decode cX7_reachAllOf 14 = .ok (.aload_n 0, 1) := by decide +kernel
theorem dX7_reachAllOf_15 : decode cX7_reachAllOf 15 = .ok (.aload_n 2, 1) := by decide +kernel
theorem dX7_reachAllOf_16 : decode cX7_reachAllOf 16 = .ok (.iload_n 1, 1) := by decide +kernel
theorem dX7_reachAllOf_17 : decode cX7_reachAllOf 17 = .ok (.iload_n 3, 1) := by decide +kernel
theorem dX7_reachAllOf_18 : decode cX7_reachAllOf 18 = .ok (.invokevirtual 56, 3) := by decide +kernel
theorem dX7_reachAllOf_21 : decode cX7_reachAllOf 21 = .ok (.invokevirtual 30, 3) := by decide +kernel
theorem dX7_reachAllOf_24 : decode cX7_reachAllOf 24 = .ok (.iinc 3 1, 3) := by decide +kernel
theorem dX7_reachAllOf_27 : decode cX7_reachAllOf 27 = .ok (.goto (-25), 3) := by decide +kernel
theorem dX7_reachAllOf_30 : decode cX7_reachAllOf 30 = .ok (.return_, 1) := by decide +kernel
theorem dX7_reach_0 : decode cX7_reach 0 = .ok (.aload_n 0, 1) := by decide +kernel
theorem dX7_reach_1 : decode cX7_reach 1 = .ok (.getfield 20, 3) := by decide +kernel
theorem dX7_reach_4 : decode cX7_reach 4 = .ok (.iload_n 1, 1) := by decide +kernel
theorem dX7_reach_5 : decode cX7_reach 5 = .ok (.invokevirtual 33, 3) := by decide +kernel
theorem dX7_reach_8 : decode cX7_reach 8 = .ok (.ifCond .ne 34, 3) := by decide +kernel
theorem dX7_reach_11 : decode cX7_reach 11 = .ok (.aload_n 0, 1) := by decide +kernel
theorem dX7_reach_12 : decode cX7_reach 12 = .ok (.getfield 20, 3) := by decide +kernel
theorem dX7_reach_15 : decode cX7_reach 15 = .ok (.iload_n 1, 1) := by decide +kernel
theorem dX7_reach_16 : decode cX7_reach 16 = .ok (.iconst 1, 1) := by decide +kernel
theorem dX7_reach_17 : decode cX7_reach 17 = .ok (.invokevirtual 60, 3) := by decide +kernel
theorem dX7_reach_20 : decode cX7_reach 20 = .ok (.aload_n 0, 1) := by decide +kernel
theorem dX7_reach_21 : decode cX7_reach 21 = .ok (.getfield 14, 3) := by decide +kernel
theorem dX7_reach_24 : decode cX7_reach 24 = .ok (.aload_n 0, 1) := by decide +kernel
theorem dX7_reach_25 : decode cX7_reach 25 = .ok (.getfield 23, 3) := by decide +kernel
theorem dX7_reach_28 : decode cX7_reach 28 = .ok (.iload_n 1, 1) := by decide +kernel
theorem dX7_reach_29 : decode cX7_reach 29 = .ok (.invokevirtual 60, 3) := by decide +kernel
theorem dX7_reach_32 : decode cX7_reach 32 = .ok (.aload_n 0, 1) := by decide +kernel
theorem dX7_reach_33 : decode cX7_reach 33 = .ok (.dup, 1) := by decide +kernel
theorem dX7_reach_34 : decode cX7_reach 34 = .ok (.getfield 23, 3) := by decide +kernel
theorem dX7_reach_37 : decode cX7_reach 37 = .ok (.iconst 1, 1) := by decide +kernel
theorem dX7_reach_38 : decode cX7_reach 38 = .ok (.iadd, 1) := by decide +kernel
theorem dX7_reach_39 : decode cX7_reach 39 = .ok (.putfield 23, 3) := by decide +kernel
theorem dX7_reach_42 : decode cX7_reach 42 = .ok (.return_, 1) := by decide +kernel
theorem dX8_ofSide_0 : decode cX8_ofSide 0 = .ok (.iconst 0, 1) := by decide +kernel
theorem dX8_ofSide_1 : decode cX8_ofSide 1 = .ok (.istore_n 3, 1) := by decide +kernel
theorem dX8_ofSide_2 : decode cX8_ofSide 2 = .ok (.iconst 0, 1) := by decide +kernel
theorem dX8_ofSide_3 : decode cX8_ofSide 3 = .ok (.istore 4, 2) := by decide +kernel
theorem dX8_ofSide_5 : decode cX8_ofSide 5 = .ok (.iload 4, 2) := by decide +kernel
theorem dX8_ofSide_7 : decode cX8_ofSide 7 = .ok (.aload_n 0, 1) := by decide +kernel
theorem dX8_ofSide_8 : decode cX8_ofSide 8 = .ok (.getfield 9, 3) := by decide +kernel
theorem dX8_ofSide_11 : decode cX8_ofSide 11 = .ok (.iload_n 1, 1) := by decide +kernel
theorem dX8_ofSide_12 : decode cX8_ofSide 12 = .ok (.invokevirtual 15, 3) := by decide +kernel
theorem dX8_ofSide_15 : decode cX8_ofSide 15 = .ok (.if_icmp .ge 39, 3) := by decide +kernel
theorem dX8_ofSide_18 : decode cX8_ofSide 18 = .ok (.aload_n 0, 1) := by decide +kernel
theorem dX8_ofSide_19 : decode cX8_ofSide 19 = .ok (.iload_n 1, 1) := by decide +kernel
theorem dX8_ofSide_20 : decode cX8_ofSide 20 = .ok (.iload 4, 2) := by decide +kernel
theorem dX8_ofSide_22 : decode cX8_ofSide 22 = .ok (.invokevirtual 21, 3) := by decide +kernel
theorem dX8_ofSide_25 : decode cX8_ofSide 25 = .ok (.istore 5, 2) := by decide +kernel
theorem dX8_ofSide_27 : decode cX8_ofSide 27 = .ok (.aload_n 0, 1) := by decide +kernel
theorem dX8_ofSide_28 : decode cX8_ofSide 28 = .ok (.iload_n 1, 1) := by decide +kernel
theorem dX8_ofSide_29 : decode cX8_ofSide 29 = .ok (.iload 5, 2) := by decide +kernel
theorem dX8_ofSide_31 : decode cX8_ofSide 31 = .ok (.invokevirtual 25, 3) := by decide +kernel
theorem dX8_ofSide_34 : decode cX8_ofSide 34 = .ok (.iload_n 2, 1) := by decide +kernel
theorem dX8_ofSide_35 : decode cX8_ofSide 35 = .ok (.if_icmp .ne 13, 3) := by decide +kernel
theorem dX8_ofSide_38 : decode cX8_ofSide 38 = .ok (.iload_n 3, 1) := by decide +kernel
theorem dX8_ofSide_39 : decode cX8_ofSide 39 = .ok (.aload_n 0, 1) := by decide +kernel
theorem dX8_ofSide_40 : decode cX8_ofSide 40 = .ok (.iload_n 1, 1) := by decide +kernel
theorem dX8_ofSide_41 : decode cX8_ofSide 41 = .ok (.iload 5, 2) := by decide +kernel
theorem dX8_ofSide_43 : decode cX8_ofSide 43 = .ok (.invokevirtual 28, 3) := by decide +kernel
theorem dX8_ofSide_46 : decode cX8_ofSide 46 = .ok (.iadd, 1) := by decide +kernel
theorem dX8_ofSide_47 : decode cX8_ofSide 47 = .ok (.istore_n 3, 1) := by decide +kernel
theorem dX8_ofSide_48 : decode cX8_ofSide 48 = .ok (.iinc 4 1, 3) := by decide +kernel
theorem dX8_ofSide_51 : decode cX8_ofSide 51 = .ok (.goto (-46), 3) := by decide +kernel
theorem dX8_ofSide_54 : decode cX8_ofSide 54 = .ok (.iload_n 3, 1) := by decide +kernel
theorem dX8_ofSide_55 : decode cX8_ofSide 55 = .ok (.ireturn, 1) := by decide +kernel
theorem dX8_marginByTestimony_0 : decode cX8_marginByTestimony 0 = .ok (.bipush (-2), 2) := by decide +kernel
theorem dX8_marginByTestimony_2 : decode cX8_marginByTestimony 2 = .ok (.aload_n 0, 1) := by decide +kernel
theorem dX8_marginByTestimony_3 : decode cX8_marginByTestimony 3 = .ok (.iload_n 1, 1) := by decide +kernel
theorem dX8_marginByTestimony_4 : decode cX8_marginByTestimony 4 = .ok (.invokevirtual 31, 3) := by decide +kernel
theorem dX8_marginByTestimony_7 : decode cX8_marginByTestimony 7 = .ok (.imul, 1) := by decide +kernel
theorem dX8_marginByTestimony_8 : decode cX8_marginByTestimony 8 = .ok (.istore_n 2, 1) := by decide +kernel
theorem dX8_marginByTestimony_9 : decode cX8_marginByTestimony 9 = .ok (.iconst 0, 1) := by decide +kernel
theorem dX8_marginByTestimony_10 : decode cX8_marginByTestimony 10 = .ok (.istore_n 3, 1) := by decide +kernel
theorem dX8_marginByTestimony_11 : decode cX8_marginByTestimony 11 = .ok (.iload_n 3, 1) := by decide +kernel
theorem dX8_marginByTestimony_12 : decode cX8_marginByTestimony 12 = .ok (.aload_n 0, 1) := by decide +kernel
theorem dX8_marginByTestimony_13 : decode cX8_marginByTestimony 13 = .ok (.getfield 9, 3) := by decide +kernel
theorem dX8_marginByTestimony_16 : decode cX8_marginByTestimony 16 = .ok (.iload_n 1, 1) := by decide +kernel
theorem dX8_marginByTestimony_17 : decode cX8_marginByTestimony 17 = .ok (.invokevirtual 15, 3) := by decide +kernel
theorem dX8_marginByTestimony_20 : decode cX8_marginByTestimony 20 = .ok (.if_icmp .ge 35, 3) := by decide +kernel
theorem dX8_marginByTestimony_23 : decode cX8_marginByTestimony 23 = .ok (.aload_n 0, 1) := by decide +kernel
theorem dX8_marginByTestimony_24 : decode cX8_marginByTestimony 24 = .ok (.iload_n 1, 1) := by decide +kernel
theorem dX8_marginByTestimony_25 : decode cX8_marginByTestimony 25 = .ok (.iload_n 3, 1) := by decide +kernel
theorem dX8_marginByTestimony_26 : decode cX8_marginByTestimony 26 = .ok (.invokevirtual 21, 3) := by decide +kernel
theorem dX8_marginByTestimony_29 : decode cX8_marginByTestimony 29 = .ok (.istore 4, 2) := by decide +kernel
theorem dX8_marginByTestimony_31 : decode cX8_marginByTestimony 31 = .ok (.iload_n 2, 1) := by decide +kernel
theorem dX8_marginByTestimony_32 : decode cX8_marginByTestimony 32 = .ok (.aload_n 0, 1) := by decide +kernel
theorem dX8_marginByTestimony_33 : decode cX8_marginByTestimony 33 = .ok (.iload_n 1, 1) := by decide +kernel
theorem dX8_marginByTestimony_34 : decode cX8_marginByTestimony 34 = .ok (.iload 4, 2) := by decide +kernel
theorem dX8_marginByTestimony_36 : decode cX8_marginByTestimony 36 = .ok (.invokevirtual 25, 3) := by decide +kernel
theorem dX8_marginByTestimony_39 : decode cX8_marginByTestimony 39 = .ok (.aload_n 0, 1) := by decide +kernel
theorem dX8_marginByTestimony_40 : decode cX8_marginByTestimony 40 = .ok (.iload_n 1, 1) := by decide +kernel
theorem dX8_marginByTestimony_41 : decode cX8_marginByTestimony 41 = .ok (.iload 4, 2) := by decide +kernel
theorem dX8_marginByTestimony_43 : decode cX8_marginByTestimony 43 = .ok (.invokevirtual 28, 3) := by decide +kernel
theorem dX8_marginByTestimony_46 : decode cX8_marginByTestimony 46 = .ok (.imul, 1) := by decide +kernel
theorem dX8_marginByTestimony_47 : decode cX8_marginByTestimony 47 = .ok (.iadd, 1) := by decide +kernel
theorem dX8_marginByTestimony_48 : decode cX8_marginByTestimony 48 = .ok (.istore_n 2, 1) := by decide +kernel
theorem dX8_marginByTestimony_49 : decode cX8_marginByTestimony 49 = .ok (.iinc 3 1, 3) := by decide +kernel
theorem dX8_marginByTestimony_52 : decode cX8_marginByTestimony 52 = .ok (.goto (-41), 3) := by decide +kernel
theorem dX8_marginByTestimony_55 : decode cX8_marginByTestimony 55 = .ok (.iload_n 2, 1) := by decide +kernel
theorem dX8_marginByTestimony_56 : decode cX8_marginByTestimony 56 = .ok (.ireturn, 1) := by decide +kernel
theorem dX8_marginByLevel_0 : decode cX8_marginByLevel 0 = .ok (.bipush (-2), 2) := by decide +kernel
theorem dX8_marginByLevel_2 : decode cX8_marginByLevel 2 = .ok (.aload_n 0, 1) := by decide +kernel
theorem dX8_marginByLevel_3 : decode cX8_marginByLevel 3 = .ok (.iload_n 1, 1) := by decide +kernel
theorem dX8_marginByLevel_4 : decode cX8_marginByLevel 4 = .ok (.invokevirtual 31, 3) := by decide +kernel
theorem dX8_marginByLevel_7 : decode cX8_marginByLevel 7 = .ok (.imul, 1) := by decide +kernel
theorem dX8_marginByLevel_8 : decode cX8_marginByLevel 8 = .ok (.istore_n 2, 1) := by decide +kernel
theorem dX8_marginByLevel_9 : decode cX8_marginByLevel 9 = .ok (.iconst 0, 1) := by decide +kernel
theorem dX8_marginByLevel_10 : decode cX8_marginByLevel 10 = .ok (.istore_n 3, 1) := by decide +kernel
theorem dX8_marginByLevel_11 : decode cX8_marginByLevel 11 = .ok (.iload_n 3, 1) := by decide +kernel
theorem dX8_marginByLevel_12 : decode cX8_marginByLevel 12 = .ok (.bipush 9, 2) := by decide +kernel
theorem dX8_marginByLevel_14 : decode cX8_marginByLevel 14 = .ok (.if_icmp .gt 20, 3) := by decide +kernel
theorem dX8_marginByLevel_17 : decode cX8_marginByLevel 17 = .ok (.iload_n 2, 1) := by decide +kernel
theorem dX8_marginByLevel_18 : decode cX8_marginByLevel 18 = .ok (.iload_n 3, 1) := by decide +kernel
theorem dX8_marginByLevel_19 : decode cX8_marginByLevel 19 = .ok (.iload_n 3, 1) := by decide +kernel
theorem dX8_marginByLevel_20 : decode cX8_marginByLevel 20 = .ok (.aload_n 0, 1) := by decide +kernel
theorem dX8_marginByLevel_21 : decode cX8_marginByLevel 21 = .ok (.iload_n 1, 1) := by decide +kernel
theorem dX8_marginByLevel_22 : decode cX8_marginByLevel 22 = .ok (.invokestatic 34, 3) := by decide +kernel
theorem dX8_marginByLevel_25 : decode cX8_marginByLevel 25 = .ok (.imul, 1) := by decide +kernel
theorem dX8_marginByLevel_26 : decode cX8_marginByLevel 26 = .ok (.iadd, 1) := by decide +kernel
theorem dX8_marginByLevel_27 : decode cX8_marginByLevel 27 = .ok (.istore_n 2, 1) := by decide +kernel
theorem dX8_marginByLevel_28 : decode cX8_marginByLevel 28 = .ok (.iinc 3 1, 3) := by decide +kernel
theorem dX8_marginByLevel_31 : decode cX8_marginByLevel 31 = .ok (.goto (-20), 3) := by decide +kernel
theorem dX8_marginByLevel_34 : decode cX8_marginByLevel 34 = .ok (.iload_n 2, 1) := by decide +kernel
theorem dX8_marginByLevel_35 : decode cX8_marginByLevel 35 = .ok (.ireturn, 1) := by decide +kernel
theorem dX8_signedStrengthsAt_0 : decode cX8_signedStrengthsAt 0 = .ok (.iconst 0, 1) := by decide +kernel
theorem dX8_signedStrengthsAt_1 : decode cX8_signedStrengthsAt 1 = .ok (.istore_n 3, 1) := by decide +kernel
theorem dX8_signedStrengthsAt_2 : decode cX8_signedStrengthsAt 2 = .ok (.iconst 0, 1) := by decide +kernel
theorem dX8_signedStrengthsAt_3 : decode cX8_signedStrengthsAt 3 = .ok (.istore 4, 2) := by decide +kernel
theorem dX8_signedStrengthsAt_5 : decode cX8_signedStrengthsAt 5 = .ok (.iload 4, 2) := by decide +kernel
theorem dX8_signedStrengthsAt_7 : decode cX8_signedStrengthsAt 7 = .ok (.aload_n 1, 1) := by decide +kernel
theorem dX8_signedStrengthsAt_8 : decode cX8_signedStrengthsAt 8 = .ok (.getfield 9, 3) := by decide +kernel
theorem dX8_signedStrengthsAt_11 : decode cX8_signedStrengthsAt 11 = .ok (.iload_n 2, 1) := by decide +kernel
theorem dX8_signedStrengthsAt_12 : decode cX8_signedStrengthsAt 12 = .ok (.invokevirtual 15, 3) := by decide +kernel
theorem dX8_signedStrengthsAt_15 : decode cX8_signedStrengthsAt 15 = .ok (.if_icmp .ge 49, 3) := by decide +kernel
theorem dX8_signedStrengthsAt_18 : decode cX8_signedStrengthsAt 18 = .ok (.aload_n 1, 1) := by decide +kernel
theorem dX8_signedStrengthsAt_19 : decode cX8_signedStrengthsAt 19 = .ok (.iload_n 2, 1) := by decide +kernel
theorem dX8_signedStrengthsAt_20 : decode cX8_signedStrengthsAt 20 = .ok (.iload 4, 2) := by decide +kernel
theorem dX8_signedStrengthsAt_22 : decode cX8_signedStrengthsAt 22 = .ok (.invokevirtual 21, 3) := by decide +kernel
theorem dX8_signedStrengthsAt_25 : decode cX8_signedStrengthsAt 25 = .ok (.istore 5, 2) := by decide +kernel
theorem dX8_signedStrengthsAt_27 : decode cX8_signedStrengthsAt 27 = .ok (.aload_n 1, 1) := by decide +kernel
theorem dX8_signedStrengthsAt_28 : decode cX8_signedStrengthsAt 28 = .ok (.getfield 40, 3) := by decide +kernel
theorem dX8_signedStrengthsAt_31 : decode cX8_signedStrengthsAt 31 = .ok (.iload 5, 2) := by decide +kernel
theorem dX8_signedStrengthsAt_33 : decode cX8_signedStrengthsAt 33 = .ok (.invokevirtual 15, 3) := by decide +kernel
theorem dX8_signedStrengthsAt_36 : decode cX8_signedStrengthsAt 36 = .ok (.iload_n 0, 1) := by decide +kernel
theorem dX8_signedStrengthsAt_37 : decode cX8_signedStrengthsAt 37 = .ok (.if_icmp .ne 21, 3) := by decide +kernel
theorem dX8_signedStrengthsAt_40 : decode cX8_signedStrengthsAt 40 = .ok (.iload_n 3, 1) := by decide +kernel
theorem dX8_signedStrengthsAt_41 : decode cX8_signedStrengthsAt 41 = .ok (.aload_n 1, 1) := by decide +kernel
theorem dX8_signedStrengthsAt_42 : decode cX8_signedStrengthsAt 42 = .ok (.iload_n 2, 1) := by decide +kernel
theorem dX8_signedStrengthsAt_43 : decode cX8_signedStrengthsAt 43 = .ok (.iload 5, 2) := by decide +kernel
theorem dX8_signedStrengthsAt_45 : decode cX8_signedStrengthsAt 45 = .ok (.invokevirtual 25, 3) := by decide +kernel
theorem dX8_signedStrengthsAt_48 : decode cX8_signedStrengthsAt 48 = .ok (.aload_n 1, 1) := by decide +kernel
theorem dX8_signedStrengthsAt_49 : decode cX8_signedStrengthsAt 49 = .ok (.iload_n 2, 1) := by decide +kernel
theorem dX8_signedStrengthsAt_50 : decode cX8_signedStrengthsAt 50 = .ok (.iload 5, 2) := by decide +kernel
theorem dX8_signedStrengthsAt_52 : decode cX8_signedStrengthsAt 52 = .ok (.invokevirtual 43, 3) := by decide +kernel
theorem dX8_signedStrengthsAt_55 : decode cX8_signedStrengthsAt 55 = .ok (.imul, 1) := by decide +kernel
theorem dX8_signedStrengthsAt_56 : decode cX8_signedStrengthsAt 56 = .ok (.iadd, 1) := by decide +kernel
theorem dX8_signedStrengthsAt_57 : decode cX8_signedStrengthsAt 57 = .ok (.istore_n 3, 1) := by decide +kernel
theorem dX8_signedStrengthsAt_58 : decode cX8_signedStrengthsAt 58 = .ok (.iinc 4 1, 3) := by decide +kernel
theorem dX8_signedStrengthsAt_61 : decode cX8_signedStrengthsAt 61 = .ok (.goto (-56), 3) := by decide +kernel
theorem dX8_signedStrengthsAt_64 : decode cX8_signedStrengthsAt 64 = .ok (.iload_n 3, 1) := by decide +kernel
theorem dX8_signedStrengthsAt_65 : decode cX8_signedStrengthsAt 65 = .ok (.ireturn, 1) := by decide +kernel
theorem dX8_heaviestIn_0 : decode cX8_heaviestIn 0 = .ok (.aload_n 0, 1) := by decide +kernel
theorem dX8_heaviestIn_1 : decode cX8_heaviestIn 1 = .ok (.iload_n 1, 1) := by decide +kernel
theorem dX8_heaviestIn_2 : decode cX8_heaviestIn 2 = .ok (.iconst 0, 1) := by decide +kernel
theorem dX8_heaviestIn_3 : decode cX8_heaviestIn 3 = .ok (.invokevirtual 21, 3) := by decide +kernel
theorem dX8_heaviestIn_6 : decode cX8_heaviestIn 6 = .ok (.istore_n 2, 1) := by decide +kernel
theorem dX8_heaviestIn_7 : decode cX8_heaviestIn 7 = .ok (.iconst 1, 1) := by decide +kernel
theorem dX8_heaviestIn_8 : decode cX8_heaviestIn 8 = .ok (.istore_n 3, 1) := by decide +kernel
theorem dX8_heaviestIn_9 : decode cX8_heaviestIn 9 = .ok (.iload_n 3, 1) := by decide +kernel
theorem dX8_heaviestIn_10 : decode cX8_heaviestIn 10 = .ok (.aload_n 0, 1) := by decide +kernel
theorem dX8_heaviestIn_11 : decode cX8_heaviestIn 11 = .ok (.getfield 9, 3) := by decide +kernel
theorem dX8_heaviestIn_14 : decode cX8_heaviestIn 14 = .ok (.iload_n 1, 1) := by decide +kernel
theorem dX8_heaviestIn_15 : decode cX8_heaviestIn 15 = .ok (.invokevirtual 15, 3) := by decide +kernel
theorem dX8_heaviestIn_18 : decode cX8_heaviestIn 18 = .ok (.if_icmp .ge 36, 3) := by decide +kernel
theorem dX8_heaviestIn_21 : decode cX8_heaviestIn 21 = .ok (.aload_n 0, 1) := by decide +kernel
theorem dX8_heaviestIn_22 : decode cX8_heaviestIn 22 = .ok (.iload_n 1, 1) := by decide +kernel
theorem dX8_heaviestIn_23 : decode cX8_heaviestIn 23 = .ok (.iload_n 3, 1) := by decide +kernel
theorem dX8_heaviestIn_24 : decode cX8_heaviestIn 24 = .ok (.invokevirtual 21, 3) := by decide +kernel
theorem dX8_heaviestIn_27 : decode cX8_heaviestIn 27 = .ok (.istore 4, 2) := by decide +kernel
theorem dX8_heaviestIn_29 : decode cX8_heaviestIn 29 = .ok (.aload_n 0, 1) := by decide +kernel
theorem dX8_heaviestIn_30 : decode cX8_heaviestIn 30 = .ok (.iload_n 1, 1) := by decide +kernel
theorem dX8_heaviestIn_31 : decode cX8_heaviestIn 31 = .ok (.iload 4, 2) := by decide +kernel
theorem dX8_heaviestIn_33 : decode cX8_heaviestIn 33 = .ok (.invokevirtual 28, 3) := by decide +kernel
theorem dX8_heaviestIn_36 : decode cX8_heaviestIn 36 = .ok (.aload_n 0, 1) := by decide +kernel
theorem dX8_heaviestIn_37 : decode cX8_heaviestIn 37 = .ok (.iload_n 1, 1) := by decide +kernel
theorem dX8_heaviestIn_38 : decode cX8_heaviestIn 38 = .ok (.iload_n 2, 1) := by decide +kernel
theorem dX8_heaviestIn_39 : decode cX8_heaviestIn 39 = .ok (.invokevirtual 28, 3) := by decide +kernel
theorem dX8_heaviestIn_42 : decode cX8_heaviestIn 42 = .ok (.if_icmp .le 6, 3) := by decide +kernel
theorem dX8_heaviestIn_45 : decode cX8_heaviestIn 45 = .ok (.iload 4, 2) := by decide +kernel
theorem dX8_heaviestIn_47 : decode cX8_heaviestIn 47 = .ok (.istore_n 2, 1) := by decide +kernel
theorem dX8_heaviestIn_48 : decode cX8_heaviestIn 48 = .ok (.iinc 3 1, 3) := by decide +kernel
theorem dX8_heaviestIn_51 : decode cX8_heaviestIn 51 = .ok (.goto (-42), 3) := by decide +kernel
theorem dX8_heaviestIn_54 : decode cX8_heaviestIn 54 = .ok (.iload_n 2, 1) := by decide +kernel
theorem dX8_heaviestIn_55 : decode cX8_heaviestIn 55 = .ok (.ireturn, 1) := by decide +kernel
theorem dX8_firmAnswersNeeded_0 : decode cX8_firmAnswersNeeded 0 = .ok (.aload_n 0, 1) := by decide +kernel
theorem dX8_firmAnswersNeeded_1 : decode cX8_firmAnswersNeeded 1 = .ok (.iload_n 1, 1) := by decide +kernel
theorem dX8_firmAnswersNeeded_2 : decode cX8_firmAnswersNeeded 2 = .ok (.iload_n 2, 1) := by decide +kernel
theorem dX8_firmAnswersNeeded_3 : decode cX8_firmAnswersNeeded 3 = .ok (.invokevirtual 25, 3) := by decide +kernel
theorem dX8_firmAnswersNeeded_6 : decode cX8_firmAnswersNeeded 6 = .ok (.aload_n 0, 1) := by decide +kernel
theorem dX8_firmAnswersNeeded_7 : decode cX8_firmAnswersNeeded 7 = .ok (.iload_n 1, 1) := by decide +kernel
theorem dX8_firmAnswersNeeded_8 : decode cX8_firmAnswersNeeded 8 = .ok (.iload_n 2, 1) := by decide +kernel
theorem dX8_firmAnswersNeeded_9 : decode cX8_firmAnswersNeeded 9 = .ok (.invokevirtual 43, 3) := by decide +kernel
theorem dX8_firmAnswersNeeded_12 : decode cX8_firmAnswersNeeded 12 = .ok (.imul, 1) := by decide +kernel
theorem dX8_firmAnswersNeeded_13 : decode cX8_firmAnswersNeeded 13 = .ok (.istore_n 3, 1) := by decide +kernel
theorem dX8_firmAnswersNeeded_14 : decode cX8_firmAnswersNeeded 14 = .ok (.bipush 9, 2) := by decide +kernel
theorem dX8_firmAnswersNeeded_16 : decode cX8_firmAnswersNeeded 16 = .ok (.aload_n 0, 1) := by decide +kernel
theorem dX8_firmAnswersNeeded_17 : decode cX8_firmAnswersNeeded 17 = .ok (.getfield 40, 3) := by decide +kernel
theorem dX8_firmAnswersNeeded_20 : decode cX8_firmAnswersNeeded 20 = .ok (.iload_n 2, 1) := by decide +kernel
theorem dX8_firmAnswersNeeded_21 : decode cX8_firmAnswersNeeded 21 = .ok (.invokevirtual 15, 3) := by decide +kernel
theorem dX8_firmAnswersNeeded_24 : decode cX8_firmAnswersNeeded 24 = .ok (.isub, 1) := by decide +kernel
theorem dX8_firmAnswersNeeded_25 : decode cX8_firmAnswersNeeded 25 = .ok (.istore 4, 2) := by decide +kernel
theorem dX8_firmAnswersNeeded_27 : decode cX8_firmAnswersNeeded 27 = .ok (.aload_n 0, 1) := by decide +kernel
theorem dX8_firmAnswersNeeded_28 : decode cX8_firmAnswersNeeded 28 = .ok (.iload_n 1, 1) := by decide +kernel
theorem dX8_firmAnswersNeeded_29 : decode cX8_firmAnswersNeeded 29 = .ok (.invokestatic 46, 3) := by decide +kernel
theorem dX8_firmAnswersNeeded_32 : decode cX8_firmAnswersNeeded 32 = .ok (.istore 5, 2) := by decide +kernel
theorem dX8_firmAnswersNeeded_34 : decode cX8_firmAnswersNeeded 34 = .ok (.iconst 0, 1) := by decide +kernel
theorem dX8_firmAnswersNeeded_35 : decode cX8_firmAnswersNeeded 35 = .ok (.istore 6, 2) := by decide +kernel
theorem dX8_firmAnswersNeeded_37 : decode cX8_firmAnswersNeeded 37 = .ok (.iload 6, 2) := by decide +kernel
theorem dX8_firmAnswersNeeded_39 : decode cX8_firmAnswersNeeded 39 = .ok (.iload 4, 2) := by decide +kernel
theorem dX8_firmAnswersNeeded_41 : decode cX8_firmAnswersNeeded 41 = .ok (.if_icmp .gt 22, 3) := by decide +kernel
theorem dX8_firmAnswersNeeded_44 : decode cX8_firmAnswersNeeded 44 = .ok (.iload 5, 2) := by decide +kernel
theorem dX8_firmAnswersNeeded_46 : decode cX8_firmAnswersNeeded 46 = .ok (.iload 6, 2) := by decide +kernel
theorem dX8_firmAnswersNeeded_48 : decode cX8_firmAnswersNeeded 48 = .ok (.iload_n 3, 1) := by decide +kernel
theorem dX8_firmAnswersNeeded_49 : decode cX8_firmAnswersNeeded 49 = .ok (.imul, 1) := by decide +kernel
theorem dX8_firmAnswersNeeded_50 : decode cX8_firmAnswersNeeded 50 = .ok (.iadd, 1) := by decide +kernel
theorem dX8_firmAnswersNeeded_51 : decode cX8_firmAnswersNeeded 51 = .ok (.ifCond .le 6, 3) := by decide +kernel
theorem dX8_firmAnswersNeeded_54 : decode cX8_firmAnswersNeeded 54 = .ok (.iload 6, 2) := by decide +kernel
theorem dX8_firmAnswersNeeded_56 : decode cX8_firmAnswersNeeded 56 = .ok (.ireturn, 1) := by decide +kernel
theorem dX8_firmAnswersNeeded_57 : decode cX8_firmAnswersNeeded 57 = .ok (.iinc 6 1, 3) := by decide +kernel
theorem dX8_firmAnswersNeeded_60 : decode cX8_firmAnswersNeeded 60 = .ok (.goto (-23), 3) := by decide +kernel
theorem dX8_firmAnswersNeeded_63 : decode cX8_firmAnswersNeeded 63 = .ok (.iconst (-1), 1) := by decide +kernel
theorem dX8_firmAnswersNeeded_64 : decode cX8_firmAnswersNeeded 64 = .ok (.ireturn, 1) := by decide +kernel
theorem dX9_init_0 : decode cX9_init 0 = .ok (.aload_n 0, 1) := by decide +kernel
theorem dX9_init_1 : decode cX9_init 1 = .ok (.invokespecial 1, 3) := by decide +kernel
theorem dX9_init_4 : decode cX9_init 4 = .ok (.aload_n 0, 1) := by decide +kernel
theorem dX9_init_5 : decode cX9_init 5 = .ok (.new 7, 3) := by decide +kernel
theorem dX9_init_8 : decode cX9_init 8 = .ok (.dup, 1) := by decide +kernel
theorem dX9_init_9 : decode cX9_init 9 = .ok (.invokespecial 9, 3) := by decide +kernel
theorem dX9_init_12 : decode cX9_init 12 = .ok (.putfield 10, 3) := by decide +kernel
theorem dX9_init_15 : decode cX9_init 15 = .ok (.aload_n 0, 1) := by decide +kernel
theorem dX9_init_16 : decode cX9_init 16 = .ok (.new 7, 3) := by decide +kernel
theorem dX9_init_19 : decode cX9_init 19 = .ok (.dup, 1) := by decide +kernel
theorem dX9_init_20 : decode cX9_init 20 = .ok (.invokespecial 9, 3) := by decide +kernel
theorem dX9_init_23 : decode cX9_init 23 = .ok (.putfield 16, 3) := by decide +kernel
theorem dX9_init_26 : decode cX9_init 26 = .ok (.aload_n 0, 1) := by decide +kernel
theorem dX9_init_27 : decode cX9_init 27 = .ok (.new 7, 3) := by decide +kernel
theorem dX9_init_30 : decode cX9_init 30 = .ok (.dup, 1) := by decide +kernel
theorem dX9_init_31 : decode cX9_init 31 = .ok (.invokespecial 9, 3) := by decide +kernel
theorem dX9_init_34 : decode cX9_init 34 = .ok (.putfield 19, 3) := by decide +kernel
theorem dX9_init_37 : decode cX9_init 37 = .ok (.aload_n 0, 1) := by decide +kernel
theorem dX9_init_38 : decode cX9_init 38 = .ok (.new 22, 3) := by decide +kernel
theorem dX9_init_41 : decode cX9_init 41 = .ok (.dup, 1) := by decide +kernel
theorem dX9_init_42 : decode cX9_init 42 = .ok (.invokespecial 24, 3) := by decide +kernel
theorem dX9_init_45 : decode cX9_init 45 = .ok (.putfield 25, 3) := by decide +kernel
theorem dX9_init_48 : decode cX9_init 48 = .ok (.aload_n 0, 1) := by decide +kernel
theorem dX9_init_49 : decode cX9_init 49 = .ok (.new 29, 3) := by decide +kernel
theorem dX9_init_52 : decode cX9_init 52 = .ok (.dup, 1) := by decide +kernel
theorem dX9_init_53 : decode cX9_init 53 = .ok (.invokespecial 31, 3) := by decide +kernel
theorem dX9_init_56 : decode cX9_init 56 = .ok (.putfield 32, 3) := by decide +kernel
theorem dX9_init_59 : decode cX9_init 59 = .ok (.aload_n 0, 1) := by decide +kernel
theorem dX9_init_60 : decode cX9_init 60 = .ok (.new 36, 3) := by decide +kernel
theorem dX9_init_63 : decode cX9_init 63 = .ok (.dup, 1) := by decide +kernel
theorem dX9_init_64 : decode cX9_init 64 = .ok (.invokespecial 38, 3) := by decide +kernel
theorem dX9_init_67 : decode cX9_init 67 = .ok (.putfield 39, 3) := by decide +kernel
theorem dX9_init_70 : decode cX9_init 70 = .ok (.aload_n 0, 1) := by decide +kernel
theorem dX9_init_71 : decode cX9_init 71 = .ok (.new 43, 3) := by decide +kernel
theorem dX9_init_74 : decode cX9_init 74 = .ok (.dup, 1) := by decide +kernel
theorem dX9_init_75 : decode cX9_init 75 = .ok (.invokespecial 45, 3) := by decide +kernel
theorem dX9_init_78 : decode cX9_init 78 = .ok (.putfield 46, 3) := by decide +kernel
theorem dX9_init_81 : decode cX9_init 81 = .ok (.aload_n 0, 1) := by decide +kernel
theorem dX9_init_82 : decode cX9_init 82 = .ok (.new 50, 3) := by decide +kernel
theorem dX9_init_85 : decode cX9_init 85 = .ok (.dup, 1) := by decide +kernel
theorem dX9_init_86 : decode cX9_init 86 = .ok (.invokespecial 52, 3) := by decide +kernel
theorem dX9_init_89 : decode cX9_init 89 = .ok (.putfield 53, 3) := by decide +kernel
theorem dX9_init_92 : decode cX9_init 92 = .ok (.aload_n 0, 1) := by decide +kernel
theorem dX9_init_93 : decode cX9_init 93 = .ok (.iconst 0, 1) := by decide +kernel
theorem dX9_init_94 : decode cX9_init 94 = .ok (.putfield 57, 3) := by decide +kernel
theorem dX9_init_97 : decode cX9_init 97 = .ok (.aload_n 0, 1) := by decide +kernel
theorem dX9_init_98 : decode cX9_init 98 = .ok (.iconst (-1), 1) := by decide +kernel
theorem dX9_init_99 : decode cX9_init 99 = .ok (.putfield 61, 3) := by decide +kernel
theorem dX9_init_102 : decode cX9_init 102 = .ok (.aload_n 0, 1) := by decide +kernel
theorem dX9_init_103 : decode cX9_init 103 = .ok (.iconst (-1), 1) := by decide +kernel
theorem dX9_init_104 : decode cX9_init 104 = .ok (.putfield 65, 3) := by decide +kernel
theorem dX9_init_107 : decode cX9_init 107 = .ok (.aload_n 0, 1) := by decide +kernel
theorem dX9_init_108 : decode cX9_init 108 = .ok (.iconst 0, 1) := by decide +kernel
theorem dX9_init_109 : decode cX9_init 109 = .ok (.putfield 68, 3) := by decide +kernel
theorem dX9_init_112 : decode cX9_init 112 = .ok (.return_, 1) := by decide +kernel
theorem dX9_charge_0 : decode cX9_charge 0 = .ok (.aload_n 0, 1) := by decide +kernel
theorem dX9_charge_1 : decode cX9_charge 1 = .ok (.iconst 0, 1) := by decide +kernel
theorem dX9_charge_2 : decode cX9_charge 2 = .ok (.iload_n 1, 1) := by decide +kernel
theorem dX9_charge_3 : decode cX9_charge 3 = .ok (.iload_n 2, 1) := by decide +kernel
theorem dX9_charge_4 : decode cX9_charge 4 = .ok (.iconst 0, 1) := by decide +kernel
theorem dX9_charge_5 : decode cX9_charge 5 = .ok (.iconst 0, 1) := by decide +kernel
theorem dX9_charge_6 : decode cX9_charge 6 = .ok (.invokevirtual 71, 3) := by decide +kernel
theorem dX9_charge_9 : decode cX9_charge 9 = .ok (.ireturn, 1) := by decide +kernel
theorem dX9_addWitness_0 : decode cX9_addWitness 0 = .ok (.aload_n 0, 1) := by decide +kernel
theorem dX9_addWitness_1 : decode cX9_addWitness 1 = .ok (.iconst 1, 1) := by decide +kernel
theorem dX9_addWitness_2 : decode cX9_addWitness 2 = .ok (.iload_n 1, 1) := by decide +kernel
theorem dX9_addWitness_3 : decode cX9_addWitness 3 = .ok (.iconst 0, 1) := by decide +kernel
theorem dX9_addWitness_4 : decode cX9_addWitness 4 = .ok (.iconst 0, 1) := by decide +kernel
theorem dX9_addWitness_5 : decode cX9_addWitness 5 = .ok (.iconst 0, 1) := by decide +kernel
theorem dX9_addWitness_6 : decode cX9_addWitness 6 = .ok (.invokevirtual 71, 3) := by decide +kernel
theorem dX9_addWitness_9 : decode cX9_addWitness 9 = .ok (.ireturn, 1) := by decide +kernel
theorem dX9_testify_0 : decode cX9_testify 0 = .ok (.aload_n 0, 1) := by decide +kernel
theorem dX9_testify_1 : decode cX9_testify 1 = .ok (.iconst 2, 1) := by decide +kernel
theorem dX9_testify_2 : decode cX9_testify 2 = .ok (.iload_n 1, 1) := by decide +kernel
theorem dX9_testify_3 : decode cX9_testify 3 = .ok (.iload_n 2, 1) := by decide +kernel
theorem dX9_testify_4 : decode cX9_testify 4 = .ok (.iload_n 3, 1) := by decide +kernel
theorem dX9_testify_5 : decode cX9_testify 5 = .ok (.iload 4, 2) := by decide +kernel
theorem dX9_testify_7 : decode cX9_testify 7 = .ok (.invokevirtual 71, 3) := by decide +kernel
theorem dX9_testify_10 : decode cX9_testify 10 = .ok (.ireturn, 1) := by decide +kernel
theorem dX9_question_0 : decode cX9_question 0 = .ok (.aload_n 0, 1) := by decide +kernel
theorem dX9_question_1 : decode cX9_question 1 = .ok (.iconst 3, 1) := by decide +kernel
theorem dX9_question_2 : decode cX9_question 2 = .ok (.iload_n 1, 1) := by decide +kernel
theorem dX9_question_3 : decode cX9_question 3 = .ok (.iload_n 2, 1) := by decide +kernel
theorem dX9_question_4 : decode cX9_question 4 = .ok (.iload_n 3, 1) := by decide +kernel
theorem dX9_question_5 : decode cX9_question 5 = .ok (.iconst 0, 1) := by decide +kernel
theorem dX9_question_6 : decode cX9_question 6 = .ok (.invokevirtual 71, 3) := by decide +kernel
theorem dX9_question_9 : decode cX9_question 9 = .ok (.ireturn, 1) := by decide +kernel
theorem dX9_decide_0 : decode cX9_decide 0 = .ok (.aload_n 0, 1) := by decide +kernel
theorem dX9_decide_1 : decode cX9_decide 1 = .ok (.iconst 4, 1) := by decide +kernel
theorem dX9_decide_2 : decode cX9_decide 2 = .ok (.iload_n 1, 1) := by decide +kernel
theorem dX9_decide_3 : decode cX9_decide 3 = .ok (.iconst 0, 1) := by decide +kernel
theorem dX9_decide_4 : decode cX9_decide 4 = .ok (.iconst 0, 1) := by decide +kernel
theorem dX9_decide_5 : decode cX9_decide 5 = .ok (.iconst 0, 1) := by decide +kernel
theorem dX9_decide_6 : decode cX9_decide 6 = .ok (.invokevirtual 71, 3) := by decide +kernel
theorem dX9_decide_9 : decode cX9_decide 9 = .ok (.ifCond .eq 7, 3) := by decide +kernel
theorem dX9_decide_12 : decode cX9_decide 12 = .ok (.iconst 1, 1) := by decide +kernel
theorem dX9_decide_13 : decode cX9_decide 13 = .ok (.goto 4, 3) := by decide +kernel
theorem dX9_decide_16 : decode cX9_decide 16 = .ok (.iconst 0, 1) := by decide +kernel
theorem dX9_decide_17 : decode cX9_decide 17 = .ok (.ireturn, 1) := by decide +kernel
theorem dX9_appeal_0 : decode cX9_appeal 0 = .ok (.aload_n 0, 1) := by decide +kernel
theorem dX9_appeal_1 : decode cX9_appeal 1 = .ok (.iconst 5, 1) := by decide +kernel
theorem dX9_appeal_2 : decode cX9_appeal 2 = .ok (.iload_n 1, 1) := by decide +kernel
theorem dX9_appeal_3 : decode cX9_appeal 3 = .ok (.iconst 0, 1) := by decide +kernel
theorem dX9_appeal_4 : decode cX9_appeal 4 = .ok (.iconst 0, 1) := by decide +kernel
theorem dX9_appeal_5 : decode cX9_appeal 5 = .ok (.iconst 0, 1) := by decide +kernel
theorem dX9_appeal_6 : decode cX9_appeal 6 = .ok (.invokevirtual 71, 3) := by decide +kernel
theorem dX9_appeal_9 : decode cX9_appeal 9 = .ok (.ireturn, 1) := by decide +kernel
theorem dX9_close_0 : decode cX9_close 0 = .ok (.aload_n 0, 1) := by decide +kernel
theorem dX9_close_1 : decode cX9_close 1 = .ok (.bipush 6, 2) := by decide +kernel
theorem dX9_close_3 : decode cX9_close 3 = .ok (.iload_n 1, 1) := by decide +kernel
theorem dX9_close_4 : decode cX9_close 4 = .ok (.iconst 0, 1) := by decide +kernel
theorem dX9_close_5 : decode cX9_close 5 = .ok (.iconst 0, 1) := by decide +kernel
theorem dX9_close_6 : decode cX9_close 6 = .ok (.iconst 0, 1) := by decide +kernel
theorem dX9_close_7 : decode cX9_close 7 = .ok (.invokevirtual 71, 3) := by decide +kernel
theorem dX9_close_10 : decode cX9_close 10 = .ok (.ireturn, 1) := by decide +kernel
theorem dX9_caseCount_0 : decode cX9_caseCount 0 = .ok (.aload_n 0, 1) := by decide +kernel
theorem dX9_caseCount_1 : decode cX9_caseCount 1 = .ok (.getfield 10, 3) := by decide +kernel
theorem dX9_caseCount_4 : decode cX9_caseCount 4 = .ok (.getfield 75, 3) := by decide +kernel
theorem dX9_caseCount_7 : decode cX9_caseCount 7 = .ok (.ireturn, 1) := by decide +kernel
theorem dX9_caseOf_0 : decode cX9_caseOf 0 = .ok (.iload_n 1, 1) := by decide +kernel
theorem dX9_caseOf_1 : decode cX9_caseOf 1 = .ok (.invokestatic 78, 3) := by decide +kernel
theorem dX9_caseOf_4 : decode cX9_caseOf 4 = .ok (.ifCond .eq 10, 3) := by decide +kernel
theorem dX9_caseOf_7 : decode cX9_caseOf 7 = .ok (.iload_n 2, 1) := by decide +kernel
theorem dX9_caseOf_8 : decode cX9_caseOf 8 = .ok (.invokestatic 82, 3) := by decide +kernel
theorem dX9_caseOf_11 : decode cX9_caseOf 11 = .ok (.ifCond .ne 13, 3) := by decide +kernel
theorem dX9_caseOf_14 : decode cX9_caseOf 14 = .ok (.new 85, 3) := by decide +kernel
theorem dX9_caseOf_17 : decode cX9_caseOf 17 = .ok (.dup, 1) := by decide +kernel
theorem dX9_caseOf_18 : decode cX9_caseOf 18 = .ok (.ldc 87, 2) := by decide +kernel
theorem dX9_caseOf_20 : decode cX9_caseOf 20 = .ok (.invokespecial 89, 3) := by decide +kernel
theorem dX9_caseOf_23 : decode cX9_caseOf 23 = .ok (.athrow, 1) := by decide +kernel
theorem dX9_caseOf_24 : decode cX9_caseOf 24 = .ok (.aload_n 0, 1) := by decide +kernel
theorem dX9_caseOf_25 : decode cX9_caseOf 25 = .ok (.getfield 10, 3) := by decide +kernel
theorem dX9_caseOf_28 : decode cX9_caseOf 28 = .ok (.iload_n 1, 1) := by decide +kernel
theorem dX9_caseOf_29 : decode cX9_caseOf 29 = .ok (.iload_n 2, 1) := by decide +kernel
theorem dX9_caseOf_30 : decode cX9_caseOf 30 = .ok (.invokevirtual 92, 3) := by decide +kernel
theorem dX9_caseOf_33 : decode cX9_caseOf 33 = .ok (.istore_n 3, 1) := by decide +kernel
theorem dX9_caseOf_34 : decode cX9_caseOf 34 = .ok (.iload_n 3, 1) := by decide +kernel
theorem dX9_caseOf_35 : decode cX9_caseOf 35 = .ok (.iconst (-1), 1) := by decide +kernel
theorem dX9_caseOf_36 : decode cX9_caseOf 36 = .ok (.if_icmp .ne 13, 3) := by decide +kernel
theorem dX9_caseOf_39 : decode cX9_caseOf 39 = .ok (.new 96, 3) := by decide +kernel
theorem dX9_caseOf_42 : decode cX9_caseOf 42 = .ok (.dup, 1) := by decide +kernel
theorem dX9_caseOf_43 : decode cX9_caseOf 43 = .ok (.ldc 98, 2) := by decide +kernel
theorem dX9_caseOf_45 : decode cX9_caseOf 45 = .ok (.invokespecial 100, 3) := by decide +kernel
theorem dX9_caseOf_48 : decode cX9_caseOf 48 = .ok (.athrow, 1) := by decide +kernel
theorem dX9_caseOf_49 : decode cX9_caseOf 49 = .ok (.iload_n 3, 1) := by decide +kernel
theorem dX9_caseOf_50 : decode cX9_caseOf 50 = .ok (.ireturn, 1) := by decide +kernel
theorem dX9_defendantOf_0 : decode cX9_defendantOf 0 = .ok (.aload_n 0, 1) := by decide +kernel
theorem dX9_defendantOf_1 : decode cX9_defendantOf 1 = .ok (.iload_n 1, 1) := by decide +kernel
theorem dX9_defendantOf_2 : decode cX9_defendantOf 2 = .ok (.invokevirtual 101, 3) := by decide +kernel
theorem dX9_defendantOf_5 : decode cX9_defendantOf 5 = .ok (.aload_n 0, 1) := by decide +kernel
theorem dX9_defendantOf_6 : decode cX9_defendantOf 6 = .ok (.getfield 10, 3) := by decide +kernel
theorem dX9_defendantOf_9 : decode cX9_defendantOf 9 = .ok (.getfield 105, 3) := by decide +kernel
theorem dX9_defendantOf_12 : decode cX9_defendantOf 12 = .ok (.iload_n 1, 1) := by decide +kernel
theorem dX9_defendantOf_13 : decode cX9_defendantOf 13 = .ok (.invokevirtual 109, 3) := by decide +kernel
theorem dX9_defendantOf_16 : decode cX9_defendantOf 16 = .ok (.ireturn, 1) := by decide +kernel
theorem dX9_offenceOf_0 : decode cX9_offenceOf 0 = .ok (.aload_n 0, 1) := by decide +kernel
theorem dX9_offenceOf_1 : decode cX9_offenceOf 1 = .ok (.iload_n 1, 1) := by decide +kernel
theorem dX9_offenceOf_2 : decode cX9_offenceOf 2 = .ok (.invokevirtual 101, 3) := by decide +kernel
theorem dX9_offenceOf_5 : decode cX9_offenceOf 5 = .ok (.aload_n 0, 1) := by decide +kernel
theorem dX9_offenceOf_6 : decode cX9_offenceOf 6 = .ok (.getfield 10, 3) := by decide +kernel
theorem dX9_offenceOf_9 : decode cX9_offenceOf 9 = .ok (.getfield 115, 3) := by decide +kernel
theorem dX9_offenceOf_12 : decode cX9_offenceOf 12 = .ok (.iload_n 1, 1) := by decide +kernel
theorem dX9_offenceOf_13 : decode cX9_offenceOf 13 = .ok (.invokevirtual 109, 3) := by decide +kernel
theorem dX9_offenceOf_16 : decode cX9_offenceOf 16 = .ok (.ireturn, 1) := by decide +kernel
theorem dX9_isOpen_0 : decode cX9_isOpen 0 = .ok (.aload_n 0, 1) := by decide +kernel
theorem dX9_isOpen_1 : decode cX9_isOpen 1 = .ok (.iload_n 1, 1) := by decide +kernel
theorem dX9_isOpen_2 : decode cX9_isOpen 2 = .ok (.invokevirtual 101, 3) := by decide +kernel
theorem dX9_isOpen_5 : decode cX9_isOpen 5 = .ok (.aload_n 0, 1) := by decide +kernel
theorem dX9_isOpen_6 : decode cX9_isOpen 6 = .ok (.getfield 10, 3) := by decide +kernel
theorem dX9_isOpen_9 : decode cX9_isOpen 9 = .ok (.iconst 0, 1) := by decide +kernel
theorem dX9_isOpen_10 : decode cX9_isOpen 10 = .ok (.iload_n 1, 1) := by decide +kernel
theorem dX9_isOpen_11 : decode cX9_isOpen 11 = .ok (.invokevirtual 118, 3) := by decide +kernel
theorem dX9_isOpen_14 : decode cX9_isOpen 14 = .ok (.ireturn, 1) := by decide +kernel
theorem dX9_isDecided_0 : decode cX9_isDecided 0 = .ok (.aload_n 0, 1) := by decide +kernel
theorem dX9_isDecided_1 : decode cX9_isDecided 1 = .ok (.iload_n 1, 1) := by decide +kernel
theorem dX9_isDecided_2 : decode cX9_isDecided 2 = .ok (.invokevirtual 101, 3) := by decide +kernel
theorem dX9_isDecided_5 : decode cX9_isDecided 5 = .ok (.aload_n 0, 1) := by decide +kernel
theorem dX9_isDecided_6 : decode cX9_isDecided 6 = .ok (.getfield 10, 3) := by decide +kernel
theorem dX9_isDecided_9 : decode cX9_isDecided 9 = .ok (.iconst 1, 1) := by decide +kernel
theorem dX9_isDecided_10 : decode cX9_isDecided 10 = .ok (.iload_n 1, 1) := by decide +kernel
theorem dX9_isDecided_11 : decode cX9_isDecided 11 = .ok (.invokevirtual 118, 3) := by decide +kernel
theorem dX9_isDecided_14 : decode cX9_isDecided 14 = .ok (.ireturn, 1) := by decide +kernel
theorem dX9_isClosed_0 : decode cX9_isClosed 0 = .ok (.aload_n 0, 1) := by decide +kernel
theorem dX9_isClosed_1 : decode cX9_isClosed 1 = .ok (.iload_n 1, 1) := by decide +kernel
theorem dX9_isClosed_2 : decode cX9_isClosed 2 = .ok (.invokevirtual 101, 3) := by decide +kernel
theorem dX9_isClosed_5 : decode cX9_isClosed 5 = .ok (.aload_n 0, 1) := by decide +kernel
theorem dX9_isClosed_6 : decode cX9_isClosed 6 = .ok (.getfield 10, 3) := by decide +kernel
theorem dX9_isClosed_9 : decode cX9_isClosed 9 = .ok (.iconst 2, 1) := by decide +kernel
theorem dX9_isClosed_10 : decode cX9_isClosed 10 = .ok (.iload_n 1, 1) := by decide +kernel
theorem dX9_isClosed_11 : decode cX9_isClosed 11 = .ok (.invokevirtual 118, 3) := by decide +kernel
theorem dX9_isClosed_14 : decode cX9_isClosed 14 = .ok (.ireturn, 1) := by decide +kernel
theorem dX9_isGuilty_0 : decode cX9_isGuilty 0 = .ok (.aload_n 0, 1) := by decide +kernel
theorem dX9_isGuilty_1 : decode cX9_isGuilty 1 = .ok (.iload_n 1, 1) := by decide +kernel
theorem dX9_isGuilty_2 : decode cX9_isGuilty 2 = .ok (.invokevirtual 101, 3) := by decide +kernel
theorem dX9_isGuilty_5 : decode cX9_isGuilty 5 = .ok (.aload_n 0, 1) := by decide +kernel
theorem dX9_isGuilty_6 : decode cX9_isGuilty 6 = .ok (.getfield 10, 3) := by decide +kernel
theorem dX9_isGuilty_9 : decode cX9_isGuilty 9 = .ok (.iconst 0, 1) := by decide +kernel
theorem dX9_isGuilty_10 : decode cX9_isGuilty 10 = .ok (.iload_n 1, 1) := by decide +kernel
theorem dX9_isGuilty_11 : decode cX9_isGuilty 11 = .ok (.invokevirtual 118, 3) := by decide +kernel
theorem dX9_isGuilty_14 : decode cX9_isGuilty 14 = .ok (.ifCond .eq 13, 3) := by decide +kernel
theorem dX9_isGuilty_17 : decode cX9_isGuilty 17 = .ok (.new 122, 3) := by decide +kernel
theorem dX9_isGuilty_20 : decode cX9_isGuilty 20 = .ok (.dup, 1) := by decide +kernel
theorem dX9_isGuilty_21 : decode cX9_isGuilty 21 = .ok (.ldc 124, 2) := by decide +kernel
theorem dX9_isGuilty_23 : decode cX9_isGuilty 23 = .ok (.invokespecial 126, 3) := by decide +kernel
theorem dX9_isGuilty_26 : decode cX9_isGuilty 26 = .ok (.athrow, 1) := by decide +kernel
theorem dX9_isGuilty_27 : decode cX9_isGuilty 27 = .ok (.aload_n 0, 1) := by decide +kernel
theorem dX9_isGuilty_28 : decode cX9_isGuilty 28 = .ok (.getfield 10, 3) := by decide +kernel
theorem dX9_isGuilty_31 : decode cX9_isGuilty 31 = .ok (.iload_n 1, 1) := by decide +kernel
theorem dX9_isGuilty_32 : decode cX9_isGuilty 32 = .ok (.invokevirtual 127, 3) := by decide +kernel
theorem dX9_isGuilty_35 : decode cX9_isGuilty 35 = .ok (.ireturn, 1) := by decide +kernel
theorem dX9_appealCount_0 : decode cX9_appealCount 0 = .ok (.aload_n 0, 1) := by decide +kernel
theorem dX9_appealCount_1 : decode cX9_appealCount 1 = .ok (.iload_n 1, 1) := by decide +kernel
theorem dX9_appealCount_2 : decode cX9_appealCount 2 = .ok (.invokevirtual 101, 3) := by decide +kernel
theorem dX9_appealCount_5 : decode cX9_appealCount 5 = .ok (.aload_n 0, 1) := by decide +kernel
theorem dX9_appealCount_6 : decode cX9_appealCount 6 = .ok (.getfield 10, 3) := by decide +kernel
theorem dX9_appealCount_9 : decode cX9_appealCount 9 = .ok (.getfield 130, 3) := by decide +kernel
theorem dX9_appealCount_12 : decode cX9_appealCount 12 = .ok (.iload_n 1, 1) := by decide +kernel
theorem dX9_appealCount_13 : decode cX9_appealCount 13 = .ok (.invokevirtual 109, 3) := by decide +kernel
theorem dX9_appealCount_16 : decode cX9_appealCount 16 = .ok (.ireturn, 1) := by decide +kernel
theorem dX9_testimonyCount_0 : decode cX9_testimonyCount 0 = .ok (.aload_n 0, 1) := by decide +kernel
theorem dX9_testimonyCount_1 : decode cX9_testimonyCount 1 = .ok (.iload_n 1, 1) := by decide +kernel
theorem dX9_testimonyCount_2 : decode cX9_testimonyCount 2 = .ok (.invokevirtual 101, 3) := by decide +kernel
theorem dX9_testimonyCount_5 : decode cX9_testimonyCount 5 = .ok (.aload_n 0, 1) := by decide +kernel
theorem dX9_testimonyCount_6 : decode cX9_testimonyCount 6 = .ok (.getfield 10, 3) := by decide +kernel
theorem dX9_testimonyCount_9 : decode cX9_testimonyCount 9 = .ok (.getfield 133, 3) := by decide +kernel
theorem dX9_testimonyCount_12 : decode cX9_testimonyCount 12 = .ok (.iload_n 1, 1) := by decide +kernel
theorem dX9_testimonyCount_13 : decode cX9_testimonyCount 13 = .ok (.invokevirtual 109, 3) := by decide +kernel
theorem dX9_testimonyCount_16 : decode cX9_testimonyCount 16 = .ok (.ireturn, 1) := by decide +kernel
theorem dX9_witnessAt_0 : decode cX9_witnessAt 0 = .ok (.aload_n 0, 1) := by decide +kernel
theorem dX9_witnessAt_1 : decode cX9_witnessAt 1 = .ok (.iload_n 1, 1) := by decide +kernel
theorem dX9_witnessAt_2 : decode cX9_witnessAt 2 = .ok (.invokevirtual 101, 3) := by decide +kernel
theorem dX9_witnessAt_5 : decode cX9_witnessAt 5 = .ok (.iload_n 2, 1) := by decide +kernel
theorem dX9_witnessAt_6 : decode cX9_witnessAt 6 = .ok (.ifCond .lt 18, 3) := by decide +kernel
theorem dX9_witnessAt_9 : decode cX9_witnessAt 9 = .ok (.iload_n 2, 1) := by decide +kernel
theorem dX9_witnessAt_10 : decode cX9_witnessAt 10 = .ok (.aload_n 0, 1) := by decide +kernel
theorem dX9_witnessAt_11 : decode cX9_witnessAt 11 = .ok (.getfield 10, 3) := by decide +kernel
theorem dX9_witnessAt_14 : decode cX9_witnessAt 14 = .ok (.getfield 133, 3) := by decide +kernel
theorem dX9_witnessAt_17 : decode cX9_witnessAt 17 = .ok (.iload_n 1, 1) := by decide +kernel
theorem dX9_witnessAt_18 : decode cX9_witnessAt 18 = .ok (.invokevirtual 109, 3) := by decide +kernel
theorem dX9_witnessAt_21 : decode cX9_witnessAt 21 = .ok (.if_icmp .lt 13, 3) := by decide +kernel
theorem dX9_witnessAt_24 : decode cX9_witnessAt 24 = .ok (.new 96, 3) := by decide +kernel
theorem dX9_witnessAt_27 : decode cX9_witnessAt 27 = .ok (.dup, 1) := by decide +kernel
theorem dX9_witnessAt_28 : decode cX9_witnessAt 28 = .ok (.ldc 136, 2) := by decide +kernel
theorem dX9_witnessAt_30 : decode cX9_witnessAt 30 = .ok (.invokespecial 100, 3) := by decide +kernel
theorem dX9_witnessAt_33 : decode cX9_witnessAt 33 = .ok (.athrow, 1) := by decide +kernel
theorem dX9_witnessAt_34 : decode cX9_witnessAt 34 = .ok (.aload_n 0, 1) := by decide +kernel
theorem dX9_witnessAt_35 : decode cX9_witnessAt 35 = .ok (.getfield 10, 3) := by decide +kernel
theorem dX9_witnessAt_38 : decode cX9_witnessAt 38 = .ok (.iload_n 1, 1) := by decide +kernel
theorem dX9_witnessAt_39 : decode cX9_witnessAt 39 = .ok (.iload_n 2, 1) := by decide +kernel
theorem dX9_witnessAt_40 : decode cX9_witnessAt 40 = .ok (.invokevirtual 138, 3) := by decide +kernel
theorem dX9_witnessAt_43 : decode cX9_witnessAt 43 = .ok (.ireturn, 1) := by decide +kernel
theorem dX9_hasTestified_0 : decode cX9_hasTestified 0 = .ok (.aload_n 0, 1) := by decide +kernel
theorem dX9_hasTestified_1 : decode cX9_hasTestified 1 = .ok (.iload_n 1, 1) := by decide +kernel
theorem dX9_hasTestified_2 : decode cX9_hasTestified 2 = .ok (.invokevirtual 101, 3) := by decide +kernel
theorem dX9_hasTestified_5 : decode cX9_hasTestified 5 = .ok (.aload_n 0, 1) := by decide +kernel
theorem dX9_hasTestified_6 : decode cX9_hasTestified 6 = .ok (.iload_n 2, 1) := by decide +kernel
theorem dX9_hasTestified_7 : decode cX9_hasTestified 7 = .ok (.invokevirtual 141, 3) := by decide +kernel
theorem dX9_hasTestified_10 : decode cX9_hasTestified 10 = .ok (.aload_n 0, 1) := by decide +kernel
theorem dX9_hasTestified_11 : decode cX9_hasTestified 11 = .ok (.getfield 10, 3) := by decide +kernel
theorem dX9_hasTestified_14 : decode cX9_hasTestified 14 = .ok (.iload_n 1, 1) := by decide +kernel
theorem dX9_hasTestified_15 : decode cX9_hasTestified 15 = .ok (.iload_n 2, 1) := by decide +kernel
theorem dX9_hasTestified_16 : decode cX9_hasTestified 16 = .ok (.invokevirtual 144, 3) := by decide +kernel
theorem dX9_hasTestified_19 : decode cX9_hasTestified 19 = .ok (.ireturn, 1) := by decide +kernel
theorem dX9_isForProsecution_0 : decode cX9_isForProsecution 0 = .ok (.aload_n 0, 1) := by decide +kernel
theorem dX9_isForProsecution_1 : decode cX9_isForProsecution 1 = .ok (.iload_n 1, 1) := by decide +kernel
theorem dX9_isForProsecution_2 : decode cX9_isForProsecution 2 = .ok (.iload_n 2, 1) := by decide +kernel
theorem dX9_isForProsecution_3 : decode cX9_isForProsecution 3 = .ok (.invokevirtual 147, 3) := by decide +kernel
theorem dX9_isForProsecution_6 : decode cX9_isForProsecution 6 = .ok (.aload_n 0, 1) := by decide +kernel
theorem dX9_isForProsecution_7 : decode cX9_isForProsecution 7 = .ok (.getfield 10, 3) := by decide +kernel
theorem dX9_isForProsecution_10 : decode cX9_isForProsecution 10 = .ok (.iload_n 1, 1) := by decide +kernel
theorem dX9_isForProsecution_11 : decode cX9_isForProsecution 11 = .ok (.iload_n 2, 1) := by decide +kernel
theorem dX9_isForProsecution_12 : decode cX9_isForProsecution 12 = .ok (.invokevirtual 151, 3) := by decide +kernel
theorem dX9_isForProsecution_15 : decode cX9_isForProsecution 15 = .ok (.ifCond .le 7, 3) := by decide +kernel
theorem dX9_isForProsecution_18 : decode cX9_isForProsecution 18 = .ok (.iconst 1, 1) := by decide +kernel
theorem dX9_isForProsecution_19 : decode cX9_isForProsecution 19 = .ok (.goto 4, 3) := by decide +kernel
theorem dX9_isForProsecution_22 : decode cX9_isForProsecution 22 = .ok (.iconst 0, 1) := by decide +kernel
theorem dX9_isForProsecution_23 : decode cX9_isForProsecution 23 = .ok (.ireturn, 1) := by decide +kernel
theorem dX9_strength_0 : decode cX9_strength 0 = .ok (.aload_n 0, 1) := by decide +kernel
theorem dX9_strength_1 : decode cX9_strength 1 = .ok (.iload_n 1, 1) := by decide +kernel
theorem dX9_strength_2 : decode cX9_strength 2 = .ok (.iload_n 2, 1) := by decide +kernel
theorem dX9_strength_3 : decode cX9_strength 3 = .ok (.invokevirtual 147, 3) := by decide +kernel
theorem dX9_strength_6 : decode cX9_strength 6 = .ok (.aload_n 0, 1) := by decide +kernel
theorem dX9_strength_7 : decode cX9_strength 7 = .ok (.getfield 10, 3) := by decide +kernel
theorem dX9_strength_10 : decode cX9_strength 10 = .ok (.iload_n 1, 1) := by decide +kernel
theorem dX9_strength_11 : decode cX9_strength 11 = .ok (.iload_n 2, 1) := by decide +kernel
theorem dX9_strength_12 : decode cX9_strength 12 = .ok (.invokevirtual 154, 3) := by decide +kernel
theorem dX9_strength_15 : decode cX9_strength 15 = .ok (.ireturn, 1) := by decide +kernel
theorem dX9_questionCount_0 : decode cX9_questionCount 0 = .ok (.aload_n 0, 1) := by decide +kernel
theorem dX9_questionCount_1 : decode cX9_questionCount 1 = .ok (.iload_n 1, 1) := by decide +kernel
theorem dX9_questionCount_2 : decode cX9_questionCount 2 = .ok (.iload_n 2, 1) := by decide +kernel
theorem dX9_questionCount_3 : decode cX9_questionCount 3 = .ok (.invokevirtual 147, 3) := by decide +kernel
theorem dX9_questionCount_6 : decode cX9_questionCount 6 = .ok (.aload_n 0, 1) := by decide +kernel
theorem dX9_questionCount_7 : decode cX9_questionCount 7 = .ok (.getfield 10, 3) := by decide +kernel
theorem dX9_questionCount_10 : decode cX9_questionCount 10 = .ok (.iload_n 1, 1) := by decide +kernel
theorem dX9_questionCount_11 : decode cX9_questionCount 11 = .ok (.iload_n 2, 1) := by decide +kernel
theorem dX9_questionCount_12 : decode cX9_questionCount 12 = .ok (.invokevirtual 157, 3) := by decide +kernel
theorem dX9_questionCount_15 : decode cX9_questionCount 15 = .ok (.ireturn, 1) := by decide +kernel
theorem dX9_witnessCount_0 : decode cX9_witnessCount 0 = .ok (.aload_n 0, 1) := by decide +kernel
theorem dX9_witnessCount_1 : decode cX9_witnessCount 1 = .ok (.getfield 10, 3) := by decide +kernel
theorem dX9_witnessCount_4 : decode cX9_witnessCount 4 = .ok (.getfield 160, 3) := by decide +kernel
theorem dX9_witnessCount_7 : decode cX9_witnessCount 7 = .ok (.ireturn, 1) := by decide +kernel
theorem dX9_credibility_0 : decode cX9_credibility 0 = .ok (.aload_n 0, 1) := by decide +kernel
theorem dX9_credibility_1 : decode cX9_credibility 1 = .ok (.iload_n 1, 1) := by decide +kernel
theorem dX9_credibility_2 : decode cX9_credibility 2 = .ok (.invokevirtual 141, 3) := by decide +kernel
theorem dX9_credibility_5 : decode cX9_credibility 5 = .ok (.aload_n 0, 1) := by decide +kernel
theorem dX9_credibility_6 : decode cX9_credibility 6 = .ok (.getfield 10, 3) := by decide +kernel
theorem dX9_credibility_9 : decode cX9_credibility 9 = .ok (.getfield 163, 3) := by decide +kernel
theorem dX9_credibility_12 : decode cX9_credibility 12 = .ok (.iload_n 1, 1) := by decide +kernel
theorem dX9_credibility_13 : decode cX9_credibility 13 = .ok (.invokevirtual 109, 3) := by decide +kernel
theorem dX9_credibility_16 : decode cX9_credibility 16 = .ok (.ireturn, 1) := by decide +kernel
theorem dX9_casesOfWitness_0 : decode cX9_casesOfWitness 0 = .ok (.aload_n 0, 1) := by decide +kernel
theorem dX9_casesOfWitness_1 : decode cX9_casesOfWitness 1 = .ok (.iload_n 1, 1) := by decide +kernel
theorem dX9_casesOfWitness_2 : decode cX9_casesOfWitness 2 = .ok (.invokevirtual 141, 3) := by decide +kernel
theorem dX9_casesOfWitness_5 : decode cX9_casesOfWitness 5 = .ok (.aload_n 0, 1) := by decide +kernel
theorem dX9_casesOfWitness_6 : decode cX9_casesOfWitness 6 = .ok (.getfield 10, 3) := by decide +kernel
theorem dX9_casesOfWitness_9 : decode cX9_casesOfWitness 9 = .ok (.iload_n 1, 1) := by decide +kernel
theorem dX9_casesOfWitness_10 : decode cX9_casesOfWitness 10 = .ok (.invokevirtual 166, 3) := by decide +kernel
theorem dX9_casesOfWitness_13 : decode cX9_casesOfWitness 13 = .ok (.ireturn, 1) := by decide +kernel
theorem dX9_mostCredible_0 : decode cX9_mostCredible 0 = .ok (.aload_n 0, 1) := by decide +kernel
theorem dX9_mostCredible_1 : decode cX9_mostCredible 1 = .ok (.getfield 10, 3) := by decide +kernel
theorem dX9_mostCredible_4 : decode cX9_mostCredible 4 = .ok (.iload_n 1, 1) := by decide +kernel
theorem dX9_mostCredible_5 : decode cX9_mostCredible 5 = .ok (.invokevirtual 169, 3) := by decide +kernel
theorem dX9_mostCredible_8 : decode cX9_mostCredible 8 = .ok (.istore_n 2, 1) := by decide +kernel
theorem dX9_mostCredible_9 : decode cX9_mostCredible 9 = .ok (.iload_n 2, 1) := by decide +kernel
theorem dX9_mostCredible_10 : decode cX9_mostCredible 10 = .ok (.iconst (-1), 1) := by decide +kernel
theorem dX9_mostCredible_11 : decode cX9_mostCredible 11 = .ok (.if_icmp .ne 13, 3) := by decide +kernel
theorem dX9_mostCredible_14 : decode cX9_mostCredible 14 = .ok (.new 96, 3) := by decide +kernel
theorem dX9_mostCredible_17 : decode cX9_mostCredible 17 = .ok (.dup, 1) := by decide +kernel
theorem dX9_mostCredible_18 : decode cX9_mostCredible 18 = .ok (.ldc 172, 2) := by decide +kernel
theorem dX9_mostCredible_20 : decode cX9_mostCredible 20 = .ok (.invokespecial 100, 3) := by decide +kernel
theorem dX9_mostCredible_23 : decode cX9_mostCredible 23 = .ok (.athrow, 1) := by decide +kernel
theorem dX9_mostCredible_24 : decode cX9_mostCredible 24 = .ok (.iload_n 2, 1) := by decide +kernel
theorem dX9_mostCredible_25 : decode cX9_mostCredible 25 = .ok (.ireturn, 1) := by decide +kernel
theorem dX9_agreement_0 : decode cX9_agreement 0 = .ok (.aload_n 0, 1) := by decide +kernel
theorem dX9_agreement_1 : decode cX9_agreement 1 = .ok (.iload_n 1, 1) := by decide +kernel
theorem dX9_agreement_2 : decode cX9_agreement 2 = .ok (.invokevirtual 141, 3) := by decide +kernel
theorem dX9_agreement_5 : decode cX9_agreement 5 = .ok (.aload_n 0, 1) := by decide +kernel
theorem dX9_agreement_6 : decode cX9_agreement 6 = .ok (.iload_n 2, 1) := by decide +kernel
theorem dX9_agreement_7 : decode cX9_agreement 7 = .ok (.invokevirtual 141, 3) := by decide +kernel
theorem dX9_agreement_10 : decode cX9_agreement 10 = .ok (.aload_n 0, 1) := by decide +kernel
theorem dX9_agreement_11 : decode cX9_agreement 11 = .ok (.getfield 10, 3) := by decide +kernel
theorem dX9_agreement_14 : decode cX9_agreement 14 = .ok (.iload_n 1, 1) := by decide +kernel
theorem dX9_agreement_15 : decode cX9_agreement 15 = .ok (.iload_n 2, 1) := by decide +kernel
theorem dX9_agreement_16 : decode cX9_agreement 16 = .ok (.invokevirtual 174, 3) := by decide +kernel
theorem dX9_agreement_19 : decode cX9_agreement 19 = .ok (.ireturn, 1) := by decide +kernel
theorem dX9_areConnected_0 : decode cX9_areConnected 0 = .ok (.aload_n 0, 1) := by decide +kernel
theorem dX9_areConnected_1 : decode cX9_areConnected 1 = .ok (.iload_n 1, 1) := by decide +kernel
theorem dX9_areConnected_2 : decode cX9_areConnected 2 = .ok (.invokevirtual 141, 3) := by decide +kernel
theorem dX9_areConnected_5 : decode cX9_areConnected 5 = .ok (.aload_n 0, 1) := by decide +kernel
theorem dX9_areConnected_6 : decode cX9_areConnected 6 = .ok (.iload_n 2, 1) := by decide +kernel
theorem dX9_areConnected_7 : decode cX9_areConnected 7 = .ok (.invokevirtual 141, 3) := by decide +kernel
theorem dX9_areConnected_10 : decode cX9_areConnected 10 = .ok (.aload_n 0, 1) := by decide +kernel
theorem dX9_areConnected_11 : decode cX9_areConnected 11 = .ok (.getfield 10, 3) := by decide +kernel
theorem dX9_areConnected_14 : decode cX9_areConnected 14 = .ok (.getfield 177, 3) := by decide +kernel
theorem dX9_areConnected_17 : decode cX9_areConnected 17 = .ok (.iload_n 1, 1) := by decide +kernel
theorem dX9_areConnected_18 : decode cX9_areConnected 18 = .ok (.iload_n 2, 1) := by decide +kernel
theorem dX9_areConnected_19 : decode cX9_areConnected 19 = .ok (.invokevirtual 181, 3) := by decide +kernel
theorem dX9_areConnected_22 : decode cX9_areConnected 22 = .ok (.ireturn, 1) := by decide +kernel
theorem dX9_areConnectedBySearch_0 : decode cX9_areConnectedBySearch 0 = .ok (.aload_n 0, 1) := by decide +kernel
theorem dX9_areConnectedBySearch_1 : decode cX9_areConnectedBySearch 1 = .ok (.iload_n 1, 1) := by decide +kernel
theorem dX9_areConnectedBySearch_2 : decode cX9_areConnectedBySearch 2 = .ok (.invokevirtual 141, 3) := by decide +kernel
theorem dX9_areConnectedBySearch_5 : decode cX9_areConnectedBySearch 5 = .ok (.aload_n 0, 1) := by decide +kernel
theorem dX9_areConnectedBySearch_6 : decode cX9_areConnectedBySearch 6 = .ok (.iload_n 2, 1) := by decide +kernel
theorem dX9_areConnectedBySearch_7 : decode cX9_areConnectedBySearch 7 = .ok (.invokevirtual 141, 3) := by decide +kernel
theorem dX9_areConnectedBySearch_10 : decode cX9_areConnectedBySearch 10 = .ok (.aload_n 0, 1) := by decide +kernel
theorem dX9_areConnectedBySearch_11 : decode cX9_areConnectedBySearch 11 = .ok (.getfield 39, 3) := by decide +kernel
theorem dX9_areConnectedBySearch_14 : decode cX9_areConnectedBySearch 14 = .ok (.iload_n 1, 1) := by decide +kernel
theorem dX9_areConnectedBySearch_15 : decode cX9_areConnectedBySearch 15 = .ok (.aload_n 0, 1) := by decide +kernel
theorem dX9_areConnectedBySearch_16 : decode cX9_areConnectedBySearch 16 = .ok (.getfield 10, 3) := by decide +kernel
theorem dX9_areConnectedBySearch_19 : decode cX9_areConnectedBySearch 19 = .ok (.invokevirtual 186, 3) := by decide +kernel
theorem dX9_areConnectedBySearch_22 : decode cX9_areConnectedBySearch 22 = .ok (.aload_n 0, 1) := by decide +kernel
theorem dX9_areConnectedBySearch_23 : decode cX9_areConnectedBySearch 23 = .ok (.getfield 39, 3) := by decide +kernel
theorem dX9_areConnectedBySearch_26 : decode cX9_areConnectedBySearch 26 = .ok (.iload_n 2, 1) := by decide +kernel
theorem dX9_areConnectedBySearch_27 : decode cX9_areConnectedBySearch 27 = .ok (.invokevirtual 190, 3) := by decide +kernel
theorem dX9_areConnectedBySearch_30 : decode cX9_areConnectedBySearch 30 = .ok (.ireturn, 1) := by decide +kernel
theorem dX9_groupSize_0 : decode cX9_groupSize 0 = .ok (.aload_n 0, 1) := by decide +kernel
theorem dX9_groupSize_1 : decode cX9_groupSize 1 = .ok (.iload_n 1, 1) := by decide +kernel
theorem dX9_groupSize_2 : decode cX9_groupSize 2 = .ok (.invokevirtual 141, 3) := by decide +kernel
theorem dX9_groupSize_5 : decode cX9_groupSize 5 = .ok (.aload_n 0, 1) := by decide +kernel
theorem dX9_groupSize_6 : decode cX9_groupSize 6 = .ok (.getfield 10, 3) := by decide +kernel
theorem dX9_groupSize_9 : decode cX9_groupSize 9 = .ok (.getfield 177, 3) := by decide +kernel
theorem dX9_groupSize_12 : decode cX9_groupSize 12 = .ok (.iload_n 1, 1) := by decide +kernel
theorem dX9_groupSize_13 : decode cX9_groupSize 13 = .ok (.aload_n 0, 1) := by decide +kernel
theorem dX9_groupSize_14 : decode cX9_groupSize 14 = .ok (.getfield 10, 3) := by decide +kernel
theorem dX9_groupSize_17 : decode cX9_groupSize 17 = .ok (.getfield 160, 3) := by decide +kernel
theorem dX9_groupSize_20 : decode cX9_groupSize 20 = .ok (.invokevirtual 193, 3) := by decide +kernel
theorem dX9_groupSize_23 : decode cX9_groupSize 23 = .ok (.ireturn, 1) := by decide +kernel
theorem dX9_groupCount_0 : decode cX9_groupCount 0 = .ok (.aload_n 0, 1) := by decide +kernel
theorem dX9_groupCount_1 : decode cX9_groupCount 1 = .ok (.getfield 10, 3) := by decide +kernel
theorem dX9_groupCount_4 : decode cX9_groupCount 4 = .ok (.getfield 177, 3) := by decide +kernel
theorem dX9_groupCount_7 : decode cX9_groupCount 7 = .ok (.aload_n 0, 1) := by decide +kernel
theorem dX9_groupCount_8 : decode cX9_groupCount 8 = .ok (.getfield 10, 3) := by decide +kernel
theorem dX9_groupCount_11 : decode cX9_groupCount 11 = .ok (.getfield 160, 3) := by decide +kernel
theorem dX9_groupCount_14 : decode cX9_groupCount 14 = .ok (.invokevirtual 196, 3) := by decide +kernel
theorem dX9_groupCount_17 : decode cX9_groupCount 17 = .ok (.ireturn, 1) := by decide +kernel
theorem dX9_heaviestWitness_0 : decode cX9_heaviestWitness 0 = .ok (.aload_n 0, 1) := by decide +kernel
theorem dX9_heaviestWitness_1 : decode cX9_heaviestWitness 1 = .ok (.iload_n 1, 1) := by decide +kernel
theorem dX9_heaviestWitness_2 : decode cX9_heaviestWitness 2 = .ok (.invokevirtual 101, 3) := by decide +kernel
theorem dX9_heaviestWitness_5 : decode cX9_heaviestWitness 5 = .ok (.aload_n 0, 1) := by decide +kernel
theorem dX9_heaviestWitness_6 : decode cX9_heaviestWitness 6 = .ok (.getfield 10, 3) := by decide +kernel
theorem dX9_heaviestWitness_9 : decode cX9_heaviestWitness 9 = .ok (.getfield 133, 3) := by decide +kernel
theorem dX9_heaviestWitness_12 : decode cX9_heaviestWitness 12 = .ok (.iload_n 1, 1) := by decide +kernel
theorem dX9_heaviestWitness_13 : decode cX9_heaviestWitness 13 = .ok (.invokevirtual 109, 3) := by decide +kernel
theorem dX9_heaviestWitness_16 : decode cX9_heaviestWitness 16 = .ok (.ifCond .ne 13, 3) := by decide +kernel
theorem dX9_heaviestWitness_19 : decode cX9_heaviestWitness 19 = .ok (.new 96, 3) := by decide +kernel
theorem dX9_heaviestWitness_22 : decode cX9_heaviestWitness 22 = .ok (.dup, 1) := by decide +kernel
theorem dX9_heaviestWitness_23 : decode cX9_heaviestWitness 23 = .ok (.ldc 199, 2) := by decide +kernel
theorem dX9_heaviestWitness_25 : decode cX9_heaviestWitness 25 = .ok (.invokespecial 100, 3) := by decide +kernel
theorem dX9_heaviestWitness_28 : decode cX9_heaviestWitness 28 = .ok (.athrow, 1) := by decide +kernel
theorem dX9_heaviestWitness_29 : decode cX9_heaviestWitness 29 = .ok (.aload_n 0, 1) := by decide +kernel
theorem dX9_heaviestWitness_30 : decode cX9_heaviestWitness 30 = .ok (.getfield 10, 3) := by decide +kernel
theorem dX9_heaviestWitness_33 : decode cX9_heaviestWitness 33 = .ok (.iload_n 1, 1) := by decide +kernel
theorem dX9_heaviestWitness_34 : decode cX9_heaviestWitness 34 = .ok (.invokestatic 201, 3) := by decide +kernel
theorem dX9_heaviestWitness_37 : decode cX9_heaviestWitness 37 = .ok (.ireturn, 1) := by decide +kernel
theorem dX9_nextToDecide_0 : decode cX9_nextToDecide 0 = .ok (.aload_n 0, 1) := by decide +kernel
theorem dX9_nextToDecide_1 : decode cX9_nextToDecide 1 = .ok (.getfield 32, 3) := by decide +kernel
theorem dX9_nextToDecide_4 : decode cX9_nextToDecide 4 = .ok (.aload_n 0, 1) := by decide +kernel
theorem dX9_nextToDecide_5 : decode cX9_nextToDecide 5 = .ok (.getfield 10, 3) := by decide +kernel
theorem dX9_nextToDecide_8 : decode cX9_nextToDecide 8 = .ok (.invokevirtual 207, 3) := by decide +kernel
theorem dX9_nextToDecide_11 : decode cX9_nextToDecide 11 = .ok (.aload_n 0, 1) := by decide +kernel
theorem dX9_nextToDecide_12 : decode cX9_nextToDecide 12 = .ok (.getfield 32, 3) := by decide +kernel
theorem dX9_nextToDecide_15 : decode cX9_nextToDecide 15 = .ok (.aload_n 0, 1) := by decide +kernel
theorem dX9_nextToDecide_16 : decode cX9_nextToDecide 16 = .ok (.getfield 10, 3) := by decide +kernel
theorem dX9_nextToDecide_19 : decode cX9_nextToDecide 19 = .ok (.invokevirtual 211, 3) := by decide +kernel
theorem dX9_nextToDecide_22 : decode cX9_nextToDecide 22 = .ok (.istore_n 1, 1) := by decide +kernel
theorem dX9_nextToDecide_23 : decode cX9_nextToDecide 23 = .ok (.iload_n 1, 1) := by decide +kernel
theorem dX9_nextToDecide_24 : decode cX9_nextToDecide 24 = .ok (.iconst (-1), 1) := by decide +kernel
theorem dX9_nextToDecide_25 : decode cX9_nextToDecide 25 = .ok (.if_icmp .ne 13, 3) := by decide +kernel
theorem dX9_nextToDecide_28 : decode cX9_nextToDecide 28 = .ok (.new 96, 3) := by decide +kernel
theorem dX9_nextToDecide_31 : decode cX9_nextToDecide 31 = .ok (.dup, 1) := by decide +kernel
theorem dX9_nextToDecide_32 : decode cX9_nextToDecide 32 = .ok (.ldc 215, 2) := by decide +kernel
theorem dX9_nextToDecide_34 : decode cX9_nextToDecide 34 = .ok (.invokespecial 100, 3) := by decide +kernel
theorem dX9_nextToDecide_37 : decode cX9_nextToDecide 37 = .ok (.athrow, 1) := by decide +kernel
theorem dX9_nextToDecide_38 : decode cX9_nextToDecide 38 = .ok (.iload_n 1, 1) := by decide +kernel
theorem dX9_nextToDecide_39 : decode cX9_nextToDecide 39 = .ok (.ireturn, 1) := by decide +kernel
theorem dX9_prosecutionWeight_0 : decode cX9_prosecutionWeight 0 = .ok (.aload_n 0, 1) := by decide +kernel
theorem dX9_prosecutionWeight_1 : decode cX9_prosecutionWeight 1 = .ok (.iload_n 1, 1) := by decide +kernel
theorem dX9_prosecutionWeight_2 : decode cX9_prosecutionWeight 2 = .ok (.invokevirtual 101, 3) := by decide +kernel
theorem dX9_prosecutionWeight_5 : decode cX9_prosecutionWeight 5 = .ok (.aload_n 0, 1) := by decide +kernel
theorem dX9_prosecutionWeight_6 : decode cX9_prosecutionWeight 6 = .ok (.getfield 10, 3) := by decide +kernel
theorem dX9_prosecutionWeight_9 : decode cX9_prosecutionWeight 9 = .ok (.iload_n 1, 1) := by decide +kernel
theorem dX9_prosecutionWeight_10 : decode cX9_prosecutionWeight 10 = .ok (.iconst 1, 1) := by decide +kernel
theorem dX9_prosecutionWeight_11 : decode cX9_prosecutionWeight 11 = .ok (.invokestatic 217, 3) := by decide +kernel
theorem dX9_prosecutionWeight_14 : decode cX9_prosecutionWeight 14 = .ok (.ireturn, 1) := by decide +kernel
theorem dX9_defenceWeight_0 : decode cX9_defenceWeight 0 = .ok (.aload_n 0, 1) := by decide +kernel
theorem dX9_defenceWeight_1 : decode cX9_defenceWeight 1 = .ok (.iload_n 1, 1) := by decide +kernel
theorem dX9_defenceWeight_2 : decode cX9_defenceWeight 2 = .ok (.invokevirtual 101, 3) := by decide +kernel
theorem dX9_defenceWeight_5 : decode cX9_defenceWeight 5 = .ok (.aload_n 0, 1) := by decide +kernel
theorem dX9_defenceWeight_6 : decode cX9_defenceWeight 6 = .ok (.getfield 10, 3) := by decide +kernel
theorem dX9_defenceWeight_9 : decode cX9_defenceWeight 9 = .ok (.iload_n 1, 1) := by decide +kernel
theorem dX9_defenceWeight_10 : decode cX9_defenceWeight 10 = .ok (.iconst (-1), 1) := by decide +kernel
theorem dX9_defenceWeight_11 : decode cX9_defenceWeight 11 = .ok (.invokestatic 217, 3) := by decide +kernel
theorem dX9_defenceWeight_14 : decode cX9_defenceWeight 14 = .ok (.ireturn, 1) := by decide +kernel
theorem dX9_margin_0 : decode cX9_margin 0 = .ok (.aload_n 0, 1) := by decide +kernel
theorem dX9_margin_1 : decode cX9_margin 1 = .ok (.iload_n 1, 1) := by decide +kernel
theorem dX9_margin_2 : decode cX9_margin 2 = .ok (.invokevirtual 101, 3) := by decide +kernel
theorem dX9_margin_5 : decode cX9_margin 5 = .ok (.aload_n 0, 1) := by decide +kernel
theorem dX9_margin_6 : decode cX9_margin 6 = .ok (.getfield 10, 3) := by decide +kernel
theorem dX9_margin_9 : decode cX9_margin 9 = .ok (.iload_n 1, 1) := by decide +kernel
theorem dX9_margin_10 : decode cX9_margin 10 = .ok (.invokestatic 221, 3) := by decide +kernel
theorem dX9_margin_13 : decode cX9_margin 13 = .ok (.ireturn, 1) := by decide +kernel
theorem dX9_marginByCredibility_0 : decode cX9_marginByCredibility 0 = .ok (.aload_n 0, 1) := by decide +kernel
theorem dX9_marginByCredibility_1 : decode cX9_marginByCredibility 1 = .ok (.iload_n 1, 1) := by decide +kernel
theorem dX9_marginByCredibility_2 : decode cX9_marginByCredibility 2 = .ok (.invokevirtual 101, 3) := by decide +kernel
theorem dX9_marginByCredibility_5 : decode cX9_marginByCredibility 5 = .ok (.aload_n 0, 1) := by decide +kernel
theorem dX9_marginByCredibility_6 : decode cX9_marginByCredibility 6 = .ok (.getfield 10, 3) := by decide +kernel
theorem dX9_marginByCredibility_9 : decode cX9_marginByCredibility 9 = .ok (.iload_n 1, 1) := by decide +kernel
theorem dX9_marginByCredibility_10 : decode cX9_marginByCredibility 10 = .ok (.invokestatic 224, 3) := by decide +kernel
theorem dX9_marginByCredibility_13 : decode cX9_marginByCredibility 13 = .ok (.ireturn, 1) := by decide +kernel
theorem dX9_firmAnswersToGuilty_0 : decode cX9_firmAnswersToGuilty 0 = .ok (.aload_n 0, 1) := by decide +kernel
theorem dX9_firmAnswersToGuilty_1 : decode cX9_firmAnswersToGuilty 1 = .ok (.iload_n 1, 1) := by decide +kernel
theorem dX9_firmAnswersToGuilty_2 : decode cX9_firmAnswersToGuilty 2 = .ok (.iload_n 2, 1) := by decide +kernel
theorem dX9_firmAnswersToGuilty_3 : decode cX9_firmAnswersToGuilty 3 = .ok (.invokevirtual 147, 3) := by decide +kernel
theorem dX9_firmAnswersToGuilty_6 : decode cX9_firmAnswersToGuilty 6 = .ok (.aload_n 0, 1) := by decide +kernel
theorem dX9_firmAnswersToGuilty_7 : decode cX9_firmAnswersToGuilty 7 = .ok (.getfield 10, 3) := by decide +kernel
theorem dX9_firmAnswersToGuilty_10 : decode cX9_firmAnswersToGuilty 10 = .ok (.iload_n 1, 1) := by decide +kernel
theorem dX9_firmAnswersToGuilty_11 : decode cX9_firmAnswersToGuilty 11 = .ok (.iload_n 2, 1) := by decide +kernel
theorem dX9_firmAnswersToGuilty_12 : decode cX9_firmAnswersToGuilty 12 = .ok (.invokestatic 227, 3) := by decide +kernel
theorem dX9_firmAnswersToGuilty_15 : decode cX9_firmAnswersToGuilty 15 = .ok (.istore_n 3, 1) := by decide +kernel
theorem dX9_firmAnswersToGuilty_16 : decode cX9_firmAnswersToGuilty 16 = .ok (.iload_n 3, 1) := by decide +kernel
theorem dX9_firmAnswersToGuilty_17 : decode cX9_firmAnswersToGuilty 17 = .ok (.iconst (-1), 1) := by decide +kernel
theorem dX9_firmAnswersToGuilty_18 : decode cX9_firmAnswersToGuilty 18 = .ok (.if_icmp .ne 13, 3) := by decide +kernel
theorem dX9_firmAnswersToGuilty_21 : decode cX9_firmAnswersToGuilty 21 = .ok (.new 96, 3) := by decide +kernel
theorem dX9_firmAnswersToGuilty_24 : decode cX9_firmAnswersToGuilty 24 = .ok (.dup, 1) := by decide +kernel
theorem dX9_firmAnswersToGuilty_25 : decode cX9_firmAnswersToGuilty 25 = .ok (.ldc 230, 2) := by decide +kernel
theorem dX9_firmAnswersToGuilty_27 : decode cX9_firmAnswersToGuilty 27 = .ok (.invokespecial 100, 3) := by decide +kernel
theorem dX9_firmAnswersToGuilty_30 : decode cX9_firmAnswersToGuilty 30 = .ok (.athrow, 1) := by decide +kernel
theorem dX9_firmAnswersToGuilty_31 : decode cX9_firmAnswersToGuilty 31 = .ok (.iload_n 3, 1) := by decide +kernel
theorem dX9_firmAnswersToGuilty_32 : decode cX9_firmAnswersToGuilty 32 = .ok (.ireturn, 1) := by decide +kernel
theorem dX9_sentence_0 : decode cX9_sentence 0 = .ok (.iload_n 1, 1) := by decide +kernel
theorem dX9_sentence_1 : decode cX9_sentence 1 = .ok (.invokestatic 232, 3) := by decide +kernel
theorem dX9_sentence_4 : decode cX9_sentence 4 = .ok (.aload_n 0, 1) := by decide +kernel
theorem dX9_sentence_5 : decode cX9_sentence 5 = .ok (.getfield 10, 3) := by decide +kernel
theorem dX9_sentence_8 : decode cX9_sentence 8 = .ok (.getfield 235, 3) := by decide +kernel
theorem dX9_sentence_11 : decode cX9_sentence 11 = .ok (.iload_n 1, 1) := by decide +kernel
theorem dX9_sentence_12 : decode cX9_sentence 12 = .ok (.invokevirtual 109, 3) := by decide +kernel
theorem dX9_sentence_15 : decode cX9_sentence 15 = .ok (.ireturn, 1) := by decide +kernel
theorem dX9_sentenceByCases_0 : decode cX9_sentenceByCases 0 = .ok (.iload_n 1, 1) := by decide +kernel
theorem dX9_sentenceByCases_1 : decode cX9_sentenceByCases 1 = .ok (.invokestatic 232, 3) := by decide +kernel
theorem dX9_sentenceByCases_4 : decode cX9_sentenceByCases 4 = .ok (.aload_n 0, 1) := by decide +kernel
theorem dX9_sentenceByCases_5 : decode cX9_sentenceByCases 5 = .ok (.getfield 10, 3) := by decide +kernel
theorem dX9_sentenceByCases_8 : decode cX9_sentenceByCases 8 = .ok (.iload_n 1, 1) := by decide +kernel
theorem dX9_sentenceByCases_9 : decode cX9_sentenceByCases 9 = .ok (.invokevirtual 238, 3) := by decide +kernel
theorem dX9_sentenceByCases_12 : decode cX9_sentenceByCases 12 = .ok (.ireturn, 1) := by decide +kernel
theorem dX9_mostSentenced_0 : decode cX9_mostSentenced 0 = .ok (.iconst 0, 1) := by decide +kernel
theorem dX9_mostSentenced_1 : decode cX9_mostSentenced 1 = .ok (.istore_n 1, 1) := by decide +kernel
theorem dX9_mostSentenced_2 : decode cX9_mostSentenced 2 = .ok (.iconst 1, 1) := by decide +kernel
theorem dX9_mostSentenced_3 : decode cX9_mostSentenced 3 = .ok (.istore_n 2, 1) := by decide +kernel
theorem dX9_mostSentenced_4 : decode cX9_mostSentenced 4 = .ok (.iload_n 2, 1) := by decide +kernel
theorem dX9_mostSentenced_5 : decode cX9_mostSentenced 5 = .ok (.bipush 6, 2) := by decide +kernel
theorem dX9_mostSentenced_7 : decode cX9_mostSentenced 7 = .ok (.if_icmp .ge 36, 3) := by decide +kernel
theorem dX9_mostSentenced_10 : decode cX9_mostSentenced 10 = .ok (.aload_n 0, 1) := by decide +kernel
theorem dX9_mostSentenced_11 : decode cX9_mostSentenced 11 = .ok (.getfield 10, 3) := by decide +kernel
theorem dX9_mostSentenced_14 : decode cX9_mostSentenced 14 = .ok (.getfield 235, 3) := by decide +kernel
theorem dX9_mostSentenced_17 : decode cX9_mostSentenced 17 = .ok (.iload_n 2, 1) := by decide +kernel
theorem dX9_mostSentenced_18 : decode cX9_mostSentenced 18 = .ok (.invokevirtual 109, 3) := by decide +kernel
theorem dX9_mostSentenced_21 : decode cX9_mostSentenced 21 = .ok (.aload_n 0, 1) := by decide +kernel
theorem dX9_mostSentenced_22 : decode cX9_mostSentenced 22 = .ok (.getfield 10, 3) := by decide +kernel
theorem dX9_mostSentenced_25 : decode cX9_mostSentenced 25 = .ok (.getfield 235, 3) := by decide +kernel
theorem dX9_mostSentenced_28 : decode cX9_mostSentenced 28 = .ok (.iload_n 1, 1) := by decide +kernel
theorem dX9_mostSentenced_29 : decode cX9_mostSentenced 29 = .ok (.invokevirtual 109, 3) := by decide +kernel
theorem dX9_mostSentenced_32 : decode cX9_mostSentenced 32 = .ok (.if_icmp .le 5, 3) := by decide +kernel
theorem dX9_mostSentenced_35 : decode cX9_mostSentenced 35 = .ok (.iload_n 2, 1) := by decide +kernel
theorem dX9_mostSentenced_36 : decode cX9_mostSentenced 36 = .ok (.istore_n 1, 1) := by decide +kernel
theorem dX9_mostSentenced_37 : decode cX9_mostSentenced 37 = .ok (.iinc 2 1, 3) := by decide +kernel
theorem dX9_mostSentenced_40 : decode cX9_mostSentenced 40 = .ok (.goto (-36), 3) := by decide +kernel
theorem dX9_mostSentenced_43 : decode cX9_mostSentenced 43 = .ok (.iload_n 1, 1) := by decide +kernel
theorem dX9_mostSentenced_44 : decode cX9_mostSentenced 44 = .ok (.ireturn, 1) := by decide +kernel
theorem dX9_docketLength_0 : decode cX9_docketLength 0 = .ok (.aload_n 0, 1) := by decide +kernel
theorem dX9_docketLength_1 : decode cX9_docketLength 1 = .ok (.getfield 10, 3) := by decide +kernel
theorem dX9_docketLength_4 : decode cX9_docketLength 4 = .ok (.iconst 0, 1) := by decide +kernel
theorem dX9_docketLength_5 : decode cX9_docketLength 5 = .ok (.invokevirtual 241, 3) := by decide +kernel
theorem dX9_docketLength_8 : decode cX9_docketLength 8 = .ok (.ireturn, 1) := by decide +kernel
theorem dX9_docketAt_0 : decode cX9_docketAt 0 = .ok (.aload_n 0, 1) := by decide +kernel
theorem dX9_docketAt_1 : decode cX9_docketAt 1 = .ok (.getfield 32, 3) := by decide +kernel
theorem dX9_docketAt_4 : decode cX9_docketAt 4 = .ok (.aload_n 0, 1) := by decide +kernel
theorem dX9_docketAt_5 : decode cX9_docketAt 5 = .ok (.getfield 10, 3) := by decide +kernel
theorem dX9_docketAt_8 : decode cX9_docketAt 8 = .ok (.invokevirtual 207, 3) := by decide +kernel
theorem dX9_docketAt_11 : decode cX9_docketAt 11 = .ok (.iload_n 1, 1) := by decide +kernel
theorem dX9_docketAt_12 : decode cX9_docketAt 12 = .ok (.ifCond .lt 14, 3) := by decide +kernel
theorem dX9_docketAt_15 : decode cX9_docketAt 15 = .ok (.iload_n 1, 1) := by decide +kernel
theorem dX9_docketAt_16 : decode cX9_docketAt 16 = .ok (.aload_n 0, 1) := by decide +kernel
theorem dX9_docketAt_17 : decode cX9_docketAt 17 = .ok (.getfield 32, 3) := by decide +kernel
theorem dX9_docketAt_20 : decode cX9_docketAt 20 = .ok (.getfield 244, 3) := by decide +kernel
theorem dX9_docketAt_23 : decode cX9_docketAt 23 = .ok (.if_icmp .lt 13, 3) := by decide +kernel
theorem dX9_docketAt_26 : decode cX9_docketAt 26 = .ok (.new 96, 3) := by decide +kernel
theorem dX9_docketAt_29 : decode cX9_docketAt 29 = .ok (.dup, 1) := by decide +kernel
theorem dX9_docketAt_30 : decode cX9_docketAt 30 = .ok (.ldc 247, 2) := by decide +kernel
theorem dX9_docketAt_32 : decode cX9_docketAt 32 = .ok (.invokespecial 100, 3) := by decide +kernel
theorem dX9_docketAt_35 : decode cX9_docketAt 35 = .ok (.athrow, 1) := by decide +kernel
theorem dX9_docketAt_36 : decode cX9_docketAt 36 = .ok (.aload_n 0, 1) := by decide +kernel
theorem dX9_docketAt_37 : decode cX9_docketAt 37 = .ok (.getfield 32, 3) := by decide +kernel
theorem dX9_docketAt_40 : decode cX9_docketAt 40 = .ok (.getfield 249, 3) := by decide +kernel
theorem dX9_docketAt_43 : decode cX9_docketAt 43 = .ok (.iload_n 1, 1) := by decide +kernel
theorem dX9_docketAt_44 : decode cX9_docketAt 44 = .ok (.invokevirtual 109, 3) := by decide +kernel
theorem dX9_docketAt_47 : decode cX9_docketAt 47 = .ok (.ireturn, 1) := by decide +kernel
theorem dX9_docketPosition_0 : decode cX9_docketPosition 0 = .ok (.aload_n 0, 1) := by decide +kernel
theorem dX9_docketPosition_1 : decode cX9_docketPosition 1 = .ok (.iload_n 1, 1) := by decide +kernel
theorem dX9_docketPosition_2 : decode cX9_docketPosition 2 = .ok (.invokevirtual 101, 3) := by decide +kernel
theorem dX9_docketPosition_5 : decode cX9_docketPosition 5 = .ok (.aload_n 0, 1) := by decide +kernel
theorem dX9_docketPosition_6 : decode cX9_docketPosition 6 = .ok (.getfield 10, 3) := by decide +kernel
theorem dX9_docketPosition_9 : decode cX9_docketPosition 9 = .ok (.iconst 0, 1) := by decide +kernel
theorem dX9_docketPosition_10 : decode cX9_docketPosition 10 = .ok (.iload_n 1, 1) := by decide +kernel
theorem dX9_docketPosition_11 : decode cX9_docketPosition 11 = .ok (.invokevirtual 118, 3) := by decide +kernel
theorem dX9_docketPosition_14 : decode cX9_docketPosition 14 = .ok (.ifCond .ne 13, 3) := by decide +kernel
theorem dX9_docketPosition_17 : decode cX9_docketPosition 17 = .ok (.new 122, 3) := by decide +kernel
theorem dX9_docketPosition_20 : decode cX9_docketPosition 20 = .ok (.dup, 1) := by decide +kernel
theorem dX9_docketPosition_21 : decode cX9_docketPosition 21 = .ok (.ldc 252, 2) := by decide +kernel
theorem dX9_docketPosition_23 : decode cX9_docketPosition 23 = .ok (.invokespecial 126, 3) := by decide +kernel
theorem dX9_docketPosition_26 : decode cX9_docketPosition 26 = .ok (.athrow, 1) := by decide +kernel
theorem dX9_docketPosition_27 : decode cX9_docketPosition 27 = .ok (.aload_n 0, 1) := by decide +kernel
theorem dX9_docketPosition_28 : decode cX9_docketPosition 28 = .ok (.getfield 10, 3) := by decide +kernel
theorem dX9_docketPosition_31 : decode cX9_docketPosition 31 = .ok (.iload_n 1, 1) := by decide +kernel
theorem dX9_docketPosition_32 : decode cX9_docketPosition 32 = .ok (.invokevirtual 254, 3) := by decide +kernel
theorem dX9_docketPosition_35 : decode cX9_docketPosition 35 = .ok (.ireturn, 1) := by decide +kernel
theorem dX9_closedCount_0 : decode cX9_closedCount 0 = .ok (.aload_n 0, 1) := by decide +kernel
theorem dX9_closedCount_1 : decode cX9_closedCount 1 = .ok (.getfield 10, 3) := by decide +kernel
theorem dX9_closedCount_4 : decode cX9_closedCount 4 = .ok (.iconst 2, 1) := by decide +kernel
theorem dX9_closedCount_5 : decode cX9_closedCount 5 = .ok (.invokevirtual 241, 3) := by decide +kernel
theorem dX9_closedCount_8 : decode cX9_closedCount 8 = .ok (.ireturn, 1) := by decide +kernel
theorem dX9_guiltyCount_0 : decode cX9_guiltyCount 0 = .ok (.aload_n 0, 1) := by decide +kernel
theorem dX9_guiltyCount_1 : decode cX9_guiltyCount 1 = .ok (.getfield 10, 3) := by decide +kernel
theorem dX9_guiltyCount_4 : decode cX9_guiltyCount 4 = .ok (.invokevirtual 257, 3) := by decide +kernel
theorem dX9_guiltyCount_7 : decode cX9_guiltyCount 7 = .ok (.ireturn, 1) := by decide +kernel
theorem dX9_decisionCount_0 : decode cX9_decisionCount 0 = .ok (.aload_n 0, 1) := by decide +kernel
theorem dX9_decisionCount_1 : decode cX9_decisionCount 1 = .ok (.getfield 10, 3) := by decide +kernel
theorem dX9_decisionCount_4 : decode cX9_decisionCount 4 = .ok (.getfield 261, 3) := by decide +kernel
theorem dX9_decisionCount_7 : decode cX9_decisionCount 7 = .ok (.ireturn, 1) := by decide +kernel
theorem dX9_meanCredibility_0 : decode cX9_meanCredibility 0 = .ok (.aload_n 0, 1) := by decide +kernel
theorem dX9_meanCredibility_1 : decode cX9_meanCredibility 1 = .ok (.getfield 10, 3) := by decide +kernel
theorem dX9_meanCredibility_4 : decode cX9_meanCredibility 4 = .ok (.getfield 160, 3) := by decide +kernel
theorem dX9_meanCredibility_7 : decode cX9_meanCredibility 7 = .ok (.ifCond .ne 14, 3) := by decide +kernel
theorem dX9_meanCredibility_10 : decode cX9_meanCredibility 10 = .ok (.new 267, 3) := by decide +kernel
theorem dX9_meanCredibility_13 : decode cX9_meanCredibility 13 = .ok (.dup, 1) := by decide +kernel
theorem dX9_meanCredibility_14 : decode cX9_meanCredibility 14 = .ok (.ldc_w 269, 3) := by decide +kernel
theorem dX9_meanCredibility_17 : decode cX9_meanCredibility 17 = .ok (.invokespecial 271, 3) := by decide +kernel
theorem dX9_meanCredibility_20 : decode cX9_meanCredibility 20 = .ok (.athrow, 1) := by decide +kernel
theorem dX9_meanCredibility_21 : decode cX9_meanCredibility 21 = .ok (.aload_n 0, 1) := by decide +kernel
theorem dX9_meanCredibility_22 : decode cX9_meanCredibility 22 = .ok (.getfield 10, 3) := by decide +kernel
theorem dX9_meanCredibility_25 : decode cX9_meanCredibility 25 = .ok (.invokevirtual 272, 3) := by decide +kernel
theorem dX9_meanCredibility_28 : decode cX9_meanCredibility 28 = .ok (.i2d, 1) := by decide +kernel
theorem dX9_meanCredibility_29 : decode cX9_meanCredibility 29 = .ok (.aload_n 0, 1) := by decide +kernel
theorem dX9_meanCredibility_30 : decode cX9_meanCredibility 30 = .ok (.getfield 10, 3) := by decide +kernel
theorem dX9_meanCredibility_33 : decode cX9_meanCredibility 33 = .ok (.getfield 160, 3) := by decide +kernel
theorem dX9_meanCredibility_36 : decode cX9_meanCredibility 36 = .ok (.i2d, 1) := by decide +kernel
theorem dX9_meanCredibility_37 : decode cX9_meanCredibility 37 = .ok (.ddiv, 1) := by decide +kernel
theorem dX9_meanCredibility_38 : decode cX9_meanCredibility 38 = .ok (.dreturn, 1) := by decide +kernel
theorem dX9_guiltyShare_0 : decode cX9_guiltyShare 0 = .ok (.aload_n 0, 1) := by decide +kernel
theorem dX9_guiltyShare_1 : decode cX9_guiltyShare 1 = .ok (.getfield 10, 3) := by decide +kernel
theorem dX9_guiltyShare_4 : decode cX9_guiltyShare 4 = .ok (.iconst 1, 1) := by decide +kernel
theorem dX9_guiltyShare_5 : decode cX9_guiltyShare 5 = .ok (.invokevirtual 241, 3) := by decide +kernel
theorem dX9_guiltyShare_8 : decode cX9_guiltyShare 8 = .ok (.aload_n 0, 1) := by decide +kernel
theorem dX9_guiltyShare_9 : decode cX9_guiltyShare 9 = .ok (.getfield 10, 3) := by decide +kernel
theorem dX9_guiltyShare_12 : decode cX9_guiltyShare 12 = .ok (.iconst 2, 1) := by decide +kernel
theorem dX9_guiltyShare_13 : decode cX9_guiltyShare 13 = .ok (.invokevirtual 241, 3) := by decide +kernel
theorem dX9_guiltyShare_16 : decode cX9_guiltyShare 16 = .ok (.iadd, 1) := by decide +kernel
theorem dX9_guiltyShare_17 : decode cX9_guiltyShare 17 = .ok (.istore_n 1, 1) := by decide +kernel
theorem dX9_guiltyShare_18 : decode cX9_guiltyShare 18 = .ok (.iload_n 1, 1) := by decide +kernel
theorem dX9_guiltyShare_19 : decode cX9_guiltyShare 19 = .ok (.ifCond .ne 14, 3) := by decide +kernel
theorem dX9_guiltyShare_22 : decode cX9_guiltyShare 22 = .ok (.new 267, 3) := by decide +kernel
theorem dX9_guiltyShare_25 : decode cX9_guiltyShare 25 = .ok (.dup, 1) := by decide +kernel
theorem dX9_guiltyShare_26 : decode cX9_guiltyShare 26 = .ok (.ldc_w 275, 3) := by decide +kernel
theorem dX9_guiltyShare_29 : decode cX9_guiltyShare 29 = .ok (.invokespecial 271, 3) := by decide +kernel
theorem dX9_guiltyShare_32 : decode cX9_guiltyShare 32 = .ok (.athrow, 1) := by decide +kernel
theorem dX9_guiltyShare_33 : decode cX9_guiltyShare 33 = .ok (.aload_n 0, 1) := by decide +kernel
theorem dX9_guiltyShare_34 : decode cX9_guiltyShare 34 = .ok (.getfield 10, 3) := by decide +kernel
theorem dX9_guiltyShare_37 : decode cX9_guiltyShare 37 = .ok (.invokevirtual 257, 3) := by decide +kernel
theorem dX9_guiltyShare_40 : decode cX9_guiltyShare 40 = .ok (.i2f, 1) := by decide +kernel
theorem dX9_guiltyShare_41 : decode cX9_guiltyShare 41 = .ok (.iload_n 1, 1) := by decide +kernel
theorem dX9_guiltyShare_42 : decode cX9_guiltyShare 42 = .ok (.i2f, 1) := by decide +kernel
theorem dX9_guiltyShare_43 : decode cX9_guiltyShare 43 = .ok (.fdiv, 1) := by decide +kernel
theorem dX9_guiltyShare_44 : decode cX9_guiltyShare 44 = .ok (.freturn, 1) := by decide +kernel
theorem dX9_isConsistent_0 : decode cX9_isConsistent 0 = .ok (.aload_n 0, 1) := by decide +kernel
theorem dX9_isConsistent_1 : decode cX9_isConsistent 1 = .ok (.invokevirtual 277, 3) := by decide +kernel
theorem dX9_isConsistent_4 : decode cX9_isConsistent 4 = .ok (.ifCond .eq 28, 3) := by decide +kernel
theorem dX9_isConsistent_7 : decode cX9_isConsistent 7 = .ok (.aload_n 0, 1) := by decide +kernel
theorem dX9_isConsistent_8 : decode cX9_isConsistent 8 = .ok (.invokevirtual 281, 3) := by decide +kernel
theorem dX9_isConsistent_11 : decode cX9_isConsistent 11 = .ok (.ifCond .eq 21, 3) := by decide +kernel
theorem dX9_isConsistent_14 : decode cX9_isConsistent 14 = .ok (.aload_n 0, 1) := by decide +kernel
theorem dX9_isConsistent_15 : decode cX9_isConsistent 15 = .ok (.invokevirtual 284, 3) := by decide +kernel
theorem dX9_isConsistent_18 : decode cX9_isConsistent 18 = .ok (.ifCond .eq 14, 3) := by decide +kernel
theorem dX9_isConsistent_21 : decode cX9_isConsistent 21 = .ok (.aload_n 0, 1) := by decide +kernel
theorem dX9_isConsistent_22 : decode cX9_isConsistent 22 = .ok (.invokevirtual 287, 3) := by decide +kernel
theorem dX9_isConsistent_25 : decode cX9_isConsistent 25 = .ok (.ifCond .eq 7, 3) := by decide +kernel
theorem dX9_isConsistent_28 : decode cX9_isConsistent 28 = .ok (.iconst 1, 1) := by decide +kernel
theorem dX9_isConsistent_29 : decode cX9_isConsistent 29 = .ok (.goto 4, 3) := by decide +kernel
theorem dX9_isConsistent_32 : decode cX9_isConsistent 32 = .ok (.iconst 0, 1) := by decide +kernel
theorem dX9_isConsistent_33 : decode cX9_isConsistent 33 = .ok (.ireturn, 1) := by decide +kernel
theorem dX9_formatCase_0 : decode cX9_formatCase 0 = .ok (.aload_n 0, 1) := by decide +kernel
theorem dX9_formatCase_1 : decode cX9_formatCase 1 = .ok (.iload_n 1, 1) := by decide +kernel
theorem dX9_formatCase_2 : decode cX9_formatCase 2 = .ok (.invokevirtual 101, 3) := by decide +kernel
theorem dX9_formatCase_5 : decode cX9_formatCase 5 = .ok (.aload_n 0, 1) := by decide +kernel
theorem dX9_formatCase_6 : decode cX9_formatCase 6 = .ok (.getfield 53, 3) := by decide +kernel
theorem dX9_formatCase_9 : decode cX9_formatCase 9 = .ok (.iconst 0, 1) := by decide +kernel
theorem dX9_formatCase_10 : decode cX9_formatCase 10 = .ok (.invokevirtual 290, 3) := by decide +kernel
theorem dX9_formatCase_13 : decode cX9_formatCase 13 = .ok (.aload_n 0, 1) := by decide +kernel
theorem dX9_formatCase_14 : decode cX9_formatCase 14 = .ok (.iload_n 1, 1) := by decide +kernel
theorem dX9_formatCase_15 : decode cX9_formatCase 15 = .ok (.invokevirtual 293, 3) := by decide +kernel
theorem dX9_formatCase_18 : decode cX9_formatCase 18 = .ok (.iconst 0, 1) := by decide +kernel
theorem dX9_formatCase_19 : decode cX9_formatCase 19 = .ok (.istore_n 2, 1) := by decide +kernel
theorem dX9_formatCase_20 : decode cX9_formatCase 20 = .ok (.iload_n 2, 1) := by decide +kernel
theorem dX9_formatCase_21 : decode cX9_formatCase 21 = .ok (.aload_n 0, 1) := by decide +kernel
theorem dX9_formatCase_22 : decode cX9_formatCase 22 = .ok (.getfield 10, 3) := by decide +kernel
theorem dX9_formatCase_25 : decode cX9_formatCase 25 = .ok (.getfield 133, 3) := by decide +kernel
theorem dX9_formatCase_28 : decode cX9_formatCase 28 = .ok (.iload_n 1, 1) := by decide +kernel
theorem dX9_formatCase_29 : decode cX9_formatCase 29 = .ok (.invokevirtual 109, 3) := by decide +kernel
theorem dX9_formatCase_32 : decode cX9_formatCase 32 = .ok (.if_icmp .ge 23, 3) := by decide +kernel
theorem dX9_formatCase_35 : decode cX9_formatCase 35 = .ok (.aload_n 0, 1) := by decide +kernel
theorem dX9_formatCase_36 : decode cX9_formatCase 36 = .ok (.iload_n 1, 1) := by decide +kernel
theorem dX9_formatCase_37 : decode cX9_formatCase 37 = .ok (.aload_n 0, 1) := by decide +kernel
theorem dX9_formatCase_38 : decode cX9_formatCase 38 = .ok (.getfield 10, 3) := by decide +kernel
theorem dX9_formatCase_41 : decode cX9_formatCase 41 = .ok (.iload_n 1, 1) := by decide +kernel
theorem dX9_formatCase_42 : decode cX9_formatCase 42 = .ok (.iload_n 2, 1) := by decide +kernel
theorem dX9_formatCase_43 : decode cX9_formatCase 43 = .ok (.invokevirtual 138, 3) := by decide +kernel
theorem dX9_formatCase_46 : decode cX9_formatCase 46 = .ok (.invokevirtual 296, 3) := by decide +kernel
theorem dX9_formatCase_49 : decode cX9_formatCase 49 = .ok (.iinc 2 1, 3) := by decide +kernel
theorem dX9_formatCase_52 : decode cX9_formatCase 52 = .ok (.goto (-32), 3) := by decide +kernel
theorem dX9_formatCase_55 : decode cX9_formatCase 55 = .ok (.aload_n 0, 1) := by decide +kernel
theorem dX9_formatCase_56 : decode cX9_formatCase 56 = .ok (.getfield 53, 3) := by decide +kernel
theorem dX9_formatCase_59 : decode cX9_formatCase 59 = .ok (.invokevirtual 299, 3) := by decide +kernel
theorem dX9_formatCase_62 : decode cX9_formatCase 62 = .ok (.ireturn, 1) := by decide +kernel
theorem dX9_formatWitness_0 : decode cX9_formatWitness 0 = .ok (.aload_n 0, 1) := by decide +kernel
theorem dX9_formatWitness_1 : decode cX9_formatWitness 1 = .ok (.iload_n 1, 1) := by decide +kernel
theorem dX9_formatWitness_2 : decode cX9_formatWitness 2 = .ok (.invokevirtual 141, 3) := by decide +kernel
theorem dX9_formatWitness_5 : decode cX9_formatWitness 5 = .ok (.aload_n 0, 1) := by decide +kernel
theorem dX9_formatWitness_6 : decode cX9_formatWitness 6 = .ok (.getfield 53, 3) := by decide +kernel
theorem dX9_formatWitness_9 : decode cX9_formatWitness 9 = .ok (.iconst 0, 1) := by decide +kernel
theorem dX9_formatWitness_10 : decode cX9_formatWitness 10 = .ok (.invokevirtual 290, 3) := by decide +kernel
theorem dX9_formatWitness_13 : decode cX9_formatWitness 13 = .ok (.aload_n 0, 1) := by decide +kernel
theorem dX9_formatWitness_14 : decode cX9_formatWitness 14 = .ok (.getfield 53, 3) := by decide +kernel
theorem dX9_formatWitness_17 : decode cX9_formatWitness 17 = .ok (.bipush 119, 2) := by decide +kernel
theorem dX9_formatWitness_19 : decode cX9_formatWitness 19 = .ok (.invokevirtual 301, 3) := by decide +kernel
theorem dX9_formatWitness_22 : decode cX9_formatWitness 22 = .ok (.pop, 1) := by decide +kernel
theorem dX9_formatWitness_23 : decode cX9_formatWitness 23 = .ok (.aload_n 0, 1) := by decide +kernel
theorem dX9_formatWitness_24 : decode cX9_formatWitness 24 = .ok (.getfield 53, 3) := by decide +kernel
theorem dX9_formatWitness_27 : decode cX9_formatWitness 27 = .ok (.iload_n 1, 1) := by decide +kernel
theorem dX9_formatWitness_28 : decode cX9_formatWitness 28 = .ok (.invokevirtual 305, 3) := by decide +kernel
theorem dX9_formatWitness_31 : decode cX9_formatWitness 31 = .ok (.pop, 1) := by decide +kernel
theorem dX9_formatWitness_32 : decode cX9_formatWitness 32 = .ok (.aload_n 0, 1) := by decide +kernel
theorem dX9_formatWitness_33 : decode cX9_formatWitness 33 = .ok (.getfield 53, 3) := by decide +kernel
theorem dX9_formatWitness_36 : decode cX9_formatWitness 36 = .ok (.bipush 61, 2) := by decide +kernel
theorem dX9_formatWitness_38 : decode cX9_formatWitness 38 = .ok (.invokevirtual 301, 3) := by decide +kernel
theorem dX9_formatWitness_41 : decode cX9_formatWitness 41 = .ok (.pop, 1) := by decide +kernel
theorem dX9_formatWitness_42 : decode cX9_formatWitness 42 = .ok (.aload_n 0, 1) := by decide +kernel
theorem dX9_formatWitness_43 : decode cX9_formatWitness 43 = .ok (.getfield 53, 3) := by decide +kernel
theorem dX9_formatWitness_46 : decode cX9_formatWitness 46 = .ok (.aload_n 0, 1) := by decide +kernel
theorem dX9_formatWitness_47 : decode cX9_formatWitness 47 = .ok (.getfield 10, 3) := by decide +kernel
theorem dX9_formatWitness_50 : decode cX9_formatWitness 50 = .ok (.getfield 163, 3) := by decide +kernel
theorem dX9_formatWitness_53 : decode cX9_formatWitness 53 = .ok (.iload_n 1, 1) := by decide +kernel
theorem dX9_formatWitness_54 : decode cX9_formatWitness 54 = .ok (.invokevirtual 109, 3) := by decide +kernel
theorem dX9_formatWitness_57 : decode cX9_formatWitness 57 = .ok (.invokevirtual 305, 3) := by decide +kernel
theorem dX9_formatWitness_60 : decode cX9_formatWitness 60 = .ok (.pop, 1) := by decide +kernel
theorem dX9_formatWitness_61 : decode cX9_formatWitness 61 = .ok (.aload_n 0, 1) := by decide +kernel
theorem dX9_formatWitness_62 : decode cX9_formatWitness 62 = .ok (.getfield 53, 3) := by decide +kernel
theorem dX9_formatWitness_65 : decode cX9_formatWitness 65 = .ok (.invokevirtual 299, 3) := by decide +kernel
theorem dX9_formatWitness_68 : decode cX9_formatWitness 68 = .ok (.ireturn, 1) := by decide +kernel
theorem dX9_lineChar_0 : decode cX9_lineChar 0 = .ok (.iload_n 1, 1) := by decide +kernel
theorem dX9_lineChar_1 : decode cX9_lineChar 1 = .ok (.ifCond .lt 14, 3) := by decide +kernel
theorem dX9_lineChar_4 : decode cX9_lineChar 4 = .ok (.iload_n 1, 1) := by decide +kernel
theorem dX9_lineChar_5 : decode cX9_lineChar 5 = .ok (.aload_n 0, 1) := by decide +kernel
theorem dX9_lineChar_6 : decode cX9_lineChar 6 = .ok (.getfield 53, 3) := by decide +kernel
theorem dX9_lineChar_9 : decode cX9_lineChar 9 = .ok (.invokevirtual 299, 3) := by decide +kernel
theorem dX9_lineChar_12 : decode cX9_lineChar 12 = .ok (.if_icmp .lt 14, 3) := by decide +kernel
theorem dX9_lineChar_15 : decode cX9_lineChar 15 = .ok (.new 308, 3) := by decide +kernel
theorem dX9_lineChar_18 : decode cX9_lineChar 18 = .ok (.dup, 1) := by decide +kernel
theorem dX9_lineChar_19 : decode cX9_lineChar 19 = .ok (.ldc_w 310, 3) := by decide +kernel
theorem dX9_lineChar_22 : decode cX9_lineChar 22 = .ok (.invokespecial 312, 3) := by decide +kernel
theorem dX9_lineChar_25 : decode cX9_lineChar 25 = .ok (.athrow, 1) := by decide +kernel
theorem dX9_lineChar_26 : decode cX9_lineChar 26 = .ok (.aload_n 0, 1) := by decide +kernel
theorem dX9_lineChar_27 : decode cX9_lineChar 27 = .ok (.getfield 53, 3) := by decide +kernel
theorem dX9_lineChar_30 : decode cX9_lineChar 30 = .ok (.iload_n 1, 1) := by decide +kernel
theorem dX9_lineChar_31 : decode cX9_lineChar 31 = .ok (.invokevirtual 313, 3) := by decide +kernel
theorem dX9_lineChar_34 : decode cX9_lineChar 34 = .ok (.ireturn, 1) := by decide +kernel
theorem dX9_change_0 : decode cX9_change 0 = .ok (.aload_n 0, 1) := by decide +kernel
theorem dX9_change_1 : decode cX9_change 1 = .ok (.getfield 10, 3) := by decide +kernel
theorem dX9_change_4 : decode cX9_change 4 = .ok (.iload_n 1, 1) := by decide +kernel
theorem dX9_change_5 : decode cX9_change 5 = .ok (.iload_n 2, 1) := by decide +kernel
theorem dX9_change_6 : decode cX9_change 6 = .ok (.iload_n 3, 1) := by decide +kernel
theorem dX9_change_7 : decode cX9_change 7 = .ok (.iload 5, 2) := by decide +kernel
theorem dX9_change_9 : decode cX9_change 9 = .ok (.invokevirtual 362, 3) := by decide +kernel
theorem dX9_change_12 : decode cX9_change 12 = .ok (.invokestatic 366, 3) := by decide +kernel
theorem dX9_change_15 : decode cX9_change 15 = .ok (.aload_n 0, 1) := by decide +kernel
theorem dX9_change_16 : decode cX9_change 16 = .ok (.getfield 25, 3) := by decide +kernel
theorem dX9_change_19 : decode cX9_change 19 = .ok (.aload_n 0, 1) := by decide +kernel
theorem dX9_change_20 : decode cX9_change 20 = .ok (.getfield 10, 3) := by decide +kernel
theorem dX9_change_23 : decode cX9_change 23 = .ok (.invokevirtual 370, 3) := by decide +kernel
theorem dX9_change_26 : decode cX9_change 26 = .ok (.aload_n 0, 1) := by decide +kernel
theorem dX9_change_27 : decode cX9_change 27 = .ok (.getfield 10, 3) := by decide +kernel
theorem dX9_change_30 : decode cX9_change 30 = .ok (.iload_n 1, 1) := by decide +kernel
theorem dX9_change_31 : decode cX9_change 31 = .ok (.iload_n 2, 1) := by decide +kernel
theorem dX9_change_32 : decode cX9_change 32 = .ok (.iload_n 3, 1) := by decide +kernel
theorem dX9_change_33 : decode cX9_change 33 = .ok (.iload 4, 2) := by decide +kernel
theorem dX9_change_35 : decode cX9_change 35 = .ok (.iload 5, 2) := by decide +kernel
theorem dX9_change_37 : decode cX9_change 37 = .ok (.invokevirtual 373, 3) := by decide +kernel
theorem dX9_change_40 : decode cX9_change 40 = .ok (.ireturn, 1) := by decide +kernel
theorem dX9_refuse_0 : decode cX9_refuse 0 = .ok (.aload_n 0, 1) := by decide +kernel
theorem dX9_refuse_1 : decode cX9_refuse 1 = .ok (.getstatic 376, 3) := by decide +kernel
theorem dX9_refuse_4 : decode cX9_refuse 4 = .ok (.if_acmp .ne 14, 3) := by decide +kernel
theorem dX9_refuse_7 : decode cX9_refuse 7 = .ok (.new 308, 3) := by decide +kernel
theorem dX9_refuse_10 : decode cX9_refuse 10 = .ok (.dup, 1) := by decide +kernel
theorem dX9_refuse_11 : decode cX9_refuse 11 = .ok (.ldc_w 382, 3) := by decide +kernel
theorem dX9_refuse_14 : decode cX9_refuse 14 = .ok (.invokespecial 312, 3) := by decide +kernel
theorem dX9_refuse_17 : decode cX9_refuse 17 = .ok (.athrow, 1) := by decide +kernel
theorem dX9_refuse_18 : decode cX9_refuse 18 = .ok (.aload_n 0, 1) := by decide +kernel
theorem dX9_refuse_19 : decode cX9_refuse 19 = .ok (.getstatic 384, 3) := by decide +kernel
theorem dX9_refuse_22 : decode cX9_refuse 22 = .ok (.if_acmp .ne 14, 3) := by decide +kernel
theorem dX9_refuse_25 : decode cX9_refuse 25 = .ok (.new 85, 3) := by decide +kernel
theorem dX9_refuse_28 : decode cX9_refuse 28 = .ok (.dup, 1) := by decide +kernel
theorem dX9_refuse_29 : decode cX9_refuse 29 = .ok (.ldc_w 387, 3) := by decide +kernel
theorem dX9_refuse_32 : decode cX9_refuse 32 = .ok (.invokespecial 89, 3) := by decide +kernel
theorem dX9_refuse_35 : decode cX9_refuse 35 = .ok (.athrow, 1) := by decide +kernel
theorem dX9_refuse_36 : decode cX9_refuse 36 = .ok (.aload_n 0, 1) := by decide +kernel
theorem dX9_refuse_37 : decode cX9_refuse 37 = .ok (.getstatic 389, 3) := by decide +kernel
theorem dX9_refuse_40 : decode cX9_refuse 40 = .ok (.if_acmp .ne 14, 3) := by decide +kernel
theorem dX9_refuse_43 : decode cX9_refuse 43 = .ok (.new 96, 3) := by decide +kernel
theorem dX9_refuse_46 : decode cX9_refuse 46 = .ok (.dup, 1) := by decide +kernel
theorem dX9_refuse_47 : decode cX9_refuse 47 = .ok (.ldc_w 392, 3) := by decide +kernel
theorem dX9_refuse_50 : decode cX9_refuse 50 = .ok (.invokespecial 100, 3) := by decide +kernel
theorem dX9_refuse_53 : decode cX9_refuse 53 = .ok (.athrow, 1) := by decide +kernel
theorem dX9_refuse_54 : decode cX9_refuse 54 = .ok (.aload_n 0, 1) := by decide +kernel
theorem dX9_refuse_55 : decode cX9_refuse 55 = .ok (.getstatic 394, 3) := by decide +kernel
theorem dX9_refuse_58 : decode cX9_refuse 58 = .ok (.if_acmp .ne 14, 3) := by decide +kernel
theorem dX9_refuse_61 : decode cX9_refuse 61 = .ok (.new 122, 3) := by decide +kernel
theorem dX9_refuse_64 : decode cX9_refuse 64 = .ok (.dup, 1) := by decide +kernel
theorem dX9_refuse_65 : decode cX9_refuse 65 = .ok (.ldc_w 397, 3) := by decide +kernel
theorem dX9_refuse_68 : decode cX9_refuse 68 = .ok (.invokespecial 126, 3) := by decide +kernel
theorem dX9_refuse_71 : decode cX9_refuse 71 = .ok (.athrow, 1) := by decide +kernel
theorem dX9_refuse_72 : decode cX9_refuse 72 = .ok (.return_, 1) := by decide +kernel
theorem dX9_needCase_0 : decode cX9_needCase 0 = .ok (.aload_n 0, 1) := by decide +kernel
theorem dX9_needCase_1 : decode cX9_needCase 1 = .ok (.getfield 10, 3) := by decide +kernel
theorem dX9_needCase_4 : decode cX9_needCase 4 = .ok (.iload_n 1, 1) := by decide +kernel
theorem dX9_needCase_5 : decode cX9_needCase 5 = .ok (.invokevirtual 417, 3) := by decide +kernel
theorem dX9_needCase_8 : decode cX9_needCase 8 = .ok (.ifCond .ne 14, 3) := by decide +kernel
theorem dX9_needCase_11 : decode cX9_needCase 11 = .ok (.new 308, 3) := by decide +kernel
theorem dX9_needCase_14 : decode cX9_needCase 14 = .ok (.dup, 1) := by decide +kernel
theorem dX9_needCase_15 : decode cX9_needCase 15 = .ok (.ldc_w 420, 3) := by decide +kernel
theorem dX9_needCase_18 : decode cX9_needCase 18 = .ok (.invokespecial 312, 3) := by decide +kernel
theorem dX9_needCase_21 : decode cX9_needCase 21 = .ok (.athrow, 1) := by decide +kernel
theorem dX9_needCase_22 : decode cX9_needCase 22 = .ok (.return_, 1) := by decide +kernel
theorem dX9_needWitness_0 : decode cX9_needWitness 0 = .ok (.aload_n 0, 1) := by decide +kernel
theorem dX9_needWitness_1 : decode cX9_needWitness 1 = .ok (.getfield 10, 3) := by decide +kernel
theorem dX9_needWitness_4 : decode cX9_needWitness 4 = .ok (.iload_n 1, 1) := by decide +kernel
theorem dX9_needWitness_5 : decode cX9_needWitness 5 = .ok (.invokevirtual 422, 3) := by decide +kernel
theorem dX9_needWitness_8 : decode cX9_needWitness 8 = .ok (.ifCond .ne 14, 3) := by decide +kernel
theorem dX9_needWitness_11 : decode cX9_needWitness 11 = .ok (.new 308, 3) := by decide +kernel
theorem dX9_needWitness_14 : decode cX9_needWitness 14 = .ok (.dup, 1) := by decide +kernel
theorem dX9_needWitness_15 : decode cX9_needWitness 15 = .ok (.ldc_w 425, 3) := by decide +kernel
theorem dX9_needWitness_18 : decode cX9_needWitness 18 = .ok (.invokespecial 312, 3) := by decide +kernel
theorem dX9_needWitness_21 : decode cX9_needWitness 21 = .ok (.athrow, 1) := by decide +kernel
theorem dX9_needWitness_22 : decode cX9_needWitness 22 = .ok (.return_, 1) := by decide +kernel
theorem dX9_needTestimony_0 : decode cX9_needTestimony 0 = .ok (.aload_n 0, 1) := by decide +kernel
theorem dX9_needTestimony_1 : decode cX9_needTestimony 1 = .ok (.iload_n 1, 1) := by decide +kernel
theorem dX9_needTestimony_2 : decode cX9_needTestimony 2 = .ok (.invokevirtual 101, 3) := by decide +kernel
theorem dX9_needTestimony_5 : decode cX9_needTestimony 5 = .ok (.aload_n 0, 1) := by decide +kernel
theorem dX9_needTestimony_6 : decode cX9_needTestimony 6 = .ok (.iload_n 2, 1) := by decide +kernel
theorem dX9_needTestimony_7 : decode cX9_needTestimony 7 = .ok (.invokevirtual 141, 3) := by decide +kernel
theorem dX9_needTestimony_10 : decode cX9_needTestimony 10 = .ok (.aload_n 0, 1) := by decide +kernel
theorem dX9_needTestimony_11 : decode cX9_needTestimony 11 = .ok (.getfield 10, 3) := by decide +kernel
theorem dX9_needTestimony_14 : decode cX9_needTestimony 14 = .ok (.iload_n 1, 1) := by decide +kernel
theorem dX9_needTestimony_15 : decode cX9_needTestimony 15 = .ok (.iload_n 2, 1) := by decide +kernel
theorem dX9_needTestimony_16 : decode cX9_needTestimony 16 = .ok (.invokevirtual 144, 3) := by decide +kernel
theorem dX9_needTestimony_19 : decode cX9_needTestimony 19 = .ok (.ifCond .ne 14, 3) := by decide +kernel
theorem dX9_needTestimony_22 : decode cX9_needTestimony 22 = .ok (.new 96, 3) := by decide +kernel
theorem dX9_needTestimony_25 : decode cX9_needTestimony 25 = .ok (.dup, 1) := by decide +kernel
theorem dX9_needTestimony_26 : decode cX9_needTestimony 26 = .ok (.ldc_w 392, 3) := by decide +kernel
theorem dX9_needTestimony_29 : decode cX9_needTestimony 29 = .ok (.invokespecial 100, 3) := by decide +kernel
theorem dX9_needTestimony_32 : decode cX9_needTestimony 32 = .ok (.athrow, 1) := by decide +kernel
theorem dX9_needTestimony_33 : decode cX9_needTestimony 33 = .ok (.return_, 1) := by decide +kernel
theorem dX9_needDefendant_0 : decode cX9_needDefendant 0 = .ok (.iload_n 0, 1) := by decide +kernel
theorem dX9_needDefendant_1 : decode cX9_needDefendant 1 = .ok (.invokestatic 78, 3) := by decide +kernel
theorem dX9_needDefendant_4 : decode cX9_needDefendant 4 = .ok (.ifCond .ne 14, 3) := by decide +kernel
theorem dX9_needDefendant_7 : decode cX9_needDefendant 7 = .ok (.new 85, 3) := by decide +kernel
theorem dX9_needDefendant_10 : decode cX9_needDefendant 10 = .ok (.dup, 1) := by decide +kernel
theorem dX9_needDefendant_11 : decode cX9_needDefendant 11 = .ok (.ldc_w 429, 3) := by decide +kernel
theorem dX9_needDefendant_14 : decode cX9_needDefendant 14 = .ok (.invokespecial 89, 3) := by decide +kernel
theorem dX9_needDefendant_17 : decode cX9_needDefendant 17 = .ok (.athrow, 1) := by decide +kernel
theorem dX9_needDefendant_18 : decode cX9_needDefendant 18 = .ok (.return_, 1) := by decide +kernel
theorem dX9_isDefendant_0 : decode cX9_isDefendant 0 = .ok (.iload_n 0, 1) := by decide +kernel
theorem dX9_isDefendant_1 : decode cX9_isDefendant 1 = .ok (.ifCond .lt 13, 3) := by decide +kernel
theorem dX9_isDefendant_4 : decode cX9_isDefendant 4 = .ok (.iload_n 0, 1) := by decide +kernel
theorem dX9_isDefendant_5 : decode cX9_isDefendant 5 = .ok (.bipush 6, 2) := by decide +kernel
theorem dX9_isDefendant_7 : decode cX9_isDefendant 7 = .ok (.if_icmp .ge 7, 3) := by decide +kernel
theorem dX9_isDefendant_10 : decode cX9_isDefendant 10 = .ok (.iconst 1, 1) := by decide +kernel
theorem dX9_isDefendant_11 : decode cX9_isDefendant 11 = .ok (.goto 4, 3) := by decide +kernel
theorem dX9_isDefendant_14 : decode cX9_isDefendant 14 = .ok (.iconst 0, 1) := by decide +kernel
theorem dX9_isDefendant_15 : decode cX9_isDefendant 15 = .ok (.ireturn, 1) := by decide +kernel
theorem dX9_isOffence_0 : decode cX9_isOffence 0 = .ok (.iload_n 0, 1) := by decide +kernel
theorem dX9_isOffence_1 : decode cX9_isOffence 1 = .ok (.ifCond .lt 12, 3) := by decide +kernel
theorem dX9_isOffence_4 : decode cX9_isOffence 4 = .ok (.iload_n 0, 1) := by decide +kernel
theorem dX9_isOffence_5 : decode cX9_isOffence 5 = .ok (.iconst 5, 1) := by decide +kernel
theorem dX9_isOffence_6 : decode cX9_isOffence 6 = .ok (.if_icmp .ge 7, 3) := by decide +kernel
theorem dX9_isOffence_9 : decode cX9_isOffence 9 = .ok (.iconst 1, 1) := by decide +kernel
theorem dX9_isOffence_10 : decode cX9_isOffence 10 = .ok (.goto 4, 3) := by decide +kernel
theorem dX9_isOffence_13 : decode cX9_isOffence 13 = .ok (.iconst 0, 1) := by decide +kernel
theorem dX9_isOffence_14 : decode cX9_isOffence 14 = .ok (.ireturn, 1) := by decide +kernel
theorem dX9_writeHead_0 : decode cX9_writeHead 0 = .ok (.aload_n 0, 1) := by decide +kernel
theorem dX9_writeHead_1 : decode cX9_writeHead 1 = .ok (.getfield 53, 3) := by decide +kernel
theorem dX9_writeHead_4 : decode cX9_writeHead 4 = .ok (.iload_n 1, 1) := by decide +kernel
theorem dX9_writeHead_5 : decode cX9_writeHead 5 = .ok (.invokevirtual 305, 3) := by decide +kernel
theorem dX9_writeHead_8 : decode cX9_writeHead 8 = .ok (.pop, 1) := by decide +kernel
theorem dX9_writeHead_9 : decode cX9_writeHead 9 = .ok (.aload_n 0, 1) := by decide +kernel
theorem dX9_writeHead_10 : decode cX9_writeHead 10 = .ok (.getfield 53, 3) := by decide +kernel
theorem dX9_writeHead_13 : decode cX9_writeHead 13 = .ok (.bipush 58, 2) := by decide +kernel
theorem dX9_writeHead_15 : decode cX9_writeHead 15 = .ok (.invokevirtual 301, 3) := by decide +kernel
theorem dX9_writeHead_18 : decode cX9_writeHead 18 = .ok (.pop, 1) := by decide +kernel
theorem dX9_writeHead_19 : decode cX9_writeHead 19 = .ok (.aload_n 0, 1) := by decide +kernel
theorem dX9_writeHead_20 : decode cX9_writeHead 20 = .ok (.getfield 53, 3) := by decide +kernel
theorem dX9_writeHead_23 : decode cX9_writeHead 23 = .ok (.aload_n 0, 1) := by decide +kernel
theorem dX9_writeHead_24 : decode cX9_writeHead 24 = .ok (.getfield 10, 3) := by decide +kernel
theorem dX9_writeHead_27 : decode cX9_writeHead 27 = .ok (.getfield 105, 3) := by decide +kernel
theorem dX9_writeHead_30 : decode cX9_writeHead 30 = .ok (.iload_n 1, 1) := by decide +kernel
theorem dX9_writeHead_31 : decode cX9_writeHead 31 = .ok (.invokevirtual 109, 3) := by decide +kernel
theorem dX9_writeHead_34 : decode cX9_writeHead 34 = .ok (.invokevirtual 305, 3) := by decide +kernel
theorem dX9_writeHead_37 : decode cX9_writeHead 37 = .ok (.pop, 1) := by decide +kernel
theorem dX9_writeHead_38 : decode cX9_writeHead 38 = .ok (.aload_n 0, 1) := by decide +kernel
theorem dX9_writeHead_39 : decode cX9_writeHead 39 = .ok (.getfield 53, 3) := by decide +kernel
theorem dX9_writeHead_42 : decode cX9_writeHead 42 = .ok (.bipush 47, 2) := by decide +kernel
theorem dX9_writeHead_44 : decode cX9_writeHead 44 = .ok (.invokevirtual 301, 3) := by decide +kernel
theorem dX9_writeHead_47 : decode cX9_writeHead 47 = .ok (.pop, 1) := by decide +kernel
theorem dX9_writeHead_48 : decode cX9_writeHead 48 = .ok (.aload_n 0, 1) := by decide +kernel
theorem dX9_writeHead_49 : decode cX9_writeHead 49 = .ok (.getfield 53, 3) := by decide +kernel
theorem dX9_writeHead_52 : decode cX9_writeHead 52 = .ok (.aload_n 0, 1) := by decide +kernel
theorem dX9_writeHead_53 : decode cX9_writeHead 53 = .ok (.getfield 10, 3) := by decide +kernel
theorem dX9_writeHead_56 : decode cX9_writeHead 56 = .ok (.getfield 115, 3) := by decide +kernel
theorem dX9_writeHead_59 : decode cX9_writeHead 59 = .ok (.iload_n 1, 1) := by decide +kernel
theorem dX9_writeHead_60 : decode cX9_writeHead 60 = .ok (.invokevirtual 109, 3) := by decide +kernel
theorem dX9_writeHead_63 : decode cX9_writeHead 63 = .ok (.invokevirtual 305, 3) := by decide +kernel
theorem dX9_writeHead_66 : decode cX9_writeHead 66 = .ok (.pop, 1) := by decide +kernel
theorem dX9_writeHead_67 : decode cX9_writeHead 67 = .ok (.aload_n 0, 1) := by decide +kernel
theorem dX9_writeHead_68 : decode cX9_writeHead 68 = .ok (.getfield 10, 3) := by decide +kernel
theorem dX9_writeHead_71 : decode cX9_writeHead 71 = .ok (.iconst 0, 1) := by decide +kernel
theorem dX9_writeHead_72 : decode cX9_writeHead 72 = .ok (.iload_n 1, 1) := by decide +kernel
theorem dX9_writeHead_73 : decode cX9_writeHead 73 = .ok (.invokevirtual 118, 3) := by decide +kernel
theorem dX9_writeHead_76 : decode cX9_writeHead 76 = .ok (.ifCond .eq 16, 3) := by decide +kernel
theorem dX9_writeHead_79 : decode cX9_writeHead 79 = .ok (.aload_n 0, 1) := by decide +kernel
theorem dX9_writeHead_80 : decode cX9_writeHead 80 = .ok (.getfield 53, 3) := by decide +kernel
theorem dX9_writeHead_83 : decode cX9_writeHead 83 = .ok (.bipush 111, 2) := by decide +kernel
theorem dX9_writeHead_85 : decode cX9_writeHead 85 = .ok (.invokevirtual 301, 3) := by decide +kernel
theorem dX9_writeHead_88 : decode cX9_writeHead 88 = .ok (.pop, 1) := by decide +kernel
theorem dX9_writeHead_89 : decode cX9_writeHead 89 = .ok (.goto 29, 3) := by decide +kernel
theorem dX9_writeHead_92 : decode cX9_writeHead 92 = .ok (.aload_n 0, 1) := by decide +kernel
theorem dX9_writeHead_93 : decode cX9_writeHead 93 = .ok (.getfield 53, 3) := by decide +kernel
theorem dX9_writeHead_96 : decode cX9_writeHead 96 = .ok (.aload_n 0, 1) := by decide +kernel
theorem dX9_writeHead_97 : decode cX9_writeHead 97 = .ok (.getfield 10, 3) := by decide +kernel
theorem dX9_writeHead_100 : decode cX9_writeHead 100 = .ok (.iload_n 1, 1) := by decide +kernel
theorem dX9_writeHead_101 : decode cX9_writeHead 101 = .ok (.invokevirtual 127, 3) := by decide +kernel
theorem dX9_writeHead_104 : decode cX9_writeHead 104 = .ok (.ifCond .eq 8, 3) := by decide +kernel
theorem dX9_writeHead_107 : decode cX9_writeHead 107 = .ok (.bipush 103, 2) := by decide +kernel
theorem dX9_writeHead_109 : decode cX9_writeHead 109 = .ok (.goto 5, 3) := by decide +kernel
theorem dX9_writeHead_112 : decode cX9_writeHead 112 = .ok (.bipush 110, 2) := by decide +kernel
theorem dX9_writeHead_114 : decode cX9_writeHead 114 = .ok (.invokevirtual 301, 3) := by decide +kernel
theorem dX9_writeHead_117 : decode cX9_writeHead 117 = .ok (.pop, 1) := by decide +kernel
theorem dX9_writeHead_118 : decode cX9_writeHead 118 = .ok (.aload_n 0, 1) := by decide +kernel
theorem dX9_writeHead_119 : decode cX9_writeHead 119 = .ok (.getfield 10, 3) := by decide +kernel
theorem dX9_writeHead_122 : decode cX9_writeHead 122 = .ok (.iconst 2, 1) := by decide +kernel
theorem dX9_writeHead_123 : decode cX9_writeHead 123 = .ok (.iload_n 1, 1) := by decide +kernel
theorem dX9_writeHead_124 : decode cX9_writeHead 124 = .ok (.invokevirtual 118, 3) := by decide +kernel
theorem dX9_writeHead_127 : decode cX9_writeHead 127 = .ok (.ifCond .eq 13, 3) := by decide +kernel
theorem dX9_writeHead_130 : decode cX9_writeHead 130 = .ok (.aload_n 0, 1) := by decide +kernel
theorem dX9_writeHead_131 : decode cX9_writeHead 131 = .ok (.getfield 53, 3) := by decide +kernel
theorem dX9_writeHead_134 : decode cX9_writeHead 134 = .ok (.bipush 46, 2) := by decide +kernel
theorem dX9_writeHead_136 : decode cX9_writeHead 136 = .ok (.invokevirtual 301, 3) := by decide +kernel
theorem dX9_writeHead_139 : decode cX9_writeHead 139 = .ok (.pop, 1) := by decide +kernel
theorem dX9_writeHead_140 : decode cX9_writeHead 140 = .ok (.return_, 1) := by decide +kernel
theorem dX9_writeTestimony_0 : decode cX9_writeTestimony 0 = .ok (.aload_n 0, 1) := by decide +kernel
theorem dX9_writeTestimony_1 : decode cX9_writeTestimony 1 = .ok (.getfield 53, 3) := by decide +kernel
theorem dX9_writeTestimony_4 : decode cX9_writeTestimony 4 = .ok (.bipush 32, 2) := by decide +kernel
theorem dX9_writeTestimony_6 : decode cX9_writeTestimony 6 = .ok (.invokevirtual 301, 3) := by decide +kernel
theorem dX9_writeTestimony_9 : decode cX9_writeTestimony 9 = .ok (.pop, 1) := by decide +kernel
theorem dX9_writeTestimony_10 : decode cX9_writeTestimony 10 = .ok (.aload_n 0, 1) := by decide +kernel
theorem dX9_writeTestimony_11 : decode cX9_writeTestimony 11 = .ok (.getfield 53, 3) := by decide +kernel
theorem dX9_writeTestimony_14 : decode cX9_writeTestimony 14 = .ok (.aload_n 0, 1) := by decide +kernel
theorem dX9_writeTestimony_15 : decode cX9_writeTestimony 15 = .ok (.getfield 10, 3) := by decide +kernel
theorem dX9_writeTestimony_18 : decode cX9_writeTestimony 18 = .ok (.iload_n 1, 1) := by decide +kernel
theorem dX9_writeTestimony_19 : decode cX9_writeTestimony 19 = .ok (.iload_n 2, 1) := by decide +kernel
theorem dX9_writeTestimony_20 : decode cX9_writeTestimony 20 = .ok (.invokevirtual 151, 3) := by decide +kernel
theorem dX9_writeTestimony_23 : decode cX9_writeTestimony 23 = .ok (.ifCond .le 8, 3) := by decide +kernel
theorem dX9_writeTestimony_26 : decode cX9_writeTestimony 26 = .ok (.bipush 43, 2) := by decide +kernel
theorem dX9_writeTestimony_28 : decode cX9_writeTestimony 28 = .ok (.goto 5, 3) := by decide +kernel
theorem dX9_writeTestimony_31 : decode cX9_writeTestimony 31 = .ok (.bipush 45, 2) := by decide +kernel
theorem dX9_writeTestimony_33 : decode cX9_writeTestimony 33 = .ok (.invokevirtual 301, 3) := by decide +kernel
theorem dX9_writeTestimony_36 : decode cX9_writeTestimony 36 = .ok (.pop, 1) := by decide +kernel
theorem dX9_writeTestimony_37 : decode cX9_writeTestimony 37 = .ok (.aload_n 0, 1) := by decide +kernel
theorem dX9_writeTestimony_38 : decode cX9_writeTestimony 38 = .ok (.getfield 53, 3) := by decide +kernel
theorem dX9_writeTestimony_41 : decode cX9_writeTestimony 41 = .ok (.iload_n 2, 1) := by decide +kernel
theorem dX9_writeTestimony_42 : decode cX9_writeTestimony 42 = .ok (.invokevirtual 305, 3) := by decide +kernel
theorem dX9_writeTestimony_45 : decode cX9_writeTestimony 45 = .ok (.pop, 1) := by decide +kernel
theorem dX9_writeTestimony_46 : decode cX9_writeTestimony 46 = .ok (.aload_n 0, 1) := by decide +kernel
theorem dX9_writeTestimony_47 : decode cX9_writeTestimony 47 = .ok (.getfield 53, 3) := by decide +kernel
theorem dX9_writeTestimony_50 : decode cX9_writeTestimony 50 = .ok (.bipush 42, 2) := by decide +kernel
theorem dX9_writeTestimony_52 : decode cX9_writeTestimony 52 = .ok (.invokevirtual 301, 3) := by decide +kernel
theorem dX9_writeTestimony_55 : decode cX9_writeTestimony 55 = .ok (.pop, 1) := by decide +kernel
theorem dX9_writeTestimony_56 : decode cX9_writeTestimony 56 = .ok (.aload_n 0, 1) := by decide +kernel
theorem dX9_writeTestimony_57 : decode cX9_writeTestimony 57 = .ok (.getfield 53, 3) := by decide +kernel
theorem dX9_writeTestimony_60 : decode cX9_writeTestimony 60 = .ok (.aload_n 0, 1) := by decide +kernel
theorem dX9_writeTestimony_61 : decode cX9_writeTestimony 61 = .ok (.getfield 10, 3) := by decide +kernel
theorem dX9_writeTestimony_64 : decode cX9_writeTestimony 64 = .ok (.iload_n 1, 1) := by decide +kernel
theorem dX9_writeTestimony_65 : decode cX9_writeTestimony 65 = .ok (.iload_n 2, 1) := by decide +kernel
theorem dX9_writeTestimony_66 : decode cX9_writeTestimony 66 = .ok (.invokevirtual 154, 3) := by decide +kernel
theorem dX9_writeTestimony_69 : decode cX9_writeTestimony 69 = .ok (.invokevirtual 305, 3) := by decide +kernel
theorem dX9_writeTestimony_72 : decode cX9_writeTestimony 72 = .ok (.pop, 1) := by decide +kernel
theorem dX9_writeTestimony_73 : decode cX9_writeTestimony 73 = .ok (.return_, 1) := by decide +kernel
theorem dX9_doMarginsAgree_0 : decode cX9_doMarginsAgree 0 = .ok (.iconst 0, 1) := by decide +kernel
theorem dX9_doMarginsAgree_1 : decode cX9_doMarginsAgree 1 = .ok (.istore_n 1, 1) := by decide +kernel
theorem dX9_doMarginsAgree_2 : decode cX9_doMarginsAgree 2 = .ok (.iload_n 1, 1) := by decide +kernel
theorem dX9_doMarginsAgree_3 : decode cX9_doMarginsAgree 3 = .ok (.aload_n 0, 1) := by decide +kernel
theorem dX9_doMarginsAgree_4 : decode cX9_doMarginsAgree 4 = .ok (.getfield 10, 3) := by decide +kernel
theorem dX9_doMarginsAgree_7 : decode cX9_doMarginsAgree 7 = .ok (.getfield 75, 3) := by decide +kernel
theorem dX9_doMarginsAgree_10 : decode cX9_doMarginsAgree 10 = .ok (.if_icmp .ge 30, 3) := by decide +kernel
theorem dX9_doMarginsAgree_13 : decode cX9_doMarginsAgree 13 = .ok (.aload_n 0, 1) := by decide +kernel
theorem dX9_doMarginsAgree_14 : decode cX9_doMarginsAgree 14 = .ok (.getfield 10, 3) := by decide +kernel
theorem dX9_doMarginsAgree_17 : decode cX9_doMarginsAgree 17 = .ok (.iload_n 1, 1) := by decide +kernel
theorem dX9_doMarginsAgree_18 : decode cX9_doMarginsAgree 18 = .ok (.invokestatic 221, 3) := by decide +kernel
theorem dX9_doMarginsAgree_21 : decode cX9_doMarginsAgree 21 = .ok (.aload_n 0, 1) := by decide +kernel
theorem dX9_doMarginsAgree_22 : decode cX9_doMarginsAgree 22 = .ok (.getfield 10, 3) := by decide +kernel
theorem dX9_doMarginsAgree_25 : decode cX9_doMarginsAgree 25 = .ok (.iload_n 1, 1) := by decide +kernel
theorem dX9_doMarginsAgree_26 : decode cX9_doMarginsAgree 26 = .ok (.invokestatic 224, 3) := by decide +kernel
theorem dX9_doMarginsAgree_29 : decode cX9_doMarginsAgree 29 = .ok (.if_icmp .eq 5, 3) := by decide +kernel
theorem dX9_doMarginsAgree_32 : decode cX9_doMarginsAgree 32 = .ok (.iconst 0, 1) := by decide +kernel
theorem dX9_doMarginsAgree_33 : decode cX9_doMarginsAgree 33 = .ok (.ireturn, 1) := by decide +kernel
theorem dX9_doMarginsAgree_34 : decode cX9_doMarginsAgree 34 = .ok (.iinc 1 1, 3) := by decide +kernel
theorem dX9_doMarginsAgree_37 : decode cX9_doMarginsAgree 37 = .ok (.goto (-35), 3) := by decide +kernel
theorem dX9_doMarginsAgree_40 : decode cX9_doMarginsAgree 40 = .ok (.iconst 1, 1) := by decide +kernel
theorem dX9_doMarginsAgree_41 : decode cX9_doMarginsAgree 41 = .ok (.ireturn, 1) := by decide +kernel
theorem dX9_doSentencesAgree_0 : decode cX9_doSentencesAgree 0 = .ok (.iconst 0, 1) := by decide +kernel
theorem dX9_doSentencesAgree_1 : decode cX9_doSentencesAgree 1 = .ok (.istore_n 1, 1) := by decide +kernel
theorem dX9_doSentencesAgree_2 : decode cX9_doSentencesAgree 2 = .ok (.iload_n 1, 1) := by decide +kernel
theorem dX9_doSentencesAgree_3 : decode cX9_doSentencesAgree 3 = .ok (.bipush 6, 2) := by decide +kernel
theorem dX9_doSentencesAgree_5 : decode cX9_doSentencesAgree 5 = .ok (.if_icmp .ge 33, 3) := by decide +kernel
theorem dX9_doSentencesAgree_8 : decode cX9_doSentencesAgree 8 = .ok (.aload_n 0, 1) := by decide +kernel
theorem dX9_doSentencesAgree_9 : decode cX9_doSentencesAgree 9 = .ok (.getfield 10, 3) := by decide +kernel
theorem dX9_doSentencesAgree_12 : decode cX9_doSentencesAgree 12 = .ok (.getfield 235, 3) := by decide +kernel
theorem dX9_doSentencesAgree_15 : decode cX9_doSentencesAgree 15 = .ok (.iload_n 1, 1) := by decide +kernel
theorem dX9_doSentencesAgree_16 : decode cX9_doSentencesAgree 16 = .ok (.invokevirtual 109, 3) := by decide +kernel
theorem dX9_doSentencesAgree_19 : decode cX9_doSentencesAgree 19 = .ok (.aload_n 0, 1) := by decide +kernel
theorem dX9_doSentencesAgree_20 : decode cX9_doSentencesAgree 20 = .ok (.getfield 10, 3) := by decide +kernel
theorem dX9_doSentencesAgree_23 : decode cX9_doSentencesAgree 23 = .ok (.iload_n 1, 1) := by decide +kernel
theorem dX9_doSentencesAgree_24 : decode cX9_doSentencesAgree 24 = .ok (.invokevirtual 238, 3) := by decide +kernel
theorem dX9_doSentencesAgree_27 : decode cX9_doSentencesAgree 27 = .ok (.if_icmp .eq 5, 3) := by decide +kernel
theorem dX9_doSentencesAgree_30 : decode cX9_doSentencesAgree 30 = .ok (.iconst 0, 1) := by decide +kernel
theorem dX9_doSentencesAgree_31 : decode cX9_doSentencesAgree 31 = .ok (.ireturn, 1) := by decide +kernel
theorem dX9_doSentencesAgree_32 : decode cX9_doSentencesAgree 32 = .ok (.iinc 1 1, 3) := by decide +kernel
theorem dX9_doSentencesAgree_35 : decode cX9_doSentencesAgree 35 = .ok (.goto (-33), 3) := by decide +kernel
theorem dX9_doSentencesAgree_38 : decode cX9_doSentencesAgree 38 = .ok (.iconst 1, 1) := by decide +kernel
theorem dX9_doSentencesAgree_39 : decode cX9_doSentencesAgree 39 = .ok (.ireturn, 1) := by decide +kernel
theorem dX9_doConnectionsAgree_0 : decode cX9_doConnectionsAgree 0 = .ok (.iconst 0, 1) := by decide +kernel
theorem dX9_doConnectionsAgree_1 : decode cX9_doConnectionsAgree 1 = .ok (.istore_n 1, 1) := by decide +kernel
theorem dX9_doConnectionsAgree_2 : decode cX9_doConnectionsAgree 2 = .ok (.iload_n 1, 1) := by decide +kernel
theorem dX9_doConnectionsAgree_3 : decode cX9_doConnectionsAgree 3 = .ok (.aload_n 0, 1) := by decide +kernel
theorem dX9_doConnectionsAgree_4 : decode cX9_doConnectionsAgree 4 = .ok (.getfield 10, 3) := by decide +kernel
theorem dX9_doConnectionsAgree_7 : decode cX9_doConnectionsAgree 7 = .ok (.getfield 160, 3) := by decide +kernel
theorem dX9_doConnectionsAgree_10 : decode cX9_doConnectionsAgree 10 = .ok (.if_icmp .ge 65, 3) := by decide +kernel
theorem dX9_doConnectionsAgree_13 : decode cX9_doConnectionsAgree 13 = .ok (.aload_n 0, 1) := by decide +kernel
theorem dX9_doConnectionsAgree_14 : decode cX9_doConnectionsAgree 14 = .ok (.getfield 39, 3) := by decide +kernel
theorem dX9_doConnectionsAgree_17 : decode cX9_doConnectionsAgree 17 = .ok (.iload_n 1, 1) := by decide +kernel
theorem dX9_doConnectionsAgree_18 : decode cX9_doConnectionsAgree 18 = .ok (.aload_n 0, 1) := by decide +kernel
theorem dX9_doConnectionsAgree_19 : decode cX9_doConnectionsAgree 19 = .ok (.getfield 10, 3) := by decide +kernel
theorem dX9_doConnectionsAgree_22 : decode cX9_doConnectionsAgree 22 = .ok (.invokevirtual 186, 3) := by decide +kernel
theorem dX9_doConnectionsAgree_25 : decode cX9_doConnectionsAgree 25 = .ok (.iconst 0, 1) := by decide +kernel
theorem dX9_doConnectionsAgree_26 : decode cX9_doConnectionsAgree 26 = .ok (.istore_n 2, 1) := by decide +kernel
theorem dX9_doConnectionsAgree_27 : decode cX9_doConnectionsAgree 27 = .ok (.iload_n 2, 1) := by decide +kernel
theorem dX9_doConnectionsAgree_28 : decode cX9_doConnectionsAgree 28 = .ok (.aload_n 0, 1) := by decide +kernel
theorem dX9_doConnectionsAgree_29 : decode cX9_doConnectionsAgree 29 = .ok (.getfield 10, 3) := by decide +kernel
theorem dX9_doConnectionsAgree_32 : decode cX9_doConnectionsAgree 32 = .ok (.getfield 160, 3) := by decide +kernel
theorem dX9_doConnectionsAgree_35 : decode cX9_doConnectionsAgree 35 = .ok (.if_icmp .ge 34, 3) := by decide +kernel
theorem dX9_doConnectionsAgree_38 : decode cX9_doConnectionsAgree 38 = .ok (.aload_n 0, 1) := by decide +kernel
theorem dX9_doConnectionsAgree_39 : decode cX9_doConnectionsAgree 39 = .ok (.getfield 10, 3) := by decide +kernel
theorem dX9_doConnectionsAgree_42 : decode cX9_doConnectionsAgree 42 = .ok (.getfield 177, 3) := by decide +kernel
theorem dX9_doConnectionsAgree_45 : decode cX9_doConnectionsAgree 45 = .ok (.iload_n 1, 1) := by decide +kernel
theorem dX9_doConnectionsAgree_46 : decode cX9_doConnectionsAgree 46 = .ok (.iload_n 2, 1) := by decide +kernel
theorem dX9_doConnectionsAgree_47 : decode cX9_doConnectionsAgree 47 = .ok (.invokevirtual 181, 3) := by decide +kernel
theorem dX9_doConnectionsAgree_50 : decode cX9_doConnectionsAgree 50 = .ok (.aload_n 0, 1) := by decide +kernel
theorem dX9_doConnectionsAgree_51 : decode cX9_doConnectionsAgree 51 = .ok (.getfield 39, 3) := by decide +kernel
theorem dX9_doConnectionsAgree_54 : decode cX9_doConnectionsAgree 54 = .ok (.iload_n 2, 1) := by decide +kernel
theorem dX9_doConnectionsAgree_55 : decode cX9_doConnectionsAgree 55 = .ok (.invokevirtual 190, 3) := by decide +kernel
theorem dX9_doConnectionsAgree_58 : decode cX9_doConnectionsAgree 58 = .ok (.if_icmp .eq 5, 3) := by decide +kernel
theorem dX9_doConnectionsAgree_61 : decode cX9_doConnectionsAgree 61 = .ok (.iconst 0, 1) := by decide +kernel
theorem dX9_doConnectionsAgree_62 : decode cX9_doConnectionsAgree 62 = .ok (.ireturn, 1) := by decide +kernel
theorem dX9_doConnectionsAgree_63 : decode cX9_doConnectionsAgree 63 = .ok (.iinc 2 1, 3) := by decide +kernel
theorem dX9_doConnectionsAgree_66 : decode cX9_doConnectionsAgree 66 = .ok (.goto (-39), 3) := by decide +kernel
theorem dX9_doConnectionsAgree_69 : decode cX9_doConnectionsAgree 69 = .ok (.iinc 1 1, 3) := by decide +kernel
theorem dX9_doConnectionsAgree_72 : decode cX9_doConnectionsAgree 72 = .ok (.goto (-70), 3) := by decide +kernel
theorem dX9_doConnectionsAgree_75 : decode cX9_doConnectionsAgree 75 = .ok (.iconst 1, 1) := by decide +kernel
theorem dX9_doConnectionsAgree_76 : decode cX9_doConnectionsAgree 76 = .ok (.ireturn, 1) := by decide +kernel
theorem dX9_doesDocketAgree_0 : decode cX9_doesDocketAgree 0 = .ok (.aload_n 0, 1) := by decide +kernel
theorem dX9_doesDocketAgree_1 : decode cX9_doesDocketAgree 1 = .ok (.getfield 32, 3) := by decide +kernel
theorem dX9_doesDocketAgree_4 : decode cX9_doesDocketAgree 4 = .ok (.aload_n 0, 1) := by decide +kernel
theorem dX9_doesDocketAgree_5 : decode cX9_doesDocketAgree 5 = .ok (.getfield 10, 3) := by decide +kernel
theorem dX9_doesDocketAgree_8 : decode cX9_doesDocketAgree 8 = .ok (.invokevirtual 207, 3) := by decide +kernel
theorem dX9_doesDocketAgree_11 : decode cX9_doesDocketAgree 11 = .ok (.iconst 0, 1) := by decide +kernel
theorem dX9_doesDocketAgree_12 : decode cX9_doesDocketAgree 12 = .ok (.istore_n 1, 1) := by decide +kernel
theorem dX9_doesDocketAgree_13 : decode cX9_doesDocketAgree 13 = .ok (.iload_n 1, 1) := by decide +kernel
theorem dX9_doesDocketAgree_14 : decode cX9_doesDocketAgree 14 = .ok (.aload_n 0, 1) := by decide +kernel
theorem dX9_doesDocketAgree_15 : decode cX9_doesDocketAgree 15 = .ok (.getfield 10, 3) := by decide +kernel
theorem dX9_doesDocketAgree_18 : decode cX9_doesDocketAgree 18 = .ok (.getfield 75, 3) := by decide +kernel
theorem dX9_doesDocketAgree_21 : decode cX9_doesDocketAgree 21 = .ok (.if_icmp .ge 42, 3) := by decide +kernel
theorem dX9_doesDocketAgree_24 : decode cX9_doesDocketAgree 24 = .ok (.aload_n 0, 1) := by decide +kernel
theorem dX9_doesDocketAgree_25 : decode cX9_doesDocketAgree 25 = .ok (.getfield 10, 3) := by decide +kernel
theorem dX9_doesDocketAgree_28 : decode cX9_doesDocketAgree 28 = .ok (.iconst 0, 1) := by decide +kernel
theorem dX9_doesDocketAgree_29 : decode cX9_doesDocketAgree 29 = .ok (.iload_n 1, 1) := by decide +kernel
theorem dX9_doesDocketAgree_30 : decode cX9_doesDocketAgree 30 = .ok (.invokevirtual 118, 3) := by decide +kernel
theorem dX9_doesDocketAgree_33 : decode cX9_doesDocketAgree 33 = .ok (.ifCond .eq 24, 3) := by decide +kernel
theorem dX9_doesDocketAgree_36 : decode cX9_doesDocketAgree 36 = .ok (.aload_n 0, 1) := by decide +kernel
theorem dX9_doesDocketAgree_37 : decode cX9_doesDocketAgree 37 = .ok (.getfield 32, 3) := by decide +kernel
theorem dX9_doesDocketAgree_40 : decode cX9_doesDocketAgree 40 = .ok (.aload_n 0, 1) := by decide +kernel
theorem dX9_doesDocketAgree_41 : decode cX9_doesDocketAgree 41 = .ok (.getfield 10, 3) := by decide +kernel
theorem dX9_doesDocketAgree_44 : decode cX9_doesDocketAgree 44 = .ok (.iload_n 1, 1) := by decide +kernel
theorem dX9_doesDocketAgree_45 : decode cX9_doesDocketAgree 45 = .ok (.invokevirtual 254, 3) := by decide +kernel
theorem dX9_doesDocketAgree_48 : decode cX9_doesDocketAgree 48 = .ok (.iload_n 1, 1) := by decide +kernel
theorem dX9_doesDocketAgree_49 : decode cX9_doesDocketAgree 49 = .ok (.invokevirtual 431, 3) := by decide +kernel
theorem dX9_doesDocketAgree_52 : decode cX9_doesDocketAgree 52 = .ok (.ifCond .ne 5, 3) := by decide +kernel
theorem dX9_doesDocketAgree_55 : decode cX9_doesDocketAgree 55 = .ok (.iconst 0, 1) := by decide +kernel
theorem dX9_doesDocketAgree_56 : decode cX9_doesDocketAgree 56 = .ok (.ireturn, 1) := by decide +kernel
theorem dX9_doesDocketAgree_57 : decode cX9_doesDocketAgree 57 = .ok (.iinc 1 1, 3) := by decide +kernel
theorem dX9_doesDocketAgree_60 : decode cX9_doesDocketAgree 60 = .ok (.goto (-47), 3) := by decide +kernel
theorem dX9_doesDocketAgree_63 : decode cX9_doesDocketAgree 63 = .ok (.iconst 1, 1) := by decide +kernel
theorem dX9_doesDocketAgree_64 : decode cX9_doesDocketAgree 64 = .ok (.ireturn, 1) := by decide +kernel
