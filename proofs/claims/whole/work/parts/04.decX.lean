theorem dX0_init_0 : decode cX0_init 0 = .ok (.aload_n 0, 1) := by decide +kernel
theorem dX0_init_1 : decode cX0_init 1 = .ok (.invokespecial 3, 3) := by decide +kernel
theorem dX0_init_4 : decode cX0_init 4 = .ok (.aload_n 0, 1) := by decide +kernel
theorem dX0_init_5 : decode cX0_init 5 = .ok (.iconst 0, 1) := by decide +kernel
theorem dX0_init_6 : decode cX0_init 6 = .ok (.putfield 9, 3) := by decide +kernel
theorem dX0_init_9 : decode cX0_init 9 = .ok (.aload_n 0, 1) := by decide +kernel
theorem dX0_init_10 : decode cX0_init 10 = .ok (.iconst 0, 1) := by decide +kernel
theorem dX0_init_11 : decode cX0_init 11 = .ok (.putfield 15, 3) := by decide +kernel
theorem dX0_init_14 : decode cX0_init 14 = .ok (.aload_n 0, 1) := by decide +kernel
theorem dX0_init_15 : decode cX0_init 15 = .ok (.iconst 0, 1) := by decide +kernel
theorem dX0_init_16 : decode cX0_init 16 = .ok (.putfield 18, 3) := by decide +kernel
theorem dX0_init_19 : decode cX0_init 19 = .ok (.aload_n 0, 1) := by decide +kernel
theorem dX0_init_20 : decode cX0_init 20 = .ok (.iconst 0, 1) := by decide +kernel
theorem dX0_init_21 : decode cX0_init 21 = .ok (.putfield 21, 3) := by decide +kernel
theorem dX0_init_24 : decode cX0_init 24 = .ok (.aload_n 0, 1) := by decide +kernel
theorem dX0_init_25 : decode cX0_init 25 = .ok (.new 24, 3) := by decide +kernel
theorem dX0_init_28 : decode cX0_init 28 = .ok (.dup, 1) := by decide +kernel
theorem dX0_init_29 : decode cX0_init 29 = .ok (.bipush 16, 2) := by decide +kernel
theorem dX0_init_31 : decode cX0_init 31 = .ok (.invokespecial 26, 3) := by decide +kernel
theorem dX0_init_34 : decode cX0_init 34 = .ok (.putfield 29, 3) := by decide +kernel
theorem dX0_init_37 : decode cX0_init 37 = .ok (.aload_n 0, 1) := by decide +kernel
theorem dX0_init_38 : decode cX0_init 38 = .ok (.new 24, 3) := by decide +kernel
theorem dX0_init_41 : decode cX0_init 41 = .ok (.dup, 1) := by decide +kernel
theorem dX0_init_42 : decode cX0_init 42 = .ok (.bipush 16, 2) := by decide +kernel
theorem dX0_init_44 : decode cX0_init 44 = .ok (.invokespecial 26, 3) := by decide +kernel
theorem dX0_init_47 : decode cX0_init 47 = .ok (.putfield 33, 3) := by decide +kernel
theorem dX0_init_50 : decode cX0_init 50 = .ok (.aload_n 0, 1) := by decide +kernel
theorem dX0_init_51 : decode cX0_init 51 = .ok (.new 24, 3) := by decide +kernel
theorem dX0_init_54 : decode cX0_init 54 = .ok (.dup, 1) := by decide +kernel
theorem dX0_init_55 : decode cX0_init 55 = .ok (.bipush 16, 2) := by decide +kernel
theorem dX0_init_57 : decode cX0_init 57 = .ok (.invokespecial 26, 3) := by decide +kernel
theorem dX0_init_60 : decode cX0_init 60 = .ok (.putfield 36, 3) := by decide +kernel
theorem dX0_init_63 : decode cX0_init 63 = .ok (.aload_n 0, 1) := by decide +kernel
theorem dX0_init_64 : decode cX0_init 64 = .ok (.new 24, 3) := by decide +kernel
theorem dX0_init_67 : decode cX0_init 67 = .ok (.dup, 1) := by decide +kernel
theorem dX0_init_68 : decode cX0_init 68 = .ok (.bipush 16, 2) := by decide +kernel
theorem dX0_init_70 : decode cX0_init 70 = .ok (.invokespecial 26, 3) := by decide +kernel
theorem dX0_init_73 : decode cX0_init 73 = .ok (.putfield 39, 3) := by decide +kernel
theorem dX0_init_76 : decode cX0_init 76 = .ok (.aload_n 0, 1) := by decide +kernel
theorem dX0_init_77 : decode cX0_init 77 = .ok (.new 24, 3) := by decide +kernel
theorem dX0_init_80 : decode cX0_init 80 = .ok (.dup, 1) := by decide +kernel
theorem dX0_init_81 : decode cX0_init 81 = .ok (.bipush 16, 2) := by decide +kernel
theorem dX0_init_83 : decode cX0_init 83 = .ok (.invokespecial 26, 3) := by decide +kernel
theorem dX0_init_86 : decode cX0_init 86 = .ok (.putfield 42, 3) := by decide +kernel
theorem dX0_init_89 : decode cX0_init 89 = .ok (.aload_n 0, 1) := by decide +kernel
theorem dX0_init_90 : decode cX0_init 90 = .ok (.new 24, 3) := by decide +kernel
theorem dX0_init_93 : decode cX0_init 93 = .ok (.dup, 1) := by decide +kernel
theorem dX0_init_94 : decode cX0_init 94 = .ok (.bipush 16, 2) := by decide +kernel
theorem dX0_init_96 : decode cX0_init 96 = .ok (.invokespecial 26, 3) := by decide +kernel
theorem dX0_init_99 : decode cX0_init 99 = .ok (.putfield 45, 3) := by decide +kernel
theorem dX0_init_102 : decode cX0_init 102 = .ok (.aload_n 0, 1) := by decide +kernel
theorem dX0_init_103 : decode cX0_init 103 = .ok (.new 24, 3) := by decide +kernel
theorem dX0_init_106 : decode cX0_init 106 = .ok (.dup, 1) := by decide +kernel
theorem dX0_init_107 : decode cX0_init 107 = .ok (.bipush 96, 2) := by decide +kernel
theorem dX0_init_109 : decode cX0_init 109 = .ok (.invokespecial 26, 3) := by decide +kernel
theorem dX0_init_112 : decode cX0_init 112 = .ok (.putfield 48, 3) := by decide +kernel
theorem dX0_init_115 : decode cX0_init 115 = .ok (.aload_n 0, 1) := by decide +kernel
theorem dX0_init_116 : decode cX0_init 116 = .ok (.new 24, 3) := by decide +kernel
theorem dX0_init_119 : decode cX0_init 119 = .ok (.dup, 1) := by decide +kernel
theorem dX0_init_120 : decode cX0_init 120 = .ok (.sipush 128, 3) := by decide +kernel
theorem dX0_init_123 : decode cX0_init 123 = .ok (.invokespecial 26, 3) := by decide +kernel
theorem dX0_init_126 : decode cX0_init 126 = .ok (.putfield 51, 3) := by decide +kernel
theorem dX0_init_129 : decode cX0_init 129 = .ok (.aload_n 0, 1) := by decide +kernel
theorem dX0_init_130 : decode cX0_init 130 = .ok (.new 24, 3) := by decide +kernel
theorem dX0_init_133 : decode cX0_init 133 = .ok (.dup, 1) := by decide +kernel
theorem dX0_init_134 : decode cX0_init 134 = .ok (.sipush 128, 3) := by decide +kernel
theorem dX0_init_137 : decode cX0_init 137 = .ok (.invokespecial 26, 3) := by decide +kernel
theorem dX0_init_140 : decode cX0_init 140 = .ok (.putfield 54, 3) := by decide +kernel
theorem dX0_init_143 : decode cX0_init 143 = .ok (.aload_n 0, 1) := by decide +kernel
theorem dX0_init_144 : decode cX0_init 144 = .ok (.new 24, 3) := by decide +kernel
theorem dX0_init_147 : decode cX0_init 147 = .ok (.dup, 1) := by decide +kernel
theorem dX0_init_148 : decode cX0_init 148 = .ok (.sipush 128, 3) := by decide +kernel
theorem dX0_init_151 : decode cX0_init 151 = .ok (.invokespecial 26, 3) := by decide +kernel
theorem dX0_init_154 : decode cX0_init 154 = .ok (.putfield 57, 3) := by decide +kernel
theorem dX0_init_157 : decode cX0_init 157 = .ok (.aload_n 0, 1) := by decide +kernel
theorem dX0_init_158 : decode cX0_init 158 = .ok (.new 24, 3) := by decide +kernel
theorem dX0_init_161 : decode cX0_init 161 = .ok (.dup, 1) := by decide +kernel
theorem dX0_init_162 : decode cX0_init 162 = .ok (.bipush 8, 2) := by decide +kernel
theorem dX0_init_164 : decode cX0_init 164 = .ok (.invokespecial 26, 3) := by decide +kernel
theorem dX0_init_167 : decode cX0_init 167 = .ok (.putfield 60, 3) := by decide +kernel
theorem dX0_init_170 : decode cX0_init 170 = .ok (.aload_n 0, 1) := by decide +kernel
theorem dX0_init_171 : decode cX0_init 171 = .ok (.new 24, 3) := by decide +kernel
theorem dX0_init_174 : decode cX0_init 174 = .ok (.dup, 1) := by decide +kernel
theorem dX0_init_175 : decode cX0_init 175 = .ok (.bipush 6, 2) := by decide +kernel
theorem dX0_init_177 : decode cX0_init 177 = .ok (.invokespecial 26, 3) := by decide +kernel
theorem dX0_init_180 : decode cX0_init 180 = .ok (.putfield 63, 3) := by decide +kernel
theorem dX0_init_183 : decode cX0_init 183 = .ok (.aload_n 0, 1) := by decide +kernel
theorem dX0_init_184 : decode cX0_init 184 = .ok (.new 66, 3) := by decide +kernel
theorem dX0_init_187 : decode cX0_init 187 = .ok (.dup, 1) := by decide +kernel
theorem dX0_init_188 : decode cX0_init 188 = .ok (.invokespecial 68, 3) := by decide +kernel
theorem dX0_init_191 : decode cX0_init 191 = .ok (.putfield 69, 3) := by decide +kernel
theorem dX0_init_194 : decode cX0_init 194 = .ok (.return_, 1) := by decide +kernel
theorem dX0_copyFrom_0 : decode cX0_copyFrom 0 = .ok (.aload_n 0, 1) := by decide +kernel
theorem dX0_copyFrom_1 : decode cX0_copyFrom 1 = .ok (.aload_n 1, 1) := by decide +kernel
theorem dX0_copyFrom_2 : decode cX0_copyFrom 2 = .ok (.getfield 9, 3) := by decide +kernel
theorem dX0_copyFrom_5 : decode cX0_copyFrom 5 = .ok (.putfield 9, 3) := by decide +kernel
theorem dX0_copyFrom_8 : decode cX0_copyFrom 8 = .ok (.aload_n 0, 1) := by decide +kernel
theorem dX0_copyFrom_9 : decode cX0_copyFrom 9 = .ok (.aload_n 1, 1) := by decide +kernel
theorem dX0_copyFrom_10 : decode cX0_copyFrom 10 = .ok (.getfield 15, 3) := by decide +kernel
theorem dX0_copyFrom_13 : decode cX0_copyFrom 13 = .ok (.putfield 15, 3) := by decide +kernel
theorem dX0_copyFrom_16 : decode cX0_copyFrom 16 = .ok (.aload_n 0, 1) := by decide +kernel
theorem dX0_copyFrom_17 : decode cX0_copyFrom 17 = .ok (.aload_n 1, 1) := by decide +kernel
theorem dX0_copyFrom_18 : decode cX0_copyFrom 18 = .ok (.getfield 18, 3) := by decide +kernel
theorem dX0_copyFrom_21 : decode cX0_copyFrom 21 = .ok (.putfield 18, 3) := by decide +kernel
theorem dX0_copyFrom_24 : decode cX0_copyFrom 24 = .ok (.aload_n 0, 1) := by decide +kernel
theorem dX0_copyFrom_25 : decode cX0_copyFrom 25 = .ok (.aload_n 1, 1) := by decide +kernel
theorem dX0_copyFrom_26 : decode cX0_copyFrom 26 = .ok (.getfield 21, 3) := by decide +kernel
theorem dX0_copyFrom_29 : decode cX0_copyFrom 29 = .ok (.putfield 21, 3) := by decide +kernel
theorem dX0_copyFrom_32 : decode cX0_copyFrom 32 = .ok (.aload_n 0, 1) := by decide +kernel
theorem dX0_copyFrom_33 : decode cX0_copyFrom 33 = .ok (.getfield 29, 3) := by decide +kernel
theorem dX0_copyFrom_36 : decode cX0_copyFrom 36 = .ok (.aload_n 1, 1) := by decide +kernel
theorem dX0_copyFrom_37 : decode cX0_copyFrom 37 = .ok (.getfield 29, 3) := by decide +kernel
theorem dX0_copyFrom_40 : decode cX0_copyFrom 40 = .ok (.invokevirtual 73, 3) := by decide +kernel
theorem dX0_copyFrom_43 : decode cX0_copyFrom 43 = .ok (.aload_n 0, 1) := by decide +kernel
theorem dX0_copyFrom_44 : decode cX0_copyFrom 44 = .ok (.getfield 33, 3) := by decide +kernel
theorem dX0_copyFrom_47 : decode cX0_copyFrom 47 = .ok (.aload_n 1, 1) := by decide +kernel
theorem dX0_copyFrom_48 : decode cX0_copyFrom 48 = .ok (.getfield 33, 3) := by decide +kernel
theorem dX0_copyFrom_51 : decode cX0_copyFrom 51 = .ok (.invokevirtual 73, 3) := by decide +kernel
theorem dX0_copyFrom_54 : decode cX0_copyFrom 54 = .ok (.aload_n 0, 1) := by decide +kernel
theorem dX0_copyFrom_55 : decode cX0_copyFrom 55 = .ok (.getfield 36, 3) := by decide +kernel
theorem dX0_copyFrom_58 : decode cX0_copyFrom 58 = .ok (.aload_n 1, 1) := by decide +kernel
theorem dX0_copyFrom_59 : decode cX0_copyFrom 59 = .ok (.getfield 36, 3) := by decide +kernel
theorem dX0_copyFrom_62 : decode cX0_copyFrom 62 = .ok (.invokevirtual 73, 3) := by decide +kernel
theorem dX0_copyFrom_65 : decode cX0_copyFrom 65 = .ok (.aload_n 0, 1) := by decide +kernel
theorem dX0_copyFrom_66 : decode cX0_copyFrom 66 = .ok (.getfield 39, 3) := by decide +kernel
theorem dX0_copyFrom_69 : decode cX0_copyFrom 69 = .ok (.aload_n 1, 1) := by decide +kernel
theorem dX0_copyFrom_70 : decode cX0_copyFrom 70 = .ok (.getfield 39, 3) := by decide +kernel
theorem dX0_copyFrom_73 : decode cX0_copyFrom 73 = .ok (.invokevirtual 73, 3) := by decide +kernel
theorem dX0_copyFrom_76 : decode cX0_copyFrom 76 = .ok (.aload_n 0, 1) := by decide +kernel
theorem dX0_copyFrom_77 : decode cX0_copyFrom 77 = .ok (.getfield 42, 3) := by decide +kernel
theorem dX0_copyFrom_80 : decode cX0_copyFrom 80 = .ok (.aload_n 1, 1) := by decide +kernel
theorem dX0_copyFrom_81 : decode cX0_copyFrom 81 = .ok (.getfield 42, 3) := by decide +kernel
theorem dX0_copyFrom_84 : decode cX0_copyFrom 84 = .ok (.invokevirtual 73, 3) := by decide +kernel
theorem dX0_copyFrom_87 : decode cX0_copyFrom 87 = .ok (.aload_n 0, 1) := by decide +kernel
theorem dX0_copyFrom_88 : decode cX0_copyFrom 88 = .ok (.getfield 45, 3) := by decide +kernel
theorem dX0_copyFrom_91 : decode cX0_copyFrom 91 = .ok (.aload_n 1, 1) := by decide +kernel
theorem dX0_copyFrom_92 : decode cX0_copyFrom 92 = .ok (.getfield 45, 3) := by decide +kernel
theorem dX0_copyFrom_95 : decode cX0_copyFrom 95 = .ok (.invokevirtual 73, 3) := by decide +kernel
theorem dX0_copyFrom_98 : decode cX0_copyFrom 98 = .ok (.aload_n 0, 1) := by decide +kernel
theorem dX0_copyFrom_99 : decode cX0_copyFrom 99 = .ok (.getfield 48, 3) := by decide +kernel
theorem dX0_copyFrom_102 : decode cX0_copyFrom 102 = .ok (.aload_n 1, 1) := by decide +kernel
theorem dX0_copyFrom_103 : decode cX0_copyFrom 103 = .ok (.getfield 48, 3) := by decide +kernel
theorem dX0_copyFrom_106 : decode cX0_copyFrom 106 = .ok (.invokevirtual 73, 3) := by decide +kernel
theorem dX0_copyFrom_109 : decode cX0_copyFrom 109 = .ok (.aload_n 0, 1) := by decide +kernel
theorem dX0_copyFrom_110 : decode cX0_copyFrom 110 = .ok (.getfield 51, 3) := by decide +kernel
theorem dX0_copyFrom_113 : decode cX0_copyFrom 113 = .ok (.aload_n 1, 1) := by decide +kernel
theorem dX0_copyFrom_114 : decode cX0_copyFrom 114 = .ok (.getfield 51, 3) := by decide +kernel
theorem dX0_copyFrom_117 : decode cX0_copyFrom 117 = .ok (.invokevirtual 73, 3) := by decide +kernel
theorem dX0_copyFrom_120 : decode cX0_copyFrom 120 = .ok (.aload_n 0, 1) := by decide +kernel
theorem dX0_copyFrom_121 : decode cX0_copyFrom 121 = .ok (.getfield 54, 3) := by decide +kernel
theorem dX0_copyFrom_124 : decode cX0_copyFrom 124 = .ok (.aload_n 1, 1) := by decide +kernel
theorem dX0_copyFrom_125 : decode cX0_copyFrom 125 = .ok (.getfield 54, 3) := by decide +kernel
theorem dX0_copyFrom_128 : decode cX0_copyFrom 128 = .ok (.invokevirtual 73, 3) := by decide +kernel
theorem dX0_copyFrom_131 : decode cX0_copyFrom 131 = .ok (.aload_n 0, 1) := by decide +kernel
theorem dX0_copyFrom_132 : decode cX0_copyFrom 132 = .ok (.getfield 57, 3) := by decide +kernel
theorem dX0_copyFrom_135 : decode cX0_copyFrom 135 = .ok (.aload_n 1, 1) := by decide +kernel
theorem dX0_copyFrom_136 : decode cX0_copyFrom 136 = .ok (.getfield 57, 3) := by decide +kernel
theorem dX0_copyFrom_139 : decode cX0_copyFrom 139 = .ok (.invokevirtual 73, 3) := by decide +kernel
theorem dX0_copyFrom_142 : decode cX0_copyFrom 142 = .ok (.aload_n 0, 1) := by decide +kernel
theorem dX0_copyFrom_143 : decode cX0_copyFrom 143 = .ok (.getfield 60, 3) := by decide +kernel
theorem dX0_copyFrom_146 : decode cX0_copyFrom 146 = .ok (.aload_n 1, 1) := by decide +kernel
theorem dX0_copyFrom_147 : decode cX0_copyFrom 147 = .ok (.getfield 60, 3) := by decide +kernel
theorem dX0_copyFrom_150 : decode cX0_copyFrom 150 = .ok (.invokevirtual 73, 3) := by decide +kernel
theorem dX0_copyFrom_153 : decode cX0_copyFrom 153 = .ok (.aload_n 0, 1) := by decide +kernel
theorem dX0_copyFrom_154 : decode cX0_copyFrom 154 = .ok (.getfield 63, 3) := by decide +kernel
theorem dX0_copyFrom_157 : decode cX0_copyFrom 157 = .ok (.aload_n 1, 1) := by decide +kernel
theorem dX0_copyFrom_158 : decode cX0_copyFrom 158 = .ok (.getfield 63, 3) := by decide +kernel
theorem dX0_copyFrom_161 : decode cX0_copyFrom 161 = .ok (.invokevirtual 73, 3) := by decide +kernel
theorem dX0_copyFrom_164 : decode cX0_copyFrom 164 = .ok (.aload_n 0, 1) := by decide +kernel
theorem dX0_copyFrom_165 : decode cX0_copyFrom 165 = .ok (.getfield 69, 3) := by decide +kernel
theorem dX0_copyFrom_168 : decode cX0_copyFrom 168 = .ok (.getfield 77, 3) := by decide +kernel
theorem dX0_copyFrom_171 : decode cX0_copyFrom 171 = .ok (.aload_n 1, 1) := by decide +kernel
theorem dX0_copyFrom_172 : decode cX0_copyFrom 172 = .ok (.getfield 69, 3) := by decide +kernel
theorem dX0_copyFrom_175 : decode cX0_copyFrom 175 = .ok (.getfield 77, 3) := by decide +kernel
theorem dX0_copyFrom_178 : decode cX0_copyFrom 178 = .ok (.invokevirtual 73, 3) := by decide +kernel
theorem dX0_copyFrom_181 : decode cX0_copyFrom 181 = .ok (.return_, 1) := by decide +kernel
theorem dX0_faultOf_0 : decode cX0_faultOf 0 = .ok (.iload_n 1, 1) := by decide +kernel
theorem dX0_faultOf_1 : decode cX0_faultOf 1 = .ok (.tableswitch 70 0 4 #[35, 42, 48, 57, 64], 35) := by decide +kernel
theorem dX0_faultOf_36 : decode cX0_faultOf 36 = .ok (.aload_n 0, 1) := by decide +kernel
theorem dX0_faultOf_37 : decode cX0_faultOf 37 = .ok (.iload_n 2, 1) := by decide +kernel
theorem dX0_faultOf_38 : decode cX0_faultOf 38 = .ok (.iload_n 3, 1) := by decide +kernel
theorem dX0_faultOf_39 : decode cX0_faultOf 39 = .ok (.invokevirtual 80, 3) := by decide +kernel
theorem dX0_faultOf_42 : decode cX0_faultOf 42 = .ok (.areturn, 1) := by decide +kernel
theorem dX0_faultOf_43 : decode cX0_faultOf 43 = .ok (.aload_n 0, 1) := by decide +kernel
theorem dX0_faultOf_44 : decode cX0_faultOf 44 = .ok (.iload_n 2, 1) := by decide +kernel
theorem dX0_faultOf_45 : decode cX0_faultOf 45 = .ok (.invokevirtual 84, 3) := by decide +kernel
theorem dX0_faultOf_48 : decode cX0_faultOf 48 = .ok (.areturn, 1) := by decide +kernel
theorem dX0_faultOf_49 : decode cX0_faultOf 49 = .ok (.aload_n 0, 1) := by decide +kernel
theorem dX0_faultOf_50 : decode cX0_faultOf 50 = .ok (.iload_n 2, 1) := by decide +kernel
theorem dX0_faultOf_51 : decode cX0_faultOf 51 = .ok (.iload_n 3, 1) := by decide +kernel
theorem dX0_faultOf_52 : decode cX0_faultOf 52 = .ok (.iload 4, 2) := by decide +kernel
theorem dX0_faultOf_54 : decode cX0_faultOf 54 = .ok (.invokevirtual 88, 3) := by decide +kernel
theorem dX0_faultOf_57 : decode cX0_faultOf 57 = .ok (.areturn, 1) := by decide +kernel
theorem dX0_faultOf_58 : decode cX0_faultOf 58 = .ok (.aload_n 0, 1) := by decide +kernel
theorem dX0_faultOf_59 : decode cX0_faultOf 59 = .ok (.iload_n 2, 1) := by decide +kernel
theorem dX0_faultOf_60 : decode cX0_faultOf 60 = .ok (.iload_n 3, 1) := by decide +kernel
theorem dX0_faultOf_61 : decode cX0_faultOf 61 = .ok (.invokevirtual 92, 3) := by decide +kernel
theorem dX0_faultOf_64 : decode cX0_faultOf 64 = .ok (.areturn, 1) := by decide +kernel
theorem dX0_faultOf_65 : decode cX0_faultOf 65 = .ok (.aload_n 0, 1) := by decide +kernel
theorem dX0_faultOf_66 : decode cX0_faultOf 66 = .ok (.iload_n 2, 1) := by decide +kernel
theorem dX0_faultOf_67 : decode cX0_faultOf 67 = .ok (.invokevirtual 95, 3) := by decide +kernel
theorem dX0_faultOf_70 : decode cX0_faultOf 70 = .ok (.areturn, 1) := by decide +kernel
theorem dX0_faultOf_71 : decode cX0_faultOf 71 = .ok (.aload_n 0, 1) := by decide +kernel
theorem dX0_faultOf_72 : decode cX0_faultOf 72 = .ok (.iload_n 2, 1) := by decide +kernel
theorem dX0_faultOf_73 : decode cX0_faultOf 73 = .ok (.invokevirtual 98, 3) := by decide +kernel
theorem dX0_faultOf_76 : decode cX0_faultOf 76 = .ok (.areturn, 1) := by decide +kernel
theorem dX0_perform_0 : decode cX0_perform 0 = .ok (.iload_n 1, 1) := by decide +kernel
theorem dX0_perform_1 : decode cX0_perform 1 = .ok (.tableswitch 84 0 5 #[39, 46, 52, 63, 72, 78], 39) := by decide +kernel
theorem dX0_perform_40 : decode cX0_perform 40 = .ok (.aload_n 0, 1) := by decide +kernel
theorem dX0_perform_41 : decode cX0_perform 41 = .ok (.iload_n 2, 1) := by decide +kernel
theorem dX0_perform_42 : decode cX0_perform 42 = .ok (.iload_n 3, 1) := by decide +kernel
theorem dX0_perform_43 : decode cX0_perform 43 = .ok (.invokevirtual 101, 3) := by decide +kernel
theorem dX0_perform_46 : decode cX0_perform 46 = .ok (.ireturn, 1) := by decide +kernel
theorem dX0_perform_47 : decode cX0_perform 47 = .ok (.aload_n 0, 1) := by decide +kernel
theorem dX0_perform_48 : decode cX0_perform 48 = .ok (.iload_n 2, 1) := by decide +kernel
theorem dX0_perform_49 : decode cX0_perform 49 = .ok (.invokevirtual 105, 3) := by decide +kernel
theorem dX0_perform_52 : decode cX0_perform 52 = .ok (.ireturn, 1) := by decide +kernel
theorem dX0_perform_53 : decode cX0_perform 53 = .ok (.aload_n 0, 1) := by decide +kernel
theorem dX0_perform_54 : decode cX0_perform 54 = .ok (.iload_n 2, 1) := by decide +kernel
theorem dX0_perform_55 : decode cX0_perform 55 = .ok (.iload_n 3, 1) := by decide +kernel
theorem dX0_perform_56 : decode cX0_perform 56 = .ok (.iload 4, 2) := by decide +kernel
theorem dX0_perform_58 : decode cX0_perform 58 = .ok (.iload 5, 2) := by decide +kernel
theorem dX0_perform_60 : decode cX0_perform 60 = .ok (.invokevirtual 109, 3) := by decide +kernel
theorem dX0_perform_63 : decode cX0_perform 63 = .ok (.ireturn, 1) := by decide +kernel
theorem dX0_perform_64 : decode cX0_perform 64 = .ok (.aload_n 0, 1) := by decide +kernel
theorem dX0_perform_65 : decode cX0_perform 65 = .ok (.iload_n 2, 1) := by decide +kernel
theorem dX0_perform_66 : decode cX0_perform 66 = .ok (.iload_n 3, 1) := by decide +kernel
theorem dX0_perform_67 : decode cX0_perform 67 = .ok (.iload 4, 2) := by decide +kernel
theorem dX0_perform_69 : decode cX0_perform 69 = .ok (.invokevirtual 113, 3) := by decide +kernel
theorem dX0_perform_72 : decode cX0_perform 72 = .ok (.ireturn, 1) := by decide +kernel
theorem dX0_perform_73 : decode cX0_perform 73 = .ok (.aload_n 0, 1) := by decide +kernel
theorem dX0_perform_74 : decode cX0_perform 74 = .ok (.iload_n 2, 1) := by decide +kernel
theorem dX0_perform_75 : decode cX0_perform 75 = .ok (.invokevirtual 117, 3) := by decide +kernel
theorem dX0_perform_78 : decode cX0_perform 78 = .ok (.ireturn, 1) := by decide +kernel
theorem dX0_perform_79 : decode cX0_perform 79 = .ok (.aload_n 0, 1) := by decide +kernel
theorem dX0_perform_80 : decode cX0_perform 80 = .ok (.iload_n 2, 1) := by decide +kernel
theorem dX0_perform_81 : decode cX0_perform 81 = .ok (.invokevirtual 120, 3) := by decide +kernel
theorem dX0_perform_84 : decode cX0_perform 84 = .ok (.ireturn, 1) := by decide +kernel
theorem dX0_perform_85 : decode cX0_perform 85 = .ok (.aload_n 0, 1) := by decide +kernel
theorem dX0_perform_86 : decode cX0_perform 86 = .ok (.iload_n 2, 1) := by decide +kernel
theorem dX0_perform_87 : decode cX0_perform 87 = .ok (.invokevirtual 123, 3) := by decide +kernel
theorem dX0_perform_90 : decode cX0_perform 90 = .ok (.ireturn, 1) := by decide +kernel
theorem dX0_faultOfCharge_0 : decode cX0_faultOfCharge 0 = .ok (.iload_n 1, 1) := by decide +kernel
theorem dX0_faultOfCharge_1 : decode cX0_faultOfCharge 1 = .ok (.invokestatic 126, 3) := by decide +kernel
theorem dX0_faultOfCharge_4 : decode cX0_faultOfCharge 4 = .ok (.ifCond .eq 10, 3) := by decide +kernel
theorem dX0_faultOfCharge_7 : decode cX0_faultOfCharge 7 = .ok (.iload_n 2, 1) := by decide +kernel
theorem dX0_faultOfCharge_8 : decode cX0_faultOfCharge 8 = .ok (.invokestatic 130, 3) := by decide +kernel
theorem dX0_faultOfCharge_11 : decode cX0_faultOfCharge 11 = .ok (.ifCond .ne 7, 3) := by decide +kernel
theorem dX0_faultOfCharge_14 : decode cX0_faultOfCharge 14 = .ok (.getstatic 133, 3) := by decide +kernel
theorem dX0_faultOfCharge_17 : decode cX0_faultOfCharge 17 = .ok (.areturn, 1) := by decide +kernel
theorem dX0_faultOfCharge_18 : decode cX0_faultOfCharge 18 = .ok (.aload_n 0, 1) := by decide +kernel
theorem dX0_faultOfCharge_19 : decode cX0_faultOfCharge 19 = .ok (.iload_n 1, 1) := by decide +kernel
theorem dX0_faultOfCharge_20 : decode cX0_faultOfCharge 20 = .ok (.iload_n 2, 1) := by decide +kernel
theorem dX0_faultOfCharge_21 : decode cX0_faultOfCharge 21 = .ok (.invokevirtual 139, 3) := by decide +kernel
theorem dX0_faultOfCharge_24 : decode cX0_faultOfCharge 24 = .ok (.iconst (-1), 1) := by decide +kernel
theorem dX0_faultOfCharge_25 : decode cX0_faultOfCharge 25 = .ok (.if_icmp .eq 7, 3) := by decide +kernel
theorem dX0_faultOfCharge_28 : decode cX0_faultOfCharge 28 = .ok (.iconst 1, 1) := by decide +kernel
theorem dX0_faultOfCharge_29 : decode cX0_faultOfCharge 29 = .ok (.goto 4, 3) := by decide +kernel
theorem dX0_faultOfCharge_32 : decode cX0_faultOfCharge 32 = .ok (.iconst 0, 1) := by decide +kernel
theorem dX0_faultOfCharge_33 : decode cX0_faultOfCharge 33 = .ok (.istore_n 3, 1) := by decide +kernel
theorem dX0_faultOfCharge_34 : decode cX0_faultOfCharge 34 = .ok (.iload_n 3, 1) := by decide +kernel
theorem dX0_faultOfCharge_35 : decode cX0_faultOfCharge 35 = .ok (.ifCond .ne 12, 3) := by decide +kernel
theorem dX0_faultOfCharge_38 : decode cX0_faultOfCharge 38 = .ok (.aload_n 0, 1) := by decide +kernel
theorem dX0_faultOfCharge_39 : decode cX0_faultOfCharge 39 = .ok (.getfield 9, 3) := by decide +kernel
theorem dX0_faultOfCharge_42 : decode cX0_faultOfCharge 42 = .ok (.bipush 16, 2) := by decide +kernel
theorem dX0_faultOfCharge_44 : decode cX0_faultOfCharge 44 = .ok (.if_icmp .lt 9, 3) := by decide +kernel
theorem dX0_faultOfCharge_47 : decode cX0_faultOfCharge 47 = .ok (.getstatic 142, 3) := by decide +kernel
theorem dX0_faultOfCharge_50 : decode cX0_faultOfCharge 50 = .ok (.goto 6, 3) := by decide +kernel
theorem dX0_faultOfCharge_53 : decode cX0_faultOfCharge 53 = .ok (.getstatic 145, 3) := by decide +kernel
theorem dX0_faultOfCharge_56 : decode cX0_faultOfCharge 56 = .ok (.areturn, 1) := by decide +kernel
theorem dX0_faultOfWitness_0 : decode cX0_faultOfWitness 0 = .ok (.iload_n 1, 1) := by decide +kernel
theorem dX0_faultOfWitness_1 : decode cX0_faultOfWitness 1 = .ok (.ifCond .lt 9, 3) := by decide +kernel
theorem dX0_faultOfWitness_4 : decode cX0_faultOfWitness 4 = .ok (.iload_n 1, 1) := by decide +kernel
theorem dX0_faultOfWitness_5 : decode cX0_faultOfWitness 5 = .ok (.bipush 9, 2) := by decide +kernel
theorem dX0_faultOfWitness_7 : decode cX0_faultOfWitness 7 = .ok (.if_icmp .le 7, 3) := by decide +kernel
theorem dX0_faultOfWitness_10 : decode cX0_faultOfWitness 10 = .ok (.getstatic 133, 3) := by decide +kernel
theorem dX0_faultOfWitness_13 : decode cX0_faultOfWitness 13 = .ok (.areturn, 1) := by decide +kernel
theorem dX0_faultOfWitness_14 : decode cX0_faultOfWitness 14 = .ok (.aload_n 0, 1) := by decide +kernel
theorem dX0_faultOfWitness_15 : decode cX0_faultOfWitness 15 = .ok (.getfield 15, 3) := by decide +kernel
theorem dX0_faultOfWitness_18 : decode cX0_faultOfWitness 18 = .ok (.bipush 8, 2) := by decide +kernel
theorem dX0_faultOfWitness_20 : decode cX0_faultOfWitness 20 = .ok (.if_icmp .lt 9, 3) := by decide +kernel
theorem dX0_faultOfWitness_23 : decode cX0_faultOfWitness 23 = .ok (.getstatic 142, 3) := by decide +kernel
theorem dX0_faultOfWitness_26 : decode cX0_faultOfWitness 26 = .ok (.goto 6, 3) := by decide +kernel
theorem dX0_faultOfWitness_29 : decode cX0_faultOfWitness 29 = .ok (.getstatic 145, 3) := by decide +kernel
theorem dX0_faultOfWitness_32 : decode cX0_faultOfWitness 32 = .ok (.areturn, 1) := by decide +kernel
theorem dX0_faultOfTestimony_0 : decode cX0_faultOfTestimony 0 = .ok (.aload_n 0, 1) := by decide +kernel
theorem dX0_faultOfTestimony_1 : decode cX0_faultOfTestimony 1 = .ok (.iload_n 1, 1) := by decide +kernel
theorem dX0_faultOfTestimony_2 : decode cX0_faultOfTestimony 2 = .ok (.invokevirtual 148, 3) := by decide +kernel
theorem dX0_faultOfTestimony_5 : decode cX0_faultOfTestimony 5 = .ok (.ifCond .eq 11, 3) := by decide +kernel
theorem dX0_faultOfTestimony_8 : decode cX0_faultOfTestimony 8 = .ok (.aload_n 0, 1) := by decide +kernel
theorem dX0_faultOfTestimony_9 : decode cX0_faultOfTestimony 9 = .ok (.iload_n 2, 1) := by decide +kernel
theorem dX0_faultOfTestimony_10 : decode cX0_faultOfTestimony 10 = .ok (.invokevirtual 151, 3) := by decide +kernel
theorem dX0_faultOfTestimony_13 : decode cX0_faultOfTestimony 13 = .ok (.ifCond .ne 7, 3) := by decide +kernel
theorem dX0_faultOfTestimony_16 : decode cX0_faultOfTestimony 16 = .ok (.getstatic 154, 3) := by decide +kernel
theorem dX0_faultOfTestimony_19 : decode cX0_faultOfTestimony 19 = .ok (.areturn, 1) := by decide +kernel
theorem dX0_faultOfTestimony_20 : decode cX0_faultOfTestimony 20 = .ok (.iload_n 3, 1) := by decide +kernel
theorem dX0_faultOfTestimony_21 : decode cX0_faultOfTestimony 21 = .ok (.iconst 1, 1) := by decide +kernel
theorem dX0_faultOfTestimony_22 : decode cX0_faultOfTestimony 22 = .ok (.if_icmp .lt 8, 3) := by decide +kernel
theorem dX0_faultOfTestimony_25 : decode cX0_faultOfTestimony 25 = .ok (.iload_n 3, 1) := by decide +kernel
theorem dX0_faultOfTestimony_26 : decode cX0_faultOfTestimony 26 = .ok (.iconst 5, 1) := by decide +kernel
theorem dX0_faultOfTestimony_27 : decode cX0_faultOfTestimony 27 = .ok (.if_icmp .le 7, 3) := by decide +kernel
theorem dX0_faultOfTestimony_30 : decode cX0_faultOfTestimony 30 = .ok (.getstatic 133, 3) := by decide +kernel
theorem dX0_faultOfTestimony_33 : decode cX0_faultOfTestimony 33 = .ok (.areturn, 1) := by decide +kernel
theorem dX0_faultOfTestimony_34 : decode cX0_faultOfTestimony 34 = .ok (.aload_n 0, 1) := by decide +kernel
theorem dX0_faultOfTestimony_35 : decode cX0_faultOfTestimony 35 = .ok (.getfield 45, 3) := by decide +kernel
theorem dX0_faultOfTestimony_38 : decode cX0_faultOfTestimony 38 = .ok (.iload_n 1, 1) := by decide +kernel
theorem dX0_faultOfTestimony_39 : decode cX0_faultOfTestimony 39 = .ok (.invokevirtual 157, 3) := by decide +kernel
theorem dX0_faultOfTestimony_42 : decode cX0_faultOfTestimony 42 = .ok (.bipush 6, 2) := by decide +kernel
theorem dX0_faultOfTestimony_44 : decode cX0_faultOfTestimony 44 = .ok (.if_icmp .lt 7, 3) := by decide +kernel
theorem dX0_faultOfTestimony_47 : decode cX0_faultOfTestimony 47 = .ok (.iconst 1, 1) := by decide +kernel
theorem dX0_faultOfTestimony_48 : decode cX0_faultOfTestimony 48 = .ok (.goto 4, 3) := by decide +kernel
theorem dX0_faultOfTestimony_51 : decode cX0_faultOfTestimony 51 = .ok (.iconst 0, 1) := by decide +kernel
theorem dX0_faultOfTestimony_52 : decode cX0_faultOfTestimony 52 = .ok (.istore 4, 2) := by decide +kernel
theorem dX0_faultOfTestimony_54 : decode cX0_faultOfTestimony 54 = .ok (.aload_n 0, 1) := by decide +kernel
theorem dX0_faultOfTestimony_55 : decode cX0_faultOfTestimony 55 = .ok (.iconst 0, 1) := by decide +kernel
theorem dX0_faultOfTestimony_56 : decode cX0_faultOfTestimony 56 = .ok (.iload_n 1, 1) := by decide +kernel
theorem dX0_faultOfTestimony_57 : decode cX0_faultOfTestimony 57 = .ok (.invokevirtual 160, 3) := by decide +kernel
theorem dX0_faultOfTestimony_60 : decode cX0_faultOfTestimony 60 = .ok (.ifCond .eq 17, 3) := by decide +kernel
theorem dX0_faultOfTestimony_63 : decode cX0_faultOfTestimony 63 = .ok (.aload_n 0, 1) := by decide +kernel
theorem dX0_faultOfTestimony_64 : decode cX0_faultOfTestimony 64 = .ok (.iload_n 1, 1) := by decide +kernel
theorem dX0_faultOfTestimony_65 : decode cX0_faultOfTestimony 65 = .ok (.iload_n 2, 1) := by decide +kernel
theorem dX0_faultOfTestimony_66 : decode cX0_faultOfTestimony 66 = .ok (.invokevirtual 164, 3) := by decide +kernel
theorem dX0_faultOfTestimony_69 : decode cX0_faultOfTestimony 69 = .ok (.ifCond .ne 8, 3) := by decide +kernel
theorem dX0_faultOfTestimony_72 : decode cX0_faultOfTestimony 72 = .ok (.iload 4, 2) := by decide +kernel
theorem dX0_faultOfTestimony_74 : decode cX0_faultOfTestimony 74 = .ok (.ifCond .eq 7, 3) := by decide +kernel
theorem dX0_faultOfTestimony_77 : decode cX0_faultOfTestimony 77 = .ok (.iconst 1, 1) := by decide +kernel
theorem dX0_faultOfTestimony_78 : decode cX0_faultOfTestimony 78 = .ok (.goto 4, 3) := by decide +kernel
theorem dX0_faultOfTestimony_81 : decode cX0_faultOfTestimony 81 = .ok (.iconst 0, 1) := by decide +kernel
theorem dX0_faultOfTestimony_82 : decode cX0_faultOfTestimony 82 = .ok (.istore 5, 2) := by decide +kernel
theorem dX0_faultOfTestimony_84 : decode cX0_faultOfTestimony 84 = .ok (.iload 5, 2) := by decide +kernel
theorem dX0_faultOfTestimony_86 : decode cX0_faultOfTestimony 86 = .ok (.ifCond .eq 9, 3) := by decide +kernel
theorem dX0_faultOfTestimony_89 : decode cX0_faultOfTestimony 89 = .ok (.getstatic 142, 3) := by decide +kernel
theorem dX0_faultOfTestimony_92 : decode cX0_faultOfTestimony 92 = .ok (.goto 6, 3) := by decide +kernel
theorem dX0_faultOfTestimony_95 : decode cX0_faultOfTestimony 95 = .ok (.getstatic 145, 3) := by decide +kernel
theorem dX0_faultOfTestimony_98 : decode cX0_faultOfTestimony 98 = .ok (.areturn, 1) := by decide +kernel
theorem dX0_faultOfQuestion_0 : decode cX0_faultOfQuestion 0 = .ok (.aload_n 0, 1) := by decide +kernel
theorem dX0_faultOfQuestion_1 : decode cX0_faultOfQuestion 1 = .ok (.iload_n 1, 1) := by decide +kernel
theorem dX0_faultOfQuestion_2 : decode cX0_faultOfQuestion 2 = .ok (.invokevirtual 148, 3) := by decide +kernel
theorem dX0_faultOfQuestion_5 : decode cX0_faultOfQuestion 5 = .ok (.ifCond .eq 11, 3) := by decide +kernel
theorem dX0_faultOfQuestion_8 : decode cX0_faultOfQuestion 8 = .ok (.aload_n 0, 1) := by decide +kernel
theorem dX0_faultOfQuestion_9 : decode cX0_faultOfQuestion 9 = .ok (.iload_n 2, 1) := by decide +kernel
theorem dX0_faultOfQuestion_10 : decode cX0_faultOfQuestion 10 = .ok (.invokevirtual 151, 3) := by decide +kernel
theorem dX0_faultOfQuestion_13 : decode cX0_faultOfQuestion 13 = .ok (.ifCond .ne 7, 3) := by decide +kernel
theorem dX0_faultOfQuestion_16 : decode cX0_faultOfQuestion 16 = .ok (.getstatic 154, 3) := by decide +kernel
theorem dX0_faultOfQuestion_19 : decode cX0_faultOfQuestion 19 = .ok (.areturn, 1) := by decide +kernel
theorem dX0_faultOfQuestion_20 : decode cX0_faultOfQuestion 20 = .ok (.aload_n 0, 1) := by decide +kernel
theorem dX0_faultOfQuestion_21 : decode cX0_faultOfQuestion 21 = .ok (.iload_n 1, 1) := by decide +kernel
theorem dX0_faultOfQuestion_22 : decode cX0_faultOfQuestion 22 = .ok (.iload_n 2, 1) := by decide +kernel
theorem dX0_faultOfQuestion_23 : decode cX0_faultOfQuestion 23 = .ok (.invokevirtual 164, 3) := by decide +kernel
theorem dX0_faultOfQuestion_26 : decode cX0_faultOfQuestion 26 = .ok (.ifCond .ne 7, 3) := by decide +kernel
theorem dX0_faultOfQuestion_29 : decode cX0_faultOfQuestion 29 = .ok (.getstatic 167, 3) := by decide +kernel
theorem dX0_faultOfQuestion_32 : decode cX0_faultOfQuestion 32 = .ok (.areturn, 1) := by decide +kernel
theorem dX0_faultOfQuestion_33 : decode cX0_faultOfQuestion 33 = .ok (.aload_n 0, 1) := by decide +kernel
theorem dX0_faultOfQuestion_34 : decode cX0_faultOfQuestion 34 = .ok (.iload_n 1, 1) := by decide +kernel
theorem dX0_faultOfQuestion_35 : decode cX0_faultOfQuestion 35 = .ok (.iload_n 2, 1) := by decide +kernel
theorem dX0_faultOfQuestion_36 : decode cX0_faultOfQuestion 36 = .ok (.invokevirtual 170, 3) := by decide +kernel
theorem dX0_faultOfQuestion_39 : decode cX0_faultOfQuestion 39 = .ok (.iconst 2, 1) := by decide +kernel
theorem dX0_faultOfQuestion_40 : decode cX0_faultOfQuestion 40 = .ok (.if_icmp .lt 7, 3) := by decide +kernel
theorem dX0_faultOfQuestion_43 : decode cX0_faultOfQuestion 43 = .ok (.iconst 1, 1) := by decide +kernel
theorem dX0_faultOfQuestion_44 : decode cX0_faultOfQuestion 44 = .ok (.goto 4, 3) := by decide +kernel
theorem dX0_faultOfQuestion_47 : decode cX0_faultOfQuestion 47 = .ok (.iconst 0, 1) := by decide +kernel
theorem dX0_faultOfQuestion_48 : decode cX0_faultOfQuestion 48 = .ok (.istore_n 3, 1) := by decide +kernel
theorem dX0_faultOfQuestion_49 : decode cX0_faultOfQuestion 49 = .ok (.aload_n 0, 1) := by decide +kernel
theorem dX0_faultOfQuestion_50 : decode cX0_faultOfQuestion 50 = .ok (.iconst 0, 1) := by decide +kernel
theorem dX0_faultOfQuestion_51 : decode cX0_faultOfQuestion 51 = .ok (.iload_n 1, 1) := by decide +kernel
theorem dX0_faultOfQuestion_52 : decode cX0_faultOfQuestion 52 = .ok (.invokevirtual 160, 3) := by decide +kernel
theorem dX0_faultOfQuestion_55 : decode cX0_faultOfQuestion 55 = .ok (.ifCond .eq 7, 3) := by decide +kernel
theorem dX0_faultOfQuestion_58 : decode cX0_faultOfQuestion 58 = .ok (.iload_n 3, 1) := by decide +kernel
theorem dX0_faultOfQuestion_59 : decode cX0_faultOfQuestion 59 = .ok (.ifCond .eq 9, 3) := by decide +kernel
theorem dX0_faultOfQuestion_62 : decode cX0_faultOfQuestion 62 = .ok (.getstatic 142, 3) := by decide +kernel
theorem dX0_faultOfQuestion_65 : decode cX0_faultOfQuestion 65 = .ok (.goto 6, 3) := by decide +kernel
theorem dX0_faultOfQuestion_68 : decode cX0_faultOfQuestion 68 = .ok (.getstatic 145, 3) := by decide +kernel
theorem dX0_faultOfQuestion_71 : decode cX0_faultOfQuestion 71 = .ok (.areturn, 1) := by decide +kernel
theorem dX0_faultOfDecision_0 : decode cX0_faultOfDecision 0 = .ok (.aload_n 0, 1) := by decide +kernel
theorem dX0_faultOfDecision_1 : decode cX0_faultOfDecision 1 = .ok (.iload_n 1, 1) := by decide +kernel
theorem dX0_faultOfDecision_2 : decode cX0_faultOfDecision 2 = .ok (.invokevirtual 148, 3) := by decide +kernel
theorem dX0_faultOfDecision_5 : decode cX0_faultOfDecision 5 = .ok (.ifCond .ne 7, 3) := by decide +kernel
theorem dX0_faultOfDecision_8 : decode cX0_faultOfDecision 8 = .ok (.getstatic 154, 3) := by decide +kernel
theorem dX0_faultOfDecision_11 : decode cX0_faultOfDecision 11 = .ok (.areturn, 1) := by decide +kernel
theorem dX0_faultOfDecision_12 : decode cX0_faultOfDecision 12 = .ok (.aload_n 0, 1) := by decide +kernel
theorem dX0_faultOfDecision_13 : decode cX0_faultOfDecision 13 = .ok (.iconst 0, 1) := by decide +kernel
theorem dX0_faultOfDecision_14 : decode cX0_faultOfDecision 14 = .ok (.iload_n 1, 1) := by decide +kernel
theorem dX0_faultOfDecision_15 : decode cX0_faultOfDecision 15 = .ok (.invokevirtual 160, 3) := by decide +kernel
theorem dX0_faultOfDecision_18 : decode cX0_faultOfDecision 18 = .ok (.ifCond .eq 18, 3) := by decide +kernel
theorem dX0_faultOfDecision_21 : decode cX0_faultOfDecision 21 = .ok (.aload_n 0, 1) := by decide +kernel
theorem dX0_faultOfDecision_22 : decode cX0_faultOfDecision 22 = .ok (.getfield 45, 3) := by decide +kernel
theorem dX0_faultOfDecision_25 : decode cX0_faultOfDecision 25 = .ok (.iload_n 1, 1) := by decide +kernel
theorem dX0_faultOfDecision_26 : decode cX0_faultOfDecision 26 = .ok (.invokevirtual 157, 3) := by decide +kernel
theorem dX0_faultOfDecision_29 : decode cX0_faultOfDecision 29 = .ok (.ifCond .le 7, 3) := by decide +kernel
theorem dX0_faultOfDecision_32 : decode cX0_faultOfDecision 32 = .ok (.iconst 1, 1) := by decide +kernel
theorem dX0_faultOfDecision_33 : decode cX0_faultOfDecision 33 = .ok (.goto 4, 3) := by decide +kernel
theorem dX0_faultOfDecision_36 : decode cX0_faultOfDecision 36 = .ok (.iconst 0, 1) := by decide +kernel
theorem dX0_faultOfDecision_37 : decode cX0_faultOfDecision 37 = .ok (.istore_n 2, 1) := by decide +kernel
theorem dX0_faultOfDecision_38 : decode cX0_faultOfDecision 38 = .ok (.iload_n 2, 1) := by decide +kernel
theorem dX0_faultOfDecision_39 : decode cX0_faultOfDecision 39 = .ok (.ifCond .eq 9, 3) := by decide +kernel
theorem dX0_faultOfDecision_42 : decode cX0_faultOfDecision 42 = .ok (.getstatic 145, 3) := by decide +kernel
theorem dX0_faultOfDecision_45 : decode cX0_faultOfDecision 45 = .ok (.goto 6, 3) := by decide +kernel
theorem dX0_faultOfDecision_48 : decode cX0_faultOfDecision 48 = .ok (.getstatic 142, 3) := by decide +kernel
theorem dX0_faultOfDecision_51 : decode cX0_faultOfDecision 51 = .ok (.areturn, 1) := by decide +kernel
theorem dX0_faultAfterVerdict_0 : decode cX0_faultAfterVerdict 0 = .ok (.aload_n 0, 1) := by decide +kernel
theorem dX0_faultAfterVerdict_1 : decode cX0_faultAfterVerdict 1 = .ok (.iload_n 1, 1) := by decide +kernel
theorem dX0_faultAfterVerdict_2 : decode cX0_faultAfterVerdict 2 = .ok (.invokevirtual 148, 3) := by decide +kernel
theorem dX0_faultAfterVerdict_5 : decode cX0_faultAfterVerdict 5 = .ok (.ifCond .ne 7, 3) := by decide +kernel
theorem dX0_faultAfterVerdict_8 : decode cX0_faultAfterVerdict 8 = .ok (.getstatic 154, 3) := by decide +kernel
theorem dX0_faultAfterVerdict_11 : decode cX0_faultAfterVerdict 11 = .ok (.areturn, 1) := by decide +kernel
theorem dX0_faultAfterVerdict_12 : decode cX0_faultAfterVerdict 12 = .ok (.aload_n 0, 1) := by decide +kernel
theorem dX0_faultAfterVerdict_13 : decode cX0_faultAfterVerdict 13 = .ok (.iconst 1, 1) := by decide +kernel
theorem dX0_faultAfterVerdict_14 : decode cX0_faultAfterVerdict 14 = .ok (.iload_n 1, 1) := by decide +kernel
theorem dX0_faultAfterVerdict_15 : decode cX0_faultAfterVerdict 15 = .ok (.invokevirtual 160, 3) := by decide +kernel
theorem dX0_faultAfterVerdict_18 : decode cX0_faultAfterVerdict 18 = .ok (.ifCond .eq 9, 3) := by decide +kernel
theorem dX0_faultAfterVerdict_21 : decode cX0_faultAfterVerdict 21 = .ok (.getstatic 145, 3) := by decide +kernel
theorem dX0_faultAfterVerdict_24 : decode cX0_faultAfterVerdict 24 = .ok (.goto 6, 3) := by decide +kernel
theorem dX0_faultAfterVerdict_27 : decode cX0_faultAfterVerdict 27 = .ok (.getstatic 142, 3) := by decide +kernel
theorem dX0_faultAfterVerdict_30 : decode cX0_faultAfterVerdict 30 = .ok (.areturn, 1) := by decide +kernel
theorem dX0_openCase_0 : decode cX0_openCase 0 = .ok (.aload_n 0, 1) := by decide +kernel
theorem dX0_openCase_1 : decode cX0_openCase 1 = .ok (.getfield 9, 3) := by decide +kernel
theorem dX0_openCase_4 : decode cX0_openCase 4 = .ok (.istore_n 3, 1) := by decide +kernel
theorem dX0_openCase_5 : decode cX0_openCase 5 = .ok (.aload_n 0, 1) := by decide +kernel
theorem dX0_openCase_6 : decode cX0_openCase 6 = .ok (.getfield 29, 3) := by decide +kernel
theorem dX0_openCase_9 : decode cX0_openCase 9 = .ok (.iload_n 3, 1) := by decide +kernel
theorem dX0_openCase_10 : decode cX0_openCase 10 = .ok (.iload_n 1, 1) := by decide +kernel
theorem dX0_openCase_11 : decode cX0_openCase 11 = .ok (.invokevirtual 173, 3) := by decide +kernel
theorem dX0_openCase_14 : decode cX0_openCase 14 = .ok (.aload_n 0, 1) := by decide +kernel
theorem dX0_openCase_15 : decode cX0_openCase 15 = .ok (.getfield 33, 3) := by decide +kernel
theorem dX0_openCase_18 : decode cX0_openCase 18 = .ok (.iload_n 3, 1) := by decide +kernel
theorem dX0_openCase_19 : decode cX0_openCase 19 = .ok (.iload_n 2, 1) := by decide +kernel
theorem dX0_openCase_20 : decode cX0_openCase 20 = .ok (.invokevirtual 173, 3) := by decide +kernel
theorem dX0_openCase_23 : decode cX0_openCase 23 = .ok (.aload_n 0, 1) := by decide +kernel
theorem dX0_openCase_24 : decode cX0_openCase 24 = .ok (.getfield 36, 3) := by decide +kernel
theorem dX0_openCase_27 : decode cX0_openCase 27 = .ok (.iload_n 3, 1) := by decide +kernel
theorem dX0_openCase_28 : decode cX0_openCase 28 = .ok (.iconst 0, 1) := by decide +kernel
theorem dX0_openCase_29 : decode cX0_openCase 29 = .ok (.invokevirtual 173, 3) := by decide +kernel
theorem dX0_openCase_32 : decode cX0_openCase 32 = .ok (.aload_n 0, 1) := by decide +kernel
theorem dX0_openCase_33 : decode cX0_openCase 33 = .ok (.iload_n 3, 1) := by decide +kernel
theorem dX0_openCase_34 : decode cX0_openCase 34 = .ok (.iconst 1, 1) := by decide +kernel
theorem dX0_openCase_35 : decode cX0_openCase 35 = .ok (.iadd, 1) := by decide +kernel
theorem dX0_openCase_36 : decode cX0_openCase 36 = .ok (.putfield 9, 3) := by decide +kernel
theorem dX0_openCase_39 : decode cX0_openCase 39 = .ok (.iload_n 3, 1) := by decide +kernel
theorem dX0_openCase_40 : decode cX0_openCase 40 = .ok (.ireturn, 1) := by decide +kernel
theorem dX0_register_0 : decode cX0_register 0 = .ok (.aload_n 0, 1) := by decide +kernel
theorem dX0_register_1 : decode cX0_register 1 = .ok (.getfield 15, 3) := by decide +kernel
theorem dX0_register_4 : decode cX0_register 4 = .ok (.istore_n 2, 1) := by decide +kernel
theorem dX0_register_5 : decode cX0_register 5 = .ok (.aload_n 0, 1) := by decide +kernel
theorem dX0_register_6 : decode cX0_register 6 = .ok (.getfield 60, 3) := by decide +kernel
theorem dX0_register_9 : decode cX0_register 9 = .ok (.iload_n 2, 1) := by decide +kernel
theorem dX0_register_10 : decode cX0_register 10 = .ok (.iload_n 1, 1) := by decide +kernel
theorem dX0_register_11 : decode cX0_register 11 = .ok (.invokevirtual 173, 3) := by decide +kernel
theorem dX0_register_14 : decode cX0_register 14 = .ok (.aload_n 0, 1) := by decide +kernel
theorem dX0_register_15 : decode cX0_register 15 = .ok (.getfield 69, 3) := by decide +kernel
theorem dX0_register_18 : decode cX0_register 18 = .ok (.iload_n 2, 1) := by decide +kernel
theorem dX0_register_19 : decode cX0_register 19 = .ok (.invokevirtual 177, 3) := by decide +kernel
theorem dX0_register_22 : decode cX0_register 22 = .ok (.aload_n 0, 1) := by decide +kernel
theorem dX0_register_23 : decode cX0_register 23 = .ok (.iload_n 2, 1) := by decide +kernel
theorem dX0_register_24 : decode cX0_register 24 = .ok (.iconst 1, 1) := by decide +kernel
theorem dX0_register_25 : decode cX0_register 25 = .ok (.iadd, 1) := by decide +kernel
theorem dX0_register_26 : decode cX0_register 26 = .ok (.putfield 15, 3) := by decide +kernel
theorem dX0_register_29 : decode cX0_register 29 = .ok (.iload_n 2, 1) := by decide +kernel
theorem dX0_register_30 : decode cX0_register 30 = .ok (.ireturn, 1) := by decide +kernel
theorem dX0_hear_0 : decode cX0_hear 0 = .ok (.aload_n 0, 1) := by decide +kernel
theorem dX0_hear_1 : decode cX0_hear 1 = .ok (.getfield 45, 3) := by decide +kernel
theorem dX0_hear_4 : decode cX0_hear 4 = .ok (.iload_n 1, 1) := by decide +kernel
theorem dX0_hear_5 : decode cX0_hear 5 = .ok (.invokevirtual 157, 3) := by decide +kernel
theorem dX0_hear_8 : decode cX0_hear 8 = .ok (.istore 5, 2) := by decide +kernel
theorem dX0_hear_10 : decode cX0_hear 10 = .ok (.aload_n 0, 1) := by decide +kernel
theorem dX0_hear_11 : decode cX0_hear 11 = .ok (.getfield 48, 3) := by decide +kernel
theorem dX0_hear_14 : decode cX0_hear 14 = .ok (.iload_n 1, 1) := by decide +kernel
theorem dX0_hear_15 : decode cX0_hear 15 = .ok (.bipush 6, 2) := by decide +kernel
theorem dX0_hear_17 : decode cX0_hear 17 = .ok (.imul, 1) := by decide +kernel
theorem dX0_hear_18 : decode cX0_hear 18 = .ok (.iload 5, 2) := by decide +kernel
theorem dX0_hear_20 : decode cX0_hear 20 = .ok (.iadd, 1) := by decide +kernel
theorem dX0_hear_21 : decode cX0_hear 21 = .ok (.iload_n 2, 1) := by decide +kernel
theorem dX0_hear_22 : decode cX0_hear 22 = .ok (.invokevirtual 173, 3) := by decide +kernel
theorem dX0_hear_25 : decode cX0_hear 25 = .ok (.aload_n 0, 1) := by decide +kernel
theorem dX0_hear_26 : decode cX0_hear 26 = .ok (.getfield 51, 3) := by decide +kernel
theorem dX0_hear_29 : decode cX0_hear 29 = .ok (.iload_n 1, 1) := by decide +kernel
theorem dX0_hear_30 : decode cX0_hear 30 = .ok (.iload_n 2, 1) := by decide +kernel
theorem dX0_hear_31 : decode cX0_hear 31 = .ok (.invokestatic 180, 3) := by decide +kernel
theorem dX0_hear_34 : decode cX0_hear 34 = .ok (.iload_n 3, 1) := by decide +kernel
theorem dX0_hear_35 : decode cX0_hear 35 = .ok (.ifCond .eq 7, 3) := by decide +kernel
theorem dX0_hear_38 : decode cX0_hear 38 = .ok (.iconst 1, 1) := by decide +kernel
theorem dX0_hear_39 : decode cX0_hear 39 = .ok (.goto 4, 3) := by decide +kernel
theorem dX0_hear_42 : decode cX0_hear 42 = .ok (.iconst (-1), 1) := by decide +kernel
theorem dX0_hear_43 : decode cX0_hear 43 = .ok (.invokevirtual 173, 3) := by decide +kernel
theorem dX0_hear_46 : decode cX0_hear 46 = .ok (.aload_n 0, 1) := by decide +kernel
theorem dX0_hear_47 : decode cX0_hear 47 = .ok (.getfield 54, 3) := by decide +kernel
theorem dX0_hear_50 : decode cX0_hear 50 = .ok (.iload_n 1, 1) := by decide +kernel
theorem dX0_hear_51 : decode cX0_hear 51 = .ok (.iload_n 2, 1) := by decide +kernel
theorem dX0_hear_52 : decode cX0_hear 52 = .ok (.invokestatic 180, 3) := by decide +kernel
theorem dX0_hear_55 : decode cX0_hear 55 = .ok (.iload 4, 2) := by decide +kernel
theorem dX0_hear_57 : decode cX0_hear 57 = .ok (.invokevirtual 173, 3) := by decide +kernel
theorem dX0_hear_60 : decode cX0_hear 60 = .ok (.aload_n 0, 1) := by decide +kernel
theorem dX0_hear_61 : decode cX0_hear 61 = .ok (.getfield 45, 3) := by decide +kernel
theorem dX0_hear_64 : decode cX0_hear 64 = .ok (.iload_n 1, 1) := by decide +kernel
theorem dX0_hear_65 : decode cX0_hear 65 = .ok (.iload 5, 2) := by decide +kernel
theorem dX0_hear_67 : decode cX0_hear 67 = .ok (.iconst 1, 1) := by decide +kernel
theorem dX0_hear_68 : decode cX0_hear 68 = .ok (.iadd, 1) := by decide +kernel
theorem dX0_hear_69 : decode cX0_hear 69 = .ok (.invokevirtual 173, 3) := by decide +kernel
theorem dX0_hear_72 : decode cX0_hear 72 = .ok (.aload_n 0, 1) := by decide +kernel
theorem dX0_hear_73 : decode cX0_hear 73 = .ok (.getfield 69, 3) := by decide +kernel
theorem dX0_hear_76 : decode cX0_hear 76 = .ok (.aload_n 0, 1) := by decide +kernel
theorem dX0_hear_77 : decode cX0_hear 77 = .ok (.iload_n 1, 1) := by decide +kernel
theorem dX0_hear_78 : decode cX0_hear 78 = .ok (.iconst 0, 1) := by decide +kernel
theorem dX0_hear_79 : decode cX0_hear 79 = .ok (.invokevirtual 183, 3) := by decide +kernel
theorem dX0_hear_82 : decode cX0_hear 82 = .ok (.iload_n 2, 1) := by decide +kernel
theorem dX0_hear_83 : decode cX0_hear 83 = .ok (.invokevirtual 186, 3) := by decide +kernel
theorem dX0_hear_86 : decode cX0_hear 86 = .ok (.iload 5, 2) := by decide +kernel
theorem dX0_hear_88 : decode cX0_hear 88 = .ok (.iconst 1, 1) := by decide +kernel
theorem dX0_hear_89 : decode cX0_hear 89 = .ok (.iadd, 1) := by decide +kernel
theorem dX0_hear_90 : decode cX0_hear 90 = .ok (.ireturn, 1) := by decide +kernel
theorem dX0_ask_0 : decode cX0_ask 0 = .ok (.aload_n 0, 1) := by decide +kernel
theorem dX0_ask_1 : decode cX0_ask 1 = .ok (.getfield 60, 3) := by decide +kernel
theorem dX0_ask_4 : decode cX0_ask 4 = .ok (.iload_n 2, 1) := by decide +kernel
theorem dX0_ask_5 : decode cX0_ask 5 = .ok (.invokevirtual 157, 3) := by decide +kernel
theorem dX0_ask_8 : decode cX0_ask 8 = .ok (.istore 4, 2) := by decide +kernel
theorem dX0_ask_10 : decode cX0_ask 10 = .ok (.iload_n 3, 1) := by decide +kernel
theorem dX0_ask_11 : decode cX0_ask 11 = .ok (.ifCond .eq 15, 3) := by decide +kernel
theorem dX0_ask_14 : decode cX0_ask 14 = .ok (.iload 4, 2) := by decide +kernel
theorem dX0_ask_16 : decode cX0_ask 16 = .ok (.iconst 1, 1) := by decide +kernel
theorem dX0_ask_17 : decode cX0_ask 17 = .ok (.iadd, 1) := by decide +kernel
theorem dX0_ask_18 : decode cX0_ask 18 = .ok (.bipush 9, 2) := by decide +kernel
theorem dX0_ask_20 : decode cX0_ask 20 = .ok (.invokestatic 189, 3) := by decide +kernel
theorem dX0_ask_23 : decode cX0_ask 23 = .ok (.goto 11, 3) := by decide +kernel
theorem dX0_ask_26 : decode cX0_ask 26 = .ok (.iload 4, 2) := by decide +kernel
theorem dX0_ask_28 : decode cX0_ask 28 = .ok (.iconst 2, 1) := by decide +kernel
theorem dX0_ask_29 : decode cX0_ask 29 = .ok (.isub, 1) := by decide +kernel
theorem dX0_ask_30 : decode cX0_ask 30 = .ok (.iconst 0, 1) := by decide +kernel
theorem dX0_ask_31 : decode cX0_ask 31 = .ok (.invokestatic 194, 3) := by decide +kernel
theorem dX0_ask_34 : decode cX0_ask 34 = .ok (.istore 5, 2) := by decide +kernel
theorem dX0_ask_36 : decode cX0_ask 36 = .ok (.aload_n 0, 1) := by decide +kernel
theorem dX0_ask_37 : decode cX0_ask 37 = .ok (.getfield 60, 3) := by decide +kernel
theorem dX0_ask_40 : decode cX0_ask 40 = .ok (.iload_n 2, 1) := by decide +kernel
theorem dX0_ask_41 : decode cX0_ask 41 = .ok (.iload 5, 2) := by decide +kernel
theorem dX0_ask_43 : decode cX0_ask 43 = .ok (.invokevirtual 173, 3) := by decide +kernel
theorem dX0_ask_46 : decode cX0_ask 46 = .ok (.aload_n 0, 1) := by decide +kernel
theorem dX0_ask_47 : decode cX0_ask 47 = .ok (.getfield 57, 3) := by decide +kernel
theorem dX0_ask_50 : decode cX0_ask 50 = .ok (.iload_n 1, 1) := by decide +kernel
theorem dX0_ask_51 : decode cX0_ask 51 = .ok (.iload_n 2, 1) := by decide +kernel
theorem dX0_ask_52 : decode cX0_ask 52 = .ok (.invokestatic 180, 3) := by decide +kernel
theorem dX0_ask_55 : decode cX0_ask 55 = .ok (.iconst 1, 1) := by decide +kernel
theorem dX0_ask_56 : decode cX0_ask 56 = .ok (.invokevirtual 197, 3) := by decide +kernel
theorem dX0_ask_59 : decode cX0_ask 59 = .ok (.aload_n 0, 1) := by decide +kernel
theorem dX0_ask_60 : decode cX0_ask 60 = .ok (.dup, 1) := by decide +kernel
theorem dX0_ask_61 : decode cX0_ask 61 = .ok (.getfield 21, 3) := by decide +kernel
theorem dX0_ask_64 : decode cX0_ask 64 = .ok (.iconst 1, 1) := by decide +kernel
theorem dX0_ask_65 : decode cX0_ask 65 = .ok (.iadd, 1) := by decide +kernel
theorem dX0_ask_66 : decode cX0_ask 66 = .ok (.putfield 21, 3) := by decide +kernel
theorem dX0_ask_69 : decode cX0_ask 69 = .ok (.iload 5, 2) := by decide +kernel
theorem dX0_ask_71 : decode cX0_ask 71 = .ok (.ireturn, 1) := by decide +kernel
theorem dX0_judge_0 : decode cX0_judge 0 = .ok (.aload_n 0, 1) := by decide +kernel
theorem dX0_judge_1 : decode cX0_judge 1 = .ok (.iload_n 1, 1) := by decide +kernel
theorem dX0_judge_2 : decode cX0_judge 2 = .ok (.invokestatic 200, 3) := by decide +kernel
theorem dX0_judge_5 : decode cX0_judge 5 = .ok (.ifCond .le 7, 3) := by decide +kernel
theorem dX0_judge_8 : decode cX0_judge 8 = .ok (.iconst 1, 1) := by decide +kernel
theorem dX0_judge_9 : decode cX0_judge 9 = .ok (.goto 4, 3) := by decide +kernel
theorem dX0_judge_12 : decode cX0_judge 12 = .ok (.iconst 0, 1) := by decide +kernel
theorem dX0_judge_13 : decode cX0_judge 13 = .ok (.istore_n 2, 1) := by decide +kernel
theorem dX0_judge_14 : decode cX0_judge 14 = .ok (.iload_n 2, 1) := by decide +kernel
theorem dX0_judge_15 : decode cX0_judge 15 = .ok (.ifCond .eq 23, 3) := by decide +kernel
theorem dX0_judge_18 : decode cX0_judge 18 = .ok (.aload_n 0, 1) := by decide +kernel
theorem dX0_judge_19 : decode cX0_judge 19 = .ok (.getfield 63, 3) := by decide +kernel
theorem dX0_judge_22 : decode cX0_judge 22 = .ok (.aload_n 0, 1) := by decide +kernel
theorem dX0_judge_23 : decode cX0_judge 23 = .ok (.getfield 29, 3) := by decide +kernel
theorem dX0_judge_26 : decode cX0_judge 26 = .ok (.iload_n 1, 1) := by decide +kernel
theorem dX0_judge_27 : decode cX0_judge 27 = .ok (.invokevirtual 157, 3) := by decide +kernel
theorem dX0_judge_30 : decode cX0_judge 30 = .ok (.aload_n 0, 1) := by decide +kernel
theorem dX0_judge_31 : decode cX0_judge 31 = .ok (.iload_n 1, 1) := by decide +kernel
theorem dX0_judge_32 : decode cX0_judge 32 = .ok (.invokevirtual 206, 3) := by decide +kernel
theorem dX0_judge_35 : decode cX0_judge 35 = .ok (.invokevirtual 197, 3) := by decide +kernel
theorem dX0_judge_38 : decode cX0_judge 38 = .ok (.aload_n 0, 1) := by decide +kernel
theorem dX0_judge_39 : decode cX0_judge 39 = .ok (.getfield 39, 3) := by decide +kernel
theorem dX0_judge_42 : decode cX0_judge 42 = .ok (.iload_n 1, 1) := by decide +kernel
theorem dX0_judge_43 : decode cX0_judge 43 = .ok (.iload_n 2, 1) := by decide +kernel
theorem dX0_judge_44 : decode cX0_judge 44 = .ok (.ifCond .eq 7, 3) := by decide +kernel
theorem dX0_judge_47 : decode cX0_judge 47 = .ok (.iconst 1, 1) := by decide +kernel
theorem dX0_judge_48 : decode cX0_judge 48 = .ok (.goto 4, 3) := by decide +kernel
theorem dX0_judge_51 : decode cX0_judge 51 = .ok (.iconst 0, 1) := by decide +kernel
theorem dX0_judge_52 : decode cX0_judge 52 = .ok (.invokevirtual 173, 3) := by decide +kernel
theorem dX0_judge_55 : decode cX0_judge 55 = .ok (.aload_n 0, 1) := by decide +kernel
theorem dX0_judge_56 : decode cX0_judge 56 = .ok (.getfield 36, 3) := by decide +kernel
theorem dX0_judge_59 : decode cX0_judge 59 = .ok (.iload_n 1, 1) := by decide +kernel
theorem dX0_judge_60 : decode cX0_judge 60 = .ok (.aload_n 0, 1) := by decide +kernel
theorem dX0_judge_61 : decode cX0_judge 61 = .ok (.getfield 42, 3) := by decide +kernel
theorem dX0_judge_64 : decode cX0_judge 64 = .ok (.iload_n 1, 1) := by decide +kernel
theorem dX0_judge_65 : decode cX0_judge 65 = .ok (.invokevirtual 157, 3) := by decide +kernel
theorem dX0_judge_68 : decode cX0_judge 68 = .ok (.iconst 2, 1) := by decide +kernel
theorem dX0_judge_69 : decode cX0_judge 69 = .ok (.if_icmp .lt 7, 3) := by decide +kernel
theorem dX0_judge_72 : decode cX0_judge 72 = .ok (.iconst 2, 1) := by decide +kernel
theorem dX0_judge_73 : decode cX0_judge 73 = .ok (.goto 4, 3) := by decide +kernel
theorem dX0_judge_76 : decode cX0_judge 76 = .ok (.iconst 1, 1) := by decide +kernel
theorem dX0_judge_77 : decode cX0_judge 77 = .ok (.invokevirtual 173, 3) := by decide +kernel
theorem dX0_judge_80 : decode cX0_judge 80 = .ok (.aload_n 0, 1) := by decide +kernel
theorem dX0_judge_81 : decode cX0_judge 81 = .ok (.dup, 1) := by decide +kernel
theorem dX0_judge_82 : decode cX0_judge 82 = .ok (.getfield 18, 3) := by decide +kernel
theorem dX0_judge_85 : decode cX0_judge 85 = .ok (.iconst 1, 1) := by decide +kernel
theorem dX0_judge_86 : decode cX0_judge 86 = .ok (.iadd, 1) := by decide +kernel
theorem dX0_judge_87 : decode cX0_judge 87 = .ok (.putfield 18, 3) := by decide +kernel
theorem dX0_judge_90 : decode cX0_judge 90 = .ok (.iload_n 2, 1) := by decide +kernel
theorem dX0_judge_91 : decode cX0_judge 91 = .ok (.ifCond .eq 7, 3) := by decide +kernel
theorem dX0_judge_94 : decode cX0_judge 94 = .ok (.iconst 1, 1) := by decide +kernel
theorem dX0_judge_95 : decode cX0_judge 95 = .ok (.goto 4, 3) := by decide +kernel
theorem dX0_judge_98 : decode cX0_judge 98 = .ok (.iconst 0, 1) := by decide +kernel
theorem dX0_judge_99 : decode cX0_judge 99 = .ok (.ireturn, 1) := by decide +kernel
theorem dX0_reopen_0 : decode cX0_reopen 0 = .ok (.aload_n 0, 1) := by decide +kernel
theorem dX0_reopen_1 : decode cX0_reopen 1 = .ok (.iload_n 1, 1) := by decide +kernel
theorem dX0_reopen_2 : decode cX0_reopen 2 = .ok (.invokevirtual 209, 3) := by decide +kernel
theorem dX0_reopen_5 : decode cX0_reopen 5 = .ok (.ifCond .eq 24, 3) := by decide +kernel
theorem dX0_reopen_8 : decode cX0_reopen 8 = .ok (.aload_n 0, 1) := by decide +kernel
theorem dX0_reopen_9 : decode cX0_reopen 9 = .ok (.getfield 63, 3) := by decide +kernel
theorem dX0_reopen_12 : decode cX0_reopen 12 = .ok (.aload_n 0, 1) := by decide +kernel
theorem dX0_reopen_13 : decode cX0_reopen 13 = .ok (.getfield 29, 3) := by decide +kernel
theorem dX0_reopen_16 : decode cX0_reopen 16 = .ok (.iload_n 1, 1) := by decide +kernel
theorem dX0_reopen_17 : decode cX0_reopen 17 = .ok (.invokevirtual 157, 3) := by decide +kernel
theorem dX0_reopen_20 : decode cX0_reopen 20 = .ok (.aload_n 0, 1) := by decide +kernel
theorem dX0_reopen_21 : decode cX0_reopen 21 = .ok (.iload_n 1, 1) := by decide +kernel
theorem dX0_reopen_22 : decode cX0_reopen 22 = .ok (.invokevirtual 206, 3) := by decide +kernel
theorem dX0_reopen_25 : decode cX0_reopen 25 = .ok (.ineg, 1) := by decide +kernel
theorem dX0_reopen_26 : decode cX0_reopen 26 = .ok (.invokevirtual 197, 3) := by decide +kernel
theorem dX0_reopen_29 : decode cX0_reopen 29 = .ok (.aload_n 0, 1) := by decide +kernel
theorem dX0_reopen_30 : decode cX0_reopen 30 = .ok (.getfield 39, 3) := by decide +kernel
theorem dX0_reopen_33 : decode cX0_reopen 33 = .ok (.iload_n 1, 1) := by decide +kernel
theorem dX0_reopen_34 : decode cX0_reopen 34 = .ok (.iconst 0, 1) := by decide +kernel
theorem dX0_reopen_35 : decode cX0_reopen 35 = .ok (.invokevirtual 173, 3) := by decide +kernel
theorem dX0_reopen_38 : decode cX0_reopen 38 = .ok (.aload_n 0, 1) := by decide +kernel
theorem dX0_reopen_39 : decode cX0_reopen 39 = .ok (.getfield 36, 3) := by decide +kernel
theorem dX0_reopen_42 : decode cX0_reopen 42 = .ok (.iload_n 1, 1) := by decide +kernel
theorem dX0_reopen_43 : decode cX0_reopen 43 = .ok (.iconst 0, 1) := by decide +kernel
theorem dX0_reopen_44 : decode cX0_reopen 44 = .ok (.invokevirtual 173, 3) := by decide +kernel
theorem dX0_reopen_47 : decode cX0_reopen 47 = .ok (.aload_n 0, 1) := by decide +kernel
theorem dX0_reopen_48 : decode cX0_reopen 48 = .ok (.getfield 42, 3) := by decide +kernel
theorem dX0_reopen_51 : decode cX0_reopen 51 = .ok (.iload_n 1, 1) := by decide +kernel
theorem dX0_reopen_52 : decode cX0_reopen 52 = .ok (.iconst 1, 1) := by decide +kernel
theorem dX0_reopen_53 : decode cX0_reopen 53 = .ok (.invokevirtual 197, 3) := by decide +kernel
theorem dX0_reopen_56 : decode cX0_reopen 56 = .ok (.aload_n 0, 1) := by decide +kernel
theorem dX0_reopen_57 : decode cX0_reopen 57 = .ok (.getfield 42, 3) := by decide +kernel
theorem dX0_reopen_60 : decode cX0_reopen 60 = .ok (.iload_n 1, 1) := by decide +kernel
theorem dX0_reopen_61 : decode cX0_reopen 61 = .ok (.invokevirtual 157, 3) := by decide +kernel
theorem dX0_reopen_64 : decode cX0_reopen 64 = .ok (.ireturn, 1) := by decide +kernel
theorem dX0_finish_0 : decode cX0_finish 0 = .ok (.aload_n 0, 1) := by decide +kernel
theorem dX0_finish_1 : decode cX0_finish 1 = .ok (.getfield 36, 3) := by decide +kernel
theorem dX0_finish_4 : decode cX0_finish 4 = .ok (.iload_n 1, 1) := by decide +kernel
theorem dX0_finish_5 : decode cX0_finish 5 = .ok (.iconst 2, 1) := by decide +kernel
theorem dX0_finish_6 : decode cX0_finish 6 = .ok (.invokevirtual 173, 3) := by decide +kernel
theorem dX0_finish_9 : decode cX0_finish 9 = .ok (.aload_n 0, 1) := by decide +kernel
theorem dX0_finish_10 : decode cX0_finish 10 = .ok (.iconst 2, 1) := by decide +kernel
theorem dX0_finish_11 : decode cX0_finish 11 = .ok (.invokevirtual 212, 3) := by decide +kernel
theorem dX0_finish_14 : decode cX0_finish 14 = .ok (.ireturn, 1) := by decide +kernel
theorem dX0_hasCase_0 : decode cX0_hasCase 0 = .ok (.iload_n 1, 1) := by decide +kernel
theorem dX0_hasCase_1 : decode cX0_hasCase 1 = .ok (.ifCond .lt 15, 3) := by decide +kernel
theorem dX0_hasCase_4 : decode cX0_hasCase 4 = .ok (.iload_n 1, 1) := by decide +kernel
theorem dX0_hasCase_5 : decode cX0_hasCase 5 = .ok (.aload_n 0, 1) := by decide +kernel
theorem dX0_hasCase_6 : decode cX0_hasCase 6 = .ok (.getfield 9, 3) := by decide +kernel
theorem dX0_hasCase_9 : decode cX0_hasCase 9 = .ok (.if_icmp .ge 7, 3) := by decide +kernel
theorem dX0_hasCase_12 : decode cX0_hasCase 12 = .ok (.iconst 1, 1) := by decide +kernel
theorem dX0_hasCase_13 : decode cX0_hasCase 13 = .ok (.goto 4, 3) := by decide +kernel
theorem dX0_hasCase_16 : decode cX0_hasCase 16 = .ok (.iconst 0, 1) := by decide +kernel
theorem dX0_hasCase_17 : decode cX0_hasCase 17 = .ok (.ireturn, 1) := by decide +kernel
theorem dX0_hasWitness_0 : decode cX0_hasWitness 0 = .ok (.iload_n 1, 1) := by decide +kernel
theorem dX0_hasWitness_1 : decode cX0_hasWitness 1 = .ok (.ifCond .lt 15, 3) := by decide +kernel
theorem dX0_hasWitness_4 : decode cX0_hasWitness 4 = .ok (.iload_n 1, 1) := by decide +kernel
theorem dX0_hasWitness_5 : decode cX0_hasWitness 5 = .ok (.aload_n 0, 1) := by decide +kernel
theorem dX0_hasWitness_6 : decode cX0_hasWitness 6 = .ok (.getfield 15, 3) := by decide +kernel
theorem dX0_hasWitness_9 : decode cX0_hasWitness 9 = .ok (.if_icmp .ge 7, 3) := by decide +kernel
theorem dX0_hasWitness_12 : decode cX0_hasWitness 12 = .ok (.iconst 1, 1) := by decide +kernel
theorem dX0_hasWitness_13 : decode cX0_hasWitness 13 = .ok (.goto 4, 3) := by decide +kernel
theorem dX0_hasWitness_16 : decode cX0_hasWitness 16 = .ok (.iconst 0, 1) := by decide +kernel
theorem dX0_hasWitness_17 : decode cX0_hasWitness 17 = .ok (.ireturn, 1) := by decide +kernel
theorem dX0_isIn_0 : decode cX0_isIn 0 = .ok (.aload_n 0, 1) := by decide +kernel
theorem dX0_isIn_1 : decode cX0_isIn 1 = .ok (.getfield 36, 3) := by decide +kernel
theorem dX0_isIn_4 : decode cX0_isIn 4 = .ok (.iload_n 2, 1) := by decide +kernel
theorem dX0_isIn_5 : decode cX0_isIn 5 = .ok (.invokevirtual 157, 3) := by decide +kernel
theorem dX0_isIn_8 : decode cX0_isIn 8 = .ok (.iload_n 1, 1) := by decide +kernel
theorem dX0_isIn_9 : decode cX0_isIn 9 = .ok (.if_icmp .ne 7, 3) := by decide +kernel
theorem dX0_isIn_12 : decode cX0_isIn 12 = .ok (.iconst 1, 1) := by decide +kernel
theorem dX0_isIn_13 : decode cX0_isIn 13 = .ok (.goto 4, 3) := by decide +kernel
theorem dX0_isIn_16 : decode cX0_isIn 16 = .ok (.iconst 0, 1) := by decide +kernel
theorem dX0_isIn_17 : decode cX0_isIn 17 = .ok (.ireturn, 1) := by decide +kernel
theorem dX0_isFoundGuilty_0 : decode cX0_isFoundGuilty 0 = .ok (.aload_n 0, 1) := by decide +kernel
theorem dX0_isFoundGuilty_1 : decode cX0_isFoundGuilty 1 = .ok (.getfield 39, 3) := by decide +kernel
theorem dX0_isFoundGuilty_4 : decode cX0_isFoundGuilty 4 = .ok (.iload_n 1, 1) := by decide +kernel
theorem dX0_isFoundGuilty_5 : decode cX0_isFoundGuilty 5 = .ok (.invokevirtual 157, 3) := by decide +kernel
theorem dX0_isFoundGuilty_8 : decode cX0_isFoundGuilty 8 = .ok (.ifCond .eq 7, 3) := by decide +kernel
theorem dX0_isFoundGuilty_11 : decode cX0_isFoundGuilty 11 = .ok (.iconst 1, 1) := by decide +kernel
theorem dX0_isFoundGuilty_12 : decode cX0_isFoundGuilty 12 = .ok (.goto 4, 3) := by decide +kernel
theorem dX0_isFoundGuilty_15 : decode cX0_isFoundGuilty 15 = .ok (.iconst 0, 1) := by decide +kernel
theorem dX0_isFoundGuilty_16 : decode cX0_isFoundGuilty 16 = .ok (.ireturn, 1) := by decide +kernel
theorem dX0_severityIn_0 : decode cX0_severityIn 0 = .ok (.aload_n 0, 1) := by decide +kernel
theorem dX0_severityIn_1 : decode cX0_severityIn 1 = .ok (.getfield 33, 3) := by decide +kernel
theorem dX0_severityIn_4 : decode cX0_severityIn 4 = .ok (.iload_n 1, 1) := by decide +kernel
theorem dX0_severityIn_5 : decode cX0_severityIn 5 = .ok (.invokevirtual 157, 3) := by decide +kernel
theorem dX0_severityIn_8 : decode cX0_severityIn 8 = .ok (.iconst 1, 1) := by decide +kernel
theorem dX0_severityIn_9 : decode cX0_severityIn 9 = .ok (.iadd, 1) := by decide +kernel
theorem dX0_severityIn_10 : decode cX0_severityIn 10 = .ok (.ireturn, 1) := by decide +kernel
theorem dX0_caseAgainst_0 : decode cX0_caseAgainst 0 = .ok (.iconst 0, 1) := by decide +kernel
theorem dX0_caseAgainst_1 : decode cX0_caseAgainst 1 = .ok (.istore_n 3, 1) := by decide +kernel
theorem dX0_caseAgainst_2 : decode cX0_caseAgainst 2 = .ok (.iload_n 3, 1) := by decide +kernel
theorem dX0_caseAgainst_3 : decode cX0_caseAgainst 3 = .ok (.aload_n 0, 1) := by decide +kernel
theorem dX0_caseAgainst_4 : decode cX0_caseAgainst 4 = .ok (.getfield 9, 3) := by decide +kernel
theorem dX0_caseAgainst_7 : decode cX0_caseAgainst 7 = .ok (.if_icmp .ge 35, 3) := by decide +kernel
theorem dX0_caseAgainst_10 : decode cX0_caseAgainst 10 = .ok (.aload_n 0, 1) := by decide +kernel
theorem dX0_caseAgainst_11 : decode cX0_caseAgainst 11 = .ok (.getfield 29, 3) := by decide +kernel
theorem dX0_caseAgainst_14 : decode cX0_caseAgainst 14 = .ok (.iload_n 3, 1) := by decide +kernel
theorem dX0_caseAgainst_15 : decode cX0_caseAgainst 15 = .ok (.invokevirtual 157, 3) := by decide +kernel
theorem dX0_caseAgainst_18 : decode cX0_caseAgainst 18 = .ok (.iload_n 1, 1) := by decide +kernel
theorem dX0_caseAgainst_19 : decode cX0_caseAgainst 19 = .ok (.if_icmp .ne 17, 3) := by decide +kernel
theorem dX0_caseAgainst_22 : decode cX0_caseAgainst 22 = .ok (.aload_n 0, 1) := by decide +kernel
theorem dX0_caseAgainst_23 : decode cX0_caseAgainst 23 = .ok (.getfield 33, 3) := by decide +kernel
theorem dX0_caseAgainst_26 : decode cX0_caseAgainst 26 = .ok (.iload_n 3, 1) := by decide +kernel
theorem dX0_caseAgainst_27 : decode cX0_caseAgainst 27 = .ok (.invokevirtual 157, 3) := by decide +kernel
theorem dX0_caseAgainst_30 : decode cX0_caseAgainst 30 = .ok (.iload_n 2, 1) := by decide +kernel
theorem dX0_caseAgainst_31 : decode cX0_caseAgainst 31 = .ok (.if_icmp .ne 5, 3) := by decide +kernel
theorem dX0_caseAgainst_34 : decode cX0_caseAgainst 34 = .ok (.iload_n 3, 1) := by decide +kernel
theorem dX0_caseAgainst_35 : decode cX0_caseAgainst 35 = .ok (.ireturn, 1) := by decide +kernel
theorem dX0_caseAgainst_36 : decode cX0_caseAgainst 36 = .ok (.iinc 3 1, 3) := by decide +kernel
theorem dX0_caseAgainst_39 : decode cX0_caseAgainst 39 = .ok (.goto (-37), 3) := by decide +kernel
theorem dX0_caseAgainst_42 : decode cX0_caseAgainst 42 = .ok (.iconst (-1), 1) := by decide +kernel
theorem dX0_caseAgainst_43 : decode cX0_caseAgainst 43 = .ok (.ireturn, 1) := by decide +kernel
theorem dX0_cellOf_0 : decode cX0_cellOf 0 = .ok (.iload_n 0, 1) := by decide +kernel
theorem dX0_cellOf_1 : decode cX0_cellOf 1 = .ok (.bipush 8, 2) := by decide +kernel
theorem dX0_cellOf_3 : decode cX0_cellOf 3 = .ok (.imul, 1) := by decide +kernel
theorem dX0_cellOf_4 : decode cX0_cellOf 4 = .ok (.iload_n 1, 1) := by decide +kernel
theorem dX0_cellOf_5 : decode cX0_cellOf 5 = .ok (.iadd, 1) := by decide +kernel
theorem dX0_cellOf_6 : decode cX0_cellOf 6 = .ok (.ireturn, 1) := by decide +kernel
theorem dX0_hasHeard_0 : decode cX0_hasHeard 0 = .ok (.aload_n 0, 1) := by decide +kernel
theorem dX0_hasHeard_1 : decode cX0_hasHeard 1 = .ok (.getfield 54, 3) := by decide +kernel
theorem dX0_hasHeard_4 : decode cX0_hasHeard 4 = .ok (.iload_n 1, 1) := by decide +kernel
theorem dX0_hasHeard_5 : decode cX0_hasHeard 5 = .ok (.iload_n 2, 1) := by decide +kernel
theorem dX0_hasHeard_6 : decode cX0_hasHeard 6 = .ok (.invokestatic 180, 3) := by decide +kernel
theorem dX0_hasHeard_9 : decode cX0_hasHeard 9 = .ok (.invokevirtual 157, 3) := by decide +kernel
theorem dX0_hasHeard_12 : decode cX0_hasHeard 12 = .ok (.ifCond .le 7, 3) := by decide +kernel
theorem dX0_hasHeard_15 : decode cX0_hasHeard 15 = .ok (.iconst 1, 1) := by decide +kernel
theorem dX0_hasHeard_16 : decode cX0_hasHeard 16 = .ok (.goto 4, 3) := by decide +kernel
theorem dX0_hasHeard_19 : decode cX0_hasHeard 19 = .ok (.iconst 0, 1) := by decide +kernel
theorem dX0_hasHeard_20 : decode cX0_hasHeard 20 = .ok (.ireturn, 1) := by decide +kernel
theorem dX0_witnessHeardAt_0 : decode cX0_witnessHeardAt 0 = .ok (.aload_n 0, 1) := by decide +kernel
theorem dX0_witnessHeardAt_1 : decode cX0_witnessHeardAt 1 = .ok (.getfield 48, 3) := by decide +kernel
theorem dX0_witnessHeardAt_4 : decode cX0_witnessHeardAt 4 = .ok (.iload_n 1, 1) := by decide +kernel
theorem dX0_witnessHeardAt_5 : decode cX0_witnessHeardAt 5 = .ok (.bipush 6, 2) := by decide +kernel
theorem dX0_witnessHeardAt_7 : decode cX0_witnessHeardAt 7 = .ok (.imul, 1) := by decide +kernel
theorem dX0_witnessHeardAt_8 : decode cX0_witnessHeardAt 8 = .ok (.iload_n 2, 1) := by decide +kernel
theorem dX0_witnessHeardAt_9 : decode cX0_witnessHeardAt 9 = .ok (.iadd, 1) := by decide +kernel
theorem dX0_witnessHeardAt_10 : decode cX0_witnessHeardAt 10 = .ok (.invokevirtual 157, 3) := by decide +kernel
theorem dX0_witnessHeardAt_13 : decode cX0_witnessHeardAt 13 = .ok (.ireturn, 1) := by decide +kernel
theorem dX0_sideOf_0 : decode cX0_sideOf 0 = .ok (.aload_n 0, 1) := by decide +kernel
theorem dX0_sideOf_1 : decode cX0_sideOf 1 = .ok (.getfield 51, 3) := by decide +kernel
theorem dX0_sideOf_4 : decode cX0_sideOf 4 = .ok (.iload_n 1, 1) := by decide +kernel
theorem dX0_sideOf_5 : decode cX0_sideOf 5 = .ok (.iload_n 2, 1) := by decide +kernel
theorem dX0_sideOf_6 : decode cX0_sideOf 6 = .ok (.invokestatic 180, 3) := by decide +kernel
theorem dX0_sideOf_9 : decode cX0_sideOf 9 = .ok (.invokevirtual 157, 3) := by decide +kernel
theorem dX0_sideOf_12 : decode cX0_sideOf 12 = .ok (.ireturn, 1) := by decide +kernel
theorem dX0_strengthOf_0 : decode cX0_strengthOf 0 = .ok (.aload_n 0, 1) := by decide +kernel
theorem dX0_strengthOf_1 : decode cX0_strengthOf 1 = .ok (.getfield 54, 3) := by decide +kernel
theorem dX0_strengthOf_4 : decode cX0_strengthOf 4 = .ok (.iload_n 1, 1) := by decide +kernel
theorem dX0_strengthOf_5 : decode cX0_strengthOf 5 = .ok (.iload_n 2, 1) := by decide +kernel
theorem dX0_strengthOf_6 : decode cX0_strengthOf 6 = .ok (.invokestatic 180, 3) := by decide +kernel
theorem dX0_strengthOf_9 : decode cX0_strengthOf 9 = .ok (.invokevirtual 157, 3) := by decide +kernel
theorem dX0_strengthOf_12 : decode cX0_strengthOf 12 = .ok (.ireturn, 1) := by decide +kernel
theorem dX0_weightOf_0 : decode cX0_weightOf 0 = .ok (.aload_n 0, 1) := by decide +kernel
theorem dX0_weightOf_1 : decode cX0_weightOf 1 = .ok (.getfield 54, 3) := by decide +kernel
theorem dX0_weightOf_4 : decode cX0_weightOf 4 = .ok (.iload_n 1, 1) := by decide +kernel
theorem dX0_weightOf_5 : decode cX0_weightOf 5 = .ok (.iload_n 2, 1) := by decide +kernel
theorem dX0_weightOf_6 : decode cX0_weightOf 6 = .ok (.invokestatic 180, 3) := by decide +kernel
theorem dX0_weightOf_9 : decode cX0_weightOf 9 = .ok (.invokevirtual 157, 3) := by decide +kernel
theorem dX0_weightOf_12 : decode cX0_weightOf 12 = .ok (.aload_n 0, 1) := by decide +kernel
theorem dX0_weightOf_13 : decode cX0_weightOf 13 = .ok (.getfield 60, 3) := by decide +kernel
theorem dX0_weightOf_16 : decode cX0_weightOf 16 = .ok (.iload_n 2, 1) := by decide +kernel
theorem dX0_weightOf_17 : decode cX0_weightOf 17 = .ok (.invokevirtual 157, 3) := by decide +kernel
theorem dX0_weightOf_20 : decode cX0_weightOf 20 = .ok (.imul, 1) := by decide +kernel
theorem dX0_weightOf_21 : decode cX0_weightOf 21 = .ok (.ireturn, 1) := by decide +kernel
theorem dX0_questionsTo_0 : decode cX0_questionsTo 0 = .ok (.aload_n 0, 1) := by decide +kernel
theorem dX0_questionsTo_1 : decode cX0_questionsTo 1 = .ok (.getfield 57, 3) := by decide +kernel
theorem dX0_questionsTo_4 : decode cX0_questionsTo 4 = .ok (.iload_n 1, 1) := by decide +kernel
theorem dX0_questionsTo_5 : decode cX0_questionsTo 5 = .ok (.iload_n 2, 1) := by decide +kernel
theorem dX0_questionsTo_6 : decode cX0_questionsTo 6 = .ok (.invokestatic 180, 3) := by decide +kernel
theorem dX0_questionsTo_9 : decode cX0_questionsTo 9 = .ok (.invokevirtual 157, 3) := by decide +kernel
theorem dX0_questionsTo_12 : decode cX0_questionsTo 12 = .ok (.ireturn, 1) := by decide +kernel
theorem dX0_casesHearing_0 : decode cX0_casesHearing 0 = .ok (.iconst 0, 1) := by decide +kernel
theorem dX0_casesHearing_1 : decode cX0_casesHearing 1 = .ok (.istore_n 2, 1) := by decide +kernel
theorem dX0_casesHearing_2 : decode cX0_casesHearing 2 = .ok (.iconst 0, 1) := by decide +kernel
theorem dX0_casesHearing_3 : decode cX0_casesHearing 3 = .ok (.istore_n 3, 1) := by decide +kernel
theorem dX0_casesHearing_4 : decode cX0_casesHearing 4 = .ok (.iload_n 3, 1) := by decide +kernel
theorem dX0_casesHearing_5 : decode cX0_casesHearing 5 = .ok (.aload_n 0, 1) := by decide +kernel
theorem dX0_casesHearing_6 : decode cX0_casesHearing 6 = .ok (.getfield 9, 3) := by decide +kernel
theorem dX0_casesHearing_9 : decode cX0_casesHearing 9 = .ok (.if_icmp .ge 21, 3) := by decide +kernel
theorem dX0_casesHearing_12 : decode cX0_casesHearing 12 = .ok (.aload_n 0, 1) := by decide +kernel
theorem dX0_casesHearing_13 : decode cX0_casesHearing 13 = .ok (.iload_n 3, 1) := by decide +kernel
theorem dX0_casesHearing_14 : decode cX0_casesHearing 14 = .ok (.iload_n 1, 1) := by decide +kernel
theorem dX0_casesHearing_15 : decode cX0_casesHearing 15 = .ok (.invokevirtual 164, 3) := by decide +kernel
theorem dX0_casesHearing_18 : decode cX0_casesHearing 18 = .ok (.ifCond .eq 6, 3) := by decide +kernel
theorem dX0_casesHearing_21 : decode cX0_casesHearing 21 = .ok (.iinc 2 1, 3) := by decide +kernel
theorem dX0_casesHearing_24 : decode cX0_casesHearing 24 = .ok (.iinc 3 1, 3) := by decide +kernel
theorem dX0_casesHearing_27 : decode cX0_casesHearing 27 = .ok (.goto (-23), 3) := by decide +kernel
theorem dX0_casesHearing_30 : decode cX0_casesHearing 30 = .ok (.iload_n 2, 1) := by decide +kernel
theorem dX0_casesHearing_31 : decode cX0_casesHearing 31 = .ok (.ireturn, 1) := by decide +kernel
theorem dX0_agreementOf_0 : decode cX0_agreementOf 0 = .ok (.iconst 0, 1) := by decide +kernel
theorem dX0_agreementOf_1 : decode cX0_agreementOf 1 = .ok (.istore_n 3, 1) := by decide +kernel
theorem dX0_agreementOf_2 : decode cX0_agreementOf 2 = .ok (.iconst 0, 1) := by decide +kernel
theorem dX0_agreementOf_3 : decode cX0_agreementOf 3 = .ok (.istore 4, 2) := by decide +kernel
theorem dX0_agreementOf_5 : decode cX0_agreementOf 5 = .ok (.iload 4, 2) := by decide +kernel
theorem dX0_agreementOf_7 : decode cX0_agreementOf 7 = .ok (.aload_n 0, 1) := by decide +kernel
theorem dX0_agreementOf_8 : decode cX0_agreementOf 8 = .ok (.getfield 9, 3) := by decide +kernel
theorem dX0_agreementOf_11 : decode cX0_agreementOf 11 = .ok (.if_icmp .ge 27, 3) := by decide +kernel
theorem dX0_agreementOf_14 : decode cX0_agreementOf 14 = .ok (.iload_n 3, 1) := by decide +kernel
theorem dX0_agreementOf_15 : decode cX0_agreementOf 15 = .ok (.aload_n 0, 1) := by decide +kernel
theorem dX0_agreementOf_16 : decode cX0_agreementOf 16 = .ok (.iload 4, 2) := by decide +kernel
theorem dX0_agreementOf_18 : decode cX0_agreementOf 18 = .ok (.iload_n 1, 1) := by decide +kernel
theorem dX0_agreementOf_19 : decode cX0_agreementOf 19 = .ok (.invokevirtual 215, 3) := by decide +kernel
theorem dX0_agreementOf_22 : decode cX0_agreementOf 22 = .ok (.aload_n 0, 1) := by decide +kernel
theorem dX0_agreementOf_23 : decode cX0_agreementOf 23 = .ok (.iload 4, 2) := by decide +kernel
theorem dX0_agreementOf_25 : decode cX0_agreementOf 25 = .ok (.iload_n 2, 1) := by decide +kernel
theorem dX0_agreementOf_26 : decode cX0_agreementOf 26 = .ok (.invokevirtual 215, 3) := by decide +kernel
theorem dX0_agreementOf_29 : decode cX0_agreementOf 29 = .ok (.imul, 1) := by decide +kernel
theorem dX0_agreementOf_30 : decode cX0_agreementOf 30 = .ok (.iadd, 1) := by decide +kernel
theorem dX0_agreementOf_31 : decode cX0_agreementOf 31 = .ok (.istore_n 3, 1) := by decide +kernel
theorem dX0_agreementOf_32 : decode cX0_agreementOf 32 = .ok (.iinc 4 1, 3) := by decide +kernel
theorem dX0_agreementOf_35 : decode cX0_agreementOf 35 = .ok (.goto (-30), 3) := by decide +kernel
theorem dX0_agreementOf_38 : decode cX0_agreementOf 38 = .ok (.iload_n 3, 1) := by decide +kernel
theorem dX0_agreementOf_39 : decode cX0_agreementOf 39 = .ok (.ireturn, 1) := by decide +kernel
theorem dX0_witnessOfRank_0 : decode cX0_witnessOfRank 0 = .ok (.iconst 0, 1) := by decide +kernel
theorem dX0_witnessOfRank_1 : decode cX0_witnessOfRank 1 = .ok (.istore_n 2, 1) := by decide +kernel
theorem dX0_witnessOfRank_2 : decode cX0_witnessOfRank 2 = .ok (.iload_n 2, 1) := by decide +kernel
theorem dX0_witnessOfRank_3 : decode cX0_witnessOfRank 3 = .ok (.aload_n 0, 1) := by decide +kernel
theorem dX0_witnessOfRank_4 : decode cX0_witnessOfRank 4 = .ok (.getfield 15, 3) := by decide +kernel
theorem dX0_witnessOfRank_7 : decode cX0_witnessOfRank 7 = .ok (.if_icmp .ge 20, 3) := by decide +kernel
theorem dX0_witnessOfRank_10 : decode cX0_witnessOfRank 10 = .ok (.aload_n 0, 1) := by decide +kernel
theorem dX0_witnessOfRank_11 : decode cX0_witnessOfRank 11 = .ok (.iload_n 2, 1) := by decide +kernel
theorem dX0_witnessOfRank_12 : decode cX0_witnessOfRank 12 = .ok (.invokevirtual 218, 3) := by decide +kernel
theorem dX0_witnessOfRank_15 : decode cX0_witnessOfRank 15 = .ok (.iload_n 1, 1) := by decide +kernel
theorem dX0_witnessOfRank_16 : decode cX0_witnessOfRank 16 = .ok (.if_icmp .ne 5, 3) := by decide +kernel
theorem dX0_witnessOfRank_19 : decode cX0_witnessOfRank 19 = .ok (.iload_n 2, 1) := by decide +kernel
theorem dX0_witnessOfRank_20 : decode cX0_witnessOfRank 20 = .ok (.ireturn, 1) := by decide +kernel
theorem dX0_witnessOfRank_21 : decode cX0_witnessOfRank 21 = .ok (.iinc 2 1, 3) := by decide +kernel
theorem dX0_witnessOfRank_24 : decode cX0_witnessOfRank 24 = .ok (.goto (-22), 3) := by decide +kernel
theorem dX0_witnessOfRank_27 : decode cX0_witnessOfRank 27 = .ok (.iconst (-1), 1) := by decide +kernel
theorem dX0_witnessOfRank_28 : decode cX0_witnessOfRank 28 = .ok (.ireturn, 1) := by decide +kernel
theorem dX0_rankOf_0 : decode cX0_rankOf 0 = .ok (.iconst 0, 1) := by decide +kernel
theorem dX0_rankOf_1 : decode cX0_rankOf 1 = .ok (.istore_n 2, 1) := by decide +kernel
theorem dX0_rankOf_2 : decode cX0_rankOf 2 = .ok (.iconst 0, 1) := by decide +kernel
theorem dX0_rankOf_3 : decode cX0_rankOf 3 = .ok (.istore_n 3, 1) := by decide +kernel
theorem dX0_rankOf_4 : decode cX0_rankOf 4 = .ok (.iload_n 3, 1) := by decide +kernel
theorem dX0_rankOf_5 : decode cX0_rankOf 5 = .ok (.aload_n 0, 1) := by decide +kernel
theorem dX0_rankOf_6 : decode cX0_rankOf 6 = .ok (.getfield 15, 3) := by decide +kernel
theorem dX0_rankOf_9 : decode cX0_rankOf 9 = .ok (.if_icmp .ge 21, 3) := by decide +kernel
theorem dX0_rankOf_12 : decode cX0_rankOf 12 = .ok (.aload_n 0, 1) := by decide +kernel
theorem dX0_rankOf_13 : decode cX0_rankOf 13 = .ok (.iload_n 3, 1) := by decide +kernel
theorem dX0_rankOf_14 : decode cX0_rankOf 14 = .ok (.iload_n 1, 1) := by decide +kernel
theorem dX0_rankOf_15 : decode cX0_rankOf 15 = .ok (.invokevirtual 221, 3) := by decide +kernel
theorem dX0_rankOf_18 : decode cX0_rankOf 18 = .ok (.ifCond .eq 6, 3) := by decide +kernel
theorem dX0_rankOf_21 : decode cX0_rankOf 21 = .ok (.iinc 2 1, 3) := by decide +kernel
theorem dX0_rankOf_24 : decode cX0_rankOf 24 = .ok (.iinc 3 1, 3) := by decide +kernel
theorem dX0_rankOf_27 : decode cX0_rankOf 27 = .ok (.goto (-23), 3) := by decide +kernel
theorem dX0_rankOf_30 : decode cX0_rankOf 30 = .ok (.iload_n 2, 1) := by decide +kernel
theorem dX0_rankOf_31 : decode cX0_rankOf 31 = .ok (.ireturn, 1) := by decide +kernel
theorem dX0_isMoreCredible_0 : decode cX0_isMoreCredible 0 = .ok (.aload_n 0, 1) := by decide +kernel
theorem dX0_isMoreCredible_1 : decode cX0_isMoreCredible 1 = .ok (.getfield 60, 3) := by decide +kernel
theorem dX0_isMoreCredible_4 : decode cX0_isMoreCredible 4 = .ok (.iload_n 1, 1) := by decide +kernel
theorem dX0_isMoreCredible_5 : decode cX0_isMoreCredible 5 = .ok (.invokevirtual 157, 3) := by decide +kernel
theorem dX0_isMoreCredible_8 : decode cX0_isMoreCredible 8 = .ok (.aload_n 0, 1) := by decide +kernel
theorem dX0_isMoreCredible_9 : decode cX0_isMoreCredible 9 = .ok (.getfield 60, 3) := by decide +kernel
theorem dX0_isMoreCredible_12 : decode cX0_isMoreCredible 12 = .ok (.iload_n 2, 1) := by decide +kernel
theorem dX0_isMoreCredible_13 : decode cX0_isMoreCredible 13 = .ok (.invokevirtual 157, 3) := by decide +kernel
theorem dX0_isMoreCredible_16 : decode cX0_isMoreCredible 16 = .ok (.if_icmp .eq 28, 3) := by decide +kernel
theorem dX0_isMoreCredible_19 : decode cX0_isMoreCredible 19 = .ok (.aload_n 0, 1) := by decide +kernel
theorem dX0_isMoreCredible_20 : decode cX0_isMoreCredible 20 = .ok (.getfield 60, 3) := by decide +kernel
theorem dX0_isMoreCredible_23 : decode cX0_isMoreCredible 23 = .ok (.iload_n 1, 1) := by decide +kernel
theorem dX0_isMoreCredible_24 : decode cX0_isMoreCredible 24 = .ok (.invokevirtual 157, 3) := by decide +kernel
theorem dX0_isMoreCredible_27 : decode cX0_isMoreCredible 27 = .ok (.aload_n 0, 1) := by decide +kernel
theorem dX0_isMoreCredible_28 : decode cX0_isMoreCredible 28 = .ok (.getfield 60, 3) := by decide +kernel
theorem dX0_isMoreCredible_31 : decode cX0_isMoreCredible 31 = .ok (.iload_n 2, 1) := by decide +kernel
theorem dX0_isMoreCredible_32 : decode cX0_isMoreCredible 32 = .ok (.invokevirtual 157, 3) := by decide +kernel
theorem dX0_isMoreCredible_35 : decode cX0_isMoreCredible 35 = .ok (.if_icmp .le 7, 3) := by decide +kernel
theorem dX0_isMoreCredible_38 : decode cX0_isMoreCredible 38 = .ok (.iconst 1, 1) := by decide +kernel
theorem dX0_isMoreCredible_39 : decode cX0_isMoreCredible 39 = .ok (.goto 4, 3) := by decide +kernel
theorem dX0_isMoreCredible_42 : decode cX0_isMoreCredible 42 = .ok (.iconst 0, 1) := by decide +kernel
theorem dX0_isMoreCredible_43 : decode cX0_isMoreCredible 43 = .ok (.ireturn, 1) := by decide +kernel
theorem dX0_isMoreCredible_44 : decode cX0_isMoreCredible 44 = .ok (.aload_n 0, 1) := by decide +kernel
theorem dX0_isMoreCredible_45 : decode cX0_isMoreCredible 45 = .ok (.iload_n 1, 1) := by decide +kernel
theorem dX0_isMoreCredible_46 : decode cX0_isMoreCredible 46 = .ok (.invokevirtual 224, 3) := by decide +kernel
theorem dX0_isMoreCredible_49 : decode cX0_isMoreCredible 49 = .ok (.istore_n 3, 1) := by decide +kernel
theorem dX0_isMoreCredible_50 : decode cX0_isMoreCredible 50 = .ok (.aload_n 0, 1) := by decide +kernel
theorem dX0_isMoreCredible_51 : decode cX0_isMoreCredible 51 = .ok (.iload_n 2, 1) := by decide +kernel
theorem dX0_isMoreCredible_52 : decode cX0_isMoreCredible 52 = .ok (.invokevirtual 224, 3) := by decide +kernel
theorem dX0_isMoreCredible_55 : decode cX0_isMoreCredible 55 = .ok (.istore 4, 2) := by decide +kernel
theorem dX0_isMoreCredible_57 : decode cX0_isMoreCredible 57 = .ok (.iload_n 3, 1) := by decide +kernel
theorem dX0_isMoreCredible_58 : decode cX0_isMoreCredible 58 = .ok (.iload 4, 2) := by decide +kernel
theorem dX0_isMoreCredible_60 : decode cX0_isMoreCredible 60 = .ok (.if_icmp .eq 17, 3) := by decide +kernel
theorem dX0_isMoreCredible_63 : decode cX0_isMoreCredible 63 = .ok (.iload_n 3, 1) := by decide +kernel
theorem dX0_isMoreCredible_64 : decode cX0_isMoreCredible 64 = .ok (.iload 4, 2) := by decide +kernel
theorem dX0_isMoreCredible_66 : decode cX0_isMoreCredible 66 = .ok (.if_icmp .le 7, 3) := by decide +kernel
theorem dX0_isMoreCredible_69 : decode cX0_isMoreCredible 69 = .ok (.iconst 1, 1) := by decide +kernel
theorem dX0_isMoreCredible_70 : decode cX0_isMoreCredible 70 = .ok (.goto 17, 3) := by decide +kernel
theorem dX0_isMoreCredible_73 : decode cX0_isMoreCredible 73 = .ok (.iconst 0, 1) := by decide +kernel
theorem dX0_isMoreCredible_74 : decode cX0_isMoreCredible 74 = .ok (.goto 13, 3) := by decide +kernel
theorem dX0_isMoreCredible_77 : decode cX0_isMoreCredible 77 = .ok (.iload_n 1, 1) := by decide +kernel
theorem dX0_isMoreCredible_78 : decode cX0_isMoreCredible 78 = .ok (.iload_n 2, 1) := by decide +kernel
theorem dX0_isMoreCredible_79 : decode cX0_isMoreCredible 79 = .ok (.if_icmp .ge 7, 3) := by decide +kernel
theorem dX0_isMoreCredible_82 : decode cX0_isMoreCredible 82 = .ok (.iconst 1, 1) := by decide +kernel
theorem dX0_isMoreCredible_83 : decode cX0_isMoreCredible 83 = .ok (.goto 4, 3) := by decide +kernel
theorem dX0_isMoreCredible_86 : decode cX0_isMoreCredible 86 = .ok (.iconst 0, 1) := by decide +kernel
theorem dX0_isMoreCredible_87 : decode cX0_isMoreCredible 87 = .ok (.ireturn, 1) := by decide +kernel
theorem dX0_credibilitySum_0 : decode cX0_credibilitySum 0 = .ok (.iconst 0, 1) := by decide +kernel
theorem dX0_credibilitySum_1 : decode cX0_credibilitySum 1 = .ok (.istore_n 1, 1) := by decide +kernel
theorem dX0_credibilitySum_2 : decode cX0_credibilitySum 2 = .ok (.iconst 0, 1) := by decide +kernel
theorem dX0_credibilitySum_3 : decode cX0_credibilitySum 3 = .ok (.istore_n 2, 1) := by decide +kernel
theorem dX0_credibilitySum_4 : decode cX0_credibilitySum 4 = .ok (.iload_n 2, 1) := by decide +kernel
theorem dX0_credibilitySum_5 : decode cX0_credibilitySum 5 = .ok (.aload_n 0, 1) := by decide +kernel
theorem dX0_credibilitySum_6 : decode cX0_credibilitySum 6 = .ok (.getfield 15, 3) := by decide +kernel
theorem dX0_credibilitySum_9 : decode cX0_credibilitySum 9 = .ok (.if_icmp .ge 20, 3) := by decide +kernel
theorem dX0_credibilitySum_12 : decode cX0_credibilitySum 12 = .ok (.iload_n 1, 1) := by decide +kernel
theorem dX0_credibilitySum_13 : decode cX0_credibilitySum 13 = .ok (.aload_n 0, 1) := by decide +kernel
theorem dX0_credibilitySum_14 : decode cX0_credibilitySum 14 = .ok (.getfield 60, 3) := by decide +kernel
theorem dX0_credibilitySum_17 : decode cX0_credibilitySum 17 = .ok (.iload_n 2, 1) := by decide +kernel
theorem dX0_credibilitySum_18 : decode cX0_credibilitySum 18 = .ok (.invokevirtual 157, 3) := by decide +kernel
theorem dX0_credibilitySum_21 : decode cX0_credibilitySum 21 = .ok (.iadd, 1) := by decide +kernel
theorem dX0_credibilitySum_22 : decode cX0_credibilitySum 22 = .ok (.istore_n 1, 1) := by decide +kernel
theorem dX0_credibilitySum_23 : decode cX0_credibilitySum 23 = .ok (.iinc 2 1, 3) := by decide +kernel
theorem dX0_credibilitySum_26 : decode cX0_credibilitySum 26 = .ok (.goto (-22), 3) := by decide +kernel
theorem dX0_credibilitySum_29 : decode cX0_credibilitySum 29 = .ok (.iload_n 1, 1) := by decide +kernel
theorem dX0_credibilitySum_30 : decode cX0_credibilitySum 30 = .ok (.ireturn, 1) := by decide +kernel
theorem dX0_addedSentence_0 : decode cX0_addedSentence 0 = .ok (.iconst 0, 1) := by decide +kernel
theorem dX0_addedSentence_1 : decode cX0_addedSentence 1 = .ok (.istore_n 2, 1) := by decide +kernel
theorem dX0_addedSentence_2 : decode cX0_addedSentence 2 = .ok (.iconst 0, 1) := by decide +kernel
theorem dX0_addedSentence_3 : decode cX0_addedSentence 3 = .ok (.istore_n 3, 1) := by decide +kernel
theorem dX0_addedSentence_4 : decode cX0_addedSentence 4 = .ok (.iload_n 3, 1) := by decide +kernel
theorem dX0_addedSentence_5 : decode cX0_addedSentence 5 = .ok (.aload_n 0, 1) := by decide +kernel
theorem dX0_addedSentence_6 : decode cX0_addedSentence 6 = .ok (.getfield 9, 3) := by decide +kernel
theorem dX0_addedSentence_9 : decode cX0_addedSentence 9 = .ok (.if_icmp .ge 37, 3) := by decide +kernel
theorem dX0_addedSentence_12 : decode cX0_addedSentence 12 = .ok (.aload_n 0, 1) := by decide +kernel
theorem dX0_addedSentence_13 : decode cX0_addedSentence 13 = .ok (.getfield 29, 3) := by decide +kernel
theorem dX0_addedSentence_16 : decode cX0_addedSentence 16 = .ok (.iload_n 3, 1) := by decide +kernel
theorem dX0_addedSentence_17 : decode cX0_addedSentence 17 = .ok (.invokevirtual 157, 3) := by decide +kernel
theorem dX0_addedSentence_20 : decode cX0_addedSentence 20 = .ok (.iload_n 1, 1) := by decide +kernel
theorem dX0_addedSentence_21 : decode cX0_addedSentence 21 = .ok (.if_icmp .ne 19, 3) := by decide +kernel
theorem dX0_addedSentence_24 : decode cX0_addedSentence 24 = .ok (.aload_n 0, 1) := by decide +kernel
theorem dX0_addedSentence_25 : decode cX0_addedSentence 25 = .ok (.iload_n 3, 1) := by decide +kernel
theorem dX0_addedSentence_26 : decode cX0_addedSentence 26 = .ok (.invokevirtual 209, 3) := by decide +kernel
theorem dX0_addedSentence_29 : decode cX0_addedSentence 29 = .ok (.ifCond .eq 11, 3) := by decide +kernel
theorem dX0_addedSentence_32 : decode cX0_addedSentence 32 = .ok (.iload_n 2, 1) := by decide +kernel
theorem dX0_addedSentence_33 : decode cX0_addedSentence 33 = .ok (.aload_n 0, 1) := by decide +kernel
theorem dX0_addedSentence_34 : decode cX0_addedSentence 34 = .ok (.iload_n 3, 1) := by decide +kernel
theorem dX0_addedSentence_35 : decode cX0_addedSentence 35 = .ok (.invokevirtual 206, 3) := by decide +kernel
theorem dX0_addedSentence_38 : decode cX0_addedSentence 38 = .ok (.iadd, 1) := by decide +kernel
theorem dX0_addedSentence_39 : decode cX0_addedSentence 39 = .ok (.istore_n 2, 1) := by decide +kernel
theorem dX0_addedSentence_40 : decode cX0_addedSentence 40 = .ok (.iinc 3 1, 3) := by decide +kernel
theorem dX0_addedSentence_43 : decode cX0_addedSentence 43 = .ok (.goto (-39), 3) := by decide +kernel
theorem dX0_addedSentence_46 : decode cX0_addedSentence 46 = .ok (.iload_n 2, 1) := by decide +kernel
theorem dX0_addedSentence_47 : decode cX0_addedSentence 47 = .ok (.ireturn, 1) := by decide +kernel
theorem dX0_countIn_0 : decode cX0_countIn 0 = .ok (.iconst 0, 1) := by decide +kernel
theorem dX0_countIn_1 : decode cX0_countIn 1 = .ok (.istore_n 2, 1) := by decide +kernel
theorem dX0_countIn_2 : decode cX0_countIn 2 = .ok (.iconst 0, 1) := by decide +kernel
theorem dX0_countIn_3 : decode cX0_countIn 3 = .ok (.istore_n 3, 1) := by decide +kernel
theorem dX0_countIn_4 : decode cX0_countIn 4 = .ok (.iload_n 3, 1) := by decide +kernel
theorem dX0_countIn_5 : decode cX0_countIn 5 = .ok (.aload_n 0, 1) := by decide +kernel
theorem dX0_countIn_6 : decode cX0_countIn 6 = .ok (.getfield 9, 3) := by decide +kernel
theorem dX0_countIn_9 : decode cX0_countIn 9 = .ok (.if_icmp .ge 21, 3) := by decide +kernel
theorem dX0_countIn_12 : decode cX0_countIn 12 = .ok (.aload_n 0, 1) := by decide +kernel
theorem dX0_countIn_13 : decode cX0_countIn 13 = .ok (.iload_n 1, 1) := by decide +kernel
theorem dX0_countIn_14 : decode cX0_countIn 14 = .ok (.iload_n 3, 1) := by decide +kernel
theorem dX0_countIn_15 : decode cX0_countIn 15 = .ok (.invokevirtual 160, 3) := by decide +kernel
theorem dX0_countIn_18 : decode cX0_countIn 18 = .ok (.ifCond .eq 6, 3) := by decide +kernel
theorem dX0_countIn_21 : decode cX0_countIn 21 = .ok (.iinc 2 1, 3) := by decide +kernel
theorem dX0_countIn_24 : decode cX0_countIn 24 = .ok (.iinc 3 1, 3) := by decide +kernel
theorem dX0_countIn_27 : decode cX0_countIn 27 = .ok (.goto (-23), 3) := by decide +kernel
theorem dX0_countIn_30 : decode cX0_countIn 30 = .ok (.iload_n 2, 1) := by decide +kernel
theorem dX0_countIn_31 : decode cX0_countIn 31 = .ok (.ireturn, 1) := by decide +kernel
theorem dX0_countGuilty_0 : decode cX0_countGuilty 0 = .ok (.iconst 0, 1) := by decide +kernel
theorem dX0_countGuilty_1 : decode cX0_countGuilty 1 = .ok (.istore_n 1, 1) := by decide +kernel
theorem dX0_countGuilty_2 : decode cX0_countGuilty 2 = .ok (.iconst 0, 1) := by decide +kernel
theorem dX0_countGuilty_3 : decode cX0_countGuilty 3 = .ok (.istore_n 2, 1) := by decide +kernel
theorem dX0_countGuilty_4 : decode cX0_countGuilty 4 = .ok (.iload_n 2, 1) := by decide +kernel
theorem dX0_countGuilty_5 : decode cX0_countGuilty 5 = .ok (.aload_n 0, 1) := by decide +kernel
theorem dX0_countGuilty_6 : decode cX0_countGuilty 6 = .ok (.getfield 9, 3) := by decide +kernel
theorem dX0_countGuilty_9 : decode cX0_countGuilty 9 = .ok (.if_icmp .ge 20, 3) := by decide +kernel
theorem dX0_countGuilty_12 : decode cX0_countGuilty 12 = .ok (.aload_n 0, 1) := by decide +kernel
theorem dX0_countGuilty_13 : decode cX0_countGuilty 13 = .ok (.iload_n 2, 1) := by decide +kernel
theorem dX0_countGuilty_14 : decode cX0_countGuilty 14 = .ok (.invokevirtual 209, 3) := by decide +kernel
theorem dX0_countGuilty_17 : decode cX0_countGuilty 17 = .ok (.ifCond .eq 6, 3) := by decide +kernel
theorem dX0_countGuilty_20 : decode cX0_countGuilty 20 = .ok (.iinc 1 1, 3) := by decide +kernel
theorem dX0_countGuilty_23 : decode cX0_countGuilty 23 = .ok (.iinc 2 1, 3) := by decide +kernel
theorem dX0_countGuilty_26 : decode cX0_countGuilty 26 = .ok (.goto (-22), 3) := by decide +kernel
theorem dX0_countGuilty_29 : decode cX0_countGuilty 29 = .ok (.iload_n 1, 1) := by decide +kernel
theorem dX0_countGuilty_30 : decode cX0_countGuilty 30 = .ok (.ireturn, 1) := by decide +kernel
theorem dX0_openCasesBefore_0 : decode cX0_openCasesBefore 0 = .ok (.iconst 0, 1) := by decide +kernel
theorem dX0_openCasesBefore_1 : decode cX0_openCasesBefore 1 = .ok (.istore_n 2, 1) := by decide +kernel
theorem dX0_openCasesBefore_2 : decode cX0_openCasesBefore 2 = .ok (.iconst 0, 1) := by decide +kernel
theorem dX0_openCasesBefore_3 : decode cX0_openCasesBefore 3 = .ok (.istore_n 3, 1) := by decide +kernel
theorem dX0_openCasesBefore_4 : decode cX0_openCasesBefore 4 = .ok (.iload_n 3, 1) := by decide +kernel
theorem dX0_openCasesBefore_5 : decode cX0_openCasesBefore 5 = .ok (.aload_n 0, 1) := by decide +kernel
theorem dX0_openCasesBefore_6 : decode cX0_openCasesBefore 6 = .ok (.getfield 9, 3) := by decide +kernel
theorem dX0_openCasesBefore_9 : decode cX0_openCasesBefore 9 = .ok (.if_icmp .ge 30, 3) := by decide +kernel
theorem dX0_openCasesBefore_12 : decode cX0_openCasesBefore 12 = .ok (.aload_n 0, 1) := by decide +kernel
theorem dX0_openCasesBefore_13 : decode cX0_openCasesBefore 13 = .ok (.iconst 0, 1) := by decide +kernel
theorem dX0_openCasesBefore_14 : decode cX0_openCasesBefore 14 = .ok (.iload_n 3, 1) := by decide +kernel
theorem dX0_openCasesBefore_15 : decode cX0_openCasesBefore 15 = .ok (.invokevirtual 160, 3) := by decide +kernel
theorem dX0_openCasesBefore_18 : decode cX0_openCasesBefore 18 = .ok (.ifCond .eq 15, 3) := by decide +kernel
theorem dX0_openCasesBefore_21 : decode cX0_openCasesBefore 21 = .ok (.aload_n 0, 1) := by decide +kernel
theorem dX0_openCasesBefore_22 : decode cX0_openCasesBefore 22 = .ok (.iload_n 3, 1) := by decide +kernel
theorem dX0_openCasesBefore_23 : decode cX0_openCasesBefore 23 = .ok (.iload_n 1, 1) := by decide +kernel
theorem dX0_openCasesBefore_24 : decode cX0_openCasesBefore 24 = .ok (.invokevirtual 227, 3) := by decide +kernel
theorem dX0_openCasesBefore_27 : decode cX0_openCasesBefore 27 = .ok (.ifCond .eq 6, 3) := by decide +kernel
theorem dX0_openCasesBefore_30 : decode cX0_openCasesBefore 30 = .ok (.iinc 2 1, 3) := by decide +kernel
theorem dX0_openCasesBefore_33 : decode cX0_openCasesBefore 33 = .ok (.iinc 3 1, 3) := by decide +kernel
theorem dX0_openCasesBefore_36 : decode cX0_openCasesBefore 36 = .ok (.goto (-32), 3) := by decide +kernel
theorem dX0_openCasesBefore_39 : decode cX0_openCasesBefore 39 = .ok (.iload_n 2, 1) := by decide +kernel
theorem dX0_openCasesBefore_40 : decode cX0_openCasesBefore 40 = .ok (.ireturn, 1) := by decide +kernel
theorem dX0_comesBefore_0 : decode cX0_comesBefore 0 = .ok (.aload_n 0, 1) := by decide +kernel
theorem dX0_comesBefore_1 : decode cX0_comesBefore 1 = .ok (.getfield 33, 3) := by decide +kernel
theorem dX0_comesBefore_4 : decode cX0_comesBefore 4 = .ok (.iload_n 1, 1) := by decide +kernel
theorem dX0_comesBefore_5 : decode cX0_comesBefore 5 = .ok (.invokevirtual 157, 3) := by decide +kernel
theorem dX0_comesBefore_8 : decode cX0_comesBefore 8 = .ok (.aload_n 0, 1) := by decide +kernel
theorem dX0_comesBefore_9 : decode cX0_comesBefore 9 = .ok (.getfield 33, 3) := by decide +kernel
theorem dX0_comesBefore_12 : decode cX0_comesBefore 12 = .ok (.iload_n 2, 1) := by decide +kernel
theorem dX0_comesBefore_13 : decode cX0_comesBefore 13 = .ok (.invokevirtual 157, 3) := by decide +kernel
theorem dX0_comesBefore_16 : decode cX0_comesBefore 16 = .ok (.if_icmp .eq 28, 3) := by decide +kernel
theorem dX0_comesBefore_19 : decode cX0_comesBefore 19 = .ok (.aload_n 0, 1) := by decide +kernel
theorem dX0_comesBefore_20 : decode cX0_comesBefore 20 = .ok (.getfield 33, 3) := by decide +kernel
theorem dX0_comesBefore_23 : decode cX0_comesBefore 23 = .ok (.iload_n 1, 1) := by decide +kernel
theorem dX0_comesBefore_24 : decode cX0_comesBefore 24 = .ok (.invokevirtual 157, 3) := by decide +kernel
theorem dX0_comesBefore_27 : decode cX0_comesBefore 27 = .ok (.aload_n 0, 1) := by decide +kernel
theorem dX0_comesBefore_28 : decode cX0_comesBefore 28 = .ok (.getfield 33, 3) := by decide +kernel
theorem dX0_comesBefore_31 : decode cX0_comesBefore 31 = .ok (.iload_n 2, 1) := by decide +kernel
theorem dX0_comesBefore_32 : decode cX0_comesBefore 32 = .ok (.invokevirtual 157, 3) := by decide +kernel
theorem dX0_comesBefore_35 : decode cX0_comesBefore 35 = .ok (.if_icmp .le 7, 3) := by decide +kernel
theorem dX0_comesBefore_38 : decode cX0_comesBefore 38 = .ok (.iconst 1, 1) := by decide +kernel
theorem dX0_comesBefore_39 : decode cX0_comesBefore 39 = .ok (.goto 4, 3) := by decide +kernel
theorem dX0_comesBefore_42 : decode cX0_comesBefore 42 = .ok (.iconst 0, 1) := by decide +kernel
theorem dX0_comesBefore_43 : decode cX0_comesBefore 43 = .ok (.ireturn, 1) := by decide +kernel
theorem dX0_comesBefore_44 : decode cX0_comesBefore 44 = .ok (.aload_n 0, 1) := by decide +kernel
theorem dX0_comesBefore_45 : decode cX0_comesBefore 45 = .ok (.getfield 45, 3) := by decide +kernel
theorem dX0_comesBefore_48 : decode cX0_comesBefore 48 = .ok (.iload_n 1, 1) := by decide +kernel
theorem dX0_comesBefore_49 : decode cX0_comesBefore 49 = .ok (.invokevirtual 157, 3) := by decide +kernel
theorem dX0_comesBefore_52 : decode cX0_comesBefore 52 = .ok (.aload_n 0, 1) := by decide +kernel
theorem dX0_comesBefore_53 : decode cX0_comesBefore 53 = .ok (.getfield 45, 3) := by decide +kernel
theorem dX0_comesBefore_56 : decode cX0_comesBefore 56 = .ok (.iload_n 2, 1) := by decide +kernel
theorem dX0_comesBefore_57 : decode cX0_comesBefore 57 = .ok (.invokevirtual 157, 3) := by decide +kernel
theorem dX0_comesBefore_60 : decode cX0_comesBefore 60 = .ok (.if_icmp .eq 28, 3) := by decide +kernel
theorem dX0_comesBefore_63 : decode cX0_comesBefore 63 = .ok (.aload_n 0, 1) := by decide +kernel
theorem dX0_comesBefore_64 : decode cX0_comesBefore 64 = .ok (.getfield 45, 3) := by decide +kernel
theorem dX0_comesBefore_67 : decode cX0_comesBefore 67 = .ok (.iload_n 1, 1) := by decide +kernel
theorem dX0_comesBefore_68 : decode cX0_comesBefore 68 = .ok (.invokevirtual 157, 3) := by decide +kernel
theorem dX0_comesBefore_71 : decode cX0_comesBefore 71 = .ok (.aload_n 0, 1) := by decide +kernel
theorem dX0_comesBefore_72 : decode cX0_comesBefore 72 = .ok (.getfield 45, 3) := by decide +kernel
theorem dX0_comesBefore_75 : decode cX0_comesBefore 75 = .ok (.iload_n 2, 1) := by decide +kernel
theorem dX0_comesBefore_76 : decode cX0_comesBefore 76 = .ok (.invokevirtual 157, 3) := by decide +kernel
theorem dX0_comesBefore_79 : decode cX0_comesBefore 79 = .ok (.if_icmp .le 7, 3) := by decide +kernel
theorem dX0_comesBefore_82 : decode cX0_comesBefore 82 = .ok (.iconst 1, 1) := by decide +kernel
theorem dX0_comesBefore_83 : decode cX0_comesBefore 83 = .ok (.goto 4, 3) := by decide +kernel
theorem dX0_comesBefore_86 : decode cX0_comesBefore 86 = .ok (.iconst 0, 1) := by decide +kernel
theorem dX0_comesBefore_87 : decode cX0_comesBefore 87 = .ok (.ireturn, 1) := by decide +kernel
theorem dX0_comesBefore_88 : decode cX0_comesBefore 88 = .ok (.iload_n 1, 1) := by decide +kernel
theorem dX0_comesBefore_89 : decode cX0_comesBefore 89 = .ok (.iload_n 2, 1) := by decide +kernel
theorem dX0_comesBefore_90 : decode cX0_comesBefore 90 = .ok (.if_icmp .ge 7, 3) := by decide +kernel
theorem dX0_comesBefore_93 : decode cX0_comesBefore 93 = .ok (.iconst 1, 1) := by decide +kernel
theorem dX0_comesBefore_94 : decode cX0_comesBefore 94 = .ok (.goto 4, 3) := by decide +kernel
theorem dX0_comesBefore_97 : decode cX0_comesBefore 97 = .ok (.iconst 0, 1) := by decide +kernel
theorem dX0_comesBefore_98 : decode cX0_comesBefore 98 = .ok (.ireturn, 1) := by decide +kernel
theorem dX1_init_0 : decode cX1_init 0 = .ok (.aload_n 0, 1) := by decide +kernel
theorem dX1_init_1 : decode cX1_init 1 = .ok (.invokespecial 3, 3) := by decide +kernel
theorem dX1_init_4 : decode cX1_init 4 = .ok (.aload_n 0, 1) := by decide +kernel
theorem dX1_init_5 : decode cX1_init 5 = .ok (.new 9, 3) := by decide +kernel
theorem dX1_init_8 : decode cX1_init 8 = .ok (.dup, 1) := by decide +kernel
theorem dX1_init_9 : decode cX1_init 9 = .ok (.bipush 16, 2) := by decide +kernel
theorem dX1_init_11 : decode cX1_init 11 = .ok (.invokespecial 11, 3) := by decide +kernel
theorem dX1_init_14 : decode cX1_init 14 = .ok (.putfield 14, 3) := by decide +kernel
theorem dX1_init_17 : decode cX1_init 17 = .ok (.aload_n 0, 1) := by decide +kernel
theorem dX1_init_18 : decode cX1_init 18 = .ok (.iconst 0, 1) := by decide +kernel
theorem dX1_init_19 : decode cX1_init 19 = .ok (.putfield 20, 3) := by decide +kernel
theorem dX1_init_22 : decode cX1_init 22 = .ok (.return_, 1) := by decide +kernel
theorem dX1_fill_0 : decode cX1_fill 0 = .ok (.aload_n 0, 1) := by decide +kernel
theorem dX1_fill_1 : decode cX1_fill 1 = .ok (.iconst 0, 1) := by decide +kernel
theorem dX1_fill_2 : decode cX1_fill 2 = .ok (.putfield 20, 3) := by decide +kernel
theorem dX1_fill_5 : decode cX1_fill 5 = .ok (.iconst 0, 1) := by decide +kernel
theorem dX1_fill_6 : decode cX1_fill 6 = .ok (.istore_n 2, 1) := by decide +kernel
theorem dX1_fill_7 : decode cX1_fill 7 = .ok (.iload_n 2, 1) := by decide +kernel
theorem dX1_fill_8 : decode cX1_fill 8 = .ok (.aload_n 1, 1) := by decide +kernel
theorem dX1_fill_9 : decode cX1_fill 9 = .ok (.getfield 24, 3) := by decide +kernel
theorem dX1_fill_12 : decode cX1_fill 12 = .ok (.if_icmp .ge 24, 3) := by decide +kernel
theorem dX1_fill_15 : decode cX1_fill 15 = .ok (.aload_n 1, 1) := by decide +kernel
theorem dX1_fill_16 : decode cX1_fill 16 = .ok (.iconst 0, 1) := by decide +kernel
theorem dX1_fill_17 : decode cX1_fill 17 = .ok (.iload_n 2, 1) := by decide +kernel
theorem dX1_fill_18 : decode cX1_fill 18 = .ok (.invokevirtual 29, 3) := by decide +kernel
theorem dX1_fill_21 : decode cX1_fill 21 = .ok (.ifCond .eq 9, 3) := by decide +kernel
theorem dX1_fill_24 : decode cX1_fill 24 = .ok (.aload_n 0, 1) := by decide +kernel
theorem dX1_fill_25 : decode cX1_fill 25 = .ok (.iload_n 2, 1) := by decide +kernel
theorem dX1_fill_26 : decode cX1_fill 26 = .ok (.aload_n 1, 1) := by decide +kernel
theorem dX1_fill_27 : decode cX1_fill 27 = .ok (.invokevirtual 33, 3) := by decide +kernel
theorem dX1_fill_30 : decode cX1_fill 30 = .ok (.iinc 2 1, 3) := by decide +kernel
theorem dX1_fill_33 : decode cX1_fill 33 = .ok (.goto (-26), 3) := by decide +kernel
theorem dX1_fill_36 : decode cX1_fill 36 = .ok (.return_, 1) := by decide +kernel
theorem dX1_insert_0 : decode cX1_insert 0 = .ok (.aload_n 0, 1) := by decide +kernel
theorem dX1_insert_1 : decode cX1_insert 1 = .ok (.getfield 20, 3) := by decide +kernel
theorem dX1_insert_4 : decode cX1_insert 4 = .ok (.istore_n 3, 1) := by decide +kernel
theorem dX1_insert_5 : decode cX1_insert 5 = .ok (.iload_n 3, 1) := by decide +kernel
theorem dX1_insert_6 : decode cX1_insert 6 = .ok (.ifCond .le 45, 3) := by decide +kernel
theorem dX1_insert_9 : decode cX1_insert 9 = .ok (.aload_n 2, 1) := by decide +kernel
theorem dX1_insert_10 : decode cX1_insert 10 = .ok (.iload_n 1, 1) := by decide +kernel
theorem dX1_insert_11 : decode cX1_insert 11 = .ok (.aload_n 0, 1) := by decide +kernel
theorem dX1_insert_12 : decode cX1_insert 12 = .ok (.getfield 14, 3) := by decide +kernel
theorem dX1_insert_15 : decode cX1_insert 15 = .ok (.iload_n 3, 1) := by decide +kernel
theorem dX1_insert_16 : decode cX1_insert 16 = .ok (.iconst 1, 1) := by decide +kernel
theorem dX1_insert_17 : decode cX1_insert 17 = .ok (.isub, 1) := by decide +kernel
theorem dX1_insert_18 : decode cX1_insert 18 = .ok (.invokevirtual 37, 3) := by decide +kernel
theorem dX1_insert_21 : decode cX1_insert 21 = .ok (.invokevirtual 41, 3) := by decide +kernel
theorem dX1_insert_24 : decode cX1_insert 24 = .ok (.ifCond .eq 27, 3) := by decide +kernel
theorem dX1_insert_27 : decode cX1_insert 27 = .ok (.aload_n 0, 1) := by decide +kernel
theorem dX1_insert_28 : decode cX1_insert 28 = .ok (.getfield 14, 3) := by decide +kernel
theorem dX1_insert_31 : decode cX1_insert 31 = .ok (.iload_n 3, 1) := by decide +kernel
theorem dX1_insert_32 : decode cX1_insert 32 = .ok (.aload_n 0, 1) := by decide +kernel
theorem dX1_insert_33 : decode cX1_insert 33 = .ok (.getfield 14, 3) := by decide +kernel
theorem dX1_insert_36 : decode cX1_insert 36 = .ok (.iload_n 3, 1) := by decide +kernel
theorem dX1_insert_37 : decode cX1_insert 37 = .ok (.iconst 1, 1) := by decide +kernel
theorem dX1_insert_38 : decode cX1_insert 38 = .ok (.isub, 1) := by decide +kernel
theorem dX1_insert_39 : decode cX1_insert 39 = .ok (.invokevirtual 37, 3) := by decide +kernel
theorem dX1_insert_42 : decode cX1_insert 42 = .ok (.invokevirtual 44, 3) := by decide +kernel
theorem dX1_insert_45 : decode cX1_insert 45 = .ok (.iinc 3 (-1), 3) := by decide +kernel
theorem dX1_insert_48 : decode cX1_insert 48 = .ok (.goto (-43), 3) := by decide +kernel
theorem dX1_insert_51 : decode cX1_insert 51 = .ok (.aload_n 0, 1) := by decide +kernel
theorem dX1_insert_52 : decode cX1_insert 52 = .ok (.getfield 14, 3) := by decide +kernel
theorem dX1_insert_55 : decode cX1_insert 55 = .ok (.iload_n 3, 1) := by decide +kernel
theorem dX1_insert_56 : decode cX1_insert 56 = .ok (.iload_n 1, 1) := by decide +kernel
theorem dX1_insert_57 : decode cX1_insert 57 = .ok (.invokevirtual 44, 3) := by decide +kernel
theorem dX1_insert_60 : decode cX1_insert 60 = .ok (.aload_n 0, 1) := by decide +kernel
theorem dX1_insert_61 : decode cX1_insert 61 = .ok (.dup, 1) := by decide +kernel
theorem dX1_insert_62 : decode cX1_insert 62 = .ok (.getfield 20, 3) := by decide +kernel
theorem dX1_insert_65 : decode cX1_insert 65 = .ok (.iconst 1, 1) := by decide +kernel
theorem dX1_insert_66 : decode cX1_insert 66 = .ok (.iadd, 1) := by decide +kernel
theorem dX1_insert_67 : decode cX1_insert 67 = .ok (.putfield 20, 3) := by decide +kernel
theorem dX1_insert_70 : decode cX1_insert 70 = .ok (.return_, 1) := by decide +kernel
theorem dX1_holdsAt_0 : decode cX1_holdsAt 0 = .ok (.iload_n 1, 1) := by decide +kernel
theorem dX1_holdsAt_1 : decode cX1_holdsAt 1 = .ok (.aload_n 0, 1) := by decide +kernel
theorem dX1_holdsAt_2 : decode cX1_holdsAt 2 = .ok (.getfield 20, 3) := by decide +kernel
theorem dX1_holdsAt_5 : decode cX1_holdsAt 5 = .ok (.if_icmp .ge 19, 3) := by decide +kernel
theorem dX1_holdsAt_8 : decode cX1_holdsAt 8 = .ok (.aload_n 0, 1) := by decide +kernel
theorem dX1_holdsAt_9 : decode cX1_holdsAt 9 = .ok (.getfield 14, 3) := by decide +kernel
theorem dX1_holdsAt_12 : decode cX1_holdsAt 12 = .ok (.iload_n 1, 1) := by decide +kernel
theorem dX1_holdsAt_13 : decode cX1_holdsAt 13 = .ok (.invokevirtual 37, 3) := by decide +kernel
theorem dX1_holdsAt_16 : decode cX1_holdsAt 16 = .ok (.iload_n 2, 1) := by decide +kernel
theorem dX1_holdsAt_17 : decode cX1_holdsAt 17 = .ok (.if_icmp .ne 7, 3) := by decide +kernel
theorem dX1_holdsAt_20 : decode cX1_holdsAt 20 = .ok (.iconst 1, 1) := by decide +kernel
theorem dX1_holdsAt_21 : decode cX1_holdsAt 21 = .ok (.goto 4, 3) := by decide +kernel
theorem dX1_holdsAt_24 : decode cX1_holdsAt 24 = .ok (.iconst 0, 1) := by decide +kernel
theorem dX1_holdsAt_25 : decode cX1_holdsAt 25 = .ok (.ireturn, 1) := by decide +kernel
theorem dX1_firstHeard_0 : decode cX1_firstHeard 0 = .ok (.iconst 0, 1) := by decide +kernel
theorem dX1_firstHeard_1 : decode cX1_firstHeard 1 = .ok (.istore_n 2, 1) := by decide +kernel
theorem dX1_firstHeard_2 : decode cX1_firstHeard 2 = .ok (.iload_n 2, 1) := by decide +kernel
theorem dX1_firstHeard_3 : decode cX1_firstHeard 3 = .ok (.aload_n 0, 1) := by decide +kernel
theorem dX1_firstHeard_4 : decode cX1_firstHeard 4 = .ok (.getfield 20, 3) := by decide +kernel
theorem dX1_firstHeard_7 : decode cX1_firstHeard 7 = .ok (.if_icmp .ge 36, 3) := by decide +kernel
theorem dX1_firstHeard_10 : decode cX1_firstHeard 10 = .ok (.aload_n 1, 1) := by decide +kernel
theorem dX1_firstHeard_11 : decode cX1_firstHeard 11 = .ok (.getfield 48, 3) := by decide +kernel
theorem dX1_firstHeard_14 : decode cX1_firstHeard 14 = .ok (.aload_n 0, 1) := by decide +kernel
theorem dX1_firstHeard_15 : decode cX1_firstHeard 15 = .ok (.getfield 14, 3) := by decide +kernel
theorem dX1_firstHeard_18 : decode cX1_firstHeard 18 = .ok (.iload_n 2, 1) := by decide +kernel
theorem dX1_firstHeard_19 : decode cX1_firstHeard 19 = .ok (.invokevirtual 37, 3) := by decide +kernel
theorem dX1_firstHeard_22 : decode cX1_firstHeard 22 = .ok (.invokevirtual 37, 3) := by decide +kernel
theorem dX1_firstHeard_25 : decode cX1_firstHeard 25 = .ok (.ifCond .le 12, 3) := by decide +kernel
theorem dX1_firstHeard_28 : decode cX1_firstHeard 28 = .ok (.aload_n 0, 1) := by decide +kernel
theorem dX1_firstHeard_29 : decode cX1_firstHeard 29 = .ok (.getfield 14, 3) := by decide +kernel
theorem dX1_firstHeard_32 : decode cX1_firstHeard 32 = .ok (.iload_n 2, 1) := by decide +kernel
theorem dX1_firstHeard_33 : decode cX1_firstHeard 33 = .ok (.invokevirtual 37, 3) := by decide +kernel
theorem dX1_firstHeard_36 : decode cX1_firstHeard 36 = .ok (.ireturn, 1) := by decide +kernel
theorem dX1_firstHeard_37 : decode cX1_firstHeard 37 = .ok (.iinc 2 1, 3) := by decide +kernel
theorem dX1_firstHeard_40 : decode cX1_firstHeard 40 = .ok (.goto (-38), 3) := by decide +kernel
theorem dX1_firstHeard_43 : decode cX1_firstHeard 43 = .ok (.iconst (-1), 1) := by decide +kernel
theorem dX1_firstHeard_44 : decode cX1_firstHeard 44 = .ok (.ireturn, 1) := by decide +kernel
theorem dX3_init_0 : decode cX3_init 0 = .ok (.aload_n 0, 1) := by decide +kernel
theorem dX3_init_1 : decode cX3_init 1 = .ok (.invokespecial 3, 3) := by decide +kernel
theorem dX3_init_4 : decode cX3_init 4 = .ok (.aload_n 0, 1) := by decide +kernel
theorem dX3_init_5 : decode cX3_init 5 = .ok (.new 9, 3) := by decide +kernel
theorem dX3_init_8 : decode cX3_init 8 = .ok (.dup, 1) := by decide +kernel
theorem dX3_init_9 : decode cX3_init 9 = .ok (.bipush 8, 2) := by decide +kernel
theorem dX3_init_11 : decode cX3_init 11 = .ok (.invokespecial 11, 3) := by decide +kernel
theorem dX3_init_14 : decode cX3_init 14 = .ok (.putfield 14, 3) := by decide +kernel
theorem dX3_init_17 : decode cX3_init 17 = .ok (.return_, 1) := by decide +kernel
theorem dX3_found_0 : decode cX3_found 0 = .ok (.aload_n 0, 1) := by decide +kernel
theorem dX3_found_1 : decode cX3_found 1 = .ok (.getfield 14, 3) := by decide +kernel
theorem dX3_found_4 : decode cX3_found 4 = .ok (.iload_n 1, 1) := by decide +kernel
theorem dX3_found_5 : decode cX3_found 5 = .ok (.iload_n 1, 1) := by decide +kernel
theorem dX3_found_6 : decode cX3_found 6 = .ok (.invokevirtual 20, 3) := by decide +kernel
theorem dX3_found_9 : decode cX3_found 9 = .ok (.return_, 1) := by decide +kernel
theorem dX3_unite_0 : decode cX3_unite 0 = .ok (.aload_n 0, 1) := by decide +kernel
theorem dX3_unite_1 : decode cX3_unite 1 = .ok (.getfield 14, 3) := by decide +kernel
theorem dX3_unite_4 : decode cX3_unite 4 = .ok (.aload_n 0, 1) := by decide +kernel
theorem dX3_unite_5 : decode cX3_unite 5 = .ok (.iload_n 2, 1) := by decide +kernel
theorem dX3_unite_6 : decode cX3_unite 6 = .ok (.invokevirtual 24, 3) := by decide +kernel
theorem dX3_unite_9 : decode cX3_unite 9 = .ok (.aload_n 0, 1) := by decide +kernel
theorem dX3_unite_10 : decode cX3_unite 10 = .ok (.iload_n 1, 1) := by decide +kernel
theorem dX3_unite_11 : decode cX3_unite 11 = .ok (.invokevirtual 24, 3) := by decide +kernel
theorem dX3_unite_14 : decode cX3_unite 14 = .ok (.invokevirtual 20, 3) := by decide +kernel
theorem dX3_unite_17 : decode cX3_unite 17 = .ok (.return_, 1) := by decide +kernel
theorem dX3_areUnited_0 : decode cX3_areUnited 0 = .ok (.aload_n 0, 1) := by decide +kernel
theorem dX3_areUnited_1 : decode cX3_areUnited 1 = .ok (.iload_n 1, 1) := by decide +kernel
theorem dX3_areUnited_2 : decode cX3_areUnited 2 = .ok (.invokevirtual 24, 3) := by decide +kernel
theorem dX3_areUnited_5 : decode cX3_areUnited 5 = .ok (.aload_n 0, 1) := by decide +kernel
theorem dX3_areUnited_6 : decode cX3_areUnited 6 = .ok (.iload_n 2, 1) := by decide +kernel
theorem dX3_areUnited_7 : decode cX3_areUnited 7 = .ok (.invokevirtual 24, 3) := by decide +kernel
theorem dX3_areUnited_10 : decode cX3_areUnited 10 = .ok (.if_icmp .ne 7, 3) := by decide +kernel
theorem dX3_areUnited_13 : decode cX3_areUnited 13 = .ok (.iconst 1, 1) := by decide +kernel
theorem dX3_areUnited_14 : decode cX3_areUnited 14 = .ok (.goto 4, 3) := by decide +kernel
theorem dX3_areUnited_17 : decode cX3_areUnited 17 = .ok (.iconst 0, 1) := by decide +kernel
theorem dX3_areUnited_18 : decode cX3_areUnited 18 = .ok (.ireturn, 1) := by decide +kernel
theorem dX3_sizeAround_0 : decode cX3_sizeAround 0 = .ok (.iconst 0, 1) := by decide +kernel
theorem dX3_sizeAround_1 : decode cX3_sizeAround 1 = .ok (.istore_n 3, 1) := by decide +kernel
theorem dX3_sizeAround_2 : decode cX3_sizeAround 2 = .ok (.iconst 0, 1) := by decide +kernel
theorem dX3_sizeAround_3 : decode cX3_sizeAround 3 = .ok (.istore 4, 2) := by decide +kernel
theorem dX3_sizeAround_5 : decode cX3_sizeAround 5 = .ok (.iload 4, 2) := by decide +kernel
theorem dX3_sizeAround_7 : decode cX3_sizeAround 7 = .ok (.iload_n 2, 1) := by decide +kernel
theorem dX3_sizeAround_8 : decode cX3_sizeAround 8 = .ok (.if_icmp .ge 22, 3) := by decide +kernel
theorem dX3_sizeAround_11 : decode cX3_sizeAround 11 = .ok (.aload_n 0, 1) := by decide +kernel
theorem dX3_sizeAround_12 : decode cX3_sizeAround 12 = .ok (.iload_n 1, 1) := by decide +kernel
theorem dX3_sizeAround_13 : decode cX3_sizeAround 13 = .ok (.iload 4, 2) := by decide +kernel
theorem dX3_sizeAround_15 : decode cX3_sizeAround 15 = .ok (.invokevirtual 28, 3) := by decide +kernel
theorem dX3_sizeAround_18 : decode cX3_sizeAround 18 = .ok (.ifCond .eq 6, 3) := by decide +kernel
theorem dX3_sizeAround_21 : decode cX3_sizeAround 21 = .ok (.iinc 3 1, 3) := by decide +kernel
theorem dX3_sizeAround_24 : decode cX3_sizeAround 24 = .ok (.iinc 4 1, 3) := by decide +kernel
theorem dX3_sizeAround_27 : decode cX3_sizeAround 27 = .ok (.goto (-22), 3) := by decide +kernel
theorem dX3_sizeAround_30 : decode cX3_sizeAround 30 = .ok (.iload_n 3, 1) := by decide +kernel
theorem dX3_sizeAround_31 : decode cX3_sizeAround 31 = .ok (.ireturn, 1) := by decide +kernel
theorem dX3_countAmong_0 : decode cX3_countAmong 0 = .ok (.iconst 0, 1) := by decide +kernel
theorem dX3_countAmong_1 : decode cX3_countAmong 1 = .ok (.istore_n 2, 1) := by decide +kernel
theorem dX3_countAmong_2 : decode cX3_countAmong 2 = .ok (.iconst 0, 1) := by decide +kernel
theorem dX3_countAmong_3 : decode cX3_countAmong 3 = .ok (.istore_n 3, 1) := by decide +kernel
theorem dX3_countAmong_4 : decode cX3_countAmong 4 = .ok (.iload_n 3, 1) := by decide +kernel
theorem dX3_countAmong_5 : decode cX3_countAmong 5 = .ok (.iload_n 1, 1) := by decide +kernel
theorem dX3_countAmong_6 : decode cX3_countAmong 6 = .ok (.if_icmp .ge 24, 3) := by decide +kernel
theorem dX3_countAmong_9 : decode cX3_countAmong 9 = .ok (.aload_n 0, 1) := by decide +kernel
theorem dX3_countAmong_10 : decode cX3_countAmong 10 = .ok (.getfield 14, 3) := by decide +kernel
theorem dX3_countAmong_13 : decode cX3_countAmong 13 = .ok (.iload_n 3, 1) := by decide +kernel
theorem dX3_countAmong_14 : decode cX3_countAmong 14 = .ok (.invokevirtual 32, 3) := by decide +kernel
theorem dX3_countAmong_17 : decode cX3_countAmong 17 = .ok (.iload_n 3, 1) := by decide +kernel
theorem dX3_countAmong_18 : decode cX3_countAmong 18 = .ok (.if_icmp .ne 6, 3) := by decide +kernel
theorem dX3_countAmong_21 : decode cX3_countAmong 21 = .ok (.iinc 2 1, 3) := by decide +kernel
theorem dX3_countAmong_24 : decode cX3_countAmong 24 = .ok (.iinc 3 1, 3) := by decide +kernel
theorem dX3_countAmong_27 : decode cX3_countAmong 27 = .ok (.goto (-23), 3) := by decide +kernel
theorem dX3_countAmong_30 : decode cX3_countAmong 30 = .ok (.iload_n 2, 1) := by decide +kernel
theorem dX3_countAmong_31 : decode cX3_countAmong 31 = .ok (.ireturn, 1) := by decide +kernel
theorem dX3_rootOf_0 : decode cX3_rootOf 0 = .ok (.iload_n 1, 1) := by decide +kernel
theorem dX3_rootOf_1 : decode cX3_rootOf 1 = .ok (.istore_n 2, 1) := by decide +kernel
theorem dX3_rootOf_2 : decode cX3_rootOf 2 = .ok (.iconst 0, 1) := by decide +kernel
theorem dX3_rootOf_3 : decode cX3_rootOf 3 = .ok (.istore_n 3, 1) := by decide +kernel
theorem dX3_rootOf_4 : decode cX3_rootOf 4 = .ok (.iload_n 3, 1) := by decide +kernel
theorem dX3_rootOf_5 : decode cX3_rootOf 5 = .ok (.bipush 8, 2) := by decide +kernel
theorem dX3_rootOf_7 : decode cX3_rootOf 7 = .ok (.if_icmp .ge 30, 3) := by decide +kernel
theorem dX3_rootOf_10 : decode cX3_rootOf 10 = .ok (.aload_n 0, 1) := by decide +kernel
theorem dX3_rootOf_11 : decode cX3_rootOf 11 = .ok (.getfield 14, 3) := by decide +kernel
theorem dX3_rootOf_14 : decode cX3_rootOf 14 = .ok (.iload_n 2, 1) := by decide +kernel
theorem dX3_rootOf_15 : decode cX3_rootOf 15 = .ok (.invokevirtual 32, 3) := by decide +kernel
theorem dX3_rootOf_18 : decode cX3_rootOf 18 = .ok (.iload_n 2, 1) := by decide +kernel
theorem dX3_rootOf_19 : decode cX3_rootOf 19 = .ok (.if_icmp .eq 18, 3) := by decide +kernel
theorem dX3_rootOf_22 : decode cX3_rootOf 22 = .ok (.aload_n 0, 1) := by decide +kernel
theorem dX3_rootOf_23 : decode cX3_rootOf 23 = .ok (.getfield 14, 3) := by decide +kernel
theorem dX3_rootOf_26 : decode cX3_rootOf 26 = .ok (.iload_n 2, 1) := by decide +kernel
theorem dX3_rootOf_27 : decode cX3_rootOf 27 = .ok (.invokevirtual 32, 3) := by decide +kernel
theorem dX3_rootOf_30 : decode cX3_rootOf 30 = .ok (.istore_n 2, 1) := by decide +kernel
theorem dX3_rootOf_31 : decode cX3_rootOf 31 = .ok (.iinc 3 1, 3) := by decide +kernel
theorem dX3_rootOf_34 : decode cX3_rootOf 34 = .ok (.goto (-30), 3) := by decide +kernel
theorem dX3_rootOf_37 : decode cX3_rootOf 37 = .ok (.iload_n 2, 1) := by decide +kernel
theorem dX3_rootOf_38 : decode cX3_rootOf 38 = .ok (.ireturn, 1) := by decide +kernel
theorem dX4_init_0 : decode cX4_init 0 = .ok (.aload_n 0, 1) := by decide +kernel
theorem dX4_init_1 : decode cX4_init 1 = .ok (.invokespecial 3, 3) := by decide +kernel
theorem dX4_init_4 : decode cX4_init 4 = .ok (.aload_n 0, 1) := by decide +kernel
theorem dX4_init_5 : decode cX4_init 5 = .ok (.bipush 8, 2) := by decide +kernel
theorem dX4_init_7 : decode cX4_init 7 = .ok (.anewarray 9, 3) := by decide +kernel
theorem dX4_init_10 : decode cX4_init 10 = .ok (.putfield 11, 3) := by decide +kernel
theorem dX4_init_13 : decode cX4_init 13 = .ok (.aload_n 0, 1) := by decide +kernel
theorem dX4_init_14 : decode cX4_init 14 = .ok (.iconst 0, 1) := by decide +kernel
theorem dX4_init_15 : decode cX4_init 15 = .ok (.putfield 17, 3) := by decide +kernel
theorem dX4_init_18 : decode cX4_init 18 = .ok (.aload_n 0, 1) := by decide +kernel
theorem dX4_init_19 : decode cX4_init 19 = .ok (.iconst 0, 1) := by decide +kernel
theorem dX4_init_20 : decode cX4_init 20 = .ok (.putfield 21, 3) := by decide +kernel
theorem dX4_init_23 : decode cX4_init 23 = .ok (.iconst 0, 1) := by decide +kernel
theorem dX4_init_24 : decode cX4_init 24 = .ok (.istore_n 1, 1) := by decide +kernel
theorem dX4_init_25 : decode cX4_init 25 = .ok (.iload_n 1, 1) := by decide +kernel
theorem dX4_init_26 : decode cX4_init 26 = .ok (.aload_n 0, 1) := by decide +kernel
theorem dX4_init_27 : decode cX4_init 27 = .ok (.getfield 11, 3) := by decide +kernel
theorem dX4_init_30 : decode cX4_init 30 = .ok (.arraylength, 1) := by decide +kernel
theorem dX4_init_31 : decode cX4_init 31 = .ok (.if_icmp .ge 22, 3) := by decide +kernel
theorem dX4_init_34 : decode cX4_init 34 = .ok (.aload_n 0, 1) := by decide +kernel
theorem dX4_init_35 : decode cX4_init 35 = .ok (.getfield 11, 3) := by decide +kernel
theorem dX4_init_38 : decode cX4_init 38 = .ok (.iload_n 1, 1) := by decide +kernel
theorem dX4_init_39 : decode cX4_init 39 = .ok (.new 9, 3) := by decide +kernel
theorem dX4_init_42 : decode cX4_init 42 = .ok (.dup, 1) := by decide +kernel
theorem dX4_init_43 : decode cX4_init 43 = .ok (.invokespecial 24, 3) := by decide +kernel
theorem dX4_init_46 : decode cX4_init 46 = .ok (.aastore, 1) := by decide +kernel
theorem dX4_init_47 : decode cX4_init 47 = .ok (.iinc 1 1, 3) := by decide +kernel
theorem dX4_init_50 : decode cX4_init 50 = .ok (.goto (-25), 3) := by decide +kernel
theorem dX4_init_53 : decode cX4_init 53 = .ok (.return_, 1) := by decide +kernel
theorem dX4_keep_0 : decode cX4_keep 0 = .ok (.aload_n 0, 1) := by decide +kernel
theorem dX4_keep_1 : decode cX4_keep 1 = .ok (.aload_n 0, 1) := by decide +kernel
theorem dX4_keep_2 : decode cX4_keep 2 = .ok (.getfield 17, 3) := by decide +kernel
theorem dX4_keep_5 : decode cX4_keep 5 = .ok (.invokevirtual 25, 3) := by decide +kernel
theorem dX4_keep_8 : decode cX4_keep 8 = .ok (.astore_n 2, 1) := by decide +kernel
theorem dX4_keep_9 : decode cX4_keep 9 = .ok (.aload_n 2, 1) := by decide +kernel
theorem dX4_keep_10 : decode cX4_keep 10 = .ok (.ifnull 48, 3) := by decide +kernel
theorem dX4_keep_13 : decode cX4_keep 13 = .ok (.aload_n 2, 1) := by decide +kernel
theorem dX4_keep_14 : decode cX4_keep 14 = .ok (.aload_n 1, 1) := by decide +kernel
theorem dX4_keep_15 : decode cX4_keep 15 = .ok (.invokevirtual 29, 3) := by decide +kernel
theorem dX4_keep_18 : decode cX4_keep 18 = .ok (.aload_n 0, 1) := by decide +kernel
theorem dX4_keep_19 : decode cX4_keep 19 = .ok (.aload_n 0, 1) := by decide +kernel
theorem dX4_keep_20 : decode cX4_keep 20 = .ok (.getfield 17, 3) := by decide +kernel
theorem dX4_keep_23 : decode cX4_keep 23 = .ok (.iconst 1, 1) := by decide +kernel
theorem dX4_keep_24 : decode cX4_keep 24 = .ok (.iadd, 1) := by decide +kernel
theorem dX4_keep_25 : decode cX4_keep 25 = .ok (.bipush 8, 2) := by decide +kernel
theorem dX4_keep_27 : decode cX4_keep 27 = .ok (.if_icmp .ge 12, 3) := by decide +kernel
theorem dX4_keep_30 : decode cX4_keep 30 = .ok (.aload_n 0, 1) := by decide +kernel
theorem dX4_keep_31 : decode cX4_keep 31 = .ok (.getfield 17, 3) := by decide +kernel
theorem dX4_keep_34 : decode cX4_keep 34 = .ok (.iconst 1, 1) := by decide +kernel
theorem dX4_keep_35 : decode cX4_keep 35 = .ok (.iadd, 1) := by decide +kernel
theorem dX4_keep_36 : decode cX4_keep 36 = .ok (.goto 4, 3) := by decide +kernel
theorem dX4_keep_39 : decode cX4_keep 39 = .ok (.iconst 0, 1) := by decide +kernel
theorem dX4_keep_40 : decode cX4_keep 40 = .ok (.putfield 17, 3) := by decide +kernel
theorem dX4_keep_43 : decode cX4_keep 43 = .ok (.aload_n 0, 1) := by decide +kernel
theorem dX4_keep_44 : decode cX4_keep 44 = .ok (.aload_n 0, 1) := by decide +kernel
theorem dX4_keep_45 : decode cX4_keep 45 = .ok (.getfield 21, 3) := by decide +kernel
theorem dX4_keep_48 : decode cX4_keep 48 = .ok (.iconst 1, 1) := by decide +kernel
theorem dX4_keep_49 : decode cX4_keep 49 = .ok (.iadd, 1) := by decide +kernel
theorem dX4_keep_50 : decode cX4_keep 50 = .ok (.bipush 8, 2) := by decide +kernel
theorem dX4_keep_52 : decode cX4_keep 52 = .ok (.invokestatic 33, 3) := by decide +kernel
theorem dX4_keep_55 : decode cX4_keep 55 = .ok (.putfield 21, 3) := by decide +kernel
theorem dX4_keep_58 : decode cX4_keep 58 = .ok (.return_, 1) := by decide +kernel
theorem dX4_takeLatest_0 : decode cX4_takeLatest 0 = .ok (.aload_n 0, 1) := by decide +kernel
theorem dX4_takeLatest_1 : decode cX4_takeLatest 1 = .ok (.getfield 17, 3) := by decide +kernel
theorem dX4_takeLatest_4 : decode cX4_takeLatest 4 = .ok (.ifCond .le 12, 3) := by decide +kernel
theorem dX4_takeLatest_7 : decode cX4_takeLatest 7 = .ok (.aload_n 0, 1) := by decide +kernel
theorem dX4_takeLatest_8 : decode cX4_takeLatest 8 = .ok (.getfield 17, 3) := by decide +kernel
theorem dX4_takeLatest_11 : decode cX4_takeLatest 11 = .ok (.iconst 1, 1) := by decide +kernel
theorem dX4_takeLatest_12 : decode cX4_takeLatest 12 = .ok (.isub, 1) := by decide +kernel
theorem dX4_takeLatest_13 : decode cX4_takeLatest 13 = .ok (.goto 5, 3) := by decide +kernel
theorem dX4_takeLatest_16 : decode cX4_takeLatest 16 = .ok (.bipush 7, 2) := by decide +kernel
theorem dX4_takeLatest_18 : decode cX4_takeLatest 18 = .ok (.istore_n 2, 1) := by decide +kernel
theorem dX4_takeLatest_19 : decode cX4_takeLatest 19 = .ok (.aload_n 0, 1) := by decide +kernel
theorem dX4_takeLatest_20 : decode cX4_takeLatest 20 = .ok (.iload_n 2, 1) := by decide +kernel
theorem dX4_takeLatest_21 : decode cX4_takeLatest 21 = .ok (.invokevirtual 25, 3) := by decide +kernel
theorem dX4_takeLatest_24 : decode cX4_takeLatest 24 = .ok (.astore_n 3, 1) := by decide +kernel
theorem dX4_takeLatest_25 : decode cX4_takeLatest 25 = .ok (.aload_n 3, 1) := by decide +kernel
theorem dX4_takeLatest_26 : decode cX4_takeLatest 26 = .ok (.ifnull 30, 3) := by decide +kernel
theorem dX4_takeLatest_29 : decode cX4_takeLatest 29 = .ok (.aload_n 0, 1) := by decide +kernel
theorem dX4_takeLatest_30 : decode cX4_takeLatest 30 = .ok (.getfield 21, 3) := by decide +kernel
theorem dX4_takeLatest_33 : decode cX4_takeLatest 33 = .ok (.ifCond .le 23, 3) := by decide +kernel
theorem dX4_takeLatest_36 : decode cX4_takeLatest 36 = .ok (.aload_n 1, 1) := by decide +kernel
theorem dX4_takeLatest_37 : decode cX4_takeLatest 37 = .ok (.aload_n 3, 1) := by decide +kernel
theorem dX4_takeLatest_38 : decode cX4_takeLatest 38 = .ok (.invokevirtual 29, 3) := by decide +kernel
theorem dX4_takeLatest_41 : decode cX4_takeLatest 41 = .ok (.aload_n 0, 1) := by decide +kernel
theorem dX4_takeLatest_42 : decode cX4_takeLatest 42 = .ok (.iload_n 2, 1) := by decide +kernel
theorem dX4_takeLatest_43 : decode cX4_takeLatest 43 = .ok (.putfield 17, 3) := by decide +kernel
theorem dX4_takeLatest_46 : decode cX4_takeLatest 46 = .ok (.aload_n 0, 1) := by decide +kernel
theorem dX4_takeLatest_47 : decode cX4_takeLatest 47 = .ok (.dup, 1) := by decide +kernel
theorem dX4_takeLatest_48 : decode cX4_takeLatest 48 = .ok (.getfield 21, 3) := by decide +kernel
theorem dX4_takeLatest_51 : decode cX4_takeLatest 51 = .ok (.iconst 1, 1) := by decide +kernel
theorem dX4_takeLatest_52 : decode cX4_takeLatest 52 = .ok (.isub, 1) := by decide +kernel
theorem dX4_takeLatest_53 : decode cX4_takeLatest 53 = .ok (.putfield 21, 3) := by decide +kernel
theorem dX4_takeLatest_56 : decode cX4_takeLatest 56 = .ok (.return_, 1) := by decide +kernel
theorem dX4_forgetAll_0 : decode cX4_forgetAll 0 = .ok (.aload_n 0, 1) := by decide +kernel
theorem dX4_forgetAll_1 : decode cX4_forgetAll 1 = .ok (.iconst 0, 1) := by decide +kernel
theorem dX4_forgetAll_2 : decode cX4_forgetAll 2 = .ok (.putfield 21, 3) := by decide +kernel
theorem dX4_forgetAll_5 : decode cX4_forgetAll 5 = .ok (.return_, 1) := by decide +kernel
theorem dX4_placeAt_0 : decode cX4_placeAt 0 = .ok (.iload_n 1, 1) := by decide +kernel
theorem dX4_placeAt_1 : decode cX4_placeAt 1 = .ok (.ifCond .lt 21, 3) := by decide +kernel
theorem dX4_placeAt_4 : decode cX4_placeAt 4 = .ok (.iload_n 1, 1) := by decide +kernel
theorem dX4_placeAt_5 : decode cX4_placeAt 5 = .ok (.aload_n 0, 1) := by decide +kernel
theorem dX4_placeAt_6 : decode cX4_placeAt 6 = .ok (.getfield 11, 3) := by decide +kernel
theorem dX4_placeAt_9 : decode cX4_placeAt 9 = .ok (.arraylength, 1) := by decide +kernel
theorem dX4_placeAt_10 : decode cX4_placeAt 10 = .ok (.if_icmp .ge 12, 3) := by decide +kernel
theorem dX4_placeAt_13 : decode cX4_placeAt 13 = .ok (.aload_n 0, 1) := by decide +kernel
theorem dX4_placeAt_14 : decode cX4_placeAt 14 = .ok (.getfield 11, 3) := by decide +kernel
theorem dX4_placeAt_17 : decode cX4_placeAt 17 = .ok (.iload_n 1, 1) := by decide +kernel
theorem dX4_placeAt_18 : decode cX4_placeAt 18 = .ok (.aaload, 1) := by decide +kernel
theorem dX4_placeAt_19 : decode cX4_placeAt 19 = .ok (.goto 4, 3) := by decide +kernel
theorem dX4_placeAt_22 : decode cX4_placeAt 22 = .ok (.aconst_null, 1) := by decide +kernel
theorem dX4_placeAt_23 : decode cX4_placeAt 23 = .ok (.areturn, 1) := by decide +kernel
theorem dX5_init_0 : decode cX5_init 0 = .ok (.aload_n 0, 1) := by decide +kernel
theorem dX5_init_1 : decode cX5_init 1 = .ok (.invokespecial 3, 3) := by decide +kernel
theorem dX5_init_4 : decode cX5_init 4 = .ok (.aload_n 0, 1) := by decide +kernel
theorem dX5_init_5 : decode cX5_init 5 = .ok (.new 9, 3) := by decide +kernel
theorem dX5_init_8 : decode cX5_init 8 = .ok (.dup, 1) := by decide +kernel
theorem dX5_init_9 : decode cX5_init 9 = .ok (.invokespecial 11, 3) := by decide +kernel
theorem dX5_init_12 : decode cX5_init 12 = .ok (.putfield 12, 3) := by decide +kernel
theorem dX5_init_15 : decode cX5_init 15 = .ok (.aload_n 0, 1) := by decide +kernel
theorem dX5_init_16 : decode cX5_init 16 = .ok (.iconst 0, 1) := by decide +kernel
theorem dX5_init_17 : decode cX5_init 17 = .ok (.putfield 18, 3) := by decide +kernel
theorem dX5_init_20 : decode cX5_init 20 = .ok (.aload_n 0, 1) := by decide +kernel
theorem dX5_init_21 : decode cX5_init 21 = .ok (.iconst 0, 1) := by decide +kernel
theorem dX5_init_22 : decode cX5_init 22 = .ok (.putfield 22, 3) := by decide +kernel
theorem dX5_init_25 : decode cX5_init 25 = .ok (.aload_n 0, 1) := by decide +kernel
theorem dX5_init_26 : decode cX5_init 26 = .ok (.new 25, 3) := by decide +kernel
theorem dX5_init_29 : decode cX5_init 29 = .ok (.dup, 1) := by decide +kernel
theorem dX5_init_30 : decode cX5_init 30 = .ok (.bipush 8, 2) := by decide +kernel
theorem dX5_init_32 : decode cX5_init 32 = .ok (.invokespecial 27, 3) := by decide +kernel
theorem dX5_init_35 : decode cX5_init 35 = .ok (.putfield 30, 3) := by decide +kernel
theorem dX5_init_38 : decode cX5_init 38 = .ok (.aload_n 0, 1) := by decide +kernel
theorem dX5_init_39 : decode cX5_init 39 = .ok (.new 25, 3) := by decide +kernel
theorem dX5_init_42 : decode cX5_init 42 = .ok (.dup, 1) := by decide +kernel
theorem dX5_init_43 : decode cX5_init 43 = .ok (.bipush 8, 2) := by decide +kernel
theorem dX5_init_45 : decode cX5_init 45 = .ok (.invokespecial 27, 3) := by decide +kernel
theorem dX5_init_48 : decode cX5_init 48 = .ok (.putfield 34, 3) := by decide +kernel
theorem dX5_init_51 : decode cX5_init 51 = .ok (.aload_n 0, 1) := by decide +kernel
theorem dX5_init_52 : decode cX5_init 52 = .ok (.new 25, 3) := by decide +kernel
theorem dX5_init_55 : decode cX5_init 55 = .ok (.dup, 1) := by decide +kernel
theorem dX5_init_56 : decode cX5_init 56 = .ok (.bipush 8, 2) := by decide +kernel
theorem dX5_init_58 : decode cX5_init 58 = .ok (.invokespecial 27, 3) := by decide +kernel
theorem dX5_init_61 : decode cX5_init 61 = .ok (.putfield 37, 3) := by decide +kernel
theorem dX5_init_64 : decode cX5_init 64 = .ok (.aload_n 0, 1) := by decide +kernel
theorem dX5_init_65 : decode cX5_init 65 = .ok (.new 25, 3) := by decide +kernel
theorem dX5_init_68 : decode cX5_init 68 = .ok (.dup, 1) := by decide +kernel
theorem dX5_init_69 : decode cX5_init 69 = .ok (.bipush 8, 2) := by decide +kernel
theorem dX5_init_71 : decode cX5_init 71 = .ok (.invokespecial 27, 3) := by decide +kernel
theorem dX5_init_74 : decode cX5_init 74 = .ok (.putfield 40, 3) := by decide +kernel
theorem dX5_init_77 : decode cX5_init 77 = .ok (.aload_n 0, 1) := by decide +kernel
theorem dX5_init_78 : decode cX5_init 78 = .ok (.new 25, 3) := by decide +kernel
theorem dX5_init_81 : decode cX5_init 81 = .ok (.dup, 1) := by decide +kernel
theorem dX5_init_82 : decode cX5_init 82 = .ok (.bipush 8, 2) := by decide +kernel
theorem dX5_init_84 : decode cX5_init 84 = .ok (.invokespecial 27, 3) := by decide +kernel
theorem dX5_init_87 : decode cX5_init 87 = .ok (.putfield 43, 3) := by decide +kernel
theorem dX5_init_90 : decode cX5_init 90 = .ok (.return_, 1) := by decide +kernel
theorem dX5_parse_0 : decode cX5_parse 0 = .ok (.aload_n 0, 1) := by decide +kernel
theorem dX5_parse_1 : decode cX5_parse 1 = .ok (.iconst 0, 1) := by decide +kernel
theorem dX5_parse_2 : decode cX5_parse 2 = .ok (.putfield 18, 3) := by decide +kernel
theorem dX5_parse_5 : decode cX5_parse 5 = .ok (.aload_n 0, 1) := by decide +kernel
theorem dX5_parse_6 : decode cX5_parse 6 = .ok (.iconst 0, 1) := by decide +kernel
theorem dX5_parse_7 : decode cX5_parse 7 = .ok (.putfield 22, 3) := by decide +kernel
theorem dX5_parse_10 : decode cX5_parse 10 = .ok (.iconst 0, 1) := by decide +kernel
theorem dX5_parse_11 : decode cX5_parse 11 = .ok (.istore_n 1, 1) := by decide +kernel
theorem dX5_parse_12 : decode cX5_parse 12 = .ok (.iload_n 1, 1) := by decide +kernel
theorem dX5_parse_13 : decode cX5_parse 13 = .ok (.bipush 60, 2) := by decide +kernel
theorem dX5_parse_15 : decode cX5_parse 15 = .ok (.if_icmp .gt 78, 3) := by decide +kernel
theorem dX5_parse_18 : decode cX5_parse 18 = .ok (.aload_n 0, 1) := by decide +kernel
theorem dX5_parse_19 : decode cX5_parse 19 = .ok (.invokevirtual 46, 3) := by decide +kernel
theorem dX5_parse_22 : decode cX5_parse 22 = .ok (.istore_n 2, 1) := by decide +kernel
theorem dX5_parse_23 : decode cX5_parse 23 = .ok (.iload_n 2, 1) := by decide +kernel
theorem dX5_parse_24 : decode cX5_parse 24 = .ok (.iconst (-1), 1) := by decide +kernel
theorem dX5_parse_25 : decode cX5_parse 25 = .ok (.if_icmp .eq 11, 3) := by decide +kernel
theorem dX5_parse_28 : decode cX5_parse 28 = .ok (.aload_n 0, 1) := by decide +kernel
theorem dX5_parse_29 : decode cX5_parse 29 = .ok (.iload_n 2, 1) := by decide +kernel
theorem dX5_parse_30 : decode cX5_parse 30 = .ok (.invokevirtual 50, 3) := by decide +kernel
theorem dX5_parse_33 : decode cX5_parse 33 = .ok (.ifCond .ne 5, 3) := by decide +kernel
theorem dX5_parse_36 : decode cX5_parse 36 = .ok (.iconst 0, 1) := by decide +kernel
theorem dX5_parse_37 : decode cX5_parse 37 = .ok (.ireturn, 1) := by decide +kernel
theorem dX5_parse_38 : decode cX5_parse 38 = .ok (.aload_n 0, 1) := by decide +kernel
theorem dX5_parse_39 : decode cX5_parse 39 = .ok (.getfield 30, 3) := by decide +kernel
theorem dX5_parse_42 : decode cX5_parse 42 = .ok (.aload_n 0, 1) := by decide +kernel
theorem dX5_parse_43 : decode cX5_parse 43 = .ok (.getfield 22, 3) := by decide +kernel
theorem dX5_parse_46 : decode cX5_parse 46 = .ok (.iload_n 2, 1) := by decide +kernel
theorem dX5_parse_47 : decode cX5_parse 47 = .ok (.invokevirtual 54, 3) := by decide +kernel
theorem dX5_parse_50 : decode cX5_parse 50 = .ok (.aload_n 0, 1) := by decide +kernel
theorem dX5_parse_51 : decode cX5_parse 51 = .ok (.dup, 1) := by decide +kernel
theorem dX5_parse_52 : decode cX5_parse 52 = .ok (.getfield 22, 3) := by decide +kernel
theorem dX5_parse_55 : decode cX5_parse 55 = .ok (.iconst 1, 1) := by decide +kernel
theorem dX5_parse_56 : decode cX5_parse 56 = .ok (.iadd, 1) := by decide +kernel
theorem dX5_parse_57 : decode cX5_parse 57 = .ok (.putfield 22, 3) := by decide +kernel
theorem dX5_parse_60 : decode cX5_parse 60 = .ok (.aload_n 0, 1) := by decide +kernel
theorem dX5_parse_61 : decode cX5_parse 61 = .ok (.getfield 18, 3) := by decide +kernel
theorem dX5_parse_64 : decode cX5_parse 64 = .ok (.aload_n 0, 1) := by decide +kernel
theorem dX5_parse_65 : decode cX5_parse 65 = .ok (.getfield 12, 3) := by decide +kernel
theorem dX5_parse_68 : decode cX5_parse 68 = .ok (.invokevirtual 58, 3) := by decide +kernel
theorem dX5_parse_71 : decode cX5_parse 71 = .ok (.if_icmp .ne 5, 3) := by decide +kernel
theorem dX5_parse_74 : decode cX5_parse 74 = .ok (.iconst 1, 1) := by decide +kernel
theorem dX5_parse_75 : decode cX5_parse 75 = .ok (.ireturn, 1) := by decide +kernel
theorem dX5_parse_76 : decode cX5_parse 76 = .ok (.aload_n 0, 1) := by decide +kernel
theorem dX5_parse_77 : decode cX5_parse 77 = .ok (.bipush 59, 2) := by decide +kernel
theorem dX5_parse_79 : decode cX5_parse 79 = .ok (.invokevirtual 61, 3) := by decide +kernel
theorem dX5_parse_82 : decode cX5_parse 82 = .ok (.ifCond .ne 5, 3) := by decide +kernel
theorem dX5_parse_85 : decode cX5_parse 85 = .ok (.iconst 0, 1) := by decide +kernel
theorem dX5_parse_86 : decode cX5_parse 86 = .ok (.ireturn, 1) := by decide +kernel
theorem dX5_parse_87 : decode cX5_parse 87 = .ok (.iinc 1 1, 3) := by decide +kernel
theorem dX5_parse_90 : decode cX5_parse 90 = .ok (.goto (-78), 3) := by decide +kernel
theorem dX5_parse_93 : decode cX5_parse 93 = .ok (.iconst 0, 1) := by decide +kernel
theorem dX5_parse_94 : decode cX5_parse 94 = .ok (.ireturn, 1) := by decide +kernel
theorem dX5_readKeyword_0 : decode cX5_readKeyword 0 = .ok (.iconst 0, 1) := by decide +kernel
theorem dX5_readKeyword_1 : decode cX5_readKeyword 1 = .ok (.istore_n 1, 1) := by decide +kernel
theorem dX5_readKeyword_2 : decode cX5_readKeyword 2 = .ok (.iconst 0, 1) := by decide +kernel
theorem dX5_readKeyword_3 : decode cX5_readKeyword 3 = .ok (.istore_n 2, 1) := by decide +kernel
theorem dX5_readKeyword_4 : decode cX5_readKeyword 4 = .ok (.iload_n 2, 1) := by decide +kernel
theorem dX5_readKeyword_5 : decode cX5_readKeyword 5 = .ok (.bipush 7, 2) := by decide +kernel
theorem dX5_readKeyword_7 : decode cX5_readKeyword 7 = .ok (.if_icmp .ge 30, 3) := by decide +kernel
theorem dX5_readKeyword_10 : decode cX5_readKeyword 10 = .ok (.aload_n 0, 1) := by decide +kernel
theorem dX5_readKeyword_11 : decode cX5_readKeyword 11 = .ok (.iload_n 2, 1) := by decide +kernel
theorem dX5_readKeyword_12 : decode cX5_readKeyword 12 = .ok (.invokestatic 65, 3) := by decide +kernel
theorem dX5_readKeyword_15 : decode cX5_readKeyword 15 = .ok (.invokevirtual 69, 3) := by decide +kernel
theorem dX5_readKeyword_18 : decode cX5_readKeyword 18 = .ok (.aload_n 0, 1) := by decide +kernel
theorem dX5_readKeyword_19 : decode cX5_readKeyword 19 = .ok (.iload_n 1, 1) := by decide +kernel
theorem dX5_readKeyword_20 : decode cX5_readKeyword 20 = .ok (.invokestatic 65, 3) := by decide +kernel
theorem dX5_readKeyword_23 : decode cX5_readKeyword 23 = .ok (.invokevirtual 69, 3) := by decide +kernel
theorem dX5_readKeyword_26 : decode cX5_readKeyword 26 = .ok (.if_icmp .le 5, 3) := by decide +kernel
theorem dX5_readKeyword_29 : decode cX5_readKeyword 29 = .ok (.iload_n 2, 1) := by decide +kernel
theorem dX5_readKeyword_30 : decode cX5_readKeyword 30 = .ok (.istore_n 1, 1) := by decide +kernel
theorem dX5_readKeyword_31 : decode cX5_readKeyword 31 = .ok (.iinc 2 1, 3) := by decide +kernel
theorem dX5_readKeyword_34 : decode cX5_readKeyword 34 = .ok (.goto (-30), 3) := by decide +kernel
theorem dX5_readKeyword_37 : decode cX5_readKeyword 37 = .ok (.aload_n 0, 1) := by decide +kernel
theorem dX5_readKeyword_38 : decode cX5_readKeyword 38 = .ok (.iload_n 1, 1) := by decide +kernel
theorem dX5_readKeyword_39 : decode cX5_readKeyword 39 = .ok (.invokestatic 65, 3) := by decide +kernel
theorem dX5_readKeyword_42 : decode cX5_readKeyword 42 = .ok (.invokevirtual 69, 3) := by decide +kernel
theorem dX5_readKeyword_45 : decode cX5_readKeyword 45 = .ok (.istore_n 2, 1) := by decide +kernel
theorem dX5_readKeyword_46 : decode cX5_readKeyword 46 = .ok (.aload_n 0, 1) := by decide +kernel
theorem dX5_readKeyword_47 : decode cX5_readKeyword 47 = .ok (.dup, 1) := by decide +kernel
theorem dX5_readKeyword_48 : decode cX5_readKeyword 48 = .ok (.getfield 18, 3) := by decide +kernel
theorem dX5_readKeyword_51 : decode cX5_readKeyword 51 = .ok (.iload_n 2, 1) := by decide +kernel
theorem dX5_readKeyword_52 : decode cX5_readKeyword 52 = .ok (.iadd, 1) := by decide +kernel
theorem dX5_readKeyword_53 : decode cX5_readKeyword 53 = .ok (.putfield 18, 3) := by decide +kernel
theorem dX5_readKeyword_56 : decode cX5_readKeyword 56 = .ok (.iload_n 2, 1) := by decide +kernel
theorem dX5_readKeyword_57 : decode cX5_readKeyword 57 = .ok (.iload_n 1, 1) := by decide +kernel
theorem dX5_readKeyword_58 : decode cX5_readKeyword 58 = .ok (.invokestatic 65, 3) := by decide +kernel
theorem dX5_readKeyword_61 : decode cX5_readKeyword 61 = .ok (.invokevirtual 73, 3) := by decide +kernel
theorem dX5_readKeyword_64 : decode cX5_readKeyword 64 = .ok (.if_icmp .ne 7, 3) := by decide +kernel
theorem dX5_readKeyword_67 : decode cX5_readKeyword 67 = .ok (.iload_n 1, 1) := by decide +kernel
theorem dX5_readKeyword_68 : decode cX5_readKeyword 68 = .ok (.goto 4, 3) := by decide +kernel
theorem dX5_readKeyword_71 : decode cX5_readKeyword 71 = .ok (.iconst (-1), 1) := by decide +kernel
theorem dX5_readKeyword_72 : decode cX5_readKeyword 72 = .ok (.ireturn, 1) := by decide +kernel
theorem dX5_followed_0 : decode cX5_followed 0 = .ok (.iconst 0, 1) := by decide +kernel
theorem dX5_followed_1 : decode cX5_followed 1 = .ok (.istore_n 2, 1) := by decide +kernel
theorem dX5_followed_2 : decode cX5_followed 2 = .ok (.iload_n 2, 1) := by decide +kernel
theorem dX5_followed_3 : decode cX5_followed 3 = .ok (.aload_n 1, 1) := by decide +kernel
theorem dX5_followed_4 : decode cX5_followed 4 = .ok (.invokevirtual 73, 3) := by decide +kernel
theorem dX5_followed_7 : decode cX5_followed 7 = .ok (.if_icmp .ge 27, 3) := by decide +kernel
theorem dX5_followed_10 : decode cX5_followed 10 = .ok (.aload_n 0, 1) := by decide +kernel
theorem dX5_followed_11 : decode cX5_followed 11 = .ok (.aload_n 0, 1) := by decide +kernel
theorem dX5_followed_12 : decode cX5_followed 12 = .ok (.getfield 18, 3) := by decide +kernel
theorem dX5_followed_15 : decode cX5_followed 15 = .ok (.iload_n 2, 1) := by decide +kernel
theorem dX5_followed_16 : decode cX5_followed 16 = .ok (.iadd, 1) := by decide +kernel
theorem dX5_followed_17 : decode cX5_followed 17 = .ok (.invokevirtual 76, 3) := by decide +kernel
theorem dX5_followed_20 : decode cX5_followed 20 = .ok (.aload_n 1, 1) := by decide +kernel
theorem dX5_followed_21 : decode cX5_followed 21 = .ok (.iload_n 2, 1) := by decide +kernel
theorem dX5_followed_22 : decode cX5_followed 22 = .ok (.invokevirtual 80, 3) := by decide +kernel
theorem dX5_followed_25 : decode cX5_followed 25 = .ok (.if_icmp .ne 9, 3) := by decide +kernel
theorem dX5_followed_28 : decode cX5_followed 28 = .ok (.iinc 2 1, 3) := by decide +kernel
theorem dX5_followed_31 : decode cX5_followed 31 = .ok (.goto (-29), 3) := by decide +kernel
theorem dX5_followed_34 : decode cX5_followed 34 = .ok (.iload_n 2, 1) := by decide +kernel
theorem dX5_followed_35 : decode cX5_followed 35 = .ok (.ireturn, 1) := by decide +kernel
theorem dX5_keywordOf_0 : decode cX5_keywordOf 0 = .ok (.iload_n 0, 1) := by decide +kernel
theorem dX5_keywordOf_1 : decode cX5_keywordOf 1 = .ok (.tableswitch 57 0 5 #[39, 42, 45, 48, 51, 54], 39) := by decide +kernel
theorem dX5_keywordOf_40 : decode cX5_keywordOf 40 = .ok (.ldc 83, 2) := by decide +kernel
theorem dX5_keywordOf_42 : decode cX5_keywordOf 42 = .ok (.areturn, 1) := by decide +kernel
theorem dX5_keywordOf_43 : decode cX5_keywordOf 43 = .ok (.ldc 85, 2) := by decide +kernel
theorem dX5_keywordOf_45 : decode cX5_keywordOf 45 = .ok (.areturn, 1) := by decide +kernel
theorem dX5_keywordOf_46 : decode cX5_keywordOf 46 = .ok (.ldc 87, 2) := by decide +kernel
theorem dX5_keywordOf_48 : decode cX5_keywordOf 48 = .ok (.areturn, 1) := by decide +kernel
theorem dX5_keywordOf_49 : decode cX5_keywordOf 49 = .ok (.ldc 89, 2) := by decide +kernel
theorem dX5_keywordOf_51 : decode cX5_keywordOf 51 = .ok (.areturn, 1) := by decide +kernel
theorem dX5_keywordOf_52 : decode cX5_keywordOf 52 = .ok (.ldc 91, 2) := by decide +kernel
theorem dX5_keywordOf_54 : decode cX5_keywordOf 54 = .ok (.areturn, 1) := by decide +kernel
theorem dX5_keywordOf_55 : decode cX5_keywordOf 55 = .ok (.ldc 93, 2) := by decide +kernel
theorem dX5_keywordOf_57 : decode cX5_keywordOf 57 = .ok (.areturn, 1) := by decide +kernel
theorem dX5_keywordOf_58 : decode cX5_keywordOf 58 = .ok (.ldc 95, 2) := by decide +kernel
theorem dX5_keywordOf_60 : decode cX5_keywordOf 60 = .ok (.areturn, 1) := by decide +kernel
theorem dX5_readArguments_0 : decode cX5_readArguments 0 = .ok (.iload_n 1, 1) := by decide +kernel
theorem dX5_readArguments_1 : decode cX5_readArguments 1 = .ok (.tableswitch 136 0 3 #[31, 68, 77, 112], 31) := by decide +kernel
theorem dX5_readArguments_32 : decode cX5_readArguments 32 = .ok (.aload_n 0, 1) := by decide +kernel
theorem dX5_readArguments_33 : decode cX5_readArguments 33 = .ok (.aload_n 0, 1) := by decide +kernel
theorem dX5_readArguments_34 : decode cX5_readArguments 34 = .ok (.getfield 34, 3) := by decide +kernel
theorem dX5_readArguments_37 : decode cX5_readArguments 37 = .ok (.invokevirtual 97, 3) := by decide +kernel
theorem dX5_readArguments_40 : decode cX5_readArguments 40 = .ok (.ifCond .eq 27, 3) := by decide +kernel
theorem dX5_readArguments_43 : decode cX5_readArguments 43 = .ok (.aload_n 0, 1) := by decide +kernel
theorem dX5_readArguments_44 : decode cX5_readArguments 44 = .ok (.bipush 32, 2) := by decide +kernel
theorem dX5_readArguments_46 : decode cX5_readArguments 46 = .ok (.invokevirtual 61, 3) := by decide +kernel
theorem dX5_readArguments_49 : decode cX5_readArguments 49 = .ok (.ifCond .eq 18, 3) := by decide +kernel
theorem dX5_readArguments_52 : decode cX5_readArguments 52 = .ok (.aload_n 0, 1) := by decide +kernel
theorem dX5_readArguments_53 : decode cX5_readArguments 53 = .ok (.aload_n 0, 1) := by decide +kernel
theorem dX5_readArguments_54 : decode cX5_readArguments 54 = .ok (.getfield 37, 3) := by decide +kernel
theorem dX5_readArguments_57 : decode cX5_readArguments 57 = .ok (.invokevirtual 97, 3) := by decide +kernel
theorem dX5_readArguments_60 : decode cX5_readArguments 60 = .ok (.ifCond .eq 7, 3) := by decide +kernel
theorem dX5_readArguments_63 : decode cX5_readArguments 63 = .ok (.iconst 1, 1) := by decide +kernel
theorem dX5_readArguments_64 : decode cX5_readArguments 64 = .ok (.goto 4, 3) := by decide +kernel
theorem dX5_readArguments_67 : decode cX5_readArguments 67 = .ok (.iconst 0, 1) := by decide +kernel
theorem dX5_readArguments_68 : decode cX5_readArguments 68 = .ok (.ireturn, 1) := by decide +kernel
theorem dX5_readArguments_69 : decode cX5_readArguments 69 = .ok (.aload_n 0, 1) := by decide +kernel
theorem dX5_readArguments_70 : decode cX5_readArguments 70 = .ok (.aload_n 0, 1) := by decide +kernel
theorem dX5_readArguments_71 : decode cX5_readArguments 71 = .ok (.getfield 34, 3) := by decide +kernel
theorem dX5_readArguments_74 : decode cX5_readArguments 74 = .ok (.invokevirtual 97, 3) := by decide +kernel
theorem dX5_readArguments_77 : decode cX5_readArguments 77 = .ok (.ireturn, 1) := by decide +kernel
theorem dX5_readArguments_78 : decode cX5_readArguments 78 = .ok (.aload_n 0, 1) := by decide +kernel
theorem dX5_readArguments_79 : decode cX5_readArguments 79 = .ok (.invokevirtual 101, 3) := by decide +kernel
theorem dX5_readArguments_82 : decode cX5_readArguments 82 = .ok (.ifCond .eq 29, 3) := by decide +kernel
theorem dX5_readArguments_85 : decode cX5_readArguments 85 = .ok (.aload_n 0, 1) := by decide +kernel
theorem dX5_readArguments_86 : decode cX5_readArguments 86 = .ok (.bipush 43, 2) := by decide +kernel
theorem dX5_readArguments_88 : decode cX5_readArguments 88 = .ok (.bipush 45, 2) := by decide +kernel
theorem dX5_readArguments_90 : decode cX5_readArguments 90 = .ok (.invokevirtual 105, 3) := by decide +kernel
theorem dX5_readArguments_93 : decode cX5_readArguments 93 = .ok (.ifCond .eq 18, 3) := by decide +kernel
theorem dX5_readArguments_96 : decode cX5_readArguments 96 = .ok (.aload_n 0, 1) := by decide +kernel
theorem dX5_readArguments_97 : decode cX5_readArguments 97 = .ok (.aload_n 0, 1) := by decide +kernel
theorem dX5_readArguments_98 : decode cX5_readArguments 98 = .ok (.getfield 43, 3) := by decide +kernel
theorem dX5_readArguments_101 : decode cX5_readArguments 101 = .ok (.invokevirtual 97, 3) := by decide +kernel
theorem dX5_readArguments_104 : decode cX5_readArguments 104 = .ok (.ifCond .eq 7, 3) := by decide +kernel
theorem dX5_readArguments_107 : decode cX5_readArguments 107 = .ok (.iconst 1, 1) := by decide +kernel
theorem dX5_readArguments_108 : decode cX5_readArguments 108 = .ok (.goto 4, 3) := by decide +kernel
theorem dX5_readArguments_111 : decode cX5_readArguments 111 = .ok (.iconst 0, 1) := by decide +kernel
theorem dX5_readArguments_112 : decode cX5_readArguments 112 = .ok (.ireturn, 1) := by decide +kernel
theorem dX5_readArguments_113 : decode cX5_readArguments 113 = .ok (.aload_n 0, 1) := by decide +kernel
theorem dX5_readArguments_114 : decode cX5_readArguments 114 = .ok (.invokevirtual 101, 3) := by decide +kernel
theorem dX5_readArguments_117 : decode cX5_readArguments 117 = .ok (.ifCond .eq 18, 3) := by decide +kernel
theorem dX5_readArguments_120 : decode cX5_readArguments 120 = .ok (.aload_n 0, 1) := by decide +kernel
theorem dX5_readArguments_121 : decode cX5_readArguments 121 = .ok (.bipush 33, 2) := by decide +kernel
theorem dX5_readArguments_123 : decode cX5_readArguments 123 = .ok (.bipush 63, 2) := by decide +kernel
theorem dX5_readArguments_125 : decode cX5_readArguments 125 = .ok (.invokevirtual 105, 3) := by decide +kernel
theorem dX5_readArguments_128 : decode cX5_readArguments 128 = .ok (.ifCond .eq 7, 3) := by decide +kernel
theorem dX5_readArguments_131 : decode cX5_readArguments 131 = .ok (.iconst 1, 1) := by decide +kernel
theorem dX5_readArguments_132 : decode cX5_readArguments 132 = .ok (.goto 4, 3) := by decide +kernel
theorem dX5_readArguments_135 : decode cX5_readArguments 135 = .ok (.iconst 0, 1) := by decide +kernel
theorem dX5_readArguments_136 : decode cX5_readArguments 136 = .ok (.ireturn, 1) := by decide +kernel
theorem dX5_readArguments_137 : decode cX5_readArguments 137 = .ok (.aload_n 0, 1) := by decide +kernel
theorem dX5_readArguments_138 : decode cX5_readArguments 138 = .ok (.aload_n 0, 1) := by decide +kernel
theorem dX5_readArguments_139 : decode cX5_readArguments 139 = .ok (.getfield 34, 3) := by decide +kernel
theorem dX5_readArguments_142 : decode cX5_readArguments 142 = .ok (.invokevirtual 109, 3) := by decide +kernel
theorem dX5_readArguments_145 : decode cX5_readArguments 145 = .ok (.ireturn, 1) := by decide +kernel
theorem dX5_readCaseAndWitness_0 : decode cX5_readCaseAndWitness 0 = .ok (.aload_n 0, 1) := by decide +kernel
theorem dX5_readCaseAndWitness_1 : decode cX5_readCaseAndWitness 1 = .ok (.aload_n 0, 1) := by decide +kernel
theorem dX5_readCaseAndWitness_2 : decode cX5_readCaseAndWitness 2 = .ok (.getfield 34, 3) := by decide +kernel
theorem dX5_readCaseAndWitness_5 : decode cX5_readCaseAndWitness 5 = .ok (.invokevirtual 109, 3) := by decide +kernel
theorem dX5_readCaseAndWitness_8 : decode cX5_readCaseAndWitness 8 = .ok (.ifCond .eq 27, 3) := by decide +kernel
theorem dX5_readCaseAndWitness_11 : decode cX5_readCaseAndWitness 11 = .ok (.aload_n 0, 1) := by decide +kernel
theorem dX5_readCaseAndWitness_12 : decode cX5_readCaseAndWitness 12 = .ok (.bipush 32, 2) := by decide +kernel
theorem dX5_readCaseAndWitness_14 : decode cX5_readCaseAndWitness 14 = .ok (.invokevirtual 61, 3) := by decide +kernel
theorem dX5_readCaseAndWitness_17 : decode cX5_readCaseAndWitness 17 = .ok (.ifCond .eq 18, 3) := by decide +kernel
theorem dX5_readCaseAndWitness_20 : decode cX5_readCaseAndWitness 20 = .ok (.aload_n 0, 1) := by decide +kernel
theorem dX5_readCaseAndWitness_21 : decode cX5_readCaseAndWitness 21 = .ok (.aload_n 0, 1) := by decide +kernel
theorem dX5_readCaseAndWitness_22 : decode cX5_readCaseAndWitness 22 = .ok (.getfield 37, 3) := by decide +kernel
theorem dX5_readCaseAndWitness_25 : decode cX5_readCaseAndWitness 25 = .ok (.invokevirtual 97, 3) := by decide +kernel
theorem dX5_readCaseAndWitness_28 : decode cX5_readCaseAndWitness 28 = .ok (.ifCond .eq 7, 3) := by decide +kernel
theorem dX5_readCaseAndWitness_31 : decode cX5_readCaseAndWitness 31 = .ok (.iconst 1, 1) := by decide +kernel
theorem dX5_readCaseAndWitness_32 : decode cX5_readCaseAndWitness 32 = .ok (.goto 4, 3) := by decide +kernel
theorem dX5_readCaseAndWitness_35 : decode cX5_readCaseAndWitness 35 = .ok (.iconst 0, 1) := by decide +kernel
theorem dX5_readCaseAndWitness_36 : decode cX5_readCaseAndWitness 36 = .ok (.ireturn, 1) := by decide +kernel
theorem dX5_readNumber_0 : decode cX5_readNumber 0 = .ok (.aload_n 0, 1) := by decide +kernel
theorem dX5_readNumber_1 : decode cX5_readNumber 1 = .ok (.aload_n 1, 1) := by decide +kernel
theorem dX5_readNumber_2 : decode cX5_readNumber 2 = .ok (.invokevirtual 97, 3) := by decide +kernel
theorem dX5_readNumber_5 : decode cX5_readNumber 5 = .ok (.ifCond .ne 5, 3) := by decide +kernel
theorem dX5_readNumber_8 : decode cX5_readNumber 8 = .ok (.iconst 0, 1) := by decide +kernel
theorem dX5_readNumber_9 : decode cX5_readNumber 9 = .ok (.ireturn, 1) := by decide +kernel
theorem dX5_readNumber_10 : decode cX5_readNumber 10 = .ok (.aload_n 1, 1) := by decide +kernel
theorem dX5_readNumber_11 : decode cX5_readNumber 11 = .ok (.aload_n 0, 1) := by decide +kernel
theorem dX5_readNumber_12 : decode cX5_readNumber 12 = .ok (.getfield 22, 3) := by decide +kernel
theorem dX5_readNumber_15 : decode cX5_readNumber 15 = .ok (.invokevirtual 112, 3) := by decide +kernel
theorem dX5_readNumber_18 : decode cX5_readNumber 18 = .ok (.istore_n 2, 1) := by decide +kernel
theorem dX5_readNumber_19 : decode cX5_readNumber 19 = .ok (.aload_n 0, 1) := by decide +kernel
theorem dX5_readNumber_20 : decode cX5_readNumber 20 = .ok (.aload_n 1, 1) := by decide +kernel
theorem dX5_readNumber_21 : decode cX5_readNumber 21 = .ok (.invokevirtual 97, 3) := by decide +kernel
theorem dX5_readNumber_24 : decode cX5_readNumber 24 = .ok (.ifCond .eq 15, 3) := by decide +kernel
theorem dX5_readNumber_27 : decode cX5_readNumber 27 = .ok (.aload_n 1, 1) := by decide +kernel
theorem dX5_readNumber_28 : decode cX5_readNumber 28 = .ok (.aload_n 0, 1) := by decide +kernel
theorem dX5_readNumber_29 : decode cX5_readNumber 29 = .ok (.getfield 22, 3) := by decide +kernel
theorem dX5_readNumber_32 : decode cX5_readNumber 32 = .ok (.bipush 10, 2) := by decide +kernel
theorem dX5_readNumber_34 : decode cX5_readNumber 34 = .ok (.iload_n 2, 1) := by decide +kernel
theorem dX5_readNumber_35 : decode cX5_readNumber 35 = .ok (.imul, 1) := by decide +kernel
theorem dX5_readNumber_36 : decode cX5_readNumber 36 = .ok (.invokevirtual 116, 3) := by decide +kernel
theorem dX5_readNumber_39 : decode cX5_readNumber 39 = .ok (.iconst 1, 1) := by decide +kernel
theorem dX5_readNumber_40 : decode cX5_readNumber 40 = .ok (.ireturn, 1) := by decide +kernel
theorem dX5_readDigit_0 : decode cX5_readDigit 0 = .ok (.aload_n 0, 1) := by decide +kernel
theorem dX5_readDigit_1 : decode cX5_readDigit 1 = .ok (.aload_n 0, 1) := by decide +kernel
theorem dX5_readDigit_2 : decode cX5_readDigit 2 = .ok (.getfield 18, 3) := by decide +kernel
theorem dX5_readDigit_5 : decode cX5_readDigit 5 = .ok (.invokevirtual 76, 3) := by decide +kernel
theorem dX5_readDigit_8 : decode cX5_readDigit 8 = .ok (.istore_n 2, 1) := by decide +kernel
theorem dX5_readDigit_9 : decode cX5_readDigit 9 = .ok (.iload_n 2, 1) := by decide +kernel
theorem dX5_readDigit_10 : decode cX5_readDigit 10 = .ok (.bipush 48, 2) := by decide +kernel
theorem dX5_readDigit_12 : decode cX5_readDigit 12 = .ok (.if_icmp .lt 9, 3) := by decide +kernel
theorem dX5_readDigit_15 : decode cX5_readDigit 15 = .ok (.iload_n 2, 1) := by decide +kernel
theorem dX5_readDigit_16 : decode cX5_readDigit 16 = .ok (.bipush 57, 2) := by decide +kernel
theorem dX5_readDigit_18 : decode cX5_readDigit 18 = .ok (.if_icmp .le 5, 3) := by decide +kernel
theorem dX5_readDigit_21 : decode cX5_readDigit 21 = .ok (.iconst 0, 1) := by decide +kernel
theorem dX5_readDigit_22 : decode cX5_readDigit 22 = .ok (.ireturn, 1) := by decide +kernel
theorem dX5_readDigit_23 : decode cX5_readDigit 23 = .ok (.aload_n 1, 1) := by decide +kernel
theorem dX5_readDigit_24 : decode cX5_readDigit 24 = .ok (.aload_n 0, 1) := by decide +kernel
theorem dX5_readDigit_25 : decode cX5_readDigit 25 = .ok (.getfield 22, 3) := by decide +kernel
theorem dX5_readDigit_28 : decode cX5_readDigit 28 = .ok (.iload_n 2, 1) := by decide +kernel
theorem dX5_readDigit_29 : decode cX5_readDigit 29 = .ok (.bipush 48, 2) := by decide +kernel
theorem dX5_readDigit_31 : decode cX5_readDigit 31 = .ok (.isub, 1) := by decide +kernel
theorem dX5_readDigit_32 : decode cX5_readDigit 32 = .ok (.invokevirtual 54, 3) := by decide +kernel
theorem dX5_readDigit_35 : decode cX5_readDigit 35 = .ok (.aload_n 0, 1) := by decide +kernel
theorem dX5_readDigit_36 : decode cX5_readDigit 36 = .ok (.dup, 1) := by decide +kernel
theorem dX5_readDigit_37 : decode cX5_readDigit 37 = .ok (.getfield 18, 3) := by decide +kernel
theorem dX5_readDigit_40 : decode cX5_readDigit 40 = .ok (.iconst 1, 1) := by decide +kernel
theorem dX5_readDigit_41 : decode cX5_readDigit 41 = .ok (.iadd, 1) := by decide +kernel
theorem dX5_readDigit_42 : decode cX5_readDigit 42 = .ok (.putfield 18, 3) := by decide +kernel
theorem dX5_readDigit_45 : decode cX5_readDigit 45 = .ok (.iconst 1, 1) := by decide +kernel
theorem dX5_readDigit_46 : decode cX5_readDigit 46 = .ok (.ireturn, 1) := by decide +kernel
theorem dX5_readFlag_0 : decode cX5_readFlag 0 = .ok (.aload_n 0, 1) := by decide +kernel
theorem dX5_readFlag_1 : decode cX5_readFlag 1 = .ok (.aload_n 0, 1) := by decide +kernel
theorem dX5_readFlag_2 : decode cX5_readFlag 2 = .ok (.getfield 18, 3) := by decide +kernel
theorem dX5_readFlag_5 : decode cX5_readFlag 5 = .ok (.invokevirtual 76, 3) := by decide +kernel
theorem dX5_readFlag_8 : decode cX5_readFlag 8 = .ok (.iload_n 1, 1) := by decide +kernel
theorem dX5_readFlag_9 : decode cX5_readFlag 9 = .ok (.if_icmp .ne 7, 3) := by decide +kernel
theorem dX5_readFlag_12 : decode cX5_readFlag 12 = .ok (.iconst 1, 1) := by decide +kernel
theorem dX5_readFlag_13 : decode cX5_readFlag 13 = .ok (.goto 4, 3) := by decide +kernel
theorem dX5_readFlag_16 : decode cX5_readFlag 16 = .ok (.iconst 0, 1) := by decide +kernel
theorem dX5_readFlag_17 : decode cX5_readFlag 17 = .ok (.istore_n 3, 1) := by decide +kernel
theorem dX5_readFlag_18 : decode cX5_readFlag 18 = .ok (.aload_n 0, 1) := by decide +kernel
theorem dX5_readFlag_19 : decode cX5_readFlag 19 = .ok (.getfield 40, 3) := by decide +kernel
theorem dX5_readFlag_22 : decode cX5_readFlag 22 = .ok (.aload_n 0, 1) := by decide +kernel
theorem dX5_readFlag_23 : decode cX5_readFlag 23 = .ok (.getfield 22, 3) := by decide +kernel
theorem dX5_readFlag_26 : decode cX5_readFlag 26 = .ok (.iload_n 3, 1) := by decide +kernel
theorem dX5_readFlag_27 : decode cX5_readFlag 27 = .ok (.ifCond .eq 7, 3) := by decide +kernel
theorem dX5_readFlag_30 : decode cX5_readFlag 30 = .ok (.iconst 1, 1) := by decide +kernel
theorem dX5_readFlag_31 : decode cX5_readFlag 31 = .ok (.goto 4, 3) := by decide +kernel
theorem dX5_readFlag_34 : decode cX5_readFlag 34 = .ok (.iconst 0, 1) := by decide +kernel
theorem dX5_readFlag_35 : decode cX5_readFlag 35 = .ok (.invokevirtual 54, 3) := by decide +kernel
theorem dX5_readFlag_38 : decode cX5_readFlag 38 = .ok (.aload_n 0, 1) := by decide +kernel
theorem dX5_readFlag_39 : decode cX5_readFlag 39 = .ok (.iload_n 3, 1) := by decide +kernel
theorem dX5_readFlag_40 : decode cX5_readFlag 40 = .ok (.ifCond .eq 7, 3) := by decide +kernel
theorem dX5_readFlag_43 : decode cX5_readFlag 43 = .ok (.iload_n 1, 1) := by decide +kernel
theorem dX5_readFlag_44 : decode cX5_readFlag 44 = .ok (.goto 4, 3) := by decide +kernel
theorem dX5_readFlag_47 : decode cX5_readFlag 47 = .ok (.iload_n 2, 1) := by decide +kernel
theorem dX5_readFlag_48 : decode cX5_readFlag 48 = .ok (.invokevirtual 61, 3) := by decide +kernel
theorem dX5_readFlag_51 : decode cX5_readFlag 51 = .ok (.ireturn, 1) := by decide +kernel
theorem dX5_readSign_0 : decode cX5_readSign 0 = .ok (.aload_n 0, 1) := by decide +kernel
theorem dX5_readSign_1 : decode cX5_readSign 1 = .ok (.aload_n 0, 1) := by decide +kernel
theorem dX5_readSign_2 : decode cX5_readSign 2 = .ok (.getfield 18, 3) := by decide +kernel
theorem dX5_readSign_5 : decode cX5_readSign 5 = .ok (.invokevirtual 76, 3) := by decide +kernel
theorem dX5_readSign_8 : decode cX5_readSign 8 = .ok (.iload_n 1, 1) := by decide +kernel
theorem dX5_readSign_9 : decode cX5_readSign 9 = .ok (.if_icmp .eq 5, 3) := by decide +kernel
theorem dX5_readSign_12 : decode cX5_readSign 12 = .ok (.iconst 0, 1) := by decide +kernel
theorem dX5_readSign_13 : decode cX5_readSign 13 = .ok (.ireturn, 1) := by decide +kernel
theorem dX5_readSign_14 : decode cX5_readSign 14 = .ok (.aload_n 0, 1) := by decide +kernel
theorem dX5_readSign_15 : decode cX5_readSign 15 = .ok (.dup, 1) := by decide +kernel
theorem dX5_readSign_16 : decode cX5_readSign 16 = .ok (.getfield 18, 3) := by decide +kernel
theorem dX5_readSign_19 : decode cX5_readSign 19 = .ok (.iconst 1, 1) := by decide +kernel
theorem dX5_readSign_20 : decode cX5_readSign 20 = .ok (.iadd, 1) := by decide +kernel
theorem dX5_readSign_21 : decode cX5_readSign 21 = .ok (.putfield 18, 3) := by decide +kernel
theorem dX5_readSign_24 : decode cX5_readSign 24 = .ok (.iconst 1, 1) := by decide +kernel
theorem dX5_readSign_25 : decode cX5_readSign 25 = .ok (.ireturn, 1) := by decide +kernel
theorem dX5_signAt_0 : decode cX5_signAt 0 = .ok (.iload_n 1, 1) := by decide +kernel
theorem dX5_signAt_1 : decode cX5_signAt 1 = .ok (.ifCond .lt 25, 3) := by decide +kernel
theorem dX5_signAt_4 : decode cX5_signAt 4 = .ok (.iload_n 1, 1) := by decide +kernel
theorem dX5_signAt_5 : decode cX5_signAt 5 = .ok (.aload_n 0, 1) := by decide +kernel
theorem dX5_signAt_6 : decode cX5_signAt 6 = .ok (.getfield 12, 3) := by decide +kernel
theorem dX5_signAt_9 : decode cX5_signAt 9 = .ok (.invokevirtual 58, 3) := by decide +kernel
theorem dX5_signAt_12 : decode cX5_signAt 12 = .ok (.if_icmp .ge 14, 3) := by decide +kernel
theorem dX5_signAt_15 : decode cX5_signAt 15 = .ok (.aload_n 0, 1) := by decide +kernel
theorem dX5_signAt_16 : decode cX5_signAt 16 = .ok (.getfield 12, 3) := by decide +kernel
theorem dX5_signAt_19 : decode cX5_signAt 19 = .ok (.iload_n 1, 1) := by decide +kernel
theorem dX5_signAt_20 : decode cX5_signAt 20 = .ok (.invokevirtual 119, 3) := by decide +kernel
theorem dX5_signAt_23 : decode cX5_signAt 23 = .ok (.goto 4, 3) := by decide +kernel
theorem dX5_signAt_26 : decode cX5_signAt 26 = .ok (.iconst 0, 1) := by decide +kernel
theorem dX5_signAt_27 : decode cX5_signAt 27 = .ok (.ireturn, 1) := by decide +kernel
theorem dX6_init_0 : decode cX6_init 0 = .ok (.aload_n 0, 1) := by decide +kernel
theorem dX6_init_1 : decode cX6_init 1 = .ok (.invokespecial 1, 3) := by decide +kernel
theorem dX6_init_4 : decode cX6_init 4 = .ok (.aload_n 0, 1) := by decide +kernel
theorem dX6_init_5 : decode cX6_init 5 = .ok (.iload_n 1, 1) := by decide +kernel
theorem dX6_init_6 : decode cX6_init 6 = .ok (.ifCond .ge 7, 3) := by decide +kernel
theorem dX6_init_9 : decode cX6_init 9 = .ok (.iconst 0, 1) := by decide +kernel
theorem dX6_init_10 : decode cX6_init 10 = .ok (.goto 4, 3) := by decide +kernel
theorem dX6_init_13 : decode cX6_init 13 = .ok (.iload_n 1, 1) := by decide +kernel
theorem dX6_init_14 : decode cX6_init 14 = .ok (.newarray .int, 2) := by decide +kernel
theorem dX6_init_16 : decode cX6_init 16 = .ok (.putfield 7, 3) := by decide +kernel
theorem dX6_init_19 : decode cX6_init 19 = .ok (.return_, 1) := by decide +kernel
theorem dX6_get_0 : decode cX6_get 0 = .ok (.iload_n 1, 1) := by decide +kernel
theorem dX6_get_1 : decode cX6_get 1 = .ok (.ifCond .lt 21, 3) := by decide +kernel
theorem dX6_get_4 : decode cX6_get 4 = .ok (.iload_n 1, 1) := by decide +kernel
theorem dX6_get_5 : decode cX6_get 5 = .ok (.aload_n 0, 1) := by decide +kernel
theorem dX6_get_6 : decode cX6_get 6 = .ok (.getfield 7, 3) := by decide +kernel
theorem dX6_get_9 : decode cX6_get 9 = .ok (.arraylength, 1) := by decide +kernel
theorem dX6_get_10 : decode cX6_get 10 = .ok (.if_icmp .ge 12, 3) := by decide +kernel
theorem dX6_get_13 : decode cX6_get 13 = .ok (.aload_n 0, 1) := by decide +kernel
theorem dX6_get_14 : decode cX6_get 14 = .ok (.getfield 7, 3) := by decide +kernel
theorem dX6_get_17 : decode cX6_get 17 = .ok (.iload_n 1, 1) := by decide +kernel
theorem dX6_get_18 : decode cX6_get 18 = .ok (.iaload, 1) := by decide +kernel
theorem dX6_get_19 : decode cX6_get 19 = .ok (.goto 4, 3) := by decide +kernel
theorem dX6_get_22 : decode cX6_get 22 = .ok (.iconst 0, 1) := by decide +kernel
theorem dX6_get_23 : decode cX6_get 23 = .ok (.ireturn, 1) := by decide +kernel
theorem dX6_put_0 : decode cX6_put 0 = .ok (.iload_n 1, 1) := by decide +kernel
theorem dX6_put_1 : decode cX6_put 1 = .ok (.ifCond .lt 19, 3) := by decide +kernel
theorem dX6_put_4 : decode cX6_put 4 = .ok (.iload_n 1, 1) := by decide +kernel
theorem dX6_put_5 : decode cX6_put 5 = .ok (.aload_n 0, 1) := by decide +kernel
theorem dX6_put_6 : decode cX6_put 6 = .ok (.getfield 7, 3) := by decide +kernel
theorem dX6_put_9 : decode cX6_put 9 = .ok (.arraylength, 1) := by decide +kernel
theorem dX6_put_10 : decode cX6_put 10 = .ok (.if_icmp .ge 10, 3) := by decide +kernel
theorem dX6_put_13 : decode cX6_put 13 = .ok (.aload_n 0, 1) := by decide +kernel
theorem dX6_put_14 : decode cX6_put 14 = .ok (.getfield 7, 3) := by decide +kernel
theorem dX6_put_17 : decode cX6_put 17 = .ok (.iload_n 1, 1) := by decide +kernel
theorem dX6_put_18 : decode cX6_put 18 = .ok (.iload_n 2, 1) := by decide +kernel
theorem dX6_put_19 : decode cX6_put 19 = .ok (.iastore, 1) := by decide +kernel
theorem dX6_put_20 : decode cX6_put 20 = .ok (.return_, 1) := by decide +kernel
theorem dX6_add_0 : decode cX6_add 0 = .ok (.aload_n 0, 1) := by decide +kernel
theorem dX6_add_1 : decode cX6_add 1 = .ok (.iload_n 1, 1) := by decide +kernel
theorem dX6_add_2 : decode cX6_add 2 = .ok (.aload_n 0, 1) := by decide +kernel
theorem dX6_add_3 : decode cX6_add 3 = .ok (.iload_n 1, 1) := by decide +kernel
theorem dX6_add_4 : decode cX6_add 4 = .ok (.invokevirtual 13, 3) := by decide +kernel
theorem dX6_add_7 : decode cX6_add 7 = .ok (.iload_n 2, 1) := by decide +kernel
theorem dX6_add_8 : decode cX6_add 8 = .ok (.iadd, 1) := by decide +kernel
theorem dX6_add_9 : decode cX6_add 9 = .ok (.invokevirtual 17, 3) := by decide +kernel
theorem dX6_add_12 : decode cX6_add 12 = .ok (.return_, 1) := by decide +kernel
theorem dX6_clear_0 : decode cX6_clear 0 = .ok (.iconst 0, 1) := by decide +kernel
theorem dX6_clear_1 : decode cX6_clear 1 = .ok (.istore_n 1, 1) := by decide +kernel
theorem dX6_clear_2 : decode cX6_clear 2 = .ok (.iload_n 1, 1) := by decide +kernel
theorem dX6_clear_3 : decode cX6_clear 3 = .ok (.aload_n 0, 1) := by decide +kernel
theorem dX6_clear_4 : decode cX6_clear 4 = .ok (.getfield 7, 3) := by decide +kernel
theorem dX6_clear_7 : decode cX6_clear 7 = .ok (.arraylength, 1) := by decide +kernel
theorem dX6_clear_8 : decode cX6_clear 8 = .ok (.if_icmp .ge 16, 3) := by decide +kernel
theorem dX6_clear_11 : decode cX6_clear 11 = .ok (.aload_n 0, 1) := by decide +kernel
theorem dX6_clear_12 : decode cX6_clear 12 = .ok (.getfield 7, 3) := by decide +kernel
theorem dX6_clear_15 : decode cX6_clear 15 = .ok (.iload_n 1, 1) := by decide +kernel
theorem dX6_clear_16 : decode cX6_clear 16 = .ok (.iconst 0, 1) := by decide +kernel
theorem dX6_clear_17 : decode cX6_clear 17 = .ok (.iastore, 1) := by decide +kernel
theorem dX6_clear_18 : decode cX6_clear 18 = .ok (.iinc 1 1, 3) := by decide +kernel
theorem dX6_clear_21 : decode cX6_clear 21 = .ok (.goto (-19), 3) := by decide +kernel
theorem dX6_clear_24 : decode cX6_clear 24 = .ok (.return_, 1) := by decide +kernel
theorem dX6_copyFrom_0 : decode cX6_copyFrom 0 = .ok (.aload_n 1, 1) := by decide +kernel
theorem dX6_copyFrom_1 : decode cX6_copyFrom 1 = .ok (.getfield 7, 3) := by decide +kernel
theorem dX6_copyFrom_4 : decode cX6_copyFrom 4 = .ok (.iconst 0, 1) := by decide +kernel
theorem dX6_copyFrom_5 : decode cX6_copyFrom 5 = .ok (.aload_n 0, 1) := by decide +kernel
theorem dX6_copyFrom_6 : decode cX6_copyFrom 6 = .ok (.getfield 7, 3) := by decide +kernel
theorem dX6_copyFrom_9 : decode cX6_copyFrom 9 = .ok (.iconst 0, 1) := by decide +kernel
theorem dX6_copyFrom_10 : decode cX6_copyFrom 10 = .ok (.aload_n 0, 1) := by decide +kernel
theorem dX6_copyFrom_11 : decode cX6_copyFrom 11 = .ok (.getfield 7, 3) := by decide +kernel
theorem dX6_copyFrom_14 : decode cX6_copyFrom 14 = .ok (.arraylength, 1) := by decide +kernel
theorem dX6_copyFrom_15 : decode cX6_copyFrom 15 = .ok (.aload_n 1, 1) := by decide +kernel
theorem dX6_copyFrom_16 : decode cX6_copyFrom 16 = .ok (.getfield 7, 3) := by decide +kernel
theorem dX6_copyFrom_19 : decode cX6_copyFrom 19 = .ok (.arraylength, 1) := by decide +kernel
theorem dX6_copyFrom_20 : decode cX6_copyFrom 20 = .ok (.invokestatic 21, 3) := by decide +kernel
theorem dX6_copyFrom_23 : decode cX6_copyFrom 23 = .ok (.invokestatic 27, 3) := by decide +kernel
theorem dX6_copyFrom_26 : decode cX6_copyFrom 26 = .ok (.return_, 1) := by decide +kernel
theorem dX7_init_0 : decode cX7_init 0 = .ok (.aload_n 0, 1) := by decide +kernel
theorem dX7_init_1 : decode cX7_init 1 = .ok (.invokespecial 3, 3) := by decide +kernel
theorem dX7_init_4 : decode cX7_init 4 = .ok (.aload_n 0, 1) := by decide +kernel
theorem dX7_init_5 : decode cX7_init 5 = .ok (.new 9, 3) := by decide +kernel
theorem dX7_init_8 : decode cX7_init 8 = .ok (.dup, 1) := by decide +kernel
theorem dX7_init_9 : decode cX7_init 9 = .ok (.bipush 8, 2) := by decide +kernel
theorem dX7_init_11 : decode cX7_init 11 = .ok (.invokespecial 11, 3) := by decide +kernel
theorem dX7_init_14 : decode cX7_init 14 = .ok (.putfield 14, 3) := by decide +kernel
theorem dX7_init_17 : decode cX7_init 17 = .ok (.aload_n 0, 1) := by decide +kernel
theorem dX7_init_18 : decode cX7_init 18 = .ok (.new 9, 3) := by decide +kernel
theorem dX7_init_21 : decode cX7_init 21 = .ok (.dup, 1) := by decide +kernel
theorem dX7_init_22 : decode cX7_init 22 = .ok (.bipush 8, 2) := by decide +kernel
theorem dX7_init_24 : decode cX7_init 24 = .ok (.invokespecial 11, 3) := by decide +kernel
theorem dX7_init_27 : decode cX7_init 27 = .ok (.putfield 20, 3) := by decide +kernel
theorem dX7_init_30 : decode cX7_init 30 = .ok (.aload_n 0, 1) := by decide +kernel
theorem dX7_init_31 : decode cX7_init 31 = .ok (.iconst 0, 1) := by decide +kernel
theorem dX7_init_32 : decode cX7_init 32 = .ok (.putfield 23, 3) := by decide +kernel
theorem dX7_init_35 : decode cX7_init 35 = .ok (.return_, 1) := by decide +kernel
theorem dX7_startAt_0 : decode cX7_startAt 0 = .ok (.aload_n 0, 1) := by decide +kernel
theorem dX7_startAt_1 : decode cX7_startAt 1 = .ok (.getfield 20, 3) := by decide +kernel
theorem dX7_startAt_4 : decode cX7_startAt 4 = .ok (.invokevirtual 27, 3) := by decide +kernel
theorem dX7_startAt_7 : decode cX7_startAt 7 = .ok (.aload_n 0, 1) := by decide +kernel
theorem dX7_startAt_8 : decode cX7_startAt 8 = .ok (.iconst 0, 1) := by decide +kernel
theorem dX7_startAt_9 : decode cX7_startAt 9 = .ok (.putfield 23, 3) := by decide +kernel
theorem dX7_startAt_12 : decode cX7_startAt 12 = .ok (.aload_n 0, 1) := by decide +kernel
theorem dX7_startAt_13 : decode cX7_startAt 13 = .ok (.iload_n 1, 1) := by decide +kernel
theorem dX7_startAt_14 : decode cX7_startAt 14 = .ok (.invokevirtual 30, 3) := by decide +kernel
theorem dX7_startAt_17 : decode cX7_startAt 17 = .ok (.iconst 0, 1) := by decide +kernel
theorem dX7_startAt_18 : decode cX7_startAt 18 = .ok (.istore_n 3, 1) := by decide +kernel
theorem dX7_startAt_19 : decode cX7_startAt 19 = .ok (.iload_n 3, 1) := by decide +kernel
theorem dX7_startAt_20 : decode cX7_startAt 20 = .ok (.aload_n 0, 1) := by decide +kernel
theorem dX7_startAt_21 : decode cX7_startAt 21 = .ok (.getfield 23, 3) := by decide +kernel
theorem dX7_startAt_24 : decode cX7_startAt 24 = .ok (.if_icmp .ge 28, 3) := by decide +kernel
theorem dX7_startAt_27 : decode cX7_startAt 27 = .ok (.iload_n 3, 1) := by decide +kernel
theorem dX7_startAt_28 : decode cX7_startAt 28 = .ok (.bipush 8, 2) := by decide +kernel
theorem dX7_startAt_30 : decode cX7_startAt 30 = .ok (.if_icmp .ge 22, 3) := by decide +kernel
theorem dX7_startAt_33 : decode cX7_startAt 33 = .ok (.aload_n 0, 1) := by decide +kernel
theorem dX7_startAt_34 : decode cX7_startAt 34 = .ok (.aload_n 0, 1) := by decide +kernel
theorem dX7_startAt_35 : decode cX7_startAt 35 = .ok (.getfield 14, 3) := by decide +kernel
theorem dX7_startAt_38 : decode cX7_startAt 38 = .ok (.iload_n 3, 1) := by decide +kernel
theorem dX7_startAt_39 : decode cX7_startAt 39 = .ok (.invokevirtual 33, 3) := by decide +kernel
theorem dX7_startAt_42 : decode cX7_startAt 42 = .ok (.aload_n 2, 1) := by decide +kernel
theorem dX7_startAt_43 : decode cX7_startAt 43 = .ok (.invokevirtual 37, 3) := by decide +kernel
theorem dX7_startAt_46 : decode cX7_startAt 46 = .ok (.iinc 3 1, 3) := by decide +kernel
theorem dX7_startAt_49 : decode cX7_startAt 49 = .ok (.goto (-30), 3) := by decide +kernel
theorem dX7_startAt_52 : decode cX7_startAt 52 = .ok (.return_, 1) := by decide +kernel
theorem dX7_hasReached_0 : decode cX7_hasReached 0 = .ok (.aload_n 0, 1) := by decide +kernel
theorem dX7_hasReached_1 : decode cX7_hasReached 1 = .ok (.getfield 20, 3) := by decide +kernel
theorem dX7_hasReached_4 : decode cX7_hasReached 4 = .ok (.iload_n 1, 1) := by decide +kernel
theorem dX7_hasReached_5 : decode cX7_hasReached 5 = .ok (.invokevirtual 33, 3) := by decide +kernel
theorem dX7_hasReached_8 : decode cX7_hasReached 8 = .ok (.ifCond .eq 7, 3) := by decide +kernel
theorem dX7_hasReached_11 : decode cX7_hasReached 11 = .ok (.iconst 1, 1) := by decide +kernel
theorem dX7_hasReached_12 : decode cX7_hasReached 12 = .ok (.goto 4, 3) := by decide +kernel
theorem dX7_hasReached_15 : decode cX7_hasReached 15 = .ok (.iconst 0, 1) := by decide +kernel
theorem dX7_hasReached_16 : decode cX7_hasReached 16 = .ok (.ireturn, 1) := by decide +kernel
theorem dX7_spreadFrom_0 : decode cX7_spreadFrom 0 = .ok (.iconst 0, 1) := by decide +kernel
theorem dX7_spreadFrom_1 : decode cX7_spreadFrom 1 = .ok (.istore_n 3, 1) := by decide +kernel
theorem dX7_spreadFrom_2 : decode cX7_spreadFrom 2 = .ok (.iload_n 3, 1) := by decide +kernel
theorem dX7_spreadFrom_3 : decode cX7_spreadFrom 3 = .ok (.aload_n 2, 1) := by decide +kernel
theorem dX7_spreadFrom_4 : decode cX7_spreadFrom 4 = .ok (.getfield 41, 3) := by decide +kernel
theorem dX7_spreadFrom_7 : decode cX7_spreadFrom 7 = .ok (.if_icmp .ge 24, 3) := by decide +kernel
theorem dX7_spreadFrom_10 : decode cX7_spreadFrom 10 = .ok (.aload_n 2, 1) := by decide +kernel
theorem dX7_spreadFrom_11 : decode cX7_spreadFrom 11 = .ok (.iload_n 3, 1) := by decide +kernel
theorem dX7_spreadFrom_12 : decode cX7_spreadFrom 12 = .ok (.iload_n 1, 1) := by decide +kernel
theorem dX7_spreadFrom_13 : decode cX7_spreadFrom 13 = .ok (.invokevirtual 46, 3) := by decide +kernel
theorem dX7_spreadFrom_16 : decode cX7_spreadFrom 16 = .ok (.ifCond .eq 9, 3) := by decide +kernel
theorem dX7_spreadFrom_19 : decode cX7_spreadFrom 19 = .ok (.aload_n 0, 1) := by decide +kernel
theorem dX7_spreadFrom_20 : decode cX7_spreadFrom 20 = .ok (.iload_n 3, 1) := by decide +kernel
theorem dX7_spreadFrom_21 : decode cX7_spreadFrom 21 = .ok (.aload_n 2, 1) := by decide +kernel
theorem dX7_spreadFrom_22 : decode cX7_spreadFrom 22 = .ok (.invokevirtual 50, 3) := by decide +kernel
theorem dX7_spreadFrom_25 : decode cX7_spreadFrom 25 = .ok (.iinc 3 1, 3) := by decide +kernel
theorem dX7_spreadFrom_28 : decode cX7_spreadFrom 28 = .ok (.goto (-26), 3) := by decide +kernel
theorem dX7_spreadFrom_31 : decode cX7_spreadFrom 31 = .ok (.return_, 1) := by decide +kernel
theorem dX7_reachAllOf_0 : decode cX7_reachAllOf 0 = .ok (.iconst 0, 1) := by decide +kernel
theorem dX7_reachAllOf_1 : decode cX7_reachAllOf 1 = .ok (.istore_n 3, 1) := by decide +kernel
theorem dX7_reachAllOf_2 : decode cX7_reachAllOf 2 = .ok (.iload_n 3, 1) := by decide +kernel
theorem dX7_reachAllOf_3 : decode cX7_reachAllOf 3 = .ok (.aload_n 2, 1) := by decide +kernel
theorem dX7_reachAllOf_4 : decode cX7_reachAllOf 4 = .ok (.getfield 53, 3) := by decide +kernel
theorem dX7_reachAllOf_7 : decode cX7_reachAllOf 7 = .ok (.iload_n 1, 1) := by decide +kernel
theorem dX7_reachAllOf_8 : decode cX7_reachAllOf 8 = .ok (.invokevirtual 33, 3) := by decide +kernel
theorem dX7_reachAllOf_11 : decode cX7_reachAllOf 11 = .ok (.if_icmp .ge 19, 3) := by decide +kernel
theorem dX7_reachAllOf_14 : decode cX7_reachAllOf 14 = .ok (.aload_n 0, 1) := by decide +kernel
theorem dX7_reachAllOf_15 : decode cX7_reachAllOf 15 = .ok (.aload_n 2, 1) := by decide +kernel
theorem dX7_reachAllOf_16 : decode cX7_reachAllOf 16 = .ok (.iload_n 1, 1) := by decide +kernel
theorem dX7_reachAllOf_17 : decode cX7_reachAllOf 17 = .ok (.iload_n 3, 1) := by decide +kernel
theorem dX7_reachAllOf_18 : decode cX7_reachAllOf 18 = .ok (.invokevirtual 56, 3) := by decide +kernel
theorem dX7_reachAllOf_21 : decode cX7_reachAllOf 21 = .ok (.invokevirtual 30, 3) := by decide +kernel
theorem dX7_reachAllOf_24 : decode cX7_reachAllOf 24 = .ok (.iinc 3 1, 3) := by decide +kernel
theorem dX7_reachAllOf_27 : decode cX7_reachAllOf 27 = .ok (.goto (-25), 3) := by decide +kernel
theorem dX7_reachAllOf_30 : decode cX7_reachAllOf 30 = .ok (.return_, 1) := by decide +kernel
theorem dX7_reach_0 : decode cX7_reach 0 = .ok (.aload_n 0, 1) := by decide +kernel
theorem dX7_reach_1 : decode cX7_reach 1 = .ok (.getfield 20, 3) := by decide +kernel
theorem dX7_reach_4 : decode cX7_reach 4 = .ok (.iload_n 1, 1) := by decide +kernel
theorem dX7_reach_5 : decode cX7_reach 5 = .ok (.invokevirtual 33, 3) := by decide +kernel
theorem dX7_reach_8 : decode cX7_reach 8 = .ok (.ifCond .ne 34, 3) := by decide +kernel
theorem dX7_reach_11 : decode cX7_reach 11 = .ok (.aload_n 0, 1) := by decide +kernel
theorem dX7_reach_12 : decode cX7_reach 12 = .ok (.getfield 20, 3) := by decide +kernel
theorem dX7_reach_15 : decode cX7_reach 15 = .ok (.iload_n 1, 1) := by decide +kernel
theorem dX7_reach_16 : decode cX7_reach 16 = .ok (.iconst 1, 1) := by decide +kernel
theorem dX7_reach_17 : decode cX7_reach 17 = .ok (.invokevirtual 60, 3) := by decide +kernel
theorem dX7_reach_20 : decode cX7_reach 20 = .ok (.aload_n 0, 1) := by decide +kernel
theorem dX7_reach_21 : decode cX7_reach 21 = .ok (.getfield 14, 3) := by decide +kernel
theorem dX7_reach_24 : decode cX7_reach 24 = .ok (.aload_n 0, 1) := by decide +kernel
theorem dX7_reach_25 : decode cX7_reach 25 = .ok (.getfield 23, 3) := by decide +kernel
theorem dX7_reach_28 : decode cX7_reach 28 = .ok (.iload_n 1, 1) := by decide +kernel
theorem dX7_reach_29 : decode cX7_reach 29 = .ok (.invokevirtual 60, 3) := by decide +kernel
theorem dX7_reach_32 : decode cX7_reach 32 = .ok (.aload_n 0, 1) := by decide +kernel
theorem dX7_reach_33 : decode cX7_reach 33 = .ok (.dup, 1) := by decide +kernel
theorem dX7_reach_34 : decode cX7_reach 34 = .ok (.getfield 23, 3) := by decide +kernel
theorem dX7_reach_37 : decode cX7_reach 37 = .ok (.iconst 1, 1) := by decide +kernel
theorem dX7_reach_38 : decode cX7_reach 38 = .ok (.iadd, 1) := by decide +kernel
theorem dX7_reach_39 : decode cX7_reach 39 = .ok (.putfield 23, 3) := by decide +kernel
theorem dX7_reach_42 : decode cX7_reach 42 = .ok (.return_, 1) := by decide +kernel
theorem dX8_ofSide_0 : decode cX8_ofSide 0 = .ok (.iconst 0, 1) := by decide +kernel
theorem dX8_ofSide_1 : decode cX8_ofSide 1 = .ok (.istore_n 3, 1) := by decide +kernel
theorem dX8_ofSide_2 : decode cX8_ofSide 2 = .ok (.iconst 0, 1) := by decide +kernel
theorem dX8_ofSide_3 : decode cX8_ofSide 3 = .ok (.istore 4, 2) := by decide +kernel
theorem dX8_ofSide_5 : decode cX8_ofSide 5 = .ok (.iload 4, 2) := by decide +kernel
theorem dX8_ofSide_7 : decode cX8_ofSide 7 = .ok (.aload_n 0, 1) := by decide +kernel
theorem dX8_ofSide_8 : decode cX8_ofSide 8 = .ok (.getfield 9, 3) := by decide +kernel
theorem dX8_ofSide_11 : decode cX8_ofSide 11 = .ok (.iload_n 1, 1) := by decide +kernel
theorem dX8_ofSide_12 : decode cX8_ofSide 12 = .ok (.invokevirtual 15, 3) := by decide +kernel
theorem dX8_ofSide_15 : decode cX8_ofSide 15 = .ok (.if_icmp .ge 39, 3) := by decide +kernel
theorem dX8_ofSide_18 : decode cX8_ofSide 18 = .ok (.aload_n 0, 1) := by decide +kernel
theorem dX8_ofSide_19 : decode cX8_ofSide 19 = .ok (.iload_n 1, 1) := by decide +kernel
theorem dX8_ofSide_20 : decode cX8_ofSide 20 = .ok (.iload 4, 2) := by decide +kernel
theorem dX8_ofSide_22 : decode cX8_ofSide 22 = .ok (.invokevirtual 21, 3) := by decide +kernel
theorem dX8_ofSide_25 : decode cX8_ofSide 25 = .ok (.istore 5, 2) := by decide +kernel
theorem dX8_ofSide_27 : decode cX8_ofSide 27 = .ok (.aload_n 0, 1) := by decide +kernel
theorem dX8_ofSide_28 : decode cX8_ofSide 28 = .ok (.iload_n 1, 1) := by decide +kernel
theorem dX8_ofSide_29 : decode cX8_ofSide 29 = .ok (.iload 5, 2) := by decide +kernel
theorem dX8_ofSide_31 : decode cX8_ofSide 31 = .ok (.invokevirtual 25, 3) := by decide +kernel
theorem dX8_ofSide_34 : decode cX8_ofSide 34 = .ok (.iload_n 2, 1) := by decide +kernel
theorem dX8_ofSide_35 : decode cX8_ofSide 35 = .ok (.if_icmp .ne 13, 3) := by decide +kernel
theorem dX8_ofSide_38 : decode cX8_ofSide 38 = .ok (.iload_n 3, 1) := by decide +kernel
theorem dX8_ofSide_39 : decode cX8_ofSide 39 = .ok (.aload_n 0, 1) := by decide +kernel
theorem dX8_ofSide_40 : decode cX8_ofSide 40 = .ok (.iload_n 1, 1) := by decide +kernel
theorem dX8_ofSide_41 : decode cX8_ofSide 41 = .ok (.iload 5, 2) := by decide +kernel
theorem dX8_ofSide_43 : decode cX8_ofSide 43 = .ok (.invokevirtual 28, 3) := by decide +kernel
theorem dX8_ofSide_46 : decode cX8_ofSide 46 = .ok (.iadd, 1) := by decide +kernel
theorem dX8_ofSide_47 : decode cX8_ofSide 47 = .ok (.istore_n 3, 1) := by decide +kernel
theorem dX8_ofSide_48 : decode cX8_ofSide 48 = .ok (.iinc 4 1, 3) := by decide +kernel
theorem dX8_ofSide_51 : decode cX8_ofSide 51 = .ok (.goto (-46), 3) := by decide +kernel
theorem dX8_ofSide_54 : decode cX8_ofSide 54 = .ok (.iload_n 3, 1) := by decide +kernel
theorem dX8_ofSide_55 : decode cX8_ofSide 55 = .ok (.ireturn, 1) := by decide +kernel
theorem dX8_marginByTestimony_0 : decode cX8_marginByTestimony 0 = .ok (.bipush (-2), 2) := by decide +kernel
theorem dX8_marginByTestimony_2 : decode cX8_marginByTestimony 2 = .ok (.aload_n 0, 1) := by decide +kernel
theorem dX8_marginByTestimony_3 : decode cX8_marginByTestimony 3 = .ok (.iload_n 1, 1) := by decide +kernel
theorem dX8_marginByTestimony_4 : decode cX8_marginByTestimony 4 = .ok (.invokevirtual 31, 3) := by decide +kernel
theorem dX8_marginByTestimony_7 : decode cX8_marginByTestimony 7 = .ok (.imul, 1) := by decide +kernel
theorem dX8_marginByTestimony_8 : decode cX8_marginByTestimony 8 = .ok (.istore_n 2, 1) := by decide +kernel
theorem dX8_marginByTestimony_9 : decode cX8_marginByTestimony 9 = .ok (.iconst 0, 1) := by decide +kernel
theorem dX8_marginByTestimony_10 : decode cX8_marginByTestimony 10 = .ok (.istore_n 3, 1) := by decide +kernel
theorem dX8_marginByTestimony_11 : decode cX8_marginByTestimony 11 = .ok (.iload_n 3, 1) := by decide +kernel
theorem dX8_marginByTestimony_12 : decode cX8_marginByTestimony 12 = .ok (.aload_n 0, 1) := by decide +kernel
theorem dX8_marginByTestimony_13 : decode cX8_marginByTestimony 13 = .ok (.getfield 9, 3) := by decide +kernel
theorem dX8_marginByTestimony_16 : decode cX8_marginByTestimony 16 = .ok (.iload_n 1, 1) := by decide +kernel
theorem dX8_marginByTestimony_17 : decode cX8_marginByTestimony 17 = .ok (.invokevirtual 15, 3) := by decide +kernel
theorem dX8_marginByTestimony_20 : decode cX8_marginByTestimony 20 = .ok (.if_icmp .ge 35, 3) := by decide +kernel
theorem dX8_marginByTestimony_23 : decode cX8_marginByTestimony 23 = .ok (.aload_n 0, 1) := by decide +kernel
theorem dX8_marginByTestimony_24 : decode cX8_marginByTestimony 24 = .ok (.iload_n 1, 1) := by decide +kernel
theorem dX8_marginByTestimony_25 : decode cX8_marginByTestimony 25 = .ok (.iload_n 3, 1) := by decide +kernel
theorem dX8_marginByTestimony_26 : decode cX8_marginByTestimony 26 = .ok (.invokevirtual 21, 3) := by decide +kernel
theorem dX8_marginByTestimony_29 : decode cX8_marginByTestimony 29 = .ok (.istore 4, 2) := by decide +kernel
theorem dX8_marginByTestimony_31 : decode cX8_marginByTestimony 31 = .ok (.iload_n 2, 1) := by decide +kernel
theorem dX8_marginByTestimony_32 : decode cX8_marginByTestimony 32 = .ok (.aload_n 0, 1) := by decide +kernel
theorem dX8_marginByTestimony_33 : decode cX8_marginByTestimony 33 = .ok (.iload_n 1, 1) := by decide +kernel
theorem dX8_marginByTestimony_34 : decode cX8_marginByTestimony 34 = .ok (.iload 4, 2) := by decide +kernel
theorem dX8_marginByTestimony_36 : decode cX8_marginByTestimony 36 = .ok (.invokevirtual 25, 3) := by decide +kernel
theorem dX8_marginByTestimony_39 : decode cX8_marginByTestimony 39 = .ok (.aload_n 0, 1) := by decide +kernel
theorem dX8_marginByTestimony_40 : decode cX8_marginByTestimony 40 = .ok (.iload_n 1, 1) := by decide +kernel
theorem dX8_marginByTestimony_41 : decode cX8_marginByTestimony 41 = .ok (.iload 4, 2) := by decide +kernel
theorem dX8_marginByTestimony_43 : decode cX8_marginByTestimony 43 = .ok (.invokevirtual 28, 3) := by decide +kernel
theorem dX8_marginByTestimony_46 : decode cX8_marginByTestimony 46 = .ok (.imul, 1) := by decide +kernel
theorem dX8_marginByTestimony_47 : decode cX8_marginByTestimony 47 = .ok (.iadd, 1) := by decide +kernel
theorem dX8_marginByTestimony_48 : decode cX8_marginByTestimony 48 = .ok (.istore_n 2, 1) := by decide +kernel
theorem dX8_marginByTestimony_49 : decode cX8_marginByTestimony 49 = .ok (.iinc 3 1, 3) := by decide +kernel
theorem dX8_marginByTestimony_52 : decode cX8_marginByTestimony 52 = .ok (.goto (-41), 3) := by decide +kernel
theorem dX8_marginByTestimony_55 : decode cX8_marginByTestimony 55 = .ok (.iload_n 2, 1) := by decide +kernel
theorem dX8_marginByTestimony_56 : decode cX8_marginByTestimony 56 = .ok (.ireturn, 1) := by decide +kernel
theorem dX8_marginByLevel_0 : decode cX8_marginByLevel 0 = .ok (.bipush (-2), 2) := by decide +kernel
theorem dX8_marginByLevel_2 : decode cX8_marginByLevel 2 = .ok (.aload_n 0, 1) := by decide +kernel
theorem dX8_marginByLevel_3 : decode cX8_marginByLevel 3 = .ok (.iload_n 1, 1) := by decide +kernel
theorem dX8_marginByLevel_4 : decode cX8_marginByLevel 4 = .ok (.invokevirtual 31, 3) := by decide +kernel
theorem dX8_marginByLevel_7 : decode cX8_marginByLevel 7 = .ok (.imul, 1) := by decide +kernel
theorem dX8_marginByLevel_8 : decode cX8_marginByLevel 8 = .ok (.istore_n 2, 1) := by decide +kernel
theorem dX8_marginByLevel_9 : decode cX8_marginByLevel 9 = .ok (.iconst 0, 1) := by decide +kernel
theorem dX8_marginByLevel_10 : decode cX8_marginByLevel 10 = .ok (.istore_n 3, 1) := by decide +kernel
theorem dX8_marginByLevel_11 : decode cX8_marginByLevel 11 = .ok (.iload_n 3, 1) := by decide +kernel
theorem dX8_marginByLevel_12 : decode cX8_marginByLevel 12 = .ok (.bipush 9, 2) := by decide +kernel
theorem dX8_marginByLevel_14 : decode cX8_marginByLevel 14 = .ok (.if_icmp .gt 20, 3) := by decide +kernel
theorem dX8_marginByLevel_17 : decode cX8_marginByLevel 17 = .ok (.iload_n 2, 1) := by decide +kernel
theorem dX8_marginByLevel_18 : decode cX8_marginByLevel 18 = .ok (.iload_n 3, 1) := by decide +kernel
theorem dX8_marginByLevel_19 : decode cX8_marginByLevel 19 = .ok (.iload_n 3, 1) := by decide +kernel
theorem dX8_marginByLevel_20 : decode cX8_marginByLevel 20 = .ok (.aload_n 0, 1) := by decide +kernel
theorem dX8_marginByLevel_21 : decode cX8_marginByLevel 21 = .ok (.iload_n 1, 1) := by decide +kernel
theorem dX8_marginByLevel_22 : decode cX8_marginByLevel 22 = .ok (.invokestatic 34, 3) := by decide +kernel
theorem dX8_marginByLevel_25 : decode cX8_marginByLevel 25 = .ok (.imul, 1) := by decide +kernel
theorem dX8_marginByLevel_26 : decode cX8_marginByLevel 26 = .ok (.iadd, 1) := by decide +kernel
theorem dX8_marginByLevel_27 : decode cX8_marginByLevel 27 = .ok (.istore_n 2, 1) := by decide +kernel
theorem dX8_marginByLevel_28 : decode cX8_marginByLevel 28 = .ok (.iinc 3 1, 3) := by decide +kernel
theorem dX8_marginByLevel_31 : decode cX8_marginByLevel 31 = .ok (.goto (-20), 3) := by decide +kernel
theorem dX8_marginByLevel_34 : decode cX8_marginByLevel 34 = .ok (.iload_n 2, 1) := by decide +kernel
theorem dX8_marginByLevel_35 : decode cX8_marginByLevel 35 = .ok (.ireturn, 1) := by decide +kernel
theorem dX8_signedStrengthsAt_0 : decode cX8_signedStrengthsAt 0 = .ok (.iconst 0, 1) := by decide +kernel
theorem dX8_signedStrengthsAt_1 : decode cX8_signedStrengthsAt 1 = .ok (.istore_n 3, 1) := by decide +kernel
theorem dX8_signedStrengthsAt_2 : decode cX8_signedStrengthsAt 2 = .ok (.iconst 0, 1) := by decide +kernel
theorem dX8_signedStrengthsAt_3 : decode cX8_signedStrengthsAt 3 = .ok (.istore 4, 2) := by decide +kernel
theorem dX8_signedStrengthsAt_5 : decode cX8_signedStrengthsAt 5 = .ok (.iload 4, 2) := by decide +kernel
theorem dX8_signedStrengthsAt_7 : decode cX8_signedStrengthsAt 7 = .ok (.aload_n 1, 1) := by decide +kernel
theorem dX8_signedStrengthsAt_8 : decode cX8_signedStrengthsAt 8 = .ok (.getfield 9, 3) := by decide +kernel
theorem dX8_signedStrengthsAt_11 : decode cX8_signedStrengthsAt 11 = .ok (.iload_n 2, 1) := by decide +kernel
theorem dX8_signedStrengthsAt_12 : decode cX8_signedStrengthsAt 12 = .ok (.invokevirtual 15, 3) := by decide +kernel
theorem dX8_signedStrengthsAt_15 : decode cX8_signedStrengthsAt 15 = .ok (.if_icmp .ge 49, 3) := by decide +kernel
theorem dX8_signedStrengthsAt_18 : decode cX8_signedStrengthsAt 18 = .ok (.aload_n 1, 1) := by decide +kernel
theorem dX8_signedStrengthsAt_19 : decode cX8_signedStrengthsAt 19 = .ok (.iload_n 2, 1) := by decide +kernel
theorem dX8_signedStrengthsAt_20 : decode cX8_signedStrengthsAt 20 = .ok (.iload 4, 2) := by decide +kernel
theorem dX8_signedStrengthsAt_22 : decode cX8_signedStrengthsAt 22 = .ok (.invokevirtual 21, 3) := by decide +kernel
theorem dX8_signedStrengthsAt_25 : decode cX8_signedStrengthsAt 25 = .ok (.istore 5, 2) := by decide +kernel
theorem dX8_signedStrengthsAt_27 : decode cX8_signedStrengthsAt 27 = .ok (.aload_n 1, 1) := by decide +kernel
theorem dX8_signedStrengthsAt_28 : decode cX8_signedStrengthsAt 28 = .ok (.getfield 40, 3) := by decide +kernel
theorem dX8_signedStrengthsAt_31 : decode cX8_signedStrengthsAt 31 = .ok (.iload 5, 2) := by decide +kernel
theorem dX8_signedStrengthsAt_33 : decode cX8_signedStrengthsAt 33 = .ok (.invokevirtual 15, 3) := by decide +kernel
theorem dX8_signedStrengthsAt_36 : decode cX8_signedStrengthsAt 36 = .ok (.iload_n 0, 1) := by decide +kernel
theorem dX8_signedStrengthsAt_37 : decode cX8_signedStrengthsAt 37 = .ok (.if_icmp .ne 21, 3) := by decide +kernel
theorem dX8_signedStrengthsAt_40 : decode cX8_signedStrengthsAt 40 = .ok (.iload_n 3, 1) := by decide +kernel
theorem dX8_signedStrengthsAt_41 : decode cX8_signedStrengthsAt 41 = .ok (.aload_n 1, 1) := by decide +kernel
theorem dX8_signedStrengthsAt_42 : decode cX8_signedStrengthsAt 42 = .ok (.iload_n 2, 1) := by decide +kernel
theorem dX8_signedStrengthsAt_43 : decode cX8_signedStrengthsAt 43 = .ok (.iload 5, 2) := by decide +kernel
theorem dX8_signedStrengthsAt_45 : decode cX8_signedStrengthsAt 45 = .ok (.invokevirtual 25, 3) := by decide +kernel
theorem dX8_signedStrengthsAt_48 : decode cX8_signedStrengthsAt 48 = .ok (.aload_n 1, 1) := by decide +kernel
theorem dX8_signedStrengthsAt_49 : decode cX8_signedStrengthsAt 49 = .ok (.iload_n 2, 1) := by decide +kernel
theorem dX8_signedStrengthsAt_50 : decode cX8_signedStrengthsAt 50 = .ok (.iload 5, 2) := by decide +kernel
theorem dX8_signedStrengthsAt_52 : decode cX8_signedStrengthsAt 52 = .ok (.invokevirtual 43, 3) := by decide +kernel
theorem dX8_signedStrengthsAt_55 : decode cX8_signedStrengthsAt 55 = .ok (.imul, 1) := by decide +kernel
theorem dX8_signedStrengthsAt_56 : decode cX8_signedStrengthsAt 56 = .ok (.iadd, 1) := by decide +kernel
theorem dX8_signedStrengthsAt_57 : decode cX8_signedStrengthsAt 57 = .ok (.istore_n 3, 1) := by decide +kernel
theorem dX8_signedStrengthsAt_58 : decode cX8_signedStrengthsAt 58 = .ok (.iinc 4 1, 3) := by decide +kernel
theorem dX8_signedStrengthsAt_61 : decode cX8_signedStrengthsAt 61 = .ok (.goto (-56), 3) := by decide +kernel
theorem dX8_signedStrengthsAt_64 : decode cX8_signedStrengthsAt 64 = .ok (.iload_n 3, 1) := by decide +kernel
theorem dX8_signedStrengthsAt_65 : decode cX8_signedStrengthsAt 65 = .ok (.ireturn, 1) := by decide +kernel
theorem dX8_heaviestIn_0 : decode cX8_heaviestIn 0 = .ok (.aload_n 0, 1) := by decide +kernel
theorem dX8_heaviestIn_1 : decode cX8_heaviestIn 1 = .ok (.iload_n 1, 1) := by decide +kernel
theorem dX8_heaviestIn_2 : decode cX8_heaviestIn 2 = .ok (.iconst 0, 1) := by decide +kernel
theorem dX8_heaviestIn_3 : decode cX8_heaviestIn 3 = .ok (.invokevirtual 21, 3) := by decide +kernel
theorem dX8_heaviestIn_6 : decode cX8_heaviestIn 6 = .ok (.istore_n 2, 1) := by decide +kernel
theorem dX8_heaviestIn_7 : decode cX8_heaviestIn 7 = .ok (.iconst 1, 1) := by decide +kernel
theorem dX8_heaviestIn_8 : decode cX8_heaviestIn 8 = .ok (.istore_n 3, 1) := by decide +kernel
theorem dX8_heaviestIn_9 : decode cX8_heaviestIn 9 = .ok (.iload_n 3, 1) := by decide +kernel
theorem dX8_heaviestIn_10 : decode cX8_heaviestIn 10 = .ok (.aload_n 0, 1) := by decide +kernel
theorem dX8_heaviestIn_11 : decode cX8_heaviestIn 11 = .ok (.getfield 9, 3) := by decide +kernel
theorem dX8_heaviestIn_14 : decode cX8_heaviestIn 14 = .ok (.iload_n 1, 1) := by decide +kernel
theorem dX8_heaviestIn_15 : decode cX8_heaviestIn 15 = .ok (.invokevirtual 15, 3) := by decide +kernel
theorem dX8_heaviestIn_18 : decode cX8_heaviestIn 18 = .ok (.if_icmp .ge 36, 3) := by decide +kernel
theorem dX8_heaviestIn_21 : decode cX8_heaviestIn 21 = .ok (.aload_n 0, 1) := by decide +kernel
theorem dX8_heaviestIn_22 : decode cX8_heaviestIn 22 = .ok (.iload_n 1, 1) := by decide +kernel
theorem dX8_heaviestIn_23 : decode cX8_heaviestIn 23 = .ok (.iload_n 3, 1) := by decide +kernel
theorem dX8_heaviestIn_24 : decode cX8_heaviestIn 24 = .ok (.invokevirtual 21, 3) := by decide +kernel
theorem dX8_heaviestIn_27 : decode cX8_heaviestIn 27 = .ok (.istore 4, 2) := by decide +kernel
theorem dX8_heaviestIn_29 : decode cX8_heaviestIn 29 = .ok (.aload_n 0, 1) := by decide +kernel
theorem dX8_heaviestIn_30 : decode cX8_heaviestIn 30 = .ok (.iload_n 1, 1) := by decide +kernel
theorem dX8_heaviestIn_31 : decode cX8_heaviestIn 31 = .ok (.iload 4, 2) := by decide +kernel
theorem dX8_heaviestIn_33 : decode cX8_heaviestIn 33 = .ok (.invokevirtual 28, 3) := by decide +kernel
theorem dX8_heaviestIn_36 : decode cX8_heaviestIn 36 = .ok (.aload_n 0, 1) := by decide +kernel
theorem dX8_heaviestIn_37 : decode cX8_heaviestIn 37 = .ok (.iload_n 1, 1) := by decide +kernel
theorem dX8_heaviestIn_38 : decode cX8_heaviestIn 38 = .ok (.iload_n 2, 1) := by decide +kernel
theorem dX8_heaviestIn_39 : decode cX8_heaviestIn 39 = .ok (.invokevirtual 28, 3) := by decide +kernel
theorem dX8_heaviestIn_42 : decode cX8_heaviestIn 42 = .ok (.if_icmp .le 6, 3) := by decide +kernel
theorem dX8_heaviestIn_45 : decode cX8_heaviestIn 45 = .ok (.iload 4, 2) := by decide +kernel
theorem dX8_heaviestIn_47 : decode cX8_heaviestIn 47 = .ok (.istore_n 2, 1) := by decide +kernel
theorem dX8_heaviestIn_48 : decode cX8_heaviestIn 48 = .ok (.iinc 3 1, 3) := by decide +kernel
theorem dX8_heaviestIn_51 : decode cX8_heaviestIn 51 = .ok (.goto (-42), 3) := by decide +kernel
theorem dX8_heaviestIn_54 : decode cX8_heaviestIn 54 = .ok (.iload_n 2, 1) := by decide +kernel
theorem dX8_heaviestIn_55 : decode cX8_heaviestIn 55 = .ok (.ireturn, 1) := by decide +kernel
theorem dX8_firmAnswersNeeded_0 : decode cX8_firmAnswersNeeded 0 = .ok (.aload_n 0, 1) := by decide +kernel
theorem dX8_firmAnswersNeeded_1 : decode cX8_firmAnswersNeeded 1 = .ok (.iload_n 1, 1) := by decide +kernel
theorem dX8_firmAnswersNeeded_2 : decode cX8_firmAnswersNeeded 2 = .ok (.iload_n 2, 1) := by decide +kernel
theorem dX8_firmAnswersNeeded_3 : decode cX8_firmAnswersNeeded 3 = .ok (.invokevirtual 25, 3) := by decide +kernel
theorem dX8_firmAnswersNeeded_6 : decode cX8_firmAnswersNeeded 6 = .ok (.aload_n 0, 1) := by decide +kernel
theorem dX8_firmAnswersNeeded_7 : decode cX8_firmAnswersNeeded 7 = .ok (.iload_n 1, 1) := by decide +kernel
theorem dX8_firmAnswersNeeded_8 : decode cX8_firmAnswersNeeded 8 = .ok (.iload_n 2, 1) := by decide +kernel
theorem dX8_firmAnswersNeeded_9 : decode cX8_firmAnswersNeeded 9 = .ok (.invokevirtual 43, 3) := by decide +kernel
theorem dX8_firmAnswersNeeded_12 : decode cX8_firmAnswersNeeded 12 = .ok (.imul, 1) := by decide +kernel
theorem dX8_firmAnswersNeeded_13 : decode cX8_firmAnswersNeeded 13 = .ok (.istore_n 3, 1) := by decide +kernel
theorem dX8_firmAnswersNeeded_14 : decode cX8_firmAnswersNeeded 14 = .ok (.bipush 9, 2) := by decide +kernel
theorem dX8_firmAnswersNeeded_16 : decode cX8_firmAnswersNeeded 16 = .ok (.aload_n 0, 1) := by decide +kernel
theorem dX8_firmAnswersNeeded_17 : decode cX8_firmAnswersNeeded 17 = .ok (.getfield 40, 3) := by decide +kernel
theorem dX8_firmAnswersNeeded_20 : decode cX8_firmAnswersNeeded 20 = .ok (.iload_n 2, 1) := by decide +kernel
theorem dX8_firmAnswersNeeded_21 : decode cX8_firmAnswersNeeded 21 = .ok (.invokevirtual 15, 3) := by decide +kernel
theorem dX8_firmAnswersNeeded_24 : decode cX8_firmAnswersNeeded 24 = .ok (.isub, 1) := by decide +kernel
theorem dX8_firmAnswersNeeded_25 : decode cX8_firmAnswersNeeded 25 = .ok (.istore 4, 2) := by decide +kernel
theorem dX8_firmAnswersNeeded_27 : decode cX8_firmAnswersNeeded 27 = .ok (.aload_n 0, 1) := by decide +kernel
theorem dX8_firmAnswersNeeded_28 : decode cX8_firmAnswersNeeded 28 = .ok (.iload_n 1, 1) := by decide +kernel
theorem dX8_firmAnswersNeeded_29 : decode cX8_firmAnswersNeeded 29 = .ok (.invokestatic 46, 3) := by decide +kernel
theorem dX8_firmAnswersNeeded_32 : decode cX8_firmAnswersNeeded 32 = .ok (.istore 5, 2) := by decide +kernel
theorem dX8_firmAnswersNeeded_34 : decode cX8_firmAnswersNeeded 34 = .ok (.iconst 0, 1) := by decide +kernel
theorem dX8_firmAnswersNeeded_35 : decode cX8_firmAnswersNeeded 35 = .ok (.istore 6, 2) := by decide +kernel
theorem dX8_firmAnswersNeeded_37 : decode cX8_firmAnswersNeeded 37 = .ok (.iload 6, 2) := by decide +kernel
theorem dX8_firmAnswersNeeded_39 : decode cX8_firmAnswersNeeded 39 = .ok (.iload 4, 2) := by decide +kernel
theorem dX8_firmAnswersNeeded_41 : decode cX8_firmAnswersNeeded 41 = .ok (.if_icmp .gt 22, 3) := by decide +kernel
theorem dX8_firmAnswersNeeded_44 : decode cX8_firmAnswersNeeded 44 = .ok (.iload 5, 2) := by decide +kernel
theorem dX8_firmAnswersNeeded_46 : decode cX8_firmAnswersNeeded 46 = .ok (.iload 6, 2) := by decide +kernel
theorem dX8_firmAnswersNeeded_48 : decode cX8_firmAnswersNeeded 48 = .ok (.iload_n 3, 1) := by decide +kernel
theorem dX8_firmAnswersNeeded_49 : decode cX8_firmAnswersNeeded 49 = .ok (.imul, 1) := by decide +kernel
theorem dX8_firmAnswersNeeded_50 : decode cX8_firmAnswersNeeded 50 = .ok (.iadd, 1) := by decide +kernel
theorem dX8_firmAnswersNeeded_51 : decode cX8_firmAnswersNeeded 51 = .ok (.ifCond .le 6, 3) := by decide +kernel
theorem dX8_firmAnswersNeeded_54 : decode cX8_firmAnswersNeeded 54 = .ok (.iload 6, 2) := by decide +kernel
theorem dX8_firmAnswersNeeded_56 : decode cX8_firmAnswersNeeded 56 = .ok (.ireturn, 1) := by decide +kernel
theorem dX8_firmAnswersNeeded_57 : decode cX8_firmAnswersNeeded 57 = .ok (.iinc 6 1, 3) := by decide +kernel
theorem dX8_firmAnswersNeeded_60 : decode cX8_firmAnswersNeeded 60 = .ok (.goto (-23), 3) := by decide +kernel
theorem dX8_firmAnswersNeeded_63 : decode cX8_firmAnswersNeeded 63 = .ok (.iconst (-1), 1) := by decide +kernel
theorem dX8_firmAnswersNeeded_64 : decode cX8_firmAnswersNeeded 64 = .ok (.ireturn, 1) := by decide +kernel
theorem dX9_init_0 : decode cX9_init 0 = .ok (.aload_n 0, 1) := by decide +kernel
theorem dX9_init_1 : decode cX9_init 1 = .ok (.invokespecial 1, 3) := by decide +kernel
theorem dX9_init_4 : decode cX9_init 4 = .ok (.aload_n 0, 1) := by decide +kernel
theorem dX9_init_5 : decode cX9_init 5 = .ok (.new 7, 3) := by decide +kernel
theorem dX9_init_8 : decode cX9_init 8 = .ok (.dup, 1) := by decide +kernel
theorem dX9_init_9 : decode cX9_init 9 = .ok (.invokespecial 9, 3) := by decide +kernel
theorem dX9_init_12 : decode cX9_init 12 = .ok (.putfield 10, 3) := by decide +kernel
theorem dX9_init_15 : decode cX9_init 15 = .ok (.aload_n 0, 1) := by decide +kernel
theorem dX9_init_16 : decode cX9_init 16 = .ok (.new 7, 3) := by decide +kernel
theorem dX9_init_19 : decode cX9_init 19 = .ok (.dup, 1) := by decide +kernel
theorem dX9_init_20 : decode cX9_init 20 = .ok (.invokespecial 9, 3) := by decide +kernel
theorem dX9_init_23 : decode cX9_init 23 = .ok (.putfield 16, 3) := by decide +kernel
theorem dX9_init_26 : decode cX9_init 26 = .ok (.aload_n 0, 1) := by decide +kernel
theorem dX9_init_27 : decode cX9_init 27 = .ok (.new 7, 3) := by decide +kernel
theorem dX9_init_30 : decode cX9_init 30 = .ok (.dup, 1) := by decide +kernel
theorem dX9_init_31 : decode cX9_init 31 = .ok (.invokespecial 9, 3) := by decide +kernel
theorem dX9_init_34 : decode cX9_init 34 = .ok (.putfield 19, 3) := by decide +kernel
theorem dX9_init_37 : decode cX9_init 37 = .ok (.aload_n 0, 1) := by decide +kernel
theorem dX9_init_38 : decode cX9_init 38 = .ok (.new 22, 3) := by decide +kernel
theorem dX9_init_41 : decode cX9_init 41 = .ok (.dup, 1) := by decide +kernel
theorem dX9_init_42 : decode cX9_init 42 = .ok (.invokespecial 24, 3) := by decide +kernel
theorem dX9_init_45 : decode cX9_init 45 = .ok (.putfield 25, 3) := by decide +kernel
theorem dX9_init_48 : decode cX9_init 48 = .ok (.aload_n 0, 1) := by decide +kernel
theorem dX9_init_49 : decode cX9_init 49 = .ok (.new 29, 3) := by decide +kernel
theorem dX9_init_52 : decode cX9_init 52 = .ok (.dup, 1) := by decide +kernel
theorem dX9_init_53 : decode cX9_init 53 = .ok (.invokespecial 31, 3) := by decide +kernel
theorem dX9_init_56 : decode cX9_init 56 = .ok (.putfield 32, 3) := by decide +kernel
theorem dX9_init_59 : decode cX9_init 59 = .ok (.aload_n 0, 1) := by decide +kernel
theorem dX9_init_60 : decode cX9_init 60 = .ok (.new 36, 3) := by decide +kernel
theorem dX9_init_63 : decode cX9_init 63 = .ok (.dup, 1) := by decide +kernel
theorem dX9_init_64 : decode cX9_init 64 = .ok (.invokespecial 38, 3) := by decide +kernel
theorem dX9_init_67 : decode cX9_init 67 = .ok (.putfield 39, 3) := by decide +kernel
theorem dX9_init_70 : decode cX9_init 70 = .ok (.aload_n 0, 1) := by decide +kernel
theorem dX9_init_71 : decode cX9_init 71 = .ok (.new 43, 3) := by decide +kernel
theorem dX9_init_74 : decode cX9_init 74 = .ok (.dup, 1) := by decide +kernel
theorem dX9_init_75 : decode cX9_init 75 = .ok (.invokespecial 45, 3) := by decide +kernel
theorem dX9_init_78 : decode cX9_init 78 = .ok (.putfield 46, 3) := by decide +kernel
theorem dX9_init_81 : decode cX9_init 81 = .ok (.aload_n 0, 1) := by decide +kernel
theorem dX9_init_82 : decode cX9_init 82 = .ok (.new 50, 3) := by decide +kernel
theorem dX9_init_85 : decode cX9_init 85 = .ok (.dup, 1) := by decide +kernel
theorem dX9_init_86 : decode cX9_init 86 = .ok (.invokespecial 52, 3) := by decide +kernel
theorem dX9_init_89 : decode cX9_init 89 = .ok (.putfield 53, 3) := by decide +kernel
theorem dX9_init_92 : decode cX9_init 92 = .ok (.aload_n 0, 1) := by decide +kernel
theorem dX9_init_93 : decode cX9_init 93 = .ok (.iconst 0, 1) := by decide +kernel
theorem dX9_init_94 : decode cX9_init 94 = .ok (.putfield 57, 3) := by decide +kernel
theorem dX9_init_97 : decode cX9_init 97 = .ok (.aload_n 0, 1) := by decide +kernel
theorem dX9_init_98 : decode cX9_init 98 = .ok (.iconst (-1), 1) := by decide +kernel
theorem dX9_init_99 : decode cX9_init 99 = .ok (.putfield 61, 3) := by decide +kernel
theorem dX9_init_102 : decode cX9_init 102 = .ok (.aload_n 0, 1) := by decide +kernel
theorem dX9_init_103 : decode cX9_init 103 = .ok (.iconst (-1), 1) := by decide +kernel
theorem dX9_init_104 : decode cX9_init 104 = .ok (.putfield 65, 3) := by decide +kernel
theorem dX9_init_107 : decode cX9_init 107 = .ok (.aload_n 0, 1) := by decide +kernel
theorem dX9_init_108 : decode cX9_init 108 = .ok (.iconst 0, 1) := by decide +kernel
theorem dX9_init_109 : decode cX9_init 109 = .ok (.putfield 68, 3) := by decide +kernel
theorem dX9_init_112 : decode cX9_init 112 = .ok (.return_, 1) := by decide +kernel
theorem dX9_charge_0 : decode cX9_charge 0 = .ok (.aload_n 0, 1) := by decide +kernel
theorem dX9_charge_1 : decode cX9_charge 1 = .ok (.iconst 0, 1) := by decide +kernel
theorem dX9_charge_2 : decode cX9_charge 2 = .ok (.iload_n 1, 1) := by decide +kernel
theorem dX9_charge_3 : decode cX9_charge 3 = .ok (.iload_n 2, 1) := by decide +kernel
theorem dX9_charge_4 : decode cX9_charge 4 = .ok (.iconst 0, 1) := by decide +kernel
theorem dX9_charge_5 : decode cX9_charge 5 = .ok (.iconst 0, 1) := by decide +kernel
theorem dX9_charge_6 : decode cX9_charge 6 = .ok (.invokevirtual 71, 3) := by decide +kernel
theorem dX9_charge_9 : decode cX9_charge 9 = .ok (.ireturn, 1) := by decide +kernel
theorem dX9_addWitness_0 : decode cX9_addWitness 0 = .ok (.aload_n 0, 1) := by decide +kernel
theorem dX9_addWitness_1 : decode cX9_addWitness 1 = .ok (.iconst 1, 1) := by decide +kernel
theorem dX9_addWitness_2 : decode cX9_addWitness 2 = .ok (.iload_n 1, 1) := by decide +kernel
theorem dX9_addWitness_3 : decode cX9_addWitness 3 = .ok (.iconst 0, 1) := by decide +kernel
theorem dX9_addWitness_4 : decode cX9_addWitness 4 = .ok (.iconst 0, 1) := by decide +kernel
theorem dX9_addWitness_5 : decode cX9_addWitness 5 = .ok (.iconst 0, 1) := by decide +kernel
theorem dX9_addWitness_6 : decode cX9_addWitness 6 = .ok (.invokevirtual 71, 3) := by decide +kernel
theorem dX9_addWitness_9 : decode cX9_addWitness 9 = .ok (.ireturn, 1) := by decide +kernel
theorem dX9_testify_0 : decode cX9_testify 0 = .ok (.aload_n 0, 1) := by decide +kernel
theorem dX9_testify_1 : decode cX9_testify 1 = .ok (.iconst 2, 1) := by decide +kernel
theorem dX9_testify_2 : decode cX9_testify 2 = .ok (.iload_n 1, 1) := by decide +kernel
theorem dX9_testify_3 : decode cX9_testify 3 = .ok (.iload_n 2, 1) := by decide +kernel
theorem dX9_testify_4 : decode cX9_testify 4 = .ok (.iload_n 3, 1) := by decide +kernel
theorem dX9_testify_5 : decode cX9_testify 5 = .ok (.iload 4, 2) := by decide +kernel
theorem dX9_testify_7 : decode cX9_testify 7 = .ok (.invokevirtual 71, 3) := by decide +kernel
theorem dX9_testify_10 : decode cX9_testify 10 = .ok (.ireturn, 1) := by decide +kernel
theorem dX9_question_0 : decode cX9_question 0 = .ok (.aload_n 0, 1) := by decide +kernel
theorem dX9_question_1 : decode cX9_question 1 = .ok (.iconst 3, 1) := by decide +kernel
theorem dX9_question_2 : decode cX9_question 2 = .ok (.iload_n 1, 1) := by decide +kernel
theorem dX9_question_3 : decode cX9_question 3 = .ok (.iload_n 2, 1) := by decide +kernel
theorem dX9_question_4 : decode cX9_question 4 = .ok (.iload_n 3, 1) := by decide +kernel
theorem dX9_question_5 : decode cX9_question 5 = .ok (.iconst 0, 1) := by decide +kernel
theorem dX9_question_6 : decode cX9_question 6 = .ok (.invokevirtual 71, 3) := by decide +kernel
theorem dX9_question_9 : decode cX9_question 9 = .ok (.ireturn, 1) := by decide +kernel
theorem dX9_decide_0 : decode cX9_decide 0 = .ok (.aload_n 0, 1) := by decide +kernel
theorem dX9_decide_1 : decode cX9_decide 1 = .ok (.iconst 4, 1) := by decide +kernel
theorem dX9_decide_2 : decode cX9_decide 2 = .ok (.iload_n 1, 1) := by decide +kernel
theorem dX9_decide_3 : decode cX9_decide 3 = .ok (.iconst 0, 1) := by decide +kernel
theorem dX9_decide_4 : decode cX9_decide 4 = .ok (.iconst 0, 1) := by decide +kernel
theorem dX9_decide_5 : decode cX9_decide 5 = .ok (.iconst 0, 1) := by decide +kernel
theorem dX9_decide_6 : decode cX9_decide 6 = .ok (.invokevirtual 71, 3) := by decide +kernel
theorem dX9_decide_9 : decode cX9_decide 9 = .ok (.ifCond .eq 7, 3) := by decide +kernel
theorem dX9_decide_12 : decode cX9_decide 12 = .ok (.iconst 1, 1) := by decide +kernel
theorem dX9_decide_13 : decode cX9_decide 13 = .ok (.goto 4, 3) := by decide +kernel
theorem dX9_decide_16 : decode cX9_decide 16 = .ok (.iconst 0, 1) := by decide +kernel
theorem dX9_decide_17 : decode cX9_decide 17 = .ok (.ireturn, 1) := by decide +kernel
theorem dX9_appeal_0 : decode cX9_appeal 0 = .ok (.aload_n 0, 1) := by decide +kernel
theorem dX9_appeal_1 : decode cX9_appeal 1 = .ok (.iconst 5, 1) := by decide +kernel
theorem dX9_appeal_2 : decode cX9_appeal 2 = .ok (.iload_n 1, 1) := by decide +kernel
theorem dX9_appeal_3 : decode cX9_appeal 3 = .ok (.iconst 0, 1) := by decide +kernel
theorem dX9_appeal_4 : decode cX9_appeal 4 = .ok (.iconst 0, 1) := by decide +kernel
theorem dX9_appeal_5 : decode cX9_appeal 5 = .ok (.iconst 0, 1) := by decide +kernel
theorem dX9_appeal_6 : decode cX9_appeal 6 = .ok (.invokevirtual 71, 3) := by decide +kernel
theorem dX9_appeal_9 : decode cX9_appeal 9 = .ok (.ireturn, 1) := by decide +kernel
theorem dX9_close_0 : decode cX9_close 0 = .ok (.aload_n 0, 1) := by decide +kernel
theorem dX9_close_1 : decode cX9_close 1 = .ok (.bipush 6, 2) := by decide +kernel
theorem dX9_close_3 : decode cX9_close 3 = .ok (.iload_n 1, 1) := by decide +kernel
theorem dX9_close_4 : decode cX9_close 4 = .ok (.iconst 0, 1) := by decide +kernel
theorem dX9_close_5 : decode cX9_close 5 = .ok (.iconst 0, 1) := by decide +kernel
theorem dX9_close_6 : decode cX9_close 6 = .ok (.iconst 0, 1) := by decide +kernel
theorem dX9_close_7 : decode cX9_close 7 = .ok (.invokevirtual 71, 3) := by decide +kernel
theorem dX9_close_10 : decode cX9_close 10 = .ok (.ireturn, 1) := by decide +kernel
theorem dX9_caseCount_0 : decode cX9_caseCount 0 = .ok (.aload_n 0, 1) := by decide +kernel
theorem dX9_caseCount_1 : decode cX9_caseCount 1 = .ok (.getfield 10, 3) := by decide +kernel
theorem dX9_caseCount_4 : decode cX9_caseCount 4 = .ok (.getfield 75, 3) := by decide +kernel
theorem dX9_caseCount_7 : decode cX9_caseCount 7 = .ok (.ireturn, 1) := by decide +kernel
theorem dX9_caseOf_0 : decode cX9_caseOf 0 = .ok (.iload_n 1, 1) := by decide +kernel
theorem dX9_caseOf_1 : decode cX9_caseOf 1 = .ok (.invokestatic 78, 3) := by decide +kernel
theorem dX9_caseOf_4 : decode cX9_caseOf 4 = .ok (.ifCond .eq 10, 3) := by decide +kernel
theorem dX9_caseOf_7 : decode cX9_caseOf 7 = .ok (.iload_n 2, 1) := by decide +kernel
theorem dX9_caseOf_8 : decode cX9_caseOf 8 = .ok (.invokestatic 82, 3) := by decide +kernel
theorem dX9_caseOf_11 : decode cX9_caseOf 11 = .ok (.ifCond .ne 13, 3) := by decide +kernel
theorem dX9_caseOf_14 : decode cX9_caseOf 14 = .ok (.new 85, 3) := by decide +kernel
theorem dX9_caseOf_17 : decode cX9_caseOf 17 = .ok (.dup, 1) := by decide +kernel
theorem dX9_caseOf_18 : decode cX9_caseOf 18 = .ok (.ldc 87, 2) := by decide +kernel
theorem dX9_caseOf_20 : decode cX9_caseOf 20 = .ok (.invokespecial 89, 3) := by decide +kernel
theorem dX9_caseOf_23 : decode cX9_caseOf 23 = .ok (.athrow, 1) := by decide +kernel
theorem dX9_caseOf_24 : decode cX9_caseOf 24 = .ok (.aload_n 0, 1) := by decide +kernel
theorem dX9_caseOf_25 : decode cX9_caseOf 25 = .ok (.getfield 10, 3) := by decide +kernel
theorem dX9_caseOf_28 : decode cX9_caseOf 28 = .ok (.iload_n 1, 1) := by decide +kernel
theorem dX9_caseOf_29 : decode cX9_caseOf 29 = .ok (.iload_n 2, 1) := by decide +kernel
theorem dX9_caseOf_30 : decode cX9_caseOf 30 = .ok (.invokevirtual 92, 3) := by decide +kernel
theorem dX9_caseOf_33 : decode cX9_caseOf 33 = .ok (.istore_n 3, 1) := by decide +kernel
theorem dX9_caseOf_34 : decode cX9_caseOf 34 = .ok (.iload_n 3, 1) := by decide +kernel
theorem dX9_caseOf_35 : decode cX9_caseOf 35 = .ok (.iconst (-1), 1) := by decide +kernel
theorem dX9_caseOf_36 : decode cX9_caseOf 36 = .ok (.if_icmp .ne 13, 3) := by decide +kernel
theorem dX9_caseOf_39 : decode cX9_caseOf 39 = .ok (.new 96, 3) := by decide +kernel
theorem dX9_caseOf_42 : decode cX9_caseOf 42 = .ok (.dup, 1) := by decide +kernel
theorem dX9_caseOf_43 : decode cX9_caseOf 43 = .ok (.ldc 98, 2) := by decide +kernel
theorem dX9_caseOf_45 : decode cX9_caseOf 45 = .ok (.invokespecial 100, 3) := by decide +kernel
theorem dX9_caseOf_48 : decode cX9_caseOf 48 = .ok (.athrow, 1) := by decide +kernel
theorem dX9_caseOf_49 : decode cX9_caseOf 49 = .ok (.iload_n 3, 1) := by decide +kernel
theorem dX9_caseOf_50 : decode cX9_caseOf 50 = .ok (.ireturn, 1) := by decide +kernel
theorem dX9_defendantOf_0 : decode cX9_defendantOf 0 = .ok (.aload_n 0, 1) := by decide +kernel
theorem dX9_defendantOf_1 : decode cX9_defendantOf 1 = .ok (.iload_n 1, 1) := by decide +kernel
theorem dX9_defendantOf_2 : decode cX9_defendantOf 2 = .ok (.invokevirtual 101, 3) := by decide +kernel
theorem dX9_defendantOf_5 : decode cX9_defendantOf 5 = .ok (.aload_n 0, 1) := by decide +kernel
theorem dX9_defendantOf_6 : decode cX9_defendantOf 6 = .ok (.getfield 10, 3) := by decide +kernel
theorem dX9_defendantOf_9 : decode cX9_defendantOf 9 = .ok (.getfield 105, 3) := by decide +kernel
theorem dX9_defendantOf_12 : decode cX9_defendantOf 12 = .ok (.iload_n 1, 1) := by decide +kernel
theorem dX9_defendantOf_13 : decode cX9_defendantOf 13 = .ok (.invokevirtual 109, 3) := by decide +kernel
theorem dX9_defendantOf_16 : decode cX9_defendantOf 16 = .ok (.ireturn, 1) := by decide +kernel
theorem dX9_offenceOf_0 : decode cX9_offenceOf 0 = .ok (.aload_n 0, 1) := by decide +kernel
theorem dX9_offenceOf_1 : decode cX9_offenceOf 1 = .ok (.iload_n 1, 1) := by decide +kernel
theorem dX9_offenceOf_2 : decode cX9_offenceOf 2 = .ok (.invokevirtual 101, 3) := by decide +kernel
theorem dX9_offenceOf_5 : decode cX9_offenceOf 5 = .ok (.aload_n 0, 1) := by decide +kernel
theorem dX9_offenceOf_6 : decode cX9_offenceOf 6 = .ok (.getfield 10, 3) := by decide +kernel
theorem dX9_offenceOf_9 : decode cX9_offenceOf 9 = .ok (.getfield 115, 3) := by decide +kernel
theorem dX9_offenceOf_12 : decode cX9_offenceOf 12 = .ok (.iload_n 1, 1) := by decide +kernel
theorem dX9_offenceOf_13 : decode cX9_offenceOf 13 = .ok (.invokevirtual 109, 3) := by decide +kernel
theorem dX9_offenceOf_16 : decode cX9_offenceOf 16 = .ok (.ireturn, 1) := by decide +kernel
theorem dX9_isOpen_0 : decode cX9_isOpen 0 = .ok (.aload_n 0, 1) := by decide +kernel
theorem dX9_isOpen_1 : decode cX9_isOpen 1 = .ok (.iload_n 1, 1) := by decide +kernel
theorem dX9_isOpen_2 : decode cX9_isOpen 2 = .ok (.invokevirtual 101, 3) := by decide +kernel
theorem dX9_isOpen_5 : decode cX9_isOpen 5 = .ok (.aload_n 0, 1) := by decide +kernel
theorem dX9_isOpen_6 : decode cX9_isOpen 6 = .ok (.getfield 10, 3) := by decide +kernel
theorem dX9_isOpen_9 : decode cX9_isOpen 9 = .ok (.iconst 0, 1) := by decide +kernel
theorem dX9_isOpen_10 : decode cX9_isOpen 10 = .ok (.iload_n 1, 1) := by decide +kernel
theorem dX9_isOpen_11 : decode cX9_isOpen 11 = .ok (.invokevirtual 118, 3) := by decide +kernel
theorem dX9_isOpen_14 : decode cX9_isOpen 14 = .ok (.ireturn, 1) := by decide +kernel
theorem dX9_isDecided_0 : decode cX9_isDecided 0 = .ok (.aload_n 0, 1) := by decide +kernel
theorem dX9_isDecided_1 : decode cX9_isDecided 1 = .ok (.iload_n 1, 1) := by decide +kernel
theorem dX9_isDecided_2 : decode cX9_isDecided 2 = .ok (.invokevirtual 101, 3) := by decide +kernel
theorem dX9_isDecided_5 : decode cX9_isDecided 5 = .ok (.aload_n 0, 1) := by decide +kernel
theorem dX9_isDecided_6 : decode cX9_isDecided 6 = .ok (.getfield 10, 3) := by decide +kernel
theorem dX9_isDecided_9 : decode cX9_isDecided 9 = .ok (.iconst 1, 1) := by decide +kernel
theorem dX9_isDecided_10 : decode cX9_isDecided 10 = .ok (.iload_n 1, 1) := by decide +kernel
theorem dX9_isDecided_11 : decode cX9_isDecided 11 = .ok (.invokevirtual 118, 3) := by decide +kernel
theorem dX9_isDecided_14 : decode cX9_isDecided 14 = .ok (.ireturn, 1) := by decide +kernel
theorem dX9_isClosed_0 : decode cX9_isClosed 0 = .ok (.aload_n 0, 1) := by decide +kernel
theorem dX9_isClosed_1 : decode cX9_isClosed 1 = .ok (.iload_n 1, 1) := by decide +kernel
theorem dX9_isClosed_2 : decode cX9_isClosed 2 = .ok (.invokevirtual 101, 3) := by decide +kernel
theorem dX9_isClosed_5 : decode cX9_isClosed 5 = .ok (.aload_n 0, 1) := by decide +kernel
theorem dX9_isClosed_6 : decode cX9_isClosed 6 = .ok (.getfield 10, 3) := by decide +kernel
theorem dX9_isClosed_9 : decode cX9_isClosed 9 = .ok (.iconst 2, 1) := by decide +kernel
theorem dX9_isClosed_10 : decode cX9_isClosed 10 = .ok (.iload_n 1, 1) := by decide +kernel
theorem dX9_isClosed_11 : decode cX9_isClosed 11 = .ok (.invokevirtual 118, 3) := by decide +kernel
theorem dX9_isClosed_14 : decode cX9_isClosed 14 = .ok (.ireturn, 1) := by decide +kernel
theorem dX9_isGuilty_0 : decode cX9_isGuilty 0 = .ok (.aload_n 0, 1) := by decide +kernel
theorem dX9_isGuilty_1 : decode cX9_isGuilty 1 = .ok (.iload_n 1, 1) := by decide +kernel
theorem dX9_isGuilty_2 : decode cX9_isGuilty 2 = .ok (.invokevirtual 101, 3) := by decide +kernel
theorem dX9_isGuilty_5 : decode cX9_isGuilty 5 = .ok (.aload_n 0, 1) := by decide +kernel
theorem dX9_isGuilty_6 : decode cX9_isGuilty 6 = .ok (.getfield 10, 3) := by decide +kernel
theorem dX9_isGuilty_9 : decode cX9_isGuilty 9 = .ok (.iconst 0, 1) := by decide +kernel
theorem dX9_isGuilty_10 : decode cX9_isGuilty 10 = .ok (.iload_n 1, 1) := by decide +kernel
theorem dX9_isGuilty_11 : decode cX9_isGuilty 11 = .ok (.invokevirtual 118, 3) := by decide +kernel
theorem dX9_isGuilty_14 : decode cX9_isGuilty 14 = .ok (.ifCond .eq 13, 3) := by decide +kernel
theorem dX9_isGuilty_17 : decode cX9_isGuilty 17 = .ok (.new 122, 3) := by decide +kernel
theorem dX9_isGuilty_20 : decode cX9_isGuilty 20 = .ok (.dup, 1) := by decide +kernel
theorem dX9_isGuilty_21 : decode cX9_isGuilty 21 = .ok (.ldc 124, 2) := by decide +kernel
theorem dX9_isGuilty_23 : decode cX9_isGuilty 23 = .ok (.invokespecial 126, 3) := by decide +kernel
theorem dX9_isGuilty_26 : decode cX9_isGuilty 26 = .ok (.athrow, 1) := by decide +kernel
theorem dX9_isGuilty_27 : decode cX9_isGuilty 27 = .ok (.aload_n 0, 1) := by decide +kernel
theorem dX9_isGuilty_28 : decode cX9_isGuilty 28 = .ok (.getfield 10, 3) := by decide +kernel
theorem dX9_isGuilty_31 : decode cX9_isGuilty 31 = .ok (.iload_n 1, 1) := by decide +kernel
theorem dX9_isGuilty_32 : decode cX9_isGuilty 32 = .ok (.invokevirtual 127, 3) := by decide +kernel
theorem dX9_isGuilty_35 : decode cX9_isGuilty 35 = .ok (.ireturn, 1) := by decide +kernel
theorem dX9_appealCount_0 : decode cX9_appealCount 0 = .ok (.aload_n 0, 1) := by decide +kernel
theorem dX9_appealCount_1 : decode cX9_appealCount 1 = .ok (.iload_n 1, 1) := by decide +kernel
theorem dX9_appealCount_2 : decode cX9_appealCount 2 = .ok (.invokevirtual 101, 3) := by decide +kernel
theorem dX9_appealCount_5 : decode cX9_appealCount 5 = .ok (.aload_n 0, 1) := by decide +kernel
theorem dX9_appealCount_6 : decode cX9_appealCount 6 = .ok (.getfield 10, 3) := by decide +kernel
theorem dX9_appealCount_9 : decode cX9_appealCount 9 = .ok (.getfield 130, 3) := by decide +kernel
theorem dX9_appealCount_12 : decode cX9_appealCount 12 = .ok (.iload_n 1, 1) := by decide +kernel
theorem dX9_appealCount_13 : decode cX9_appealCount 13 = .ok (.invokevirtual 109, 3) := by decide +kernel
theorem dX9_appealCount_16 : decode cX9_appealCount 16 = .ok (.ireturn, 1) := by decide +kernel
theorem dX9_testimonyCount_0 : decode cX9_testimonyCount 0 = .ok (.aload_n 0, 1) := by decide +kernel
theorem dX9_testimonyCount_1 : decode cX9_testimonyCount 1 = .ok (.iload_n 1, 1) := by decide +kernel
theorem dX9_testimonyCount_2 : decode cX9_testimonyCount 2 = .ok (.invokevirtual 101, 3) := by decide +kernel
theorem dX9_testimonyCount_5 : decode cX9_testimonyCount 5 = .ok (.aload_n 0, 1) := by decide +kernel
theorem dX9_testimonyCount_6 : decode cX9_testimonyCount 6 = .ok (.getfield 10, 3) := by decide +kernel
theorem dX9_testimonyCount_9 : decode cX9_testimonyCount 9 = .ok (.getfield 133, 3) := by decide +kernel
theorem dX9_testimonyCount_12 : decode cX9_testimonyCount 12 = .ok (.iload_n 1, 1) := by decide +kernel
theorem dX9_testimonyCount_13 : decode cX9_testimonyCount 13 = .ok (.invokevirtual 109, 3) := by decide +kernel
theorem dX9_testimonyCount_16 : decode cX9_testimonyCount 16 = .ok (.ireturn, 1) := by decide +kernel
theorem dX9_witnessAt_0 : decode cX9_witnessAt 0 = .ok (.aload_n 0, 1) := by decide +kernel
theorem dX9_witnessAt_1 : decode cX9_witnessAt 1 = .ok (.iload_n 1, 1) := by decide +kernel
theorem dX9_witnessAt_2 : decode cX9_witnessAt 2 = .ok (.invokevirtual 101, 3) := by decide +kernel
theorem dX9_witnessAt_5 : decode cX9_witnessAt 5 = .ok (.iload_n 2, 1) := by decide +kernel
theorem dX9_witnessAt_6 : decode cX9_witnessAt 6 = .ok (.ifCond .lt 18, 3) := by decide +kernel
theorem dX9_witnessAt_9 : decode cX9_witnessAt 9 = .ok (.iload_n 2, 1) := by decide +kernel
theorem dX9_witnessAt_10 : decode cX9_witnessAt 10 = .ok (.aload_n 0, 1) := by decide +kernel
theorem dX9_witnessAt_11 : decode cX9_witnessAt 11 = .ok (.getfield 10, 3) := by decide +kernel
theorem dX9_witnessAt_14 : decode cX9_witnessAt 14 = .ok (.getfield 133, 3) := by decide +kernel
theorem dX9_witnessAt_17 : decode cX9_witnessAt 17 = .ok (.iload_n 1, 1) := by decide +kernel
theorem dX9_witnessAt_18 : decode cX9_witnessAt 18 = .ok (.invokevirtual 109, 3) := by decide +kernel
theorem dX9_witnessAt_21 : decode cX9_witnessAt 21 = .ok (.if_icmp .lt 13, 3) := by decide +kernel
theorem dX9_witnessAt_24 : decode cX9_witnessAt 24 = .ok (.new 96, 3) := by decide +kernel
theorem dX9_witnessAt_27 : decode cX9_witnessAt 27 = .ok (.dup, 1) := by decide +kernel
theorem dX9_witnessAt_28 : decode cX9_witnessAt 28 = .ok (.ldc 136, 2) := by decide +kernel
theorem dX9_witnessAt_30 : decode cX9_witnessAt 30 = .ok (.invokespecial 100, 3) := by decide +kernel
theorem dX9_witnessAt_33 : decode cX9_witnessAt 33 = .ok (.athrow, 1) := by decide +kernel
theorem dX9_witnessAt_34 : decode cX9_witnessAt 34 = .ok (.aload_n 0, 1) := by decide +kernel
theorem dX9_witnessAt_35 : decode cX9_witnessAt 35 = .ok (.getfield 10, 3) := by decide +kernel
theorem dX9_witnessAt_38 : decode cX9_witnessAt 38 = .ok (.iload_n 1, 1) := by decide +kernel
theorem dX9_witnessAt_39 : decode cX9_witnessAt 39 = .ok (.iload_n 2, 1) := by decide +kernel
theorem dX9_witnessAt_40 : decode cX9_witnessAt 40 = .ok (.invokevirtual 138, 3) := by decide +kernel
theorem dX9_witnessAt_43 : decode cX9_witnessAt 43 = .ok (.ireturn, 1) := by decide +kernel
theorem dX9_hasTestified_0 : decode cX9_hasTestified 0 = .ok (.aload_n 0, 1) := by decide +kernel
theorem dX9_hasTestified_1 : decode cX9_hasTestified 1 = .ok (.iload_n 1, 1) := by decide +kernel
theorem dX9_hasTestified_2 : decode cX9_hasTestified 2 = .ok (.invokevirtual 101, 3) := by decide +kernel
theorem dX9_hasTestified_5 : decode cX9_hasTestified 5 = .ok (.aload_n 0, 1) := by decide +kernel
theorem dX9_hasTestified_6 : decode cX9_hasTestified 6 = .ok (.iload_n 2, 1) := by decide +kernel
theorem dX9_hasTestified_7 : decode cX9_hasTestified 7 = .ok (.invokevirtual 141, 3) := by decide +kernel
theorem dX9_hasTestified_10 : decode cX9_hasTestified 10 = .ok (.aload_n 0, 1) := by decide +kernel
theorem dX9_hasTestified_11 : decode cX9_hasTestified 11 = .ok (.getfield 10, 3) := by decide +kernel
theorem dX9_hasTestified_14 : decode cX9_hasTestified 14 = .ok (.iload_n 1, 1) := by decide +kernel
theorem dX9_hasTestified_15 : decode cX9_hasTestified 15 = .ok (.iload_n 2, 1) := by decide +kernel
theorem dX9_hasTestified_16 : decode cX9_hasTestified 16 = .ok (.invokevirtual 144, 3) := by decide +kernel
theorem dX9_hasTestified_19 : decode cX9_hasTestified 19 = .ok (.ireturn, 1) := by decide +kernel
theorem dX9_isForProsecution_0 : decode cX9_isForProsecution 0 = .ok (.aload_n 0, 1) := by decide +kernel
theorem dX9_isForProsecution_1 : decode cX9_isForProsecution 1 = .ok (.iload_n 1, 1) := by decide +kernel
theorem dX9_isForProsecution_2 : decode cX9_isForProsecution 2 = .ok (.iload_n 2, 1) := by decide +kernel
theorem dX9_isForProsecution_3 : decode cX9_isForProsecution 3 = .ok (.invokevirtual 147, 3) := by decide +kernel
theorem dX9_isForProsecution_6 : decode cX9_isForProsecution 6 = .ok (.aload_n 0, 1) := by decide +kernel
theorem dX9_isForProsecution_7 : decode cX9_isForProsecution 7 = .ok (.getfield 10, 3) := by decide +kernel
theorem dX9_isForProsecution_10 : decode cX9_isForProsecution 10 = .ok (.iload_n 1, 1) := by decide +kernel
theorem dX9_isForProsecution_11 : decode cX9_isForProsecution 11 = .ok (.iload_n 2, 1) := by decide +kernel
theorem dX9_isForProsecution_12 : decode cX9_isForProsecution 12 = .ok (.invokevirtual 151, 3) := by decide +kernel
theorem dX9_isForProsecution_15 : decode cX9_isForProsecution 15 = .ok (.ifCond .le 7, 3) := by decide +kernel
theorem dX9_isForProsecution_18 : decode cX9_isForProsecution 18 = .ok (.iconst 1, 1) := by decide +kernel
theorem dX9_isForProsecution_19 : decode cX9_isForProsecution 19 = .ok (.goto 4, 3) := by decide +kernel
theorem dX9_isForProsecution_22 : decode cX9_isForProsecution 22 = .ok (.iconst 0, 1) := by decide +kernel
theorem dX9_isForProsecution_23 : decode cX9_isForProsecution 23 = .ok (.ireturn, 1) := by decide +kernel
theorem dX9_strength_0 : decode cX9_strength 0 = .ok (.aload_n 0, 1) := by decide +kernel
theorem dX9_strength_1 : decode cX9_strength 1 = .ok (.iload_n 1, 1) := by decide +kernel
theorem dX9_strength_2 : decode cX9_strength 2 = .ok (.iload_n 2, 1) := by decide +kernel
theorem dX9_strength_3 : decode cX9_strength 3 = .ok (.invokevirtual 147, 3) := by decide +kernel
theorem dX9_strength_6 : decode cX9_strength 6 = .ok (.aload_n 0, 1) := by decide +kernel
theorem dX9_strength_7 : decode cX9_strength 7 = .ok (.getfield 10, 3) := by decide +kernel
theorem dX9_strength_10 : decode cX9_strength 10 = .ok (.iload_n 1, 1) := by decide +kernel
theorem dX9_strength_11 : decode cX9_strength 11 = .ok (.iload_n 2, 1) := by decide +kernel
theorem dX9_strength_12 : decode cX9_strength 12 = .ok (.invokevirtual 154, 3) := by decide +kernel
theorem dX9_strength_15 : decode cX9_strength 15 = .ok (.ireturn, 1) := by decide +kernel
theorem dX9_questionCount_0 : decode cX9_questionCount 0 = .ok (.aload_n 0, 1) := by decide +kernel
theorem dX9_questionCount_1 : decode cX9_questionCount 1 = .ok (.iload_n 1, 1) := by decide +kernel
theorem dX9_questionCount_2 : decode cX9_questionCount 2 = .ok (.iload_n 2, 1) := by decide +kernel
theorem dX9_questionCount_3 : decode cX9_questionCount 3 = .ok (.invokevirtual 147, 3) := by decide +kernel
theorem dX9_questionCount_6 : decode cX9_questionCount 6 = .ok (.aload_n 0, 1) := by decide +kernel
theorem dX9_questionCount_7 : decode cX9_questionCount 7 = .ok (.getfield 10, 3) := by decide +kernel
theorem dX9_questionCount_10 : decode cX9_questionCount 10 = .ok (.iload_n 1, 1) := by decide +kernel
theorem dX9_questionCount_11 : decode cX9_questionCount 11 = .ok (.iload_n 2, 1) := by decide +kernel
theorem dX9_questionCount_12 : decode cX9_questionCount 12 = .ok (.invokevirtual 157, 3) := by decide +kernel
theorem dX9_questionCount_15 : decode cX9_questionCount 15 = .ok (.ireturn, 1) := by decide +kernel
theorem dX9_witnessCount_0 : decode cX9_witnessCount 0 = .ok (.aload_n 0, 1) := by decide +kernel
theorem dX9_witnessCount_1 : decode cX9_witnessCount 1 = .ok (.getfield 10, 3) := by decide +kernel
theorem dX9_witnessCount_4 : decode cX9_witnessCount 4 = .ok (.getfield 160, 3) := by decide +kernel
theorem dX9_witnessCount_7 : decode cX9_witnessCount 7 = .ok (.ireturn, 1) := by decide +kernel
theorem dX9_credibility_0 : decode cX9_credibility 0 = .ok (.aload_n 0, 1) := by decide +kernel
theorem dX9_credibility_1 : decode cX9_credibility 1 = .ok (.iload_n 1, 1) := by decide +kernel
theorem dX9_credibility_2 : decode cX9_credibility 2 = .ok (.invokevirtual 141, 3) := by decide +kernel
theorem dX9_credibility_5 : decode cX9_credibility 5 = .ok (.aload_n 0, 1) := by decide +kernel
theorem dX9_credibility_6 : decode cX9_credibility 6 = .ok (.getfield 10, 3) := by decide +kernel
theorem dX9_credibility_9 : decode cX9_credibility 9 = .ok (.getfield 163, 3) := by decide +kernel
theorem dX9_credibility_12 : decode cX9_credibility 12 = .ok (.iload_n 1, 1) := by decide +kernel
theorem dX9_credibility_13 : decode cX9_credibility 13 = .ok (.invokevirtual 109, 3) := by decide +kernel
theorem dX9_credibility_16 : decode cX9_credibility 16 = .ok (.ireturn, 1) := by decide +kernel
theorem dX9_casesOfWitness_0 : decode cX9_casesOfWitness 0 = .ok (.aload_n 0, 1) := by decide +kernel
theorem dX9_casesOfWitness_1 : decode cX9_casesOfWitness 1 = .ok (.iload_n 1, 1) := by decide +kernel
theorem dX9_casesOfWitness_2 : decode cX9_casesOfWitness 2 = .ok (.invokevirtual 141, 3) := by decide +kernel
theorem dX9_casesOfWitness_5 : decode cX9_casesOfWitness 5 = .ok (.aload_n 0, 1) := by decide +kernel
theorem dX9_casesOfWitness_6 : decode cX9_casesOfWitness 6 = .ok (.getfield 10, 3) := by decide +kernel
theorem dX9_casesOfWitness_9 : decode cX9_casesOfWitness 9 = .ok (.iload_n 1, 1) := by decide +kernel
theorem dX9_casesOfWitness_10 : decode cX9_casesOfWitness 10 = .ok (.invokevirtual 166, 3) := by decide +kernel
theorem dX9_casesOfWitness_13 : decode cX9_casesOfWitness 13 = .ok (.ireturn, 1) := by decide +kernel
theorem dX9_mostCredible_0 : decode cX9_mostCredible 0 = .ok (.aload_n 0, 1) := by decide +kernel
theorem dX9_mostCredible_1 : decode cX9_mostCredible 1 = .ok (.getfield 10, 3) := by decide +kernel
theorem dX9_mostCredible_4 : decode cX9_mostCredible 4 = .ok (.iload_n 1, 1) := by decide +kernel
theorem dX9_mostCredible_5 : decode cX9_mostCredible 5 = .ok (.invokevirtual 169, 3) := by decide +kernel
theorem dX9_mostCredible_8 : decode cX9_mostCredible 8 = .ok (.istore_n 2, 1) := by decide +kernel
theorem dX9_mostCredible_9 : decode cX9_mostCredible 9 = .ok (.iload_n 2, 1) := by decide +kernel
theorem dX9_mostCredible_10 : decode cX9_mostCredible 10 = .ok (.iconst (-1), 1) := by decide +kernel
theorem dX9_mostCredible_11 : decode cX9_mostCredible 11 = .ok (.if_icmp .ne 13, 3) := by decide +kernel
theorem dX9_mostCredible_14 : decode cX9_mostCredible 14 = .ok (.new 96, 3) := by decide +kernel
theorem dX9_mostCredible_17 : decode cX9_mostCredible 17 = .ok (.dup, 1) := by decide +kernel
theorem dX9_mostCredible_18 : decode cX9_mostCredible 18 = .ok (.ldc 172, 2) := by decide +kernel
theorem dX9_mostCredible_20 : decode cX9_mostCredible 20 = .ok (.invokespecial 100, 3) := by decide +kernel
theorem dX9_mostCredible_23 : decode cX9_mostCredible 23 = .ok (.athrow, 1) := by decide +kernel
theorem dX9_mostCredible_24 : decode cX9_mostCredible 24 = .ok (.iload_n 2, 1) := by decide +kernel
theorem dX9_mostCredible_25 : decode cX9_mostCredible 25 = .ok (.ireturn, 1) := by decide +kernel
theorem dX9_agreement_0 : decode cX9_agreement 0 = .ok (.aload_n 0, 1) := by decide +kernel
theorem dX9_agreement_1 : decode cX9_agreement 1 = .ok (.iload_n 1, 1) := by decide +kernel
theorem dX9_agreement_2 : decode cX9_agreement 2 = .ok (.invokevirtual 141, 3) := by decide +kernel
theorem dX9_agreement_5 : decode cX9_agreement 5 = .ok (.aload_n 0, 1) := by decide +kernel
theorem dX9_agreement_6 : decode cX9_agreement 6 = .ok (.iload_n 2, 1) := by decide +kernel
theorem dX9_agreement_7 : decode cX9_agreement 7 = .ok (.invokevirtual 141, 3) := by decide +kernel
theorem dX9_agreement_10 : decode cX9_agreement 10 = .ok (.aload_n 0, 1) := by decide +kernel
theorem dX9_agreement_11 : decode cX9_agreement 11 = .ok (.getfield 10, 3) := by decide +kernel
theorem dX9_agreement_14 : decode cX9_agreement 14 = .ok (.iload_n 1, 1) := by decide +kernel
theorem dX9_agreement_15 : decode cX9_agreement 15 = .ok (.iload_n 2, 1) := by decide +kernel
theorem dX9_agreement_16 : decode cX9_agreement 16 = .ok (.invokevirtual 174, 3) := by decide +kernel
theorem dX9_agreement_19 : decode cX9_agreement 19 = .ok (.ireturn, 1) := by decide +kernel
theorem dX9_areConnected_0 : decode cX9_areConnected 0 = .ok (.aload_n 0, 1) := by decide +kernel
theorem dX9_areConnected_1 : decode cX9_areConnected 1 = .ok (.iload_n 1, 1) := by decide +kernel
theorem dX9_areConnected_2 : decode cX9_areConnected 2 = .ok (.invokevirtual 141, 3) := by decide +kernel
theorem dX9_areConnected_5 : decode cX9_areConnected 5 = .ok (.aload_n 0, 1) := by decide +kernel
theorem dX9_areConnected_6 : decode cX9_areConnected 6 = .ok (.iload_n 2, 1) := by decide +kernel
theorem dX9_areConnected_7 : decode cX9_areConnected 7 = .ok (.invokevirtual 141, 3) := by decide +kernel
theorem dX9_areConnected_10 : decode cX9_areConnected 10 = .ok (.aload_n 0, 1) := by decide +kernel
theorem dX9_areConnected_11 : decode cX9_areConnected 11 = .ok (.getfield 10, 3) := by decide +kernel
theorem dX9_areConnected_14 : decode cX9_areConnected 14 = .ok (.getfield 177, 3) := by decide +kernel
theorem dX9_areConnected_17 : decode cX9_areConnected 17 = .ok (.iload_n 1, 1) := by decide +kernel
theorem dX9_areConnected_18 : decode cX9_areConnected 18 = .ok (.iload_n 2, 1) := by decide +kernel
theorem dX9_areConnected_19 : decode cX9_areConnected 19 = .ok (.invokevirtual 181, 3) := by decide +kernel
theorem dX9_areConnected_22 : decode cX9_areConnected 22 = .ok (.ireturn, 1) := by decide +kernel
theorem dX9_areConnectedBySearch_0 : decode cX9_areConnectedBySearch 0 = .ok (.aload_n 0, 1) := by decide +kernel
theorem dX9_areConnectedBySearch_1 : decode cX9_areConnectedBySearch 1 = .ok (.iload_n 1, 1) := by decide +kernel
theorem dX9_areConnectedBySearch_2 : decode cX9_areConnectedBySearch 2 = .ok (.invokevirtual 141, 3) := by decide +kernel
theorem dX9_areConnectedBySearch_5 : decode cX9_areConnectedBySearch 5 = .ok (.aload_n 0, 1) := by decide +kernel
theorem dX9_areConnectedBySearch_6 : decode cX9_areConnectedBySearch 6 = .ok (.iload_n 2, 1) := by decide +kernel
theorem dX9_areConnectedBySearch_7 : decode cX9_areConnectedBySearch 7 = .ok (.invokevirtual 141, 3) := by decide +kernel
theorem dX9_areConnectedBySearch_10 : decode cX9_areConnectedBySearch 10 = .ok (.aload_n 0, 1) := by decide +kernel
theorem dX9_areConnectedBySearch_11 : decode cX9_areConnectedBySearch 11 = .ok (.getfield 39, 3) := by decide +kernel
theorem dX9_areConnectedBySearch_14 : decode cX9_areConnectedBySearch 14 = .ok (.iload_n 1, 1) := by decide +kernel
theorem dX9_areConnectedBySearch_15 : decode cX9_areConnectedBySearch 15 = .ok (.aload_n 0, 1) := by decide +kernel
theorem dX9_areConnectedBySearch_16 : decode cX9_areConnectedBySearch 16 = .ok (.getfield 10, 3) := by decide +kernel
theorem dX9_areConnectedBySearch_19 : decode cX9_areConnectedBySearch 19 = .ok (.invokevirtual 186, 3) := by decide +kernel
theorem dX9_areConnectedBySearch_22 : decode cX9_areConnectedBySearch 22 = .ok (.aload_n 0, 1) := by decide +kernel
theorem dX9_areConnectedBySearch_23 : decode cX9_areConnectedBySearch 23 = .ok (.getfield 39, 3) := by decide +kernel
theorem dX9_areConnectedBySearch_26 : decode cX9_areConnectedBySearch 26 = .ok (.iload_n 2, 1) := by decide +kernel
theorem dX9_areConnectedBySearch_27 : decode cX9_areConnectedBySearch 27 = .ok (.invokevirtual 190, 3) := by decide +kernel
theorem dX9_areConnectedBySearch_30 : decode cX9_areConnectedBySearch 30 = .ok (.ireturn, 1) := by decide +kernel
theorem dX9_groupSize_0 : decode cX9_groupSize 0 = .ok (.aload_n 0, 1) := by decide +kernel
theorem dX9_groupSize_1 : decode cX9_groupSize 1 = .ok (.iload_n 1, 1) := by decide +kernel
theorem dX9_groupSize_2 : decode cX9_groupSize 2 = .ok (.invokevirtual 141, 3) := by decide +kernel
theorem dX9_groupSize_5 : decode cX9_groupSize 5 = .ok (.aload_n 0, 1) := by decide +kernel
theorem dX9_groupSize_6 : decode cX9_groupSize 6 = .ok (.getfield 10, 3) := by decide +kernel
theorem dX9_groupSize_9 : decode cX9_groupSize 9 = .ok (.getfield 177, 3) := by decide +kernel
theorem dX9_groupSize_12 : decode cX9_groupSize 12 = .ok (.iload_n 1, 1) := by decide +kernel
theorem dX9_groupSize_13 : decode cX9_groupSize 13 = .ok (.aload_n 0, 1) := by decide +kernel
theorem dX9_groupSize_14 : decode cX9_groupSize 14 = .ok (.getfield 10, 3) := by decide +kernel
theorem dX9_groupSize_17 : decode cX9_groupSize 17 = .ok (.getfield 160, 3) := by decide +kernel
theorem dX9_groupSize_20 : decode cX9_groupSize 20 = .ok (.invokevirtual 193, 3) := by decide +kernel
theorem dX9_groupSize_23 : decode cX9_groupSize 23 = .ok (.ireturn, 1) := by decide +kernel
theorem dX9_groupCount_0 : decode cX9_groupCount 0 = .ok (.aload_n 0, 1) := by decide +kernel
theorem dX9_groupCount_1 : decode cX9_groupCount 1 = .ok (.getfield 10, 3) := by decide +kernel
theorem dX9_groupCount_4 : decode cX9_groupCount 4 = .ok (.getfield 177, 3) := by decide +kernel
theorem dX9_groupCount_7 : decode cX9_groupCount 7 = .ok (.aload_n 0, 1) := by decide +kernel
theorem dX9_groupCount_8 : decode cX9_groupCount 8 = .ok (.getfield 10, 3) := by decide +kernel
theorem dX9_groupCount_11 : decode cX9_groupCount 11 = .ok (.getfield 160, 3) := by decide +kernel
theorem dX9_groupCount_14 : decode cX9_groupCount 14 = .ok (.invokevirtual 196, 3) := by decide +kernel
theorem dX9_groupCount_17 : decode cX9_groupCount 17 = .ok (.ireturn, 1) := by decide +kernel
theorem dX9_heaviestWitness_0 : decode cX9_heaviestWitness 0 = .ok (.aload_n 0, 1) := by decide +kernel
theorem dX9_heaviestWitness_1 : decode cX9_heaviestWitness 1 = .ok (.iload_n 1, 1) := by decide +kernel
theorem dX9_heaviestWitness_2 : decode cX9_heaviestWitness 2 = .ok (.invokevirtual 101, 3) := by decide +kernel
theorem dX9_heaviestWitness_5 : decode cX9_heaviestWitness 5 = .ok (.aload_n 0, 1) := by decide +kernel
theorem dX9_heaviestWitness_6 : decode cX9_heaviestWitness 6 = .ok (.getfield 10, 3) := by decide +kernel
theorem dX9_heaviestWitness_9 : decode cX9_heaviestWitness 9 = .ok (.getfield 133, 3) := by decide +kernel
theorem dX9_heaviestWitness_12 : decode cX9_heaviestWitness 12 = .ok (.iload_n 1, 1) := by decide +kernel
theorem dX9_heaviestWitness_13 : decode cX9_heaviestWitness 13 = .ok (.invokevirtual 109, 3) := by decide +kernel
theorem dX9_heaviestWitness_16 : decode cX9_heaviestWitness 16 = .ok (.ifCond .ne 13, 3) := by decide +kernel
theorem dX9_heaviestWitness_19 : decode cX9_heaviestWitness 19 = .ok (.new 96, 3) := by decide +kernel
theorem dX9_heaviestWitness_22 : decode cX9_heaviestWitness 22 = .ok (.dup, 1) := by decide +kernel
theorem dX9_heaviestWitness_23 : decode cX9_heaviestWitness 23 = .ok (.ldc 199, 2) := by decide +kernel
theorem dX9_heaviestWitness_25 : decode cX9_heaviestWitness 25 = .ok (.invokespecial 100, 3) := by decide +kernel
theorem dX9_heaviestWitness_28 : decode cX9_heaviestWitness 28 = .ok (.athrow, 1) := by decide +kernel
theorem dX9_heaviestWitness_29 : decode cX9_heaviestWitness 29 = .ok (.aload_n 0, 1) := by decide +kernel
theorem dX9_heaviestWitness_30 : decode cX9_heaviestWitness 30 = .ok (.getfield 10, 3) := by decide +kernel
theorem dX9_heaviestWitness_33 : decode cX9_heaviestWitness 33 = .ok (.iload_n 1, 1) := by decide +kernel
theorem dX9_heaviestWitness_34 : decode cX9_heaviestWitness 34 = .ok (.invokestatic 201, 3) := by decide +kernel
theorem dX9_heaviestWitness_37 : decode cX9_heaviestWitness 37 = .ok (.ireturn, 1) := by decide +kernel
theorem dX9_nextToDecide_0 : decode cX9_nextToDecide 0 = .ok (.aload_n 0, 1) := by decide +kernel
theorem dX9_nextToDecide_1 : decode cX9_nextToDecide 1 = .ok (.getfield 32, 3) := by decide +kernel
theorem dX9_nextToDecide_4 : decode cX9_nextToDecide 4 = .ok (.aload_n 0, 1) := by decide +kernel
theorem dX9_nextToDecide_5 : decode cX9_nextToDecide 5 = .ok (.getfield 10, 3) := by decide +kernel
theorem dX9_nextToDecide_8 : decode cX9_nextToDecide 8 = .ok (.invokevirtual 207, 3) := by decide +kernel
theorem dX9_nextToDecide_11 : decode cX9_nextToDecide 11 = .ok (.aload_n 0, 1) := by decide +kernel
theorem dX9_nextToDecide_12 : decode cX9_nextToDecide 12 = .ok (.getfield 32, 3) := by decide +kernel
theorem dX9_nextToDecide_15 : decode cX9_nextToDecide 15 = .ok (.aload_n 0, 1) := by decide +kernel
theorem dX9_nextToDecide_16 : decode cX9_nextToDecide 16 = .ok (.getfield 10, 3) := by decide +kernel
theorem dX9_nextToDecide_19 : decode cX9_nextToDecide 19 = .ok (.invokevirtual 211, 3) := by decide +kernel
theorem dX9_nextToDecide_22 : decode cX9_nextToDecide 22 = .ok (.istore_n 1, 1) := by decide +kernel
theorem dX9_nextToDecide_23 : decode cX9_nextToDecide 23 = .ok (.iload_n 1, 1) := by decide +kernel
theorem dX9_nextToDecide_24 : decode cX9_nextToDecide 24 = .ok (.iconst (-1), 1) := by decide +kernel
theorem dX9_nextToDecide_25 : decode cX9_nextToDecide 25 = .ok (.if_icmp .ne 13, 3) := by decide +kernel
theorem dX9_nextToDecide_28 : decode cX9_nextToDecide 28 = .ok (.new 96, 3) := by decide +kernel
theorem dX9_nextToDecide_31 : decode cX9_nextToDecide 31 = .ok (.dup, 1) := by decide +kernel
theorem dX9_nextToDecide_32 : decode cX9_nextToDecide 32 = .ok (.ldc 215, 2) := by decide +kernel
theorem dX9_nextToDecide_34 : decode cX9_nextToDecide 34 = .ok (.invokespecial 100, 3) := by decide +kernel
theorem dX9_nextToDecide_37 : decode cX9_nextToDecide 37 = .ok (.athrow, 1) := by decide +kernel
theorem dX9_nextToDecide_38 : decode cX9_nextToDecide 38 = .ok (.iload_n 1, 1) := by decide +kernel
theorem dX9_nextToDecide_39 : decode cX9_nextToDecide 39 = .ok (.ireturn, 1) := by decide +kernel
theorem dX9_prosecutionWeight_0 : decode cX9_prosecutionWeight 0 = .ok (.aload_n 0, 1) := by decide +kernel
theorem dX9_prosecutionWeight_1 : decode cX9_prosecutionWeight 1 = .ok (.iload_n 1, 1) := by decide +kernel
theorem dX9_prosecutionWeight_2 : decode cX9_prosecutionWeight 2 = .ok (.invokevirtual 101, 3) := by decide +kernel
theorem dX9_prosecutionWeight_5 : decode cX9_prosecutionWeight 5 = .ok (.aload_n 0, 1) := by decide +kernel
theorem dX9_prosecutionWeight_6 : decode cX9_prosecutionWeight 6 = .ok (.getfield 10, 3) := by decide +kernel
theorem dX9_prosecutionWeight_9 : decode cX9_prosecutionWeight 9 = .ok (.iload_n 1, 1) := by decide +kernel
theorem dX9_prosecutionWeight_10 : decode cX9_prosecutionWeight 10 = .ok (.iconst 1, 1) := by decide +kernel
theorem dX9_prosecutionWeight_11 : decode cX9_prosecutionWeight 11 = .ok (.invokestatic 217, 3) := by decide +kernel
theorem dX9_prosecutionWeight_14 : decode cX9_prosecutionWeight 14 = .ok (.ireturn, 1) := by decide +kernel
theorem dX9_defenceWeight_0 : decode cX9_defenceWeight 0 = .ok (.aload_n 0, 1) := by decide +kernel
theorem dX9_defenceWeight_1 : decode cX9_defenceWeight 1 = .ok (.iload_n 1, 1) := by decide +kernel
theorem dX9_defenceWeight_2 : decode cX9_defenceWeight 2 = .ok (.invokevirtual 101, 3) := by decide +kernel
theorem dX9_defenceWeight_5 : decode cX9_defenceWeight 5 = .ok (.aload_n 0, 1) := by decide +kernel
theorem dX9_defenceWeight_6 : decode cX9_defenceWeight 6 = .ok (.getfield 10, 3) := by decide +kernel
theorem dX9_defenceWeight_9 : decode cX9_defenceWeight 9 = .ok (.iload_n 1, 1) := by decide +kernel
theorem dX9_defenceWeight_10 : decode cX9_defenceWeight 10 = .ok (.iconst (-1), 1) := by decide +kernel
theorem dX9_defenceWeight_11 : decode cX9_defenceWeight 11 = .ok (.invokestatic 217, 3) := by decide +kernel
theorem dX9_defenceWeight_14 : decode cX9_defenceWeight 14 = .ok (.ireturn, 1) := by decide +kernel
theorem dX9_margin_0 : decode cX9_margin 0 = .ok (.aload_n 0, 1) := by decide +kernel
theorem dX9_margin_1 : decode cX9_margin 1 = .ok (.iload_n 1, 1) := by decide +kernel
theorem dX9_margin_2 : decode cX9_margin 2 = .ok (.invokevirtual 101, 3) := by decide +kernel
theorem dX9_margin_5 : decode cX9_margin 5 = .ok (.aload_n 0, 1) := by decide +kernel
theorem dX9_margin_6 : decode cX9_margin 6 = .ok (.getfield 10, 3) := by decide +kernel
theorem dX9_margin_9 : decode cX9_margin 9 = .ok (.iload_n 1, 1) := by decide +kernel
theorem dX9_margin_10 : decode cX9_margin 10 = .ok (.invokestatic 221, 3) := by decide +kernel
theorem dX9_margin_13 : decode cX9_margin 13 = .ok (.ireturn, 1) := by decide +kernel
theorem dX9_marginByCredibility_0 : decode cX9_marginByCredibility 0 = .ok (.aload_n 0, 1) := by decide +kernel
theorem dX9_marginByCredibility_1 : decode cX9_marginByCredibility 1 = .ok (.iload_n 1, 1) := by decide +kernel
theorem dX9_marginByCredibility_2 : decode cX9_marginByCredibility 2 = .ok (.invokevirtual 101, 3) := by decide +kernel
theorem dX9_marginByCredibility_5 : decode cX9_marginByCredibility 5 = .ok (.aload_n 0, 1) := by decide +kernel
theorem dX9_marginByCredibility_6 : decode cX9_marginByCredibility 6 = .ok (.getfield 10, 3) := by decide +kernel
theorem dX9_marginByCredibility_9 : decode cX9_marginByCredibility 9 = .ok (.iload_n 1, 1) := by decide +kernel
theorem dX9_marginByCredibility_10 : decode cX9_marginByCredibility 10 = .ok (.invokestatic 224, 3) := by decide +kernel
theorem dX9_marginByCredibility_13 : decode cX9_marginByCredibility 13 = .ok (.ireturn, 1) := by decide +kernel
theorem dX9_firmAnswersToGuilty_0 : decode cX9_firmAnswersToGuilty 0 = .ok (.aload_n 0, 1) := by decide +kernel
theorem dX9_firmAnswersToGuilty_1 : decode cX9_firmAnswersToGuilty 1 = .ok (.iload_n 1, 1) := by decide +kernel
theorem dX9_firmAnswersToGuilty_2 : decode cX9_firmAnswersToGuilty 2 = .ok (.iload_n 2, 1) := by decide +kernel
theorem dX9_firmAnswersToGuilty_3 : decode cX9_firmAnswersToGuilty 3 = .ok (.invokevirtual 147, 3) := by decide +kernel
theorem dX9_firmAnswersToGuilty_6 : decode cX9_firmAnswersToGuilty 6 = .ok (.aload_n 0, 1) := by decide +kernel
theorem dX9_firmAnswersToGuilty_7 : decode cX9_firmAnswersToGuilty 7 = .ok (.getfield 10, 3) := by decide +kernel
theorem dX9_firmAnswersToGuilty_10 : decode cX9_firmAnswersToGuilty 10 = .ok (.iload_n 1, 1) := by decide +kernel
theorem dX9_firmAnswersToGuilty_11 : decode cX9_firmAnswersToGuilty 11 = .ok (.iload_n 2, 1) := by decide +kernel
theorem dX9_firmAnswersToGuilty_12 : decode cX9_firmAnswersToGuilty 12 = .ok (.invokestatic 227, 3) := by decide +kernel
theorem dX9_firmAnswersToGuilty_15 : decode cX9_firmAnswersToGuilty 15 = .ok (.istore_n 3, 1) := by decide +kernel
theorem dX9_firmAnswersToGuilty_16 : decode cX9_firmAnswersToGuilty 16 = .ok (.iload_n 3, 1) := by decide +kernel
theorem dX9_firmAnswersToGuilty_17 : decode cX9_firmAnswersToGuilty 17 = .ok (.iconst (-1), 1) := by decide +kernel
theorem dX9_firmAnswersToGuilty_18 : decode cX9_firmAnswersToGuilty 18 = .ok (.if_icmp .ne 13, 3) := by decide +kernel
theorem dX9_firmAnswersToGuilty_21 : decode cX9_firmAnswersToGuilty 21 = .ok (.new 96, 3) := by decide +kernel
theorem dX9_firmAnswersToGuilty_24 : decode cX9_firmAnswersToGuilty 24 = .ok (.dup, 1) := by decide +kernel
theorem dX9_firmAnswersToGuilty_25 : decode cX9_firmAnswersToGuilty 25 = .ok (.ldc 230, 2) := by decide +kernel
theorem dX9_firmAnswersToGuilty_27 : decode cX9_firmAnswersToGuilty 27 = .ok (.invokespecial 100, 3) := by decide +kernel
theorem dX9_firmAnswersToGuilty_30 : decode cX9_firmAnswersToGuilty 30 = .ok (.athrow, 1) := by decide +kernel
theorem dX9_firmAnswersToGuilty_31 : decode cX9_firmAnswersToGuilty 31 = .ok (.iload_n 3, 1) := by decide +kernel
theorem dX9_firmAnswersToGuilty_32 : decode cX9_firmAnswersToGuilty 32 = .ok (.ireturn, 1) := by decide +kernel
theorem dX9_sentence_0 : decode cX9_sentence 0 = .ok (.iload_n 1, 1) := by decide +kernel
theorem dX9_sentence_1 : decode cX9_sentence 1 = .ok (.invokestatic 232, 3) := by decide +kernel
theorem dX9_sentence_4 : decode cX9_sentence 4 = .ok (.aload_n 0, 1) := by decide +kernel
theorem dX9_sentence_5 : decode cX9_sentence 5 = .ok (.getfield 10, 3) := by decide +kernel
theorem dX9_sentence_8 : decode cX9_sentence 8 = .ok (.getfield 235, 3) := by decide +kernel
theorem dX9_sentence_11 : decode cX9_sentence 11 = .ok (.iload_n 1, 1) := by decide +kernel
theorem dX9_sentence_12 : decode cX9_sentence 12 = .ok (.invokevirtual 109, 3) := by decide +kernel
theorem dX9_sentence_15 : decode cX9_sentence 15 = .ok (.ireturn, 1) := by decide +kernel
theorem dX9_sentenceByCases_0 : decode cX9_sentenceByCases 0 = .ok (.iload_n 1, 1) := by decide +kernel
theorem dX9_sentenceByCases_1 : decode cX9_sentenceByCases 1 = .ok (.invokestatic 232, 3) := by decide +kernel
theorem dX9_sentenceByCases_4 : decode cX9_sentenceByCases 4 = .ok (.aload_n 0, 1) := by decide +kernel
theorem dX9_sentenceByCases_5 : decode cX9_sentenceByCases 5 = .ok (.getfield 10, 3) := by decide +kernel
theorem dX9_sentenceByCases_8 : decode cX9_sentenceByCases 8 = .ok (.iload_n 1, 1) := by decide +kernel
theorem dX9_sentenceByCases_9 : decode cX9_sentenceByCases 9 = .ok (.invokevirtual 238, 3) := by decide +kernel
theorem dX9_sentenceByCases_12 : decode cX9_sentenceByCases 12 = .ok (.ireturn, 1) := by decide +kernel
theorem dX9_mostSentenced_0 : decode cX9_mostSentenced 0 = .ok (.iconst 0, 1) := by decide +kernel
theorem dX9_mostSentenced_1 : decode cX9_mostSentenced 1 = .ok (.istore_n 1, 1) := by decide +kernel
theorem dX9_mostSentenced_2 : decode cX9_mostSentenced 2 = .ok (.iconst 1, 1) := by decide +kernel
theorem dX9_mostSentenced_3 : decode cX9_mostSentenced 3 = .ok (.istore_n 2, 1) := by decide +kernel
theorem dX9_mostSentenced_4 : decode cX9_mostSentenced 4 = .ok (.iload_n 2, 1) := by decide +kernel
theorem dX9_mostSentenced_5 : decode cX9_mostSentenced 5 = .ok (.bipush 6, 2) := by decide +kernel
theorem dX9_mostSentenced_7 : decode cX9_mostSentenced 7 = .ok (.if_icmp .ge 36, 3) := by decide +kernel
theorem dX9_mostSentenced_10 : decode cX9_mostSentenced 10 = .ok (.aload_n 0, 1) := by decide +kernel
theorem dX9_mostSentenced_11 : decode cX9_mostSentenced 11 = .ok (.getfield 10, 3) := by decide +kernel
theorem dX9_mostSentenced_14 : decode cX9_mostSentenced 14 = .ok (.getfield 235, 3) := by decide +kernel
theorem dX9_mostSentenced_17 : decode cX9_mostSentenced 17 = .ok (.iload_n 2, 1) := by decide +kernel
theorem dX9_mostSentenced_18 : decode cX9_mostSentenced 18 = .ok (.invokevirtual 109, 3) := by decide +kernel
theorem dX9_mostSentenced_21 : decode cX9_mostSentenced 21 = .ok (.aload_n 0, 1) := by decide +kernel
theorem dX9_mostSentenced_22 : decode cX9_mostSentenced 22 = .ok (.getfield 10, 3) := by decide +kernel
theorem dX9_mostSentenced_25 : decode cX9_mostSentenced 25 = .ok (.getfield 235, 3) := by decide +kernel
theorem dX9_mostSentenced_28 : decode cX9_mostSentenced 28 = .ok (.iload_n 1, 1) := by decide +kernel
theorem dX9_mostSentenced_29 : decode cX9_mostSentenced 29 = .ok (.invokevirtual 109, 3) := by decide +kernel
theorem dX9_mostSentenced_32 : decode cX9_mostSentenced 32 = .ok (.if_icmp .le 5, 3) := by decide +kernel
theorem dX9_mostSentenced_35 : decode cX9_mostSentenced 35 = .ok (.iload_n 2, 1) := by decide +kernel
theorem dX9_mostSentenced_36 : decode cX9_mostSentenced 36 = .ok (.istore_n 1, 1) := by decide +kernel
theorem dX9_mostSentenced_37 : decode cX9_mostSentenced 37 = .ok (.iinc 2 1, 3) := by decide +kernel
theorem dX9_mostSentenced_40 : decode cX9_mostSentenced 40 = .ok (.goto (-36), 3) := by decide +kernel
theorem dX9_mostSentenced_43 : decode cX9_mostSentenced 43 = .ok (.iload_n 1, 1) := by decide +kernel
theorem dX9_mostSentenced_44 : decode cX9_mostSentenced 44 = .ok (.ireturn, 1) := by decide +kernel
theorem dX9_docketLength_0 : decode cX9_docketLength 0 = .ok (.aload_n 0, 1) := by decide +kernel
theorem dX9_docketLength_1 : decode cX9_docketLength 1 = .ok (.getfield 10, 3) := by decide +kernel
theorem dX9_docketLength_4 : decode cX9_docketLength 4 = .ok (.iconst 0, 1) := by decide +kernel
theorem dX9_docketLength_5 : decode cX9_docketLength 5 = .ok (.invokevirtual 241, 3) := by decide +kernel
theorem dX9_docketLength_8 : decode cX9_docketLength 8 = .ok (.ireturn, 1) := by decide +kernel
theorem dX9_docketAt_0 : decode cX9_docketAt 0 = .ok (.aload_n 0, 1) := by decide +kernel
theorem dX9_docketAt_1 : decode cX9_docketAt 1 = .ok (.getfield 32, 3) := by decide +kernel
theorem dX9_docketAt_4 : decode cX9_docketAt 4 = .ok (.aload_n 0, 1) := by decide +kernel
theorem dX9_docketAt_5 : decode cX9_docketAt 5 = .ok (.getfield 10, 3) := by decide +kernel
theorem dX9_docketAt_8 : decode cX9_docketAt 8 = .ok (.invokevirtual 207, 3) := by decide +kernel
theorem dX9_docketAt_11 : decode cX9_docketAt 11 = .ok (.iload_n 1, 1) := by decide +kernel
theorem dX9_docketAt_12 : decode cX9_docketAt 12 = .ok (.ifCond .lt 14, 3) := by decide +kernel
theorem dX9_docketAt_15 : decode cX9_docketAt 15 = .ok (.iload_n 1, 1) := by decide +kernel
theorem dX9_docketAt_16 : decode cX9_docketAt 16 = .ok (.aload_n 0, 1) := by decide +kernel
theorem dX9_docketAt_17 : decode cX9_docketAt 17 = .ok (.getfield 32, 3) := by decide +kernel
theorem dX9_docketAt_20 : decode cX9_docketAt 20 = .ok (.getfield 244, 3) := by decide +kernel
theorem dX9_docketAt_23 : decode cX9_docketAt 23 = .ok (.if_icmp .lt 13, 3) := by decide +kernel
theorem dX9_docketAt_26 : decode cX9_docketAt 26 = .ok (.new 96, 3) := by decide +kernel
theorem dX9_docketAt_29 : decode cX9_docketAt 29 = .ok (.dup, 1) := by decide +kernel
theorem dX9_docketAt_30 : decode cX9_docketAt 30 = .ok (.ldc 247, 2) := by decide +kernel
theorem dX9_docketAt_32 : decode cX9_docketAt 32 = .ok (.invokespecial 100, 3) := by decide +kernel
theorem dX9_docketAt_35 : decode cX9_docketAt 35 = .ok (.athrow, 1) := by decide +kernel
theorem dX9_docketAt_36 : decode cX9_docketAt 36 = .ok (.aload_n 0, 1) := by decide +kernel
theorem dX9_docketAt_37 : decode cX9_docketAt 37 = .ok (.getfield 32, 3) := by decide +kernel
theorem dX9_docketAt_40 : decode cX9_docketAt 40 = .ok (.getfield 249, 3) := by decide +kernel
theorem dX9_docketAt_43 : decode cX9_docketAt 43 = .ok (.iload_n 1, 1) := by decide +kernel
theorem dX9_docketAt_44 : decode cX9_docketAt 44 = .ok (.invokevirtual 109, 3) := by decide +kernel
theorem dX9_docketAt_47 : decode cX9_docketAt 47 = .ok (.ireturn, 1) := by decide +kernel
theorem dX9_docketPosition_0 : decode cX9_docketPosition 0 = .ok (.aload_n 0, 1) := by decide +kernel
theorem dX9_docketPosition_1 : decode cX9_docketPosition 1 = .ok (.iload_n 1, 1) := by decide +kernel
theorem dX9_docketPosition_2 : decode cX9_docketPosition 2 = .ok (.invokevirtual 101, 3) := by decide +kernel
theorem dX9_docketPosition_5 : decode cX9_docketPosition 5 = .ok (.aload_n 0, 1) := by decide +kernel
theorem dX9_docketPosition_6 : decode cX9_docketPosition 6 = .ok (.getfield 10, 3) := by decide +kernel
theorem dX9_docketPosition_9 : decode cX9_docketPosition 9 = .ok (.iconst 0, 1) := by decide +kernel
theorem dX9_docketPosition_10 : decode cX9_docketPosition 10 = .ok (.iload_n 1, 1) := by decide +kernel
theorem dX9_docketPosition_11 : decode cX9_docketPosition 11 = .ok (.invokevirtual 118, 3) := by decide +kernel
theorem dX9_docketPosition_14 : decode cX9_docketPosition 14 = .ok (.ifCond .ne 13, 3) := by decide +kernel
theorem dX9_docketPosition_17 : decode cX9_docketPosition 17 = .ok (.new 122, 3) := by decide +kernel
theorem dX9_docketPosition_20 : decode cX9_docketPosition 20 = .ok (.dup, 1) := by decide +kernel
theorem dX9_docketPosition_21 : decode cX9_docketPosition 21 = .ok (.ldc 252, 2) := by decide +kernel
theorem dX9_docketPosition_23 : decode cX9_docketPosition 23 = .ok (.invokespecial 126, 3) := by decide +kernel
theorem dX9_docketPosition_26 : decode cX9_docketPosition 26 = .ok (.athrow, 1) := by decide +kernel
theorem dX9_docketPosition_27 : decode cX9_docketPosition 27 = .ok (.aload_n 0, 1) := by decide +kernel
theorem dX9_docketPosition_28 : decode cX9_docketPosition 28 = .ok (.getfield 10, 3) := by decide +kernel
theorem dX9_docketPosition_31 : decode cX9_docketPosition 31 = .ok (.iload_n 1, 1) := by decide +kernel
theorem dX9_docketPosition_32 : decode cX9_docketPosition 32 = .ok (.invokevirtual 254, 3) := by decide +kernel
theorem dX9_docketPosition_35 : decode cX9_docketPosition 35 = .ok (.ireturn, 1) := by decide +kernel
theorem dX9_closedCount_0 : decode cX9_closedCount 0 = .ok (.aload_n 0, 1) := by decide +kernel
theorem dX9_closedCount_1 : decode cX9_closedCount 1 = .ok (.getfield 10, 3) := by decide +kernel
theorem dX9_closedCount_4 : decode cX9_closedCount 4 = .ok (.iconst 2, 1) := by decide +kernel
theorem dX9_closedCount_5 : decode cX9_closedCount 5 = .ok (.invokevirtual 241, 3) := by decide +kernel
theorem dX9_closedCount_8 : decode cX9_closedCount 8 = .ok (.ireturn, 1) := by decide +kernel
theorem dX9_guiltyCount_0 : decode cX9_guiltyCount 0 = .ok (.aload_n 0, 1) := by decide +kernel
theorem dX9_guiltyCount_1 : decode cX9_guiltyCount 1 = .ok (.getfield 10, 3) := by decide +kernel
theorem dX9_guiltyCount_4 : decode cX9_guiltyCount 4 = .ok (.invokevirtual 257, 3) := by decide +kernel
theorem dX9_guiltyCount_7 : decode cX9_guiltyCount 7 = .ok (.ireturn, 1) := by decide +kernel
theorem dX9_decisionCount_0 : decode cX9_decisionCount 0 = .ok (.aload_n 0, 1) := by decide +kernel
theorem dX9_decisionCount_1 : decode cX9_decisionCount 1 = .ok (.getfield 10, 3) := by decide +kernel
theorem dX9_decisionCount_4 : decode cX9_decisionCount 4 = .ok (.getfield 261, 3) := by decide +kernel
theorem dX9_decisionCount_7 : decode cX9_decisionCount 7 = .ok (.ireturn, 1) := by decide +kernel
theorem dX9_questionTotal_0 : decode cX9_questionTotal 0 = .ok (.aload_n 0, 1) := by decide +kernel
theorem dX9_questionTotal_1 : decode cX9_questionTotal 1 = .ok (.getfield 10, 3) := by decide +kernel
theorem dX9_questionTotal_4 : decode cX9_questionTotal 4 = .ok (.getfield 264, 3) := by decide +kernel
theorem dX9_questionTotal_7 : decode cX9_questionTotal 7 = .ok (.ireturn, 1) := by decide +kernel
theorem dX9_meanCredibility_0 : decode cX9_meanCredibility 0 = .ok (.aload_n 0, 1) := by decide +kernel
theorem dX9_meanCredibility_1 : decode cX9_meanCredibility 1 = .ok (.getfield 10, 3) := by decide +kernel
theorem dX9_meanCredibility_4 : decode cX9_meanCredibility 4 = .ok (.getfield 160, 3) := by decide +kernel
theorem dX9_meanCredibility_7 : decode cX9_meanCredibility 7 = .ok (.ifCond .ne 14, 3) := by decide +kernel
theorem dX9_meanCredibility_10 : decode cX9_meanCredibility 10 = .ok (.new 267, 3) := by decide +kernel
theorem dX9_meanCredibility_13 : decode cX9_meanCredibility 13 = .ok (.dup, 1) := by decide +kernel
theorem dX9_meanCredibility_14 : decode cX9_meanCredibility 14 = .ok (.ldc_w 269, 3) := by decide +kernel
theorem dX9_meanCredibility_17 : decode cX9_meanCredibility 17 = .ok (.invokespecial 271, 3) := by decide +kernel
theorem dX9_meanCredibility_20 : decode cX9_meanCredibility 20 = .ok (.athrow, 1) := by decide +kernel
theorem dX9_meanCredibility_21 : decode cX9_meanCredibility 21 = .ok (.aload_n 0, 1) := by decide +kernel
theorem dX9_meanCredibility_22 : decode cX9_meanCredibility 22 = .ok (.getfield 10, 3) := by decide +kernel
theorem dX9_meanCredibility_25 : decode cX9_meanCredibility 25 = .ok (.invokevirtual 272, 3) := by decide +kernel
theorem dX9_meanCredibility_28 : decode cX9_meanCredibility 28 = .ok (.i2d, 1) := by decide +kernel
theorem dX9_meanCredibility_29 : decode cX9_meanCredibility 29 = .ok (.aload_n 0, 1) := by decide +kernel
theorem dX9_meanCredibility_30 : decode cX9_meanCredibility 30 = .ok (.getfield 10, 3) := by decide +kernel
theorem dX9_meanCredibility_33 : decode cX9_meanCredibility 33 = .ok (.getfield 160, 3) := by decide +kernel
theorem dX9_meanCredibility_36 : decode cX9_meanCredibility 36 = .ok (.i2d, 1) := by decide +kernel
theorem dX9_meanCredibility_37 : decode cX9_meanCredibility 37 = .ok (.ddiv, 1) := by decide +kernel
theorem dX9_meanCredibility_38 : decode cX9_meanCredibility 38 = .ok (.dreturn, 1) := by decide +kernel
theorem dX9_guiltyShare_0 : decode cX9_guiltyShare 0 = .ok (.aload_n 0, 1) := by decide +kernel
theorem dX9_guiltyShare_1 : decode cX9_guiltyShare 1 = .ok (.getfield 10, 3) := by decide +kernel
theorem dX9_guiltyShare_4 : decode cX9_guiltyShare 4 = .ok (.iconst 1, 1) := by decide +kernel
theorem dX9_guiltyShare_5 : decode cX9_guiltyShare 5 = .ok (.invokevirtual 241, 3) := by decide +kernel
theorem dX9_guiltyShare_8 : decode cX9_guiltyShare 8 = .ok (.aload_n 0, 1) := by decide +kernel
theorem dX9_guiltyShare_9 : decode cX9_guiltyShare 9 = .ok (.getfield 10, 3) := by decide +kernel
theorem dX9_guiltyShare_12 : decode cX9_guiltyShare 12 = .ok (.iconst 2, 1) := by decide +kernel
theorem dX9_guiltyShare_13 : decode cX9_guiltyShare 13 = .ok (.invokevirtual 241, 3) := by decide +kernel
theorem dX9_guiltyShare_16 : decode cX9_guiltyShare 16 = .ok (.iadd, 1) := by decide +kernel
theorem dX9_guiltyShare_17 : decode cX9_guiltyShare 17 = .ok (.istore_n 1, 1) := by decide +kernel
theorem dX9_guiltyShare_18 : decode cX9_guiltyShare 18 = .ok (.iload_n 1, 1) := by decide +kernel
theorem dX9_guiltyShare_19 : decode cX9_guiltyShare 19 = .ok (.ifCond .ne 14, 3) := by decide +kernel
theorem dX9_guiltyShare_22 : decode cX9_guiltyShare 22 = .ok (.new 267, 3) := by decide +kernel
theorem dX9_guiltyShare_25 : decode cX9_guiltyShare 25 = .ok (.dup, 1) := by decide +kernel
theorem dX9_guiltyShare_26 : decode cX9_guiltyShare 26 = .ok (.ldc_w 275, 3) := by decide +kernel
theorem dX9_guiltyShare_29 : decode cX9_guiltyShare 29 = .ok (.invokespecial 271, 3) := by decide +kernel
theorem dX9_guiltyShare_32 : decode cX9_guiltyShare 32 = .ok (.athrow, 1) := by decide +kernel
theorem dX9_guiltyShare_33 : decode cX9_guiltyShare 33 = .ok (.aload_n 0, 1) := by decide +kernel
theorem dX9_guiltyShare_34 : decode cX9_guiltyShare 34 = .ok (.getfield 10, 3) := by decide +kernel
theorem dX9_guiltyShare_37 : decode cX9_guiltyShare 37 = .ok (.invokevirtual 257, 3) := by decide +kernel
theorem dX9_guiltyShare_40 : decode cX9_guiltyShare 40 = .ok (.i2f, 1) := by decide +kernel
theorem dX9_guiltyShare_41 : decode cX9_guiltyShare 41 = .ok (.iload_n 1, 1) := by decide +kernel
theorem dX9_guiltyShare_42 : decode cX9_guiltyShare 42 = .ok (.i2f, 1) := by decide +kernel
theorem dX9_guiltyShare_43 : decode cX9_guiltyShare 43 = .ok (.fdiv, 1) := by decide +kernel
theorem dX9_guiltyShare_44 : decode cX9_guiltyShare 44 = .ok (.freturn, 1) := by decide +kernel
theorem dX9_isConsistent_0 : decode cX9_isConsistent 0 = .ok (.aload_n 0, 1) := by decide +kernel
theorem dX9_isConsistent_1 : decode cX9_isConsistent 1 = .ok (.invokevirtual 277, 3) := by decide +kernel
theorem dX9_isConsistent_4 : decode cX9_isConsistent 4 = .ok (.ifCond .eq 28, 3) := by decide +kernel
theorem dX9_isConsistent_7 : decode cX9_isConsistent 7 = .ok (.aload_n 0, 1) := by decide +kernel
theorem dX9_isConsistent_8 : decode cX9_isConsistent 8 = .ok (.invokevirtual 281, 3) := by decide +kernel
theorem dX9_isConsistent_11 : decode cX9_isConsistent 11 = .ok (.ifCond .eq 21, 3) := by decide +kernel
theorem dX9_isConsistent_14 : decode cX9_isConsistent 14 = .ok (.aload_n 0, 1) := by decide +kernel
theorem dX9_isConsistent_15 : decode cX9_isConsistent 15 = .ok (.invokevirtual 284, 3) := by decide +kernel
theorem dX9_isConsistent_18 : decode cX9_isConsistent 18 = .ok (.ifCond .eq 14, 3) := by decide +kernel
theorem dX9_isConsistent_21 : decode cX9_isConsistent 21 = .ok (.aload_n 0, 1) := by decide +kernel
theorem dX9_isConsistent_22 : decode cX9_isConsistent 22 = .ok (.invokevirtual 287, 3) := by decide +kernel
theorem dX9_isConsistent_25 : decode cX9_isConsistent 25 = .ok (.ifCond .eq 7, 3) := by decide +kernel
theorem dX9_isConsistent_28 : decode cX9_isConsistent 28 = .ok (.iconst 1, 1) := by decide +kernel
theorem dX9_isConsistent_29 : decode cX9_isConsistent 29 = .ok (.goto 4, 3) := by decide +kernel
theorem dX9_isConsistent_32 : decode cX9_isConsistent 32 = .ok (.iconst 0, 1) := by decide +kernel
theorem dX9_isConsistent_33 : decode cX9_isConsistent 33 = .ok (.ireturn, 1) := by decide +kernel
theorem dX9_formatCase_0 : decode cX9_formatCase 0 = .ok (.aload_n 0, 1) := by decide +kernel
theorem dX9_formatCase_1 : decode cX9_formatCase 1 = .ok (.iload_n 1, 1) := by decide +kernel
theorem dX9_formatCase_2 : decode cX9_formatCase 2 = .ok (.invokevirtual 101, 3) := by decide +kernel
theorem dX9_formatCase_5 : decode cX9_formatCase 5 = .ok (.aload_n 0, 1) := by decide +kernel
theorem dX9_formatCase_6 : decode cX9_formatCase 6 = .ok (.getfield 53, 3) := by decide +kernel
theorem dX9_formatCase_9 : decode cX9_formatCase 9 = .ok (.iconst 0, 1) := by decide +kernel
theorem dX9_formatCase_10 : decode cX9_formatCase 10 = .ok (.invokevirtual 290, 3) := by decide +kernel
theorem dX9_formatCase_13 : decode cX9_formatCase 13 = .ok (.aload_n 0, 1) := by decide +kernel
theorem dX9_formatCase_14 : decode cX9_formatCase 14 = .ok (.iload_n 1, 1) := by decide +kernel
theorem dX9_formatCase_15 : decode cX9_formatCase 15 = .ok (.invokevirtual 293, 3) := by decide +kernel
theorem dX9_formatCase_18 : decode cX9_formatCase 18 = .ok (.iconst 0, 1) := by decide +kernel
theorem dX9_formatCase_19 : decode cX9_formatCase 19 = .ok (.istore_n 2, 1) := by decide +kernel
theorem dX9_formatCase_20 : decode cX9_formatCase 20 = .ok (.iload_n 2, 1) := by decide +kernel
theorem dX9_formatCase_21 : decode cX9_formatCase 21 = .ok (.aload_n 0, 1) := by decide +kernel
theorem dX9_formatCase_22 : decode cX9_formatCase 22 = .ok (.getfield 10, 3) := by decide +kernel
theorem dX9_formatCase_25 : decode cX9_formatCase 25 = .ok (.getfield 133, 3) := by decide +kernel
theorem dX9_formatCase_28 : decode cX9_formatCase 28 = .ok (.iload_n 1, 1) := by decide +kernel
theorem dX9_formatCase_29 : decode cX9_formatCase 29 = .ok (.invokevirtual 109, 3) := by decide +kernel
theorem dX9_formatCase_32 : decode cX9_formatCase 32 = .ok (.if_icmp .ge 23, 3) := by decide +kernel
theorem dX9_formatCase_35 : decode cX9_formatCase 35 = .ok (.aload_n 0, 1) := by decide +kernel
theorem dX9_formatCase_36 : decode cX9_formatCase 36 = .ok (.iload_n 1, 1) := by decide +kernel
theorem dX9_formatCase_37 : decode cX9_formatCase 37 = .ok (.aload_n 0, 1) := by decide +kernel
theorem dX9_formatCase_38 : decode cX9_formatCase 38 = .ok (.getfield 10, 3) := by decide +kernel
theorem dX9_formatCase_41 : decode cX9_formatCase 41 = .ok (.iload_n 1, 1) := by decide +kernel
theorem dX9_formatCase_42 : decode cX9_formatCase 42 = .ok (.iload_n 2, 1) := by decide +kernel
theorem dX9_formatCase_43 : decode cX9_formatCase 43 = .ok (.invokevirtual 138, 3) := by decide +kernel
theorem dX9_formatCase_46 : decode cX9_formatCase 46 = .ok (.invokevirtual 296, 3) := by decide +kernel
theorem dX9_formatCase_49 : decode cX9_formatCase 49 = .ok (.iinc 2 1, 3) := by decide +kernel
theorem dX9_formatCase_52 : decode cX9_formatCase 52 = .ok (.goto (-32), 3) := by decide +kernel
theorem dX9_formatCase_55 : decode cX9_formatCase 55 = .ok (.aload_n 0, 1) := by decide +kernel
theorem dX9_formatCase_56 : decode cX9_formatCase 56 = .ok (.getfield 53, 3) := by decide +kernel
theorem dX9_formatCase_59 : decode cX9_formatCase 59 = .ok (.invokevirtual 299, 3) := by decide +kernel
theorem dX9_formatCase_62 : decode cX9_formatCase 62 = .ok (.ireturn, 1) := by decide +kernel
theorem dX9_formatWitness_0 : decode cX9_formatWitness 0 = .ok (.aload_n 0, 1) := by decide +kernel
theorem dX9_formatWitness_1 : decode cX9_formatWitness 1 = .ok (.iload_n 1, 1) := by decide +kernel
theorem dX9_formatWitness_2 : decode cX9_formatWitness 2 = .ok (.invokevirtual 141, 3) := by decide +kernel
theorem dX9_formatWitness_5 : decode cX9_formatWitness 5 = .ok (.aload_n 0, 1) := by decide +kernel
theorem dX9_formatWitness_6 : decode cX9_formatWitness 6 = .ok (.getfield 53, 3) := by decide +kernel
theorem dX9_formatWitness_9 : decode cX9_formatWitness 9 = .ok (.iconst 0, 1) := by decide +kernel
theorem dX9_formatWitness_10 : decode cX9_formatWitness 10 = .ok (.invokevirtual 290, 3) := by decide +kernel
theorem dX9_formatWitness_13 : decode cX9_formatWitness 13 = .ok (.aload_n 0, 1) := by decide +kernel
theorem dX9_formatWitness_14 : decode cX9_formatWitness 14 = .ok (.getfield 53, 3) := by decide +kernel
theorem dX9_formatWitness_17 : decode cX9_formatWitness 17 = .ok (.bipush 119, 2) := by decide +kernel
theorem dX9_formatWitness_19 : decode cX9_formatWitness 19 = .ok (.invokevirtual 301, 3) := by decide +kernel
theorem dX9_formatWitness_22 : decode cX9_formatWitness 22 = .ok (.pop, 1) := by decide +kernel
theorem dX9_formatWitness_23 : decode cX9_formatWitness 23 = .ok (.aload_n 0, 1) := by decide +kernel
theorem dX9_formatWitness_24 : decode cX9_formatWitness 24 = .ok (.getfield 53, 3) := by decide +kernel
theorem dX9_formatWitness_27 : decode cX9_formatWitness 27 = .ok (.iload_n 1, 1) := by decide +kernel
theorem dX9_formatWitness_28 : decode cX9_formatWitness 28 = .ok (.invokevirtual 305, 3) := by decide +kernel
theorem dX9_formatWitness_31 : decode cX9_formatWitness 31 = .ok (.pop, 1) := by decide +kernel
theorem dX9_formatWitness_32 : decode cX9_formatWitness 32 = .ok (.aload_n 0, 1) := by decide +kernel
theorem dX9_formatWitness_33 : decode cX9_formatWitness 33 = .ok (.getfield 53, 3) := by decide +kernel
theorem dX9_formatWitness_36 : decode cX9_formatWitness 36 = .ok (.bipush 61, 2) := by decide +kernel
theorem dX9_formatWitness_38 : decode cX9_formatWitness 38 = .ok (.invokevirtual 301, 3) := by decide +kernel
theorem dX9_formatWitness_41 : decode cX9_formatWitness 41 = .ok (.pop, 1) := by decide +kernel
theorem dX9_formatWitness_42 : decode cX9_formatWitness 42 = .ok (.aload_n 0, 1) := by decide +kernel
theorem dX9_formatWitness_43 : decode cX9_formatWitness 43 = .ok (.getfield 53, 3) := by decide +kernel
theorem dX9_formatWitness_46 : decode cX9_formatWitness 46 = .ok (.aload_n 0, 1) := by decide +kernel
theorem dX9_formatWitness_47 : decode cX9_formatWitness 47 = .ok (.getfield 10, 3) := by decide +kernel
theorem dX9_formatWitness_50 : decode cX9_formatWitness 50 = .ok (.getfield 163, 3) := by decide +kernel
theorem dX9_formatWitness_53 : decode cX9_formatWitness 53 = .ok (.iload_n 1, 1) := by decide +kernel
theorem dX9_formatWitness_54 : decode cX9_formatWitness 54 = .ok (.invokevirtual 109, 3) := by decide +kernel
theorem dX9_formatWitness_57 : decode cX9_formatWitness 57 = .ok (.invokevirtual 305, 3) := by decide +kernel
theorem dX9_formatWitness_60 : decode cX9_formatWitness 60 = .ok (.pop, 1) := by decide +kernel
theorem dX9_formatWitness_61 : decode cX9_formatWitness 61 = .ok (.aload_n 0, 1) := by decide +kernel
theorem dX9_formatWitness_62 : decode cX9_formatWitness 62 = .ok (.getfield 53, 3) := by decide +kernel
theorem dX9_formatWitness_65 : decode cX9_formatWitness 65 = .ok (.invokevirtual 299, 3) := by decide +kernel
theorem dX9_formatWitness_68 : decode cX9_formatWitness 68 = .ok (.ireturn, 1) := by decide +kernel
theorem dX9_lineChar_0 : decode cX9_lineChar 0 = .ok (.iload_n 1, 1) := by decide +kernel
theorem dX9_lineChar_1 : decode cX9_lineChar 1 = .ok (.ifCond .lt 14, 3) := by decide +kernel
theorem dX9_lineChar_4 : decode cX9_lineChar 4 = .ok (.iload_n 1, 1) := by decide +kernel
theorem dX9_lineChar_5 : decode cX9_lineChar 5 = .ok (.aload_n 0, 1) := by decide +kernel
theorem dX9_lineChar_6 : decode cX9_lineChar 6 = .ok (.getfield 53, 3) := by decide +kernel
theorem dX9_lineChar_9 : decode cX9_lineChar 9 = .ok (.invokevirtual 299, 3) := by decide +kernel
theorem dX9_lineChar_12 : decode cX9_lineChar 12 = .ok (.if_icmp .lt 14, 3) := by decide +kernel
theorem dX9_lineChar_15 : decode cX9_lineChar 15 = .ok (.new 308, 3) := by decide +kernel
theorem dX9_lineChar_18 : decode cX9_lineChar 18 = .ok (.dup, 1) := by decide +kernel
theorem dX9_lineChar_19 : decode cX9_lineChar 19 = .ok (.ldc_w 310, 3) := by decide +kernel
theorem dX9_lineChar_22 : decode cX9_lineChar 22 = .ok (.invokespecial 312, 3) := by decide +kernel
theorem dX9_lineChar_25 : decode cX9_lineChar 25 = .ok (.athrow, 1) := by decide +kernel
theorem dX9_lineChar_26 : decode cX9_lineChar 26 = .ok (.aload_n 0, 1) := by decide +kernel
theorem dX9_lineChar_27 : decode cX9_lineChar 27 = .ok (.getfield 53, 3) := by decide +kernel
theorem dX9_lineChar_30 : decode cX9_lineChar 30 = .ok (.iload_n 1, 1) := by decide +kernel
theorem dX9_lineChar_31 : decode cX9_lineChar 31 = .ok (.invokevirtual 313, 3) := by decide +kernel
theorem dX9_lineChar_34 : decode cX9_lineChar 34 = .ok (.ireturn, 1) := by decide +kernel
theorem dX9_append_0 : decode cX9_append 0 = .ok (.iload_n 1, 1) := by decide +kernel
theorem dX9_append_1 : decode cX9_append 1 = .ok (.bipush 32, 2) := by decide +kernel
theorem dX9_append_3 : decode cX9_append 3 = .ok (.if_icmp .lt 9, 3) := by decide +kernel
theorem dX9_append_6 : decode cX9_append 6 = .ok (.iload_n 1, 1) := by decide +kernel
theorem dX9_append_7 : decode cX9_append 7 = .ok (.bipush 126, 2) := by decide +kernel
theorem dX9_append_9 : decode cX9_append 9 = .ok (.if_icmp .le 14, 3) := by decide +kernel
theorem dX9_append_12 : decode cX9_append 12 = .ok (.new 85, 3) := by decide +kernel
theorem dX9_append_15 : decode cX9_append 15 = .ok (.dup, 1) := by decide +kernel
theorem dX9_append_16 : decode cX9_append 16 = .ok (.ldc_w 317, 3) := by decide +kernel
theorem dX9_append_19 : decode cX9_append 19 = .ok (.invokespecial 89, 3) := by decide +kernel
theorem dX9_append_22 : decode cX9_append 22 = .ok (.athrow, 1) := by decide +kernel
theorem dX9_append_23 : decode cX9_append 23 = .ok (.aload_n 0, 1) := by decide +kernel
theorem dX9_append_24 : decode cX9_append 24 = .ok (.getfield 46, 3) := by decide +kernel
theorem dX9_append_27 : decode cX9_append 27 = .ok (.getfield 319, 3) := by decide +kernel
theorem dX9_append_30 : decode cX9_append 30 = .ok (.invokevirtual 299, 3) := by decide +kernel
theorem dX9_append_33 : decode cX9_append 33 = .ok (.bipush 60, 2) := by decide +kernel
theorem dX9_append_35 : decode cX9_append 35 = .ok (.if_icmp .lt 14, 3) := by decide +kernel
theorem dX9_append_38 : decode cX9_append 38 = .ok (.new 122, 3) := by decide +kernel
theorem dX9_append_41 : decode cX9_append 41 = .ok (.dup, 1) := by decide +kernel
theorem dX9_append_42 : decode cX9_append 42 = .ok (.ldc_w 322, 3) := by decide +kernel
theorem dX9_append_45 : decode cX9_append 45 = .ok (.invokespecial 126, 3) := by decide +kernel
theorem dX9_append_48 : decode cX9_append 48 = .ok (.athrow, 1) := by decide +kernel
theorem dX9_append_49 : decode cX9_append 49 = .ok (.aload_n 0, 1) := by decide +kernel
theorem dX9_append_50 : decode cX9_append 50 = .ok (.getfield 46, 3) := by decide +kernel
theorem dX9_append_53 : decode cX9_append 53 = .ok (.getfield 319, 3) := by decide +kernel
theorem dX9_append_56 : decode cX9_append 56 = .ok (.iload_n 1, 1) := by decide +kernel
theorem dX9_append_57 : decode cX9_append 57 = .ok (.invokevirtual 301, 3) := by decide +kernel
theorem dX9_append_60 : decode cX9_append 60 = .ok (.pop, 1) := by decide +kernel
theorem dX9_append_61 : decode cX9_append 61 = .ok (.aload_n 0, 1) := by decide +kernel
theorem dX9_append_62 : decode cX9_append 62 = .ok (.getfield 46, 3) := by decide +kernel
theorem dX9_append_65 : decode cX9_append 65 = .ok (.getfield 319, 3) := by decide +kernel
theorem dX9_append_68 : decode cX9_append 68 = .ok (.invokevirtual 299, 3) := by decide +kernel
theorem dX9_append_71 : decode cX9_append 71 = .ok (.ireturn, 1) := by decide +kernel
theorem dX9_run_0 : decode cX9_run 0 = .ok (.aload_n 0, 1) := by decide +kernel
theorem dX9_run_1 : decode cX9_run 1 = .ok (.getfield 46, 3) := by decide +kernel
theorem dX9_run_4 : decode cX9_run 4 = .ok (.invokevirtual 324, 3) := by decide +kernel
theorem dX9_run_7 : decode cX9_run 7 = .ok (.istore_n 1, 1) := by decide +kernel
theorem dX9_run_8 : decode cX9_run 8 = .ok (.aload_n 0, 1) := by decide +kernel
theorem dX9_run_9 : decode cX9_run 9 = .ok (.getfield 46, 3) := by decide +kernel
theorem dX9_run_12 : decode cX9_run 12 = .ok (.getfield 319, 3) := by decide +kernel
theorem dX9_run_15 : decode cX9_run 15 = .ok (.iconst 0, 1) := by decide +kernel
theorem dX9_run_16 : decode cX9_run 16 = .ok (.invokevirtual 290, 3) := by decide +kernel
theorem dX9_run_19 : decode cX9_run 19 = .ok (.iload_n 1, 1) := by decide +kernel
theorem dX9_run_20 : decode cX9_run 20 = .ok (.ifCond .ne 25, 3) := by decide +kernel
theorem dX9_run_23 : decode cX9_run 23 = .ok (.aload_n 0, 1) := by decide +kernel
theorem dX9_run_24 : decode cX9_run 24 = .ok (.aload_n 0, 1) := by decide +kernel
theorem dX9_run_25 : decode cX9_run 25 = .ok (.getfield 46, 3) := by decide +kernel
theorem dX9_run_28 : decode cX9_run 28 = .ok (.getfield 327, 3) := by decide +kernel
theorem dX9_run_31 : decode cX9_run 31 = .ok (.putfield 61, 3) := by decide +kernel
theorem dX9_run_34 : decode cX9_run 34 = .ok (.new 85, 3) := by decide +kernel
theorem dX9_run_37 : decode cX9_run 37 = .ok (.dup, 1) := by decide +kernel
theorem dX9_run_38 : decode cX9_run 38 = .ok (.ldc_w 330, 3) := by decide +kernel
theorem dX9_run_41 : decode cX9_run 41 = .ok (.invokespecial 89, 3) := by decide +kernel
theorem dX9_run_44 : decode cX9_run 44 = .ok (.athrow, 1) := by decide +kernel
theorem dX9_run_45 : decode cX9_run 45 = .ok (.aload_n 0, 1) := by decide +kernel
theorem dX9_run_46 : decode cX9_run 46 = .ok (.invokevirtual 332, 3) := by decide +kernel
theorem dX9_run_49 : decode cX9_run 49 = .ok (.ifCond .ne 14, 3) := by decide +kernel
theorem dX9_run_52 : decode cX9_run 52 = .ok (.new 335, 3) := by decide +kernel
theorem dX9_run_55 : decode cX9_run 55 = .ok (.dup, 1) := by decide +kernel
theorem dX9_run_56 : decode cX9_run 56 = .ok (.ldc_w 337, 3) := by decide +kernel
theorem dX9_run_59 : decode cX9_run 59 = .ok (.invokespecial 339, 3) := by decide +kernel
theorem dX9_run_62 : decode cX9_run 62 = .ok (.athrow, 1) := by decide +kernel
theorem dX9_run_63 : decode cX9_run 63 = .ok (.aload_n 0, 1) := by decide +kernel
theorem dX9_run_64 : decode cX9_run 64 = .ok (.getfield 46, 3) := by decide +kernel
theorem dX9_run_67 : decode cX9_run 67 = .ok (.getfield 340, 3) := by decide +kernel
theorem dX9_run_70 : decode cX9_run 70 = .ok (.ireturn, 1) := by decide +kernel
theorem dX9_errorPosition_0 : decode cX9_errorPosition 0 = .ok (.aload_n 0, 1) := by decide +kernel
theorem dX9_errorPosition_1 : decode cX9_errorPosition 1 = .ok (.getfield 61, 3) := by decide +kernel
theorem dX9_errorPosition_4 : decode cX9_errorPosition 4 = .ok (.iconst (-1), 1) := by decide +kernel
theorem dX9_errorPosition_5 : decode cX9_errorPosition 5 = .ok (.if_icmp .ne 14, 3) := by decide +kernel
theorem dX9_errorPosition_8 : decode cX9_errorPosition 8 = .ok (.new 96, 3) := by decide +kernel
theorem dX9_errorPosition_11 : decode cX9_errorPosition 11 = .ok (.dup, 1) := by decide +kernel
theorem dX9_errorPosition_12 : decode cX9_errorPosition 12 = .ok (.ldc_w 343, 3) := by decide +kernel
theorem dX9_errorPosition_15 : decode cX9_errorPosition 15 = .ok (.invokespecial 100, 3) := by decide +kernel
theorem dX9_errorPosition_18 : decode cX9_errorPosition 18 = .ok (.athrow, 1) := by decide +kernel
theorem dX9_errorPosition_19 : decode cX9_errorPosition 19 = .ok (.aload_n 0, 1) := by decide +kernel
theorem dX9_errorPosition_20 : decode cX9_errorPosition 20 = .ok (.getfield 61, 3) := by decide +kernel
theorem dX9_errorPosition_23 : decode cX9_errorPosition 23 = .ok (.ireturn, 1) := by decide +kernel
theorem dX9_failedCommand_0 : decode cX9_failedCommand 0 = .ok (.aload_n 0, 1) := by decide +kernel
theorem dX9_failedCommand_1 : decode cX9_failedCommand 1 = .ok (.invokevirtual 345, 3) := by decide +kernel
theorem dX9_failedCommand_4 : decode cX9_failedCommand 4 = .ok (.aload_n 0, 1) := by decide +kernel
theorem dX9_failedCommand_5 : decode cX9_failedCommand 5 = .ok (.getfield 65, 3) := by decide +kernel
theorem dX9_failedCommand_8 : decode cX9_failedCommand 8 = .ok (.ireturn, 1) := by decide +kernel
theorem dX9_isFailureOfState_0 : decode cX9_isFailureOfState 0 = .ok (.aload_n 0, 1) := by decide +kernel
theorem dX9_isFailureOfState_1 : decode cX9_isFailureOfState 1 = .ok (.invokevirtual 345, 3) := by decide +kernel
theorem dX9_isFailureOfState_4 : decode cX9_isFailureOfState 4 = .ok (.aload_n 0, 1) := by decide +kernel
theorem dX9_isFailureOfState_5 : decode cX9_isFailureOfState 5 = .ok (.getfield 68, 3) := by decide +kernel
theorem dX9_isFailureOfState_8 : decode cX9_isFailureOfState 8 = .ok (.ireturn, 1) := by decide +kernel
theorem dX9_undoableCount_0 : decode cX9_undoableCount 0 = .ok (.aload_n 0, 1) := by decide +kernel
theorem dX9_undoableCount_1 : decode cX9_undoableCount 1 = .ok (.getfield 25, 3) := by decide +kernel
theorem dX9_undoableCount_4 : decode cX9_undoableCount 4 = .ok (.getfield 348, 3) := by decide +kernel
theorem dX9_undoableCount_7 : decode cX9_undoableCount 7 = .ok (.ireturn, 1) := by decide +kernel
theorem dX9_undo_0 : decode cX9_undo 0 = .ok (.aload_n 0, 1) := by decide +kernel
theorem dX9_undo_1 : decode cX9_undo 1 = .ok (.getfield 25, 3) := by decide +kernel
theorem dX9_undo_4 : decode cX9_undo 4 = .ok (.getfield 348, 3) := by decide +kernel
theorem dX9_undo_7 : decode cX9_undo 7 = .ok (.ifCond .ne 14, 3) := by decide +kernel
theorem dX9_undo_10 : decode cX9_undo 10 = .ok (.new 122, 3) := by decide +kernel
theorem dX9_undo_13 : decode cX9_undo 13 = .ok (.dup, 1) := by decide +kernel
theorem dX9_undo_14 : decode cX9_undo 14 = .ok (.ldc_w 349, 3) := by decide +kernel
theorem dX9_undo_17 : decode cX9_undo 17 = .ok (.invokespecial 126, 3) := by decide +kernel
theorem dX9_undo_20 : decode cX9_undo 20 = .ok (.athrow, 1) := by decide +kernel
theorem dX9_undo_21 : decode cX9_undo 21 = .ok (.aload_n 0, 1) := by decide +kernel
theorem dX9_undo_22 : decode cX9_undo 22 = .ok (.getfield 25, 3) := by decide +kernel
theorem dX9_undo_25 : decode cX9_undo 25 = .ok (.aload_n 0, 1) := by decide +kernel
theorem dX9_undo_26 : decode cX9_undo 26 = .ok (.getfield 10, 3) := by decide +kernel
theorem dX9_undo_29 : decode cX9_undo 29 = .ok (.invokevirtual 351, 3) := by decide +kernel
theorem dX9_undo_32 : decode cX9_undo 32 = .ok (.aload_n 0, 1) := by decide +kernel
theorem dX9_undo_33 : decode cX9_undo 33 = .ok (.getfield 25, 3) := by decide +kernel
theorem dX9_undo_36 : decode cX9_undo 36 = .ok (.getfield 348, 3) := by decide +kernel
theorem dX9_undo_39 : decode cX9_undo 39 = .ok (.ireturn, 1) := by decide +kernel
theorem dX9_save_0 : decode cX9_save 0 = .ok (.aload_n 0, 1) := by decide +kernel
theorem dX9_save_1 : decode cX9_save 1 = .ok (.getfield 19, 3) := by decide +kernel
theorem dX9_save_4 : decode cX9_save 4 = .ok (.aload_n 0, 1) := by decide +kernel
theorem dX9_save_5 : decode cX9_save 5 = .ok (.getfield 10, 3) := by decide +kernel
theorem dX9_save_8 : decode cX9_save 8 = .ok (.invokevirtual 354, 3) := by decide +kernel
theorem dX9_save_11 : decode cX9_save 11 = .ok (.aload_n 0, 1) := by decide +kernel
theorem dX9_save_12 : decode cX9_save 12 = .ok (.iconst 1, 1) := by decide +kernel
theorem dX9_save_13 : decode cX9_save 13 = .ok (.putfield 57, 3) := by decide +kernel
theorem dX9_save_16 : decode cX9_save 16 = .ok (.aload_n 0, 1) := by decide +kernel
theorem dX9_save_17 : decode cX9_save 17 = .ok (.getfield 10, 3) := by decide +kernel
theorem dX9_save_20 : decode cX9_save 20 = .ok (.getfield 75, 3) := by decide +kernel
theorem dX9_save_23 : decode cX9_save 23 = .ok (.ireturn, 1) := by decide +kernel
theorem dX9_restore_0 : decode cX9_restore 0 = .ok (.aload_n 0, 1) := by decide +kernel
theorem dX9_restore_1 : decode cX9_restore 1 = .ok (.getfield 57, 3) := by decide +kernel
theorem dX9_restore_4 : decode cX9_restore 4 = .ok (.ifCond .ne 14, 3) := by decide +kernel
theorem dX9_restore_7 : decode cX9_restore 7 = .ok (.new 122, 3) := by decide +kernel
theorem dX9_restore_10 : decode cX9_restore 10 = .ok (.dup, 1) := by decide +kernel
theorem dX9_restore_11 : decode cX9_restore 11 = .ok (.ldc_w 357, 3) := by decide +kernel
theorem dX9_restore_14 : decode cX9_restore 14 = .ok (.invokespecial 126, 3) := by decide +kernel
theorem dX9_restore_17 : decode cX9_restore 17 = .ok (.athrow, 1) := by decide +kernel
theorem dX9_restore_18 : decode cX9_restore 18 = .ok (.aload_n 0, 1) := by decide +kernel
theorem dX9_restore_19 : decode cX9_restore 19 = .ok (.getfield 10, 3) := by decide +kernel
theorem dX9_restore_22 : decode cX9_restore 22 = .ok (.aload_n 0, 1) := by decide +kernel
theorem dX9_restore_23 : decode cX9_restore 23 = .ok (.getfield 19, 3) := by decide +kernel
theorem dX9_restore_26 : decode cX9_restore 26 = .ok (.invokevirtual 354, 3) := by decide +kernel
theorem dX9_restore_29 : decode cX9_restore 29 = .ok (.aload_n 0, 1) := by decide +kernel
theorem dX9_restore_30 : decode cX9_restore 30 = .ok (.getfield 25, 3) := by decide +kernel
theorem dX9_restore_33 : decode cX9_restore 33 = .ok (.invokevirtual 359, 3) := by decide +kernel
theorem dX9_restore_36 : decode cX9_restore 36 = .ok (.aload_n 0, 1) := by decide +kernel
theorem dX9_restore_37 : decode cX9_restore 37 = .ok (.getfield 10, 3) := by decide +kernel
theorem dX9_restore_40 : decode cX9_restore 40 = .ok (.getfield 75, 3) := by decide +kernel
theorem dX9_restore_43 : decode cX9_restore 43 = .ok (.ireturn, 1) := by decide +kernel
theorem dX9_change_0 : decode cX9_change 0 = .ok (.aload_n 0, 1) := by decide +kernel
theorem dX9_change_1 : decode cX9_change 1 = .ok (.getfield 10, 3) := by decide +kernel
theorem dX9_change_4 : decode cX9_change 4 = .ok (.iload_n 1, 1) := by decide +kernel
theorem dX9_change_5 : decode cX9_change 5 = .ok (.iload_n 2, 1) := by decide +kernel
theorem dX9_change_6 : decode cX9_change 6 = .ok (.iload_n 3, 1) := by decide +kernel
theorem dX9_change_7 : decode cX9_change 7 = .ok (.iload 5, 2) := by decide +kernel
theorem dX9_change_9 : decode cX9_change 9 = .ok (.invokevirtual 362, 3) := by decide +kernel
theorem dX9_change_12 : decode cX9_change 12 = .ok (.invokestatic 366, 3) := by decide +kernel
theorem dX9_change_15 : decode cX9_change 15 = .ok (.aload_n 0, 1) := by decide +kernel
theorem dX9_change_16 : decode cX9_change 16 = .ok (.getfield 25, 3) := by decide +kernel
theorem dX9_change_19 : decode cX9_change 19 = .ok (.aload_n 0, 1) := by decide +kernel
theorem dX9_change_20 : decode cX9_change 20 = .ok (.getfield 10, 3) := by decide +kernel
theorem dX9_change_23 : decode cX9_change 23 = .ok (.invokevirtual 370, 3) := by decide +kernel
theorem dX9_change_26 : decode cX9_change 26 = .ok (.aload_n 0, 1) := by decide +kernel
theorem dX9_change_27 : decode cX9_change 27 = .ok (.getfield 10, 3) := by decide +kernel
theorem dX9_change_30 : decode cX9_change 30 = .ok (.iload_n 1, 1) := by decide +kernel
theorem dX9_change_31 : decode cX9_change 31 = .ok (.iload_n 2, 1) := by decide +kernel
theorem dX9_change_32 : decode cX9_change 32 = .ok (.iload_n 3, 1) := by decide +kernel
theorem dX9_change_33 : decode cX9_change 33 = .ok (.iload 4, 2) := by decide +kernel
theorem dX9_change_35 : decode cX9_change 35 = .ok (.iload 5, 2) := by decide +kernel
theorem dX9_change_37 : decode cX9_change 37 = .ok (.invokevirtual 373, 3) := by decide +kernel
theorem dX9_change_40 : decode cX9_change 40 = .ok (.ireturn, 1) := by decide +kernel
theorem dX9_refuse_0 : decode cX9_refuse 0 = .ok (.aload_n 0, 1) := by decide +kernel
theorem dX9_refuse_1 : decode cX9_refuse 1 = .ok (.getstatic 376, 3) := by decide +kernel
theorem dX9_refuse_4 : decode cX9_refuse 4 = .ok (.if_acmp .ne 14, 3) := by decide +kernel
theorem dX9_refuse_7 : decode cX9_refuse 7 = .ok (.new 308, 3) := by decide +kernel
theorem dX9_refuse_10 : decode cX9_refuse 10 = .ok (.dup, 1) := by decide +kernel
theorem dX9_refuse_11 : decode cX9_refuse 11 = .ok (.ldc_w 382, 3) := by decide +kernel
theorem dX9_refuse_14 : decode cX9_refuse 14 = .ok (.invokespecial 312, 3) := by decide +kernel
theorem dX9_refuse_17 : decode cX9_refuse 17 = .ok (.athrow, 1) := by decide +kernel
theorem dX9_refuse_18 : decode cX9_refuse 18 = .ok (.aload_n 0, 1) := by decide +kernel
theorem dX9_refuse_19 : decode cX9_refuse 19 = .ok (.getstatic 384, 3) := by decide +kernel
theorem dX9_refuse_22 : decode cX9_refuse 22 = .ok (.if_acmp .ne 14, 3) := by decide +kernel
theorem dX9_refuse_25 : decode cX9_refuse 25 = .ok (.new 85, 3) := by decide +kernel
theorem dX9_refuse_28 : decode cX9_refuse 28 = .ok (.dup, 1) := by decide +kernel
theorem dX9_refuse_29 : decode cX9_refuse 29 = .ok (.ldc_w 387, 3) := by decide +kernel
theorem dX9_refuse_32 : decode cX9_refuse 32 = .ok (.invokespecial 89, 3) := by decide +kernel
theorem dX9_refuse_35 : decode cX9_refuse 35 = .ok (.athrow, 1) := by decide +kernel
theorem dX9_refuse_36 : decode cX9_refuse 36 = .ok (.aload_n 0, 1) := by decide +kernel
theorem dX9_refuse_37 : decode cX9_refuse 37 = .ok (.getstatic 389, 3) := by decide +kernel
theorem dX9_refuse_40 : decode cX9_refuse 40 = .ok (.if_acmp .ne 14, 3) := by decide +kernel
theorem dX9_refuse_43 : decode cX9_refuse 43 = .ok (.new 96, 3) := by decide +kernel
theorem dX9_refuse_46 : decode cX9_refuse 46 = .ok (.dup, 1) := by decide +kernel
theorem dX9_refuse_47 : decode cX9_refuse 47 = .ok (.ldc_w 392, 3) := by decide +kernel
theorem dX9_refuse_50 : decode cX9_refuse 50 = .ok (.invokespecial 100, 3) := by decide +kernel
theorem dX9_refuse_53 : decode cX9_refuse 53 = .ok (.athrow, 1) := by decide +kernel
theorem dX9_refuse_54 : decode cX9_refuse 54 = .ok (.aload_n 0, 1) := by decide +kernel
theorem dX9_refuse_55 : decode cX9_refuse 55 = .ok (.getstatic 394, 3) := by decide +kernel
theorem dX9_refuse_58 : decode cX9_refuse 58 = .ok (.if_acmp .ne 14, 3) := by decide +kernel
theorem dX9_refuse_61 : decode cX9_refuse 61 = .ok (.new 122, 3) := by decide +kernel
theorem dX9_refuse_64 : decode cX9_refuse 64 = .ok (.dup, 1) := by decide +kernel
theorem dX9_refuse_65 : decode cX9_refuse 65 = .ok (.ldc_w 397, 3) := by decide +kernel
theorem dX9_refuse_68 : decode cX9_refuse 68 = .ok (.invokespecial 126, 3) := by decide +kernel
theorem dX9_refuse_71 : decode cX9_refuse 71 = .ok (.athrow, 1) := by decide +kernel
theorem dX9_refuse_72 : decode cX9_refuse 72 = .ok (.return_, 1) := by decide +kernel
theorem dX9_executeProgram_0 : decode cX9_executeProgram 0 = .ok (.aload_n 0, 1) := by decide +kernel
theorem dX9_executeProgram_1 : decode cX9_executeProgram 1 = .ok (.getfield 16, 3) := by decide +kernel
theorem dX9_executeProgram_4 : decode cX9_executeProgram 4 = .ok (.aload_n 0, 1) := by decide +kernel
theorem dX9_executeProgram_5 : decode cX9_executeProgram 5 = .ok (.getfield 10, 3) := by decide +kernel
theorem dX9_executeProgram_8 : decode cX9_executeProgram 8 = .ok (.invokevirtual 354, 3) := by decide +kernel
theorem dX9_executeProgram_11 : decode cX9_executeProgram 11 = .ok (.iconst 0, 1) := by decide +kernel
theorem dX9_executeProgram_12 : decode cX9_executeProgram 12 = .ok (.istore_n 1, 1) := by decide +kernel
theorem dX9_executeProgram_13 : decode cX9_executeProgram 13 = .ok (.iload_n 1, 1) := by decide +kernel
theorem dX9_executeProgram_14 : decode cX9_executeProgram 14 = .ok (.aload_n 0, 1) := by decide +kernel
theorem dX9_executeProgram_15 : decode cX9_executeProgram 15 = .ok (.getfield 46, 3) := by decide +kernel
theorem dX9_executeProgram_18 : decode cX9_executeProgram 18 = .ok (.getfield 340, 3) := by decide +kernel
theorem dX9_executeProgram_21 : decode cX9_executeProgram 21 = .ok (.if_icmp .ge 150, 3) := by decide +kernel
theorem dX9_executeProgram_24 : decode cX9_executeProgram 24 = .ok (.aload_n 0, 1) := by decide +kernel
theorem dX9_executeProgram_25 : decode cX9_executeProgram 25 = .ok (.getfield 46, 3) := by decide +kernel
theorem dX9_executeProgram_28 : decode cX9_executeProgram 28 = .ok (.getfield 399, 3) := by decide +kernel
theorem dX9_executeProgram_31 : decode cX9_executeProgram 31 = .ok (.iload_n 1, 1) := by decide +kernel
theorem dX9_executeProgram_32 : decode cX9_executeProgram 32 = .ok (.invokevirtual 109, 3) := by decide +kernel
theorem dX9_executeProgram_35 : decode cX9_executeProgram 35 = .ok (.istore_n 2, 1) := by decide +kernel
theorem dX9_executeProgram_36 : decode cX9_executeProgram 36 = .ok (.aload_n 0, 1) := by decide +kernel
theorem dX9_executeProgram_37 : decode cX9_executeProgram 37 = .ok (.getfield 46, 3) := by decide +kernel
theorem dX9_executeProgram_40 : decode cX9_executeProgram 40 = .ok (.getfield 402, 3) := by decide +kernel
theorem dX9_executeProgram_43 : decode cX9_executeProgram 43 = .ok (.iload_n 1, 1) := by decide +kernel
theorem dX9_executeProgram_44 : decode cX9_executeProgram 44 = .ok (.invokevirtual 109, 3) := by decide +kernel
theorem dX9_executeProgram_47 : decode cX9_executeProgram 47 = .ok (.istore_n 3, 1) := by decide +kernel
theorem dX9_executeProgram_48 : decode cX9_executeProgram 48 = .ok (.aload_n 0, 1) := by decide +kernel
theorem dX9_executeProgram_49 : decode cX9_executeProgram 49 = .ok (.getfield 46, 3) := by decide +kernel
theorem dX9_executeProgram_52 : decode cX9_executeProgram 52 = .ok (.getfield 405, 3) := by decide +kernel
theorem dX9_executeProgram_55 : decode cX9_executeProgram 55 = .ok (.iload_n 1, 1) := by decide +kernel
theorem dX9_executeProgram_56 : decode cX9_executeProgram 56 = .ok (.invokevirtual 109, 3) := by decide +kernel
theorem dX9_executeProgram_59 : decode cX9_executeProgram 59 = .ok (.istore 4, 2) := by decide +kernel
theorem dX9_executeProgram_61 : decode cX9_executeProgram 61 = .ok (.aload_n 0, 1) := by decide +kernel
theorem dX9_executeProgram_62 : decode cX9_executeProgram 62 = .ok (.getfield 46, 3) := by decide +kernel
theorem dX9_executeProgram_65 : decode cX9_executeProgram 65 = .ok (.getfield 408, 3) := by decide +kernel
theorem dX9_executeProgram_68 : decode cX9_executeProgram 68 = .ok (.iload_n 1, 1) := by decide +kernel
theorem dX9_executeProgram_69 : decode cX9_executeProgram 69 = .ok (.invokevirtual 109, 3) := by decide +kernel
theorem dX9_executeProgram_72 : decode cX9_executeProgram 72 = .ok (.istore 5, 2) := by decide +kernel
theorem dX9_executeProgram_74 : decode cX9_executeProgram 74 = .ok (.aload_n 0, 1) := by decide +kernel
theorem dX9_executeProgram_75 : decode cX9_executeProgram 75 = .ok (.getfield 10, 3) := by decide +kernel
theorem dX9_executeProgram_78 : decode cX9_executeProgram 78 = .ok (.iload_n 2, 1) := by decide +kernel
theorem dX9_executeProgram_79 : decode cX9_executeProgram 79 = .ok (.iload_n 3, 1) := by decide +kernel
theorem dX9_executeProgram_80 : decode cX9_executeProgram 80 = .ok (.iload 4, 2) := by decide +kernel
theorem dX9_executeProgram_82 : decode cX9_executeProgram 82 = .ok (.iload 5, 2) := by decide +kernel
theorem dX9_executeProgram_84 : decode cX9_executeProgram 84 = .ok (.invokevirtual 362, 3) := by decide +kernel
theorem dX9_executeProgram_87 : decode cX9_executeProgram 87 = .ok (.astore 6, 2) := by decide +kernel
theorem dX9_executeProgram_89 : decode cX9_executeProgram 89 = .ok (.aload 6, 2) := by decide +kernel
theorem dX9_executeProgram_91 : decode cX9_executeProgram 91 = .ok (.getstatic 411, 3) := by decide +kernel
theorem dX9_executeProgram_94 : decode cX9_executeProgram 94 = .ok (.if_acmp .eq 38, 3) := by decide +kernel
theorem dX9_executeProgram_97 : decode cX9_executeProgram 97 = .ok (.aload_n 0, 1) := by decide +kernel
theorem dX9_executeProgram_98 : decode cX9_executeProgram 98 = .ok (.getfield 10, 3) := by decide +kernel
theorem dX9_executeProgram_101 : decode cX9_executeProgram 101 = .ok (.aload_n 0, 1) := by decide +kernel
theorem dX9_executeProgram_102 : decode cX9_executeProgram 102 = .ok (.getfield 16, 3) := by decide +kernel
theorem dX9_executeProgram_105 : decode cX9_executeProgram 105 = .ok (.invokevirtual 354, 3) := by decide +kernel
theorem dX9_executeProgram_108 : decode cX9_executeProgram 108 = .ok (.aload_n 0, 1) := by decide +kernel
theorem dX9_executeProgram_109 : decode cX9_executeProgram 109 = .ok (.iload_n 1, 1) := by decide +kernel
theorem dX9_executeProgram_110 : decode cX9_executeProgram 110 = .ok (.putfield 65, 3) := by decide +kernel
theorem dX9_executeProgram_113 : decode cX9_executeProgram 113 = .ok (.aload_n 0, 1) := by decide +kernel
theorem dX9_executeProgram_114 : decode cX9_executeProgram 114 = .ok (.aload 6, 2) := by decide +kernel
theorem dX9_executeProgram_116 : decode cX9_executeProgram 116 = .ok (.getstatic 394, 3) := by decide +kernel
theorem dX9_executeProgram_119 : decode cX9_executeProgram 119 = .ok (.if_acmp .ne 7, 3) := by decide +kernel
theorem dX9_executeProgram_122 : decode cX9_executeProgram 122 = .ok (.iconst 1, 1) := by decide +kernel
theorem dX9_executeProgram_123 : decode cX9_executeProgram 123 = .ok (.goto 4, 3) := by decide +kernel
theorem dX9_executeProgram_126 : decode cX9_executeProgram 126 = .ok (.iconst 0, 1) := by decide +kernel
theorem dX9_executeProgram_127 : decode cX9_executeProgram 127 = .ok (.putfield 68, 3) := by decide +kernel
theorem dX9_executeProgram_130 : decode cX9_executeProgram 130 = .ok (.iconst 0, 1) := by decide +kernel
theorem dX9_executeProgram_131 : decode cX9_executeProgram 131 = .ok (.ireturn, 1) := by decide +kernel
theorem dX9_executeProgram_132 : decode cX9_executeProgram 132 = .ok (.aload_n 0, 1) := by decide +kernel
theorem dX9_executeProgram_133 : decode cX9_executeProgram 133 = .ok (.getfield 10, 3) := by decide +kernel
theorem dX9_executeProgram_136 : decode cX9_executeProgram 136 = .ok (.iload_n 2, 1) := by decide +kernel
theorem dX9_executeProgram_137 : decode cX9_executeProgram 137 = .ok (.iload_n 3, 1) := by decide +kernel
theorem dX9_executeProgram_138 : decode cX9_executeProgram 138 = .ok (.iload 4, 2) := by decide +kernel
theorem dX9_executeProgram_140 : decode cX9_executeProgram 140 = .ok (.aload_n 0, 1) := by decide +kernel
theorem dX9_executeProgram_141 : decode cX9_executeProgram 141 = .ok (.getfield 46, 3) := by decide +kernel
theorem dX9_executeProgram_144 : decode cX9_executeProgram 144 = .ok (.getfield 414, 3) := by decide +kernel
theorem dX9_executeProgram_147 : decode cX9_executeProgram 147 = .ok (.iload_n 1, 1) := by decide +kernel
theorem dX9_executeProgram_148 : decode cX9_executeProgram 148 = .ok (.invokevirtual 109, 3) := by decide +kernel
theorem dX9_executeProgram_151 : decode cX9_executeProgram 151 = .ok (.ifCond .eq 7, 3) := by decide +kernel
theorem dX9_executeProgram_154 : decode cX9_executeProgram 154 = .ok (.iconst 1, 1) := by decide +kernel
theorem dX9_executeProgram_155 : decode cX9_executeProgram 155 = .ok (.goto 4, 3) := by decide +kernel
theorem dX9_executeProgram_158 : decode cX9_executeProgram 158 = .ok (.iconst 0, 1) := by decide +kernel
theorem dX9_executeProgram_159 : decode cX9_executeProgram 159 = .ok (.iload 5, 2) := by decide +kernel
theorem dX9_executeProgram_161 : decode cX9_executeProgram 161 = .ok (.invokevirtual 373, 3) := by decide +kernel
theorem dX9_executeProgram_164 : decode cX9_executeProgram 164 = .ok (.pop, 1) := by decide +kernel
theorem dX9_executeProgram_165 : decode cX9_executeProgram 165 = .ok (.iinc 1 1, 3) := by decide +kernel
theorem dX9_executeProgram_168 : decode cX9_executeProgram 168 = .ok (.goto (-155), 3) := by decide +kernel
theorem dX9_executeProgram_171 : decode cX9_executeProgram 171 = .ok (.aload_n 0, 1) := by decide +kernel
theorem dX9_executeProgram_172 : decode cX9_executeProgram 172 = .ok (.getfield 25, 3) := by decide +kernel
theorem dX9_executeProgram_175 : decode cX9_executeProgram 175 = .ok (.aload_n 0, 1) := by decide +kernel
theorem dX9_executeProgram_176 : decode cX9_executeProgram 176 = .ok (.getfield 16, 3) := by decide +kernel
theorem dX9_executeProgram_179 : decode cX9_executeProgram 179 = .ok (.invokevirtual 370, 3) := by decide +kernel
theorem dX9_executeProgram_182 : decode cX9_executeProgram 182 = .ok (.iconst 1, 1) := by decide +kernel
theorem dX9_executeProgram_183 : decode cX9_executeProgram 183 = .ok (.ireturn, 1) := by decide +kernel
theorem dX9_needCase_0 : decode cX9_needCase 0 = .ok (.aload_n 0, 1) := by decide +kernel
theorem dX9_needCase_1 : decode cX9_needCase 1 = .ok (.getfield 10, 3) := by decide +kernel
theorem dX9_needCase_4 : decode cX9_needCase 4 = .ok (.iload_n 1, 1) := by decide +kernel
theorem dX9_needCase_5 : decode cX9_needCase 5 = .ok (.invokevirtual 417, 3) := by decide +kernel
theorem dX9_needCase_8 : decode cX9_needCase 8 = .ok (.ifCond .ne 14, 3) := by decide +kernel
theorem dX9_needCase_11 : decode cX9_needCase 11 = .ok (.new 308, 3) := by decide +kernel
theorem dX9_needCase_14 : decode cX9_needCase 14 = .ok (.dup, 1) := by decide +kernel
theorem dX9_needCase_15 : decode cX9_needCase 15 = .ok (.ldc_w 420, 3) := by decide +kernel
theorem dX9_needCase_18 : decode cX9_needCase 18 = .ok (.invokespecial 312, 3) := by decide +kernel
theorem dX9_needCase_21 : decode cX9_needCase 21 = .ok (.athrow, 1) := by decide +kernel
theorem dX9_needCase_22 : decode cX9_needCase 22 = .ok (.return_, 1) := by decide +kernel
theorem dX9_needWitness_0 : decode cX9_needWitness 0 = .ok (.aload_n 0, 1) := by decide +kernel
theorem dX9_needWitness_1 : decode cX9_needWitness 1 = .ok (.getfield 10, 3) := by decide +kernel
theorem dX9_needWitness_4 : decode cX9_needWitness 4 = .ok (.iload_n 1, 1) := by decide +kernel
theorem dX9_needWitness_5 : decode cX9_needWitness 5 = .ok (.invokevirtual 422, 3) := by decide +kernel
theorem dX9_needWitness_8 : decode cX9_needWitness 8 = .ok (.ifCond .ne 14, 3) := by decide +kernel
theorem dX9_needWitness_11 : decode cX9_needWitness 11 = .ok (.new 308, 3) := by decide +kernel
theorem dX9_needWitness_14 : decode cX9_needWitness 14 = .ok (.dup, 1) := by decide +kernel
theorem dX9_needWitness_15 : decode cX9_needWitness 15 = .ok (.ldc_w 425, 3) := by decide +kernel
theorem dX9_needWitness_18 : decode cX9_needWitness 18 = .ok (.invokespecial 312, 3) := by decide +kernel
theorem dX9_needWitness_21 : decode cX9_needWitness 21 = .ok (.athrow, 1) := by decide +kernel
theorem dX9_needWitness_22 : decode cX9_needWitness 22 = .ok (.return_, 1) := by decide +kernel
theorem dX9_needTestimony_0 : decode cX9_needTestimony 0 = .ok (.aload_n 0, 1) := by decide +kernel
theorem dX9_needTestimony_1 : decode cX9_needTestimony 1 = .ok (.iload_n 1, 1) := by decide +kernel
theorem dX9_needTestimony_2 : decode cX9_needTestimony 2 = .ok (.invokevirtual 101, 3) := by decide +kernel
theorem dX9_needTestimony_5 : decode cX9_needTestimony 5 = .ok (.aload_n 0, 1) := by decide +kernel
theorem dX9_needTestimony_6 : decode cX9_needTestimony 6 = .ok (.iload_n 2, 1) := by decide +kernel
theorem dX9_needTestimony_7 : decode cX9_needTestimony 7 = .ok (.invokevirtual 141, 3) := by decide +kernel
theorem dX9_needTestimony_10 : decode cX9_needTestimony 10 = .ok (.aload_n 0, 1) := by decide +kernel
theorem dX9_needTestimony_11 : decode cX9_needTestimony 11 = .ok (.getfield 10, 3) := by decide +kernel
theorem dX9_needTestimony_14 : decode cX9_needTestimony 14 = .ok (.iload_n 1, 1) := by decide +kernel
theorem dX9_needTestimony_15 : decode cX9_needTestimony 15 = .ok (.iload_n 2, 1) := by decide +kernel
theorem dX9_needTestimony_16 : decode cX9_needTestimony 16 = .ok (.invokevirtual 144, 3) := by decide +kernel
theorem dX9_needTestimony_19 : decode cX9_needTestimony 19 = .ok (.ifCond .ne 14, 3) := by decide +kernel
theorem dX9_needTestimony_22 : decode cX9_needTestimony 22 = .ok (.new 96, 3) := by decide +kernel
theorem dX9_needTestimony_25 : decode cX9_needTestimony 25 = .ok (.dup, 1) := by decide +kernel
theorem dX9_needTestimony_26 : decode cX9_needTestimony 26 = .ok (.ldc_w 392, 3) := by decide +kernel
theorem dX9_needTestimony_29 : decode cX9_needTestimony 29 = .ok (.invokespecial 100, 3) := by decide +kernel
theorem dX9_needTestimony_32 : decode cX9_needTestimony 32 = .ok (.athrow, 1) := by decide +kernel
theorem dX9_needTestimony_33 : decode cX9_needTestimony 33 = .ok (.return_, 1) := by decide +kernel
theorem dX9_needFailure_0 : decode cX9_needFailure 0 = .ok (.aload_n 0, 1) := by decide +kernel
theorem dX9_needFailure_1 : decode cX9_needFailure 1 = .ok (.getfield 65, 3) := by decide +kernel
theorem dX9_needFailure_4 : decode cX9_needFailure 4 = .ok (.iconst (-1), 1) := by decide +kernel
theorem dX9_needFailure_5 : decode cX9_needFailure 5 = .ok (.if_icmp .ne 14, 3) := by decide +kernel
theorem dX9_needFailure_8 : decode cX9_needFailure 8 = .ok (.new 96, 3) := by decide +kernel
theorem dX9_needFailure_11 : decode cX9_needFailure 11 = .ok (.dup, 1) := by decide +kernel
theorem dX9_needFailure_12 : decode cX9_needFailure 12 = .ok (.ldc_w 427, 3) := by decide +kernel
theorem dX9_needFailure_15 : decode cX9_needFailure 15 = .ok (.invokespecial 100, 3) := by decide +kernel
theorem dX9_needFailure_18 : decode cX9_needFailure 18 = .ok (.athrow, 1) := by decide +kernel
theorem dX9_needFailure_19 : decode cX9_needFailure 19 = .ok (.return_, 1) := by decide +kernel
theorem dX9_needDefendant_0 : decode cX9_needDefendant 0 = .ok (.iload_n 0, 1) := by decide +kernel
theorem dX9_needDefendant_1 : decode cX9_needDefendant 1 = .ok (.invokestatic 78, 3) := by decide +kernel
theorem dX9_needDefendant_4 : decode cX9_needDefendant 4 = .ok (.ifCond .ne 14, 3) := by decide +kernel
theorem dX9_needDefendant_7 : decode cX9_needDefendant 7 = .ok (.new 85, 3) := by decide +kernel
theorem dX9_needDefendant_10 : decode cX9_needDefendant 10 = .ok (.dup, 1) := by decide +kernel
theorem dX9_needDefendant_11 : decode cX9_needDefendant 11 = .ok (.ldc_w 429, 3) := by decide +kernel
theorem dX9_needDefendant_14 : decode cX9_needDefendant 14 = .ok (.invokespecial 89, 3) := by decide +kernel
theorem dX9_needDefendant_17 : decode cX9_needDefendant 17 = .ok (.athrow, 1) := by decide +kernel
theorem dX9_needDefendant_18 : decode cX9_needDefendant 18 = .ok (.return_, 1) := by decide +kernel
theorem dX9_isDefendant_0 : decode cX9_isDefendant 0 = .ok (.iload_n 0, 1) := by decide +kernel
theorem dX9_isDefendant_1 : decode cX9_isDefendant 1 = .ok (.ifCond .lt 13, 3) := by decide +kernel
theorem dX9_isDefendant_4 : decode cX9_isDefendant 4 = .ok (.iload_n 0, 1) := by decide +kernel
theorem dX9_isDefendant_5 : decode cX9_isDefendant 5 = .ok (.bipush 6, 2) := by decide +kernel
theorem dX9_isDefendant_7 : decode cX9_isDefendant 7 = .ok (.if_icmp .ge 7, 3) := by decide +kernel
theorem dX9_isDefendant_10 : decode cX9_isDefendant 10 = .ok (.iconst 1, 1) := by decide +kernel
theorem dX9_isDefendant_11 : decode cX9_isDefendant 11 = .ok (.goto 4, 3) := by decide +kernel
theorem dX9_isDefendant_14 : decode cX9_isDefendant 14 = .ok (.iconst 0, 1) := by decide +kernel
theorem dX9_isDefendant_15 : decode cX9_isDefendant 15 = .ok (.ireturn, 1) := by decide +kernel
theorem dX9_isOffence_0 : decode cX9_isOffence 0 = .ok (.iload_n 0, 1) := by decide +kernel
theorem dX9_isOffence_1 : decode cX9_isOffence 1 = .ok (.ifCond .lt 12, 3) := by decide +kernel
theorem dX9_isOffence_4 : decode cX9_isOffence 4 = .ok (.iload_n 0, 1) := by decide +kernel
theorem dX9_isOffence_5 : decode cX9_isOffence 5 = .ok (.iconst 5, 1) := by decide +kernel
theorem dX9_isOffence_6 : decode cX9_isOffence 6 = .ok (.if_icmp .ge 7, 3) := by decide +kernel
theorem dX9_isOffence_9 : decode cX9_isOffence 9 = .ok (.iconst 1, 1) := by decide +kernel
theorem dX9_isOffence_10 : decode cX9_isOffence 10 = .ok (.goto 4, 3) := by decide +kernel
theorem dX9_isOffence_13 : decode cX9_isOffence 13 = .ok (.iconst 0, 1) := by decide +kernel
theorem dX9_isOffence_14 : decode cX9_isOffence 14 = .ok (.ireturn, 1) := by decide +kernel
theorem dX9_writeHead_0 : decode cX9_writeHead 0 = .ok (.aload_n 0, 1) := by decide +kernel
theorem dX9_writeHead_1 : decode cX9_writeHead 1 = .ok (.getfield 53, 3) := by decide +kernel
theorem dX9_writeHead_4 : decode cX9_writeHead 4 = .ok (.iload_n 1, 1) := by decide +kernel
theorem dX9_writeHead_5 : decode cX9_writeHead 5 = .ok (.invokevirtual 305, 3) := by decide +kernel
theorem dX9_writeHead_8 : decode cX9_writeHead 8 = .ok (.pop, 1) := by decide +kernel
theorem dX9_writeHead_9 : decode cX9_writeHead 9 = .ok (.aload_n 0, 1) := by decide +kernel
theorem dX9_writeHead_10 : decode cX9_writeHead 10 = .ok (.getfield 53, 3) := by decide +kernel
theorem dX9_writeHead_13 : decode cX9_writeHead 13 = .ok (.bipush 58, 2) := by decide +kernel
theorem dX9_writeHead_15 : decode cX9_writeHead 15 = .ok (.invokevirtual 301, 3) := by decide +kernel
theorem dX9_writeHead_18 : decode cX9_writeHead 18 = .ok (.pop, 1) := by decide +kernel
theorem dX9_writeHead_19 : decode cX9_writeHead 19 = .ok (.aload_n 0, 1) := by decide +kernel
theorem dX9_writeHead_20 : decode cX9_writeHead 20 = .ok (.getfield 53, 3) := by decide +kernel
theorem dX9_writeHead_23 : decode cX9_writeHead 23 = .ok (.aload_n 0, 1) := by decide +kernel
theorem dX9_writeHead_24 : decode cX9_writeHead 24 = .ok (.getfield 10, 3) := by decide +kernel
theorem dX9_writeHead_27 : decode cX9_writeHead 27 = .ok (.getfield 105, 3) := by decide +kernel
theorem dX9_writeHead_30 : decode cX9_writeHead 30 = .ok (.iload_n 1, 1) := by decide +kernel
theorem dX9_writeHead_31 : decode cX9_writeHead 31 = .ok (.invokevirtual 109, 3) := by decide +kernel
theorem dX9_writeHead_34 : decode cX9_writeHead 34 = .ok (.invokevirtual 305, 3) := by decide +kernel
theorem dX9_writeHead_37 : decode cX9_writeHead 37 = .ok (.pop, 1) := by decide +kernel
theorem dX9_writeHead_38 : decode cX9_writeHead 38 = .ok (.aload_n 0, 1) := by decide +kernel
theorem dX9_writeHead_39 : decode cX9_writeHead 39 = .ok (.getfield 53, 3) := by decide +kernel
theorem dX9_writeHead_42 : decode cX9_writeHead 42 = .ok (.bipush 47, 2) := by decide +kernel
theorem dX9_writeHead_44 : decode cX9_writeHead 44 = .ok (.invokevirtual 301, 3) := by decide +kernel
theorem dX9_writeHead_47 : decode cX9_writeHead 47 = .ok (.pop, 1) := by decide +kernel
theorem dX9_writeHead_48 : decode cX9_writeHead 48 = .ok (.aload_n 0, 1) := by decide +kernel
theorem dX9_writeHead_49 : decode cX9_writeHead 49 = .ok (.getfield 53, 3) := by decide +kernel
theorem dX9_writeHead_52 : decode cX9_writeHead 52 = .ok (.aload_n 0, 1) := by decide +kernel
theorem dX9_writeHead_53 : decode cX9_writeHead 53 = .ok (.getfield 10, 3) := by decide +kernel
theorem dX9_writeHead_56 : decode cX9_writeHead 56 = .ok (.getfield 115, 3) := by decide +kernel
theorem dX9_writeHead_59 : decode cX9_writeHead 59 = .ok (.iload_n 1, 1) := by decide +kernel
theorem dX9_writeHead_60 : decode cX9_writeHead 60 = .ok (.invokevirtual 109, 3) := by decide +kernel
theorem dX9_writeHead_63 : decode cX9_writeHead 63 = .ok (.invokevirtual 305, 3) := by decide +kernel
theorem dX9_writeHead_66 : decode cX9_writeHead 66 = .ok (.pop, 1) := by decide +kernel
theorem dX9_writeHead_67 : decode cX9_writeHead 67 = .ok (.aload_n 0, 1) := by decide +kernel
theorem dX9_writeHead_68 : decode cX9_writeHead 68 = .ok (.getfield 10, 3) := by decide +kernel
theorem dX9_writeHead_71 : decode cX9_writeHead 71 = .ok (.iconst 0, 1) := by decide +kernel
theorem dX9_writeHead_72 : decode cX9_writeHead 72 = .ok (.iload_n 1, 1) := by decide +kernel
theorem dX9_writeHead_73 : decode cX9_writeHead 73 = .ok (.invokevirtual 118, 3) := by decide +kernel
theorem dX9_writeHead_76 : decode cX9_writeHead 76 = .ok (.ifCond .eq 16, 3) := by decide +kernel
theorem dX9_writeHead_79 : decode cX9_writeHead 79 = .ok (.aload_n 0, 1) := by decide +kernel
theorem dX9_writeHead_80 : decode cX9_writeHead 80 = .ok (.getfield 53, 3) := by decide +kernel
theorem dX9_writeHead_83 : decode cX9_writeHead 83 = .ok (.bipush 111, 2) := by decide +kernel
theorem dX9_writeHead_85 : decode cX9_writeHead 85 = .ok (.invokevirtual 301, 3) := by decide +kernel
theorem dX9_writeHead_88 : decode cX9_writeHead 88 = .ok (.pop, 1) := by decide +kernel
theorem dX9_writeHead_89 : decode cX9_writeHead 89 = .ok (.goto 29, 3) := by decide +kernel
theorem dX9_writeHead_92 : decode cX9_writeHead 92 = .ok (.aload_n 0, 1) := by decide +kernel
theorem dX9_writeHead_93 : decode cX9_writeHead 93 = .ok (.getfield 53, 3) := by decide +kernel
theorem dX9_writeHead_96 : decode cX9_writeHead 96 = .ok (.aload_n 0, 1) := by decide +kernel
theorem dX9_writeHead_97 : decode cX9_writeHead 97 = .ok (.getfield 10, 3) := by decide +kernel
theorem dX9_writeHead_100 : decode cX9_writeHead 100 = .ok (.iload_n 1, 1) := by decide +kernel
theorem dX9_writeHead_101 : decode cX9_writeHead 101 = .ok (.invokevirtual 127, 3) := by decide +kernel
theorem dX9_writeHead_104 : decode cX9_writeHead 104 = .ok (.ifCond .eq 8, 3) := by decide +kernel
theorem dX9_writeHead_107 : decode cX9_writeHead 107 = .ok (.bipush 103, 2) := by decide +kernel
theorem dX9_writeHead_109 : decode cX9_writeHead 109 = .ok (.goto 5, 3) := by decide +kernel
theorem dX9_writeHead_112 : decode cX9_writeHead 112 = .ok (.bipush 110, 2) := by decide +kernel
theorem dX9_writeHead_114 : decode cX9_writeHead 114 = .ok (.invokevirtual 301, 3) := by decide +kernel
theorem dX9_writeHead_117 : decode cX9_writeHead 117 = .ok (.pop, 1) := by decide +kernel
theorem dX9_writeHead_118 : decode cX9_writeHead 118 = .ok (.aload_n 0, 1) := by decide +kernel
theorem dX9_writeHead_119 : decode cX9_writeHead 119 = .ok (.getfield 10, 3) := by decide +kernel
theorem dX9_writeHead_122 : decode cX9_writeHead 122 = .ok (.iconst 2, 1) := by decide +kernel
theorem dX9_writeHead_123 : decode cX9_writeHead 123 = .ok (.iload_n 1, 1) := by decide +kernel
theorem dX9_writeHead_124 : decode cX9_writeHead 124 = .ok (.invokevirtual 118, 3) := by decide +kernel
theorem dX9_writeHead_127 : decode cX9_writeHead 127 = .ok (.ifCond .eq 13, 3) := by decide +kernel
theorem dX9_writeHead_130 : decode cX9_writeHead 130 = .ok (.aload_n 0, 1) := by decide +kernel
theorem dX9_writeHead_131 : decode cX9_writeHead 131 = .ok (.getfield 53, 3) := by decide +kernel
theorem dX9_writeHead_134 : decode cX9_writeHead 134 = .ok (.bipush 46, 2) := by decide +kernel
theorem dX9_writeHead_136 : decode cX9_writeHead 136 = .ok (.invokevirtual 301, 3) := by decide +kernel
theorem dX9_writeHead_139 : decode cX9_writeHead 139 = .ok (.pop, 1) := by decide +kernel
theorem dX9_writeHead_140 : decode cX9_writeHead 140 = .ok (.return_, 1) := by decide +kernel
theorem dX9_writeTestimony_0 : decode cX9_writeTestimony 0 = .ok (.aload_n 0, 1) := by decide +kernel
theorem dX9_writeTestimony_1 : decode cX9_writeTestimony 1 = .ok (.getfield 53, 3) := by decide +kernel
theorem dX9_writeTestimony_4 : decode cX9_writeTestimony 4 = .ok (.bipush 32, 2) := by decide +kernel
theorem dX9_writeTestimony_6 : decode cX9_writeTestimony 6 = .ok (.invokevirtual 301, 3) := by decide +kernel
theorem dX9_writeTestimony_9 : decode cX9_writeTestimony 9 = .ok (.pop, 1) := by decide +kernel
theorem dX9_writeTestimony_10 : decode cX9_writeTestimony 10 = .ok (.aload_n 0, 1) := by decide +kernel
theorem dX9_writeTestimony_11 : decode cX9_writeTestimony 11 = .ok (.getfield 53, 3) := by decide +kernel
theorem dX9_writeTestimony_14 : decode cX9_writeTestimony 14 = .ok (.aload_n 0, 1) := by decide +kernel
theorem dX9_writeTestimony_15 : decode cX9_writeTestimony 15 = .ok (.getfield 10, 3) := by decide +kernel
theorem dX9_writeTestimony_18 : decode cX9_writeTestimony 18 = .ok (.iload_n 1, 1) := by decide +kernel
theorem dX9_writeTestimony_19 : decode cX9_writeTestimony 19 = .ok (.iload_n 2, 1) := by decide +kernel
theorem dX9_writeTestimony_20 : decode cX9_writeTestimony 20 = .ok (.invokevirtual 151, 3) := by decide +kernel
theorem dX9_writeTestimony_23 : decode cX9_writeTestimony 23 = .ok (.ifCond .le 8, 3) := by decide +kernel
theorem dX9_writeTestimony_26 : decode cX9_writeTestimony 26 = .ok (.bipush 43, 2) := by decide +kernel
theorem dX9_writeTestimony_28 : decode cX9_writeTestimony 28 = .ok (.goto 5, 3) := by decide +kernel
theorem dX9_writeTestimony_31 : decode cX9_writeTestimony 31 = .ok (.bipush 45, 2) := by decide +kernel
theorem dX9_writeTestimony_33 : decode cX9_writeTestimony 33 = .ok (.invokevirtual 301, 3) := by decide +kernel
theorem dX9_writeTestimony_36 : decode cX9_writeTestimony 36 = .ok (.pop, 1) := by decide +kernel
theorem dX9_writeTestimony_37 : decode cX9_writeTestimony 37 = .ok (.aload_n 0, 1) := by decide +kernel
theorem dX9_writeTestimony_38 : decode cX9_writeTestimony 38 = .ok (.getfield 53, 3) := by decide +kernel
theorem dX9_writeTestimony_41 : decode cX9_writeTestimony 41 = .ok (.iload_n 2, 1) := by decide +kernel
theorem dX9_writeTestimony_42 : decode cX9_writeTestimony 42 = .ok (.invokevirtual 305, 3) := by decide +kernel
theorem dX9_writeTestimony_45 : decode cX9_writeTestimony 45 = .ok (.pop, 1) := by decide +kernel
theorem dX9_writeTestimony_46 : decode cX9_writeTestimony 46 = .ok (.aload_n 0, 1) := by decide +kernel
theorem dX9_writeTestimony_47 : decode cX9_writeTestimony 47 = .ok (.getfield 53, 3) := by decide +kernel
theorem dX9_writeTestimony_50 : decode cX9_writeTestimony 50 = .ok (.bipush 42, 2) := by decide +kernel
theorem dX9_writeTestimony_52 : decode cX9_writeTestimony 52 = .ok (.invokevirtual 301, 3) := by decide +kernel
theorem dX9_writeTestimony_55 : decode cX9_writeTestimony 55 = .ok (.pop, 1) := by decide +kernel
theorem dX9_writeTestimony_56 : decode cX9_writeTestimony 56 = .ok (.aload_n 0, 1) := by decide +kernel
theorem dX9_writeTestimony_57 : decode cX9_writeTestimony 57 = .ok (.getfield 53, 3) := by decide +kernel
theorem dX9_writeTestimony_60 : decode cX9_writeTestimony 60 = .ok (.aload_n 0, 1) := by decide +kernel
theorem dX9_writeTestimony_61 : decode cX9_writeTestimony 61 = .ok (.getfield 10, 3) := by decide +kernel
theorem dX9_writeTestimony_64 : decode cX9_writeTestimony 64 = .ok (.iload_n 1, 1) := by decide +kernel
theorem dX9_writeTestimony_65 : decode cX9_writeTestimony 65 = .ok (.iload_n 2, 1) := by decide +kernel
theorem dX9_writeTestimony_66 : decode cX9_writeTestimony 66 = .ok (.invokevirtual 154, 3) := by decide +kernel
theorem dX9_writeTestimony_69 : decode cX9_writeTestimony 69 = .ok (.invokevirtual 305, 3) := by decide +kernel
theorem dX9_writeTestimony_72 : decode cX9_writeTestimony 72 = .ok (.pop, 1) := by decide +kernel
theorem dX9_writeTestimony_73 : decode cX9_writeTestimony 73 = .ok (.return_, 1) := by decide +kernel
theorem dX9_doMarginsAgree_0 : decode cX9_doMarginsAgree 0 = .ok (.iconst 0, 1) := by decide +kernel
theorem dX9_doMarginsAgree_1 : decode cX9_doMarginsAgree 1 = .ok (.istore_n 1, 1) := by decide +kernel
theorem dX9_doMarginsAgree_2 : decode cX9_doMarginsAgree 2 = .ok (.iload_n 1, 1) := by decide +kernel
theorem dX9_doMarginsAgree_3 : decode cX9_doMarginsAgree 3 = .ok (.aload_n 0, 1) := by decide +kernel
theorem dX9_doMarginsAgree_4 : decode cX9_doMarginsAgree 4 = .ok (.getfield 10, 3) := by decide +kernel
theorem dX9_doMarginsAgree_7 : decode cX9_doMarginsAgree 7 = .ok (.getfield 75, 3) := by decide +kernel
theorem dX9_doMarginsAgree_10 : decode cX9_doMarginsAgree 10 = .ok (.if_icmp .ge 30, 3) := by decide +kernel
theorem dX9_doMarginsAgree_13 : decode cX9_doMarginsAgree 13 = .ok (.aload_n 0, 1) := by decide +kernel
theorem dX9_doMarginsAgree_14 : decode cX9_doMarginsAgree 14 = .ok (.getfield 10, 3) := by decide +kernel
theorem dX9_doMarginsAgree_17 : decode cX9_doMarginsAgree 17 = .ok (.iload_n 1, 1) := by decide +kernel
theorem dX9_doMarginsAgree_18 : decode cX9_doMarginsAgree 18 = .ok (.invokestatic 221, 3) := by decide +kernel
theorem dX9_doMarginsAgree_21 : decode cX9_doMarginsAgree 21 = .ok (.aload_n 0, 1) := by decide +kernel
theorem dX9_doMarginsAgree_22 : decode cX9_doMarginsAgree 22 = .ok (.getfield 10, 3) := by decide +kernel
theorem dX9_doMarginsAgree_25 : decode cX9_doMarginsAgree 25 = .ok (.iload_n 1, 1) := by decide +kernel
theorem dX9_doMarginsAgree_26 : decode cX9_doMarginsAgree 26 = .ok (.invokestatic 224, 3) := by decide +kernel
theorem dX9_doMarginsAgree_29 : decode cX9_doMarginsAgree 29 = .ok (.if_icmp .eq 5, 3) := by decide +kernel
theorem dX9_doMarginsAgree_32 : decode cX9_doMarginsAgree 32 = .ok (.iconst 0, 1) := by decide +kernel
theorem dX9_doMarginsAgree_33 : decode cX9_doMarginsAgree 33 = .ok (.ireturn, 1) := by decide +kernel
theorem dX9_doMarginsAgree_34 : decode cX9_doMarginsAgree 34 = .ok (.iinc 1 1, 3) := by decide +kernel
theorem dX9_doMarginsAgree_37 : decode cX9_doMarginsAgree 37 = .ok (.goto (-35), 3) := by decide +kernel
theorem dX9_doMarginsAgree_40 : decode cX9_doMarginsAgree 40 = .ok (.iconst 1, 1) := by decide +kernel
theorem dX9_doMarginsAgree_41 : decode cX9_doMarginsAgree 41 = .ok (.ireturn, 1) := by decide +kernel
theorem dX9_doSentencesAgree_0 : decode cX9_doSentencesAgree 0 = .ok (.iconst 0, 1) := by decide +kernel
theorem dX9_doSentencesAgree_1 : decode cX9_doSentencesAgree 1 = .ok (.istore_n 1, 1) := by decide +kernel
theorem dX9_doSentencesAgree_2 : decode cX9_doSentencesAgree 2 = .ok (.iload_n 1, 1) := by decide +kernel
theorem dX9_doSentencesAgree_3 : decode cX9_doSentencesAgree 3 = .ok (.bipush 6, 2) := by decide +kernel
theorem dX9_doSentencesAgree_5 : decode cX9_doSentencesAgree 5 = .ok (.if_icmp .ge 33, 3) := by decide +kernel
theorem dX9_doSentencesAgree_8 : decode cX9_doSentencesAgree 8 = .ok (.aload_n 0, 1) := by decide +kernel
theorem dX9_doSentencesAgree_9 : decode cX9_doSentencesAgree 9 = .ok (.getfield 10, 3) := by decide +kernel
theorem dX9_doSentencesAgree_12 : decode cX9_doSentencesAgree 12 = .ok (.getfield 235, 3) := by decide +kernel
theorem dX9_doSentencesAgree_15 : decode cX9_doSentencesAgree 15 = .ok (.iload_n 1, 1) := by decide +kernel
theorem dX9_doSentencesAgree_16 : decode cX9_doSentencesAgree 16 = .ok (.invokevirtual 109, 3) := by decide +kernel
theorem dX9_doSentencesAgree_19 : decode cX9_doSentencesAgree 19 = .ok (.aload_n 0, 1) := by decide +kernel
theorem dX9_doSentencesAgree_20 : decode cX9_doSentencesAgree 20 = .ok (.getfield 10, 3) := by decide +kernel
theorem dX9_doSentencesAgree_23 : decode cX9_doSentencesAgree 23 = .ok (.iload_n 1, 1) := by decide +kernel
theorem dX9_doSentencesAgree_24 : decode cX9_doSentencesAgree 24 = .ok (.invokevirtual 238, 3) := by decide +kernel
theorem dX9_doSentencesAgree_27 : decode cX9_doSentencesAgree 27 = .ok (.if_icmp .eq 5, 3) := by decide +kernel
theorem dX9_doSentencesAgree_30 : decode cX9_doSentencesAgree 30 = .ok (.iconst 0, 1) := by decide +kernel
theorem dX9_doSentencesAgree_31 : decode cX9_doSentencesAgree 31 = .ok (.ireturn, 1) := by decide +kernel
theorem dX9_doSentencesAgree_32 : decode cX9_doSentencesAgree 32 = .ok (.iinc 1 1, 3) := by decide +kernel
theorem dX9_doSentencesAgree_35 : decode cX9_doSentencesAgree 35 = .ok (.goto (-33), 3) := by decide +kernel
theorem dX9_doSentencesAgree_38 : decode cX9_doSentencesAgree 38 = .ok (.iconst 1, 1) := by decide +kernel
theorem dX9_doSentencesAgree_39 : decode cX9_doSentencesAgree 39 = .ok (.ireturn, 1) := by decide +kernel
theorem dX9_doConnectionsAgree_0 : decode cX9_doConnectionsAgree 0 = .ok (.iconst 0, 1) := by decide +kernel
theorem dX9_doConnectionsAgree_1 : decode cX9_doConnectionsAgree 1 = .ok (.istore_n 1, 1) := by decide +kernel
theorem dX9_doConnectionsAgree_2 : decode cX9_doConnectionsAgree 2 = .ok (.iload_n 1, 1) := by decide +kernel
theorem dX9_doConnectionsAgree_3 : decode cX9_doConnectionsAgree 3 = .ok (.aload_n 0, 1) := by decide +kernel
theorem dX9_doConnectionsAgree_4 : decode cX9_doConnectionsAgree 4 = .ok (.getfield 10, 3) := by decide +kernel
theorem dX9_doConnectionsAgree_7 : decode cX9_doConnectionsAgree 7 = .ok (.getfield 160, 3) := by decide +kernel
theorem dX9_doConnectionsAgree_10 : decode cX9_doConnectionsAgree 10 = .ok (.if_icmp .ge 65, 3) := by decide +kernel
theorem dX9_doConnectionsAgree_13 : decode cX9_doConnectionsAgree 13 = .ok (.aload_n 0, 1) := by decide +kernel
theorem dX9_doConnectionsAgree_14 : decode cX9_doConnectionsAgree 14 = .ok (.getfield 39, 3) := by decide +kernel
theorem dX9_doConnectionsAgree_17 : decode cX9_doConnectionsAgree 17 = .ok (.iload_n 1, 1) := by decide +kernel
theorem dX9_doConnectionsAgree_18 : decode cX9_doConnectionsAgree 18 = .ok (.aload_n 0, 1) := by decide +kernel
theorem dX9_doConnectionsAgree_19 : decode cX9_doConnectionsAgree 19 = .ok (.getfield 10, 3) := by decide +kernel
theorem dX9_doConnectionsAgree_22 : decode cX9_doConnectionsAgree 22 = .ok (.invokevirtual 186, 3) := by decide +kernel
theorem dX9_doConnectionsAgree_25 : decode cX9_doConnectionsAgree 25 = .ok (.iconst 0, 1) := by decide +kernel
theorem dX9_doConnectionsAgree_26 : decode cX9_doConnectionsAgree 26 = .ok (.istore_n 2, 1) := by decide +kernel
theorem dX9_doConnectionsAgree_27 : decode cX9_doConnectionsAgree 27 = .ok (.iload_n 2, 1) := by decide +kernel
theorem dX9_doConnectionsAgree_28 : decode cX9_doConnectionsAgree 28 = .ok (.aload_n 0, 1) := by decide +kernel
theorem dX9_doConnectionsAgree_29 : decode cX9_doConnectionsAgree 29 = .ok (.getfield 10, 3) := by decide +kernel
theorem dX9_doConnectionsAgree_32 : decode cX9_doConnectionsAgree 32 = .ok (.getfield 160, 3) := by decide +kernel
theorem dX9_doConnectionsAgree_35 : decode cX9_doConnectionsAgree 35 = .ok (.if_icmp .ge 34, 3) := by decide +kernel
theorem dX9_doConnectionsAgree_38 : decode cX9_doConnectionsAgree 38 = .ok (.aload_n 0, 1) := by decide +kernel
theorem dX9_doConnectionsAgree_39 : decode cX9_doConnectionsAgree 39 = .ok (.getfield 10, 3) := by decide +kernel
theorem dX9_doConnectionsAgree_42 : decode cX9_doConnectionsAgree 42 = .ok (.getfield 177, 3) := by decide +kernel
theorem dX9_doConnectionsAgree_45 : decode cX9_doConnectionsAgree 45 = .ok (.iload_n 1, 1) := by decide +kernel
theorem dX9_doConnectionsAgree_46 : decode cX9_doConnectionsAgree 46 = .ok (.iload_n 2, 1) := by decide +kernel
theorem dX9_doConnectionsAgree_47 : decode cX9_doConnectionsAgree 47 = .ok (.invokevirtual 181, 3) := by decide +kernel
theorem dX9_doConnectionsAgree_50 : decode cX9_doConnectionsAgree 50 = .ok (.aload_n 0, 1) := by decide +kernel
theorem dX9_doConnectionsAgree_51 : decode cX9_doConnectionsAgree 51 = .ok (.getfield 39, 3) := by decide +kernel
theorem dX9_doConnectionsAgree_54 : decode cX9_doConnectionsAgree 54 = .ok (.iload_n 2, 1) := by decide +kernel
theorem dX9_doConnectionsAgree_55 : decode cX9_doConnectionsAgree 55 = .ok (.invokevirtual 190, 3) := by decide +kernel
theorem dX9_doConnectionsAgree_58 : decode cX9_doConnectionsAgree 58 = .ok (.if_icmp .eq 5, 3) := by decide +kernel
theorem dX9_doConnectionsAgree_61 : decode cX9_doConnectionsAgree 61 = .ok (.iconst 0, 1) := by decide +kernel
theorem dX9_doConnectionsAgree_62 : decode cX9_doConnectionsAgree 62 = .ok (.ireturn, 1) := by decide +kernel
theorem dX9_doConnectionsAgree_63 : decode cX9_doConnectionsAgree 63 = .ok (.iinc 2 1, 3) := by decide +kernel
theorem dX9_doConnectionsAgree_66 : decode cX9_doConnectionsAgree 66 = .ok (.goto (-39), 3) := by decide +kernel
theorem dX9_doConnectionsAgree_69 : decode cX9_doConnectionsAgree 69 = .ok (.iinc 1 1, 3) := by decide +kernel
theorem dX9_doConnectionsAgree_72 : decode cX9_doConnectionsAgree 72 = .ok (.goto (-70), 3) := by decide +kernel
theorem dX9_doConnectionsAgree_75 : decode cX9_doConnectionsAgree 75 = .ok (.iconst 1, 1) := by decide +kernel
theorem dX9_doConnectionsAgree_76 : decode cX9_doConnectionsAgree 76 = .ok (.ireturn, 1) := by decide +kernel
theorem dX9_doesDocketAgree_0 : decode cX9_doesDocketAgree 0 = .ok (.aload_n 0, 1) := by decide +kernel
theorem dX9_doesDocketAgree_1 : decode cX9_doesDocketAgree 1 = .ok (.getfield 32, 3) := by decide +kernel
theorem dX9_doesDocketAgree_4 : decode cX9_doesDocketAgree 4 = .ok (.aload_n 0, 1) := by decide +kernel
theorem dX9_doesDocketAgree_5 : decode cX9_doesDocketAgree 5 = .ok (.getfield 10, 3) := by decide +kernel
theorem dX9_doesDocketAgree_8 : decode cX9_doesDocketAgree 8 = .ok (.invokevirtual 207, 3) := by decide +kernel
theorem dX9_doesDocketAgree_11 : decode cX9_doesDocketAgree 11 = .ok (.iconst 0, 1) := by decide +kernel
theorem dX9_doesDocketAgree_12 : decode cX9_doesDocketAgree 12 = .ok (.istore_n 1, 1) := by decide +kernel
theorem dX9_doesDocketAgree_13 : decode cX9_doesDocketAgree 13 = .ok (.iload_n 1, 1) := by decide +kernel
theorem dX9_doesDocketAgree_14 : decode cX9_doesDocketAgree 14 = .ok (.aload_n 0, 1) := by decide +kernel
theorem dX9_doesDocketAgree_15 : decode cX9_doesDocketAgree 15 = .ok (.getfield 10, 3) := by decide +kernel
theorem dX9_doesDocketAgree_18 : decode cX9_doesDocketAgree 18 = .ok (.getfield 75, 3) := by decide +kernel
theorem dX9_doesDocketAgree_21 : decode cX9_doesDocketAgree 21 = .ok (.if_icmp .ge 42, 3) := by decide +kernel
theorem dX9_doesDocketAgree_24 : decode cX9_doesDocketAgree 24 = .ok (.aload_n 0, 1) := by decide +kernel
theorem dX9_doesDocketAgree_25 : decode cX9_doesDocketAgree 25 = .ok (.getfield 10, 3) := by decide +kernel
theorem dX9_doesDocketAgree_28 : decode cX9_doesDocketAgree 28 = .ok (.iconst 0, 1) := by decide +kernel
theorem dX9_doesDocketAgree_29 : decode cX9_doesDocketAgree 29 = .ok (.iload_n 1, 1) := by decide +kernel
theorem dX9_doesDocketAgree_30 : decode cX9_doesDocketAgree 30 = .ok (.invokevirtual 118, 3) := by decide +kernel
theorem dX9_doesDocketAgree_33 : decode cX9_doesDocketAgree 33 = .ok (.ifCond .eq 24, 3) := by decide +kernel
theorem dX9_doesDocketAgree_36 : decode cX9_doesDocketAgree 36 = .ok (.aload_n 0, 1) := by decide +kernel
theorem dX9_doesDocketAgree_37 : decode cX9_doesDocketAgree 37 = .ok (.getfield 32, 3) := by decide +kernel
theorem dX9_doesDocketAgree_40 : decode cX9_doesDocketAgree 40 = .ok (.aload_n 0, 1) := by decide +kernel
theorem dX9_doesDocketAgree_41 : decode cX9_doesDocketAgree 41 = .ok (.getfield 10, 3) := by decide +kernel
theorem dX9_doesDocketAgree_44 : decode cX9_doesDocketAgree 44 = .ok (.iload_n 1, 1) := by decide +kernel
theorem dX9_doesDocketAgree_45 : decode cX9_doesDocketAgree 45 = .ok (.invokevirtual 254, 3) := by decide +kernel
theorem dX9_doesDocketAgree_48 : decode cX9_doesDocketAgree 48 = .ok (.iload_n 1, 1) := by decide +kernel
theorem dX9_doesDocketAgree_49 : decode cX9_doesDocketAgree 49 = .ok (.invokevirtual 431, 3) := by decide +kernel
theorem dX9_doesDocketAgree_52 : decode cX9_doesDocketAgree 52 = .ok (.ifCond .ne 5, 3) := by decide +kernel
theorem dX9_doesDocketAgree_55 : decode cX9_doesDocketAgree 55 = .ok (.iconst 0, 1) := by decide +kernel
theorem dX9_doesDocketAgree_56 : decode cX9_doesDocketAgree 56 = .ok (.ireturn, 1) := by decide +kernel
theorem dX9_doesDocketAgree_57 : decode cX9_doesDocketAgree 57 = .ok (.iinc 1 1, 3) := by decide +kernel
theorem dX9_doesDocketAgree_60 : decode cX9_doesDocketAgree 60 = .ok (.goto (-47), 3) := by decide +kernel
theorem dX9_doesDocketAgree_63 : decode cX9_doesDocketAgree 63 = .ok (.iconst 1, 1) := by decide +kernel
theorem dX9_doesDocketAgree_64 : decode cX9_doesDocketAgree 64 = .ok (.ireturn, 1) := by decide +kernel
theorem dX10_init_0 : decode cX10_init 0 = .ok (.aload_n 0, 1) := by decide +kernel
theorem dX10_init_1 : decode cX10_init 1 = .ok (.invokespecial 1, 3) := by decide +kernel
theorem dX10_init_4 : decode cX10_init 4 = .ok (.aload_n 0, 1) := by decide +kernel
theorem dX10_init_5 : decode cX10_init 5 = .ok (.sipush 5412, 3) := by decide +kernel
theorem dX10_init_8 : decode cX10_init 8 = .ok (.newarray .int, 2) := by decide +kernel
theorem dX10_init_10 : decode cX10_init 10 = .ok (.putfield 9, 3) := by decide +kernel
theorem dX10_init_13 : decode cX10_init 13 = .ok (.aload_n 0, 1) := by decide +kernel
theorem dX10_init_14 : decode cX10_init 14 = .ok (.bipush 60, 2) := by decide +kernel
theorem dX10_init_16 : decode cX10_init 16 = .ok (.newarray .char, 2) := by decide +kernel
theorem dX10_init_18 : decode cX10_init 18 = .ok (.putfield 13, 3) := by decide +kernel
theorem dX10_init_21 : decode cX10_init 21 = .ok (.aload_n 0, 1) := by decide +kernel
theorem dX10_init_22 : decode cX10_init 22 = .ok (.bipush 60, 2) := by decide +kernel
theorem dX10_init_24 : decode cX10_init 24 = .ok (.newarray .char, 2) := by decide +kernel
theorem dX10_init_26 : decode cX10_init 26 = .ok (.putfield 17, 3) := by decide +kernel
theorem dX10_init_29 : decode cX10_init 29 = .ok (.aload_n 0, 1) := by decide +kernel
theorem dX10_init_30 : decode cX10_init 30 = .ok (.iconst (-1), 1) := by decide +kernel
theorem dX10_init_31 : decode cX10_init 31 = .ok (.putfield 20, 3) := by decide +kernel
theorem dX10_init_34 : decode cX10_init 34 = .ok (.aload_n 0, 1) := by decide +kernel
theorem dX10_init_35 : decode cX10_init 35 = .ok (.iconst (-1), 1) := by decide +kernel
theorem dX10_init_36 : decode cX10_init 36 = .ok (.putfield 24, 3) := by decide +kernel
theorem dX10_init_39 : decode cX10_init 39 = .ok (.aload_n 0, 1) := by decide +kernel
theorem dX10_init_40 : decode cX10_init 40 = .ok (.sipush 305, 3) := by decide +kernel
theorem dX10_init_43 : decode cX10_init 43 = .ok (.newarray .int, 2) := by decide +kernel
theorem dX10_init_45 : decode cX10_init 45 = .ok (.putfield 27, 3) := by decide +kernel
theorem dX10_init_48 : decode cX10_init 48 = .ok (.return_, 1) := by decide +kernel
theorem dX10_thrown_0 : decode cX10_thrown 0 = .ok (.aload_n 0, 1) := by decide +kernel
theorem dX10_thrown_1 : decode cX10_thrown 1 = .ok (.getfield 30, 3) := by decide +kernel
theorem dX10_thrown_4 : decode cX10_thrown 4 = .ok (.ireturn, 1) := by decide +kernel
theorem dX10_in_0 : decode cX10_in 0 = .ok (.iload_n 0, 1) := by decide +kernel
theorem dX10_in_1 : decode cX10_in 1 = .ok (.iload_n 1, 1) := by decide +kernel
theorem dX10_in_2 : decode cX10_in 2 = .ok (.if_icmp .lt 12, 3) := by decide +kernel
theorem dX10_in_5 : decode cX10_in 5 = .ok (.iload_n 0, 1) := by decide +kernel
theorem dX10_in_6 : decode cX10_in 6 = .ok (.iload_n 2, 1) := by decide +kernel
theorem dX10_in_7 : decode cX10_in 7 = .ok (.if_icmp .gt 7, 3) := by decide +kernel
theorem dX10_in_10 : decode cX10_in 10 = .ok (.iconst 1, 1) := by decide +kernel
theorem dX10_in_11 : decode cX10_in 11 = .ok (.goto 4, 3) := by decide +kernel
theorem dX10_in_14 : decode cX10_in 14 = .ok (.iconst 0, 1) := by decide +kernel
theorem dX10_in_15 : decode cX10_in 15 = .ok (.ireturn, 1) := by decide +kernel
theorem dX10_copies_0 : decode cX10_copies 0 = .ok (.iconst 0, 1) := by decide +kernel
theorem dX10_copies_1 : decode cX10_copies 1 = .ok (.istore_n 3, 1) := by decide +kernel
theorem dX10_copies_2 : decode cX10_copies 2 = .ok (.iload_n 3, 1) := by decide +kernel
theorem dX10_copies_3 : decode cX10_copies 3 = .ok (.sipush 492, 3) := by decide +kernel
theorem dX10_copies_6 : decode cX10_copies 6 = .ok (.if_icmp .ge 33, 3) := by decide +kernel
theorem dX10_copies_9 : decode cX10_copies 9 = .ok (.aload_n 0, 1) := by decide +kernel
theorem dX10_copies_10 : decode cX10_copies 10 = .ok (.getfield 9, 3) := by decide +kernel
theorem dX10_copies_13 : decode cX10_copies 13 = .ok (.sipush 492, 3) := by decide +kernel
theorem dX10_copies_16 : decode cX10_copies 16 = .ok (.iload_n 2, 1) := by decide +kernel
theorem dX10_copies_17 : decode cX10_copies 17 = .ok (.imul, 1) := by decide +kernel
theorem dX10_copies_18 : decode cX10_copies 18 = .ok (.iload_n 3, 1) := by decide +kernel
theorem dX10_copies_19 : decode cX10_copies 19 = .ok (.iadd, 1) := by decide +kernel
theorem dX10_copies_20 : decode cX10_copies 20 = .ok (.aload_n 0, 1) := by decide +kernel
theorem dX10_copies_21 : decode cX10_copies 21 = .ok (.getfield 9, 3) := by decide +kernel
theorem dX10_copies_24 : decode cX10_copies 24 = .ok (.sipush 492, 3) := by decide +kernel
theorem dX10_copies_27 : decode cX10_copies 27 = .ok (.iload_n 1, 1) := by decide +kernel
theorem dX10_copies_28 : decode cX10_copies 28 = .ok (.imul, 1) := by decide +kernel
theorem dX10_copies_29 : decode cX10_copies 29 = .ok (.iload_n 3, 1) := by decide +kernel
theorem dX10_copies_30 : decode cX10_copies 30 = .ok (.iadd, 1) := by decide +kernel
theorem dX10_copies_31 : decode cX10_copies 31 = .ok (.iaload, 1) := by decide +kernel
theorem dX10_copies_32 : decode cX10_copies 32 = .ok (.iastore, 1) := by decide +kernel
theorem dX10_copies_33 : decode cX10_copies 33 = .ok (.iinc 3 1, 3) := by decide +kernel
theorem dX10_copies_36 : decode cX10_copies 36 = .ok (.goto (-34), 3) := by decide +kernel
theorem dX10_copies_39 : decode cX10_copies 39 = .ok (.return_, 1) := by decide +kernel
theorem dX10_begins_0 : decode cX10_begins 0 = .ok (.aload_n 0, 1) := by decide +kernel
theorem dX10_begins_1 : decode cX10_begins 1 = .ok (.iconst 0, 1) := by decide +kernel
theorem dX10_begins_2 : decode cX10_begins 2 = .ok (.bipush 10, 2) := by decide +kernel
theorem dX10_begins_4 : decode cX10_begins 4 = .ok (.invokevirtual 33, 3) := by decide +kernel
theorem dX10_begins_7 : decode cX10_begins 7 = .ok (.return_, 1) := by decide +kernel
theorem dX10_ends_0 : decode cX10_ends 0 = .ok (.aload_n 0, 1) := by decide +kernel
theorem dX10_ends_1 : decode cX10_ends 1 = .ok (.iload_n 1, 1) := by decide +kernel
theorem dX10_ends_2 : decode cX10_ends 2 = .ok (.iconst 1, 1) := by decide +kernel
theorem dX10_ends_3 : decode cX10_ends 3 = .ok (.if_icmp .ne 7, 3) := by decide +kernel
theorem dX10_ends_6 : decode cX10_ends 6 = .ok (.iload_n 2, 1) := by decide +kernel
theorem dX10_ends_7 : decode cX10_ends 7 = .ok (.goto 33, 3) := by decide +kernel
theorem dX10_ends_10 : decode cX10_ends 10 = .ok (.iload_n 1, 1) := by decide +kernel
theorem dX10_ends_11 : decode cX10_ends 11 = .ok (.iconst 2, 1) := by decide +kernel
theorem dX10_ends_12 : decode cX10_ends 12 = .ok (.if_icmp .ne 7, 3) := by decide +kernel
theorem dX10_ends_15 : decode cX10_ends 15 = .ok (.iload_n 3, 1) := by decide +kernel
theorem dX10_ends_16 : decode cX10_ends 16 = .ok (.goto 24, 3) := by decide +kernel
theorem dX10_ends_19 : decode cX10_ends 19 = .ok (.iload_n 1, 1) := by decide +kernel
theorem dX10_ends_20 : decode cX10_ends 20 = .ok (.iconst 3, 1) := by decide +kernel
theorem dX10_ends_21 : decode cX10_ends 21 = .ok (.if_icmp .ne 8, 3) := by decide +kernel
theorem dX10_ends_24 : decode cX10_ends 24 = .ok (.iload 4, 2) := by decide +kernel
theorem dX10_ends_26 : decode cX10_ends 26 = .ok (.goto 14, 3) := by decide +kernel
theorem dX10_ends_29 : decode cX10_ends 29 = .ok (.iload_n 1, 1) := by decide +kernel
theorem dX10_ends_30 : decode cX10_ends 30 = .ok (.iconst 4, 1) := by decide +kernel
theorem dX10_ends_31 : decode cX10_ends 31 = .ok (.if_icmp .ne 8, 3) := by decide +kernel
theorem dX10_ends_34 : decode cX10_ends 34 = .ok (.iload 5, 2) := by decide +kernel
theorem dX10_ends_36 : decode cX10_ends 36 = .ok (.goto 4, 3) := by decide +kernel
theorem dX10_ends_39 : decode cX10_ends 39 = .ok (.iconst 0, 1) := by decide +kernel
theorem dX10_ends_40 : decode cX10_ends 40 = .ok (.putfield 30, 3) := by decide +kernel
theorem dX10_ends_43 : decode cX10_ends 43 = .ok (.aload_n 0, 1) := by decide +kernel
theorem dX10_ends_44 : decode cX10_ends 44 = .ok (.getfield 30, 3) := by decide +kernel
theorem dX10_ends_47 : decode cX10_ends 47 = .ok (.ifCond .eq 12, 3) := by decide +kernel
theorem dX10_ends_50 : decode cX10_ends 50 = .ok (.aload_n 0, 1) := by decide +kernel
theorem dX10_ends_51 : decode cX10_ends 51 = .ok (.bipush 10, 2) := by decide +kernel
theorem dX10_ends_53 : decode cX10_ends 53 = .ok (.iconst 0, 1) := by decide +kernel
theorem dX10_ends_54 : decode cX10_ends 54 = .ok (.invokevirtual 33, 3) := by decide +kernel
theorem dX10_ends_57 : decode cX10_ends 57 = .ok (.iconst 0, 1) := by decide +kernel
theorem dX10_ends_58 : decode cX10_ends 58 = .ok (.ireturn, 1) := by decide +kernel
theorem dX10_ends_59 : decode cX10_ends 59 = .ok (.aload_n 0, 1) := by decide +kernel
theorem dX10_ends_60 : decode cX10_ends 60 = .ok (.getfield 37, 3) := by decide +kernel
theorem dX10_ends_63 : decode cX10_ends 63 = .ok (.bipush 8, 2) := by decide +kernel
theorem dX10_ends_65 : decode cX10_ends 65 = .ok (.if_icmp .ne 39, 3) := by decide +kernel
theorem dX10_ends_68 : decode cX10_ends 68 = .ok (.iconst 1, 1) := by decide +kernel
theorem dX10_ends_69 : decode cX10_ends 69 = .ok (.istore 6, 2) := by decide +kernel
theorem dX10_ends_71 : decode cX10_ends 71 = .ok (.iload 6, 2) := by decide +kernel
theorem dX10_ends_73 : decode cX10_ends 73 = .ok (.bipush 8, 2) := by decide +kernel
theorem dX10_ends_75 : decode cX10_ends 75 = .ok (.if_icmp .ge 19, 3) := by decide +kernel
theorem dX10_ends_78 : decode cX10_ends 78 = .ok (.aload_n 0, 1) := by decide +kernel
theorem dX10_ends_79 : decode cX10_ends 79 = .ok (.iload 6, 2) := by decide +kernel
theorem dX10_ends_81 : decode cX10_ends 81 = .ok (.iconst 1, 1) := by decide +kernel
theorem dX10_ends_82 : decode cX10_ends 82 = .ok (.iadd, 1) := by decide +kernel
theorem dX10_ends_83 : decode cX10_ends 83 = .ok (.iload 6, 2) := by decide +kernel
theorem dX10_ends_85 : decode cX10_ends 85 = .ok (.invokevirtual 33, 3) := by decide +kernel
theorem dX10_ends_88 : decode cX10_ends 88 = .ok (.iinc 6 1, 3) := by decide +kernel
theorem dX10_ends_91 : decode cX10_ends 91 = .ok (.goto (-20), 3) := by decide +kernel
theorem dX10_ends_94 : decode cX10_ends 94 = .ok (.aload_n 0, 1) := by decide +kernel
theorem dX10_ends_95 : decode cX10_ends 95 = .ok (.dup, 1) := by decide +kernel
theorem dX10_ends_96 : decode cX10_ends 96 = .ok (.getfield 37, 3) := by decide +kernel
theorem dX10_ends_99 : decode cX10_ends 99 = .ok (.iconst 1, 1) := by decide +kernel
theorem dX10_ends_100 : decode cX10_ends 100 = .ok (.isub, 1) := by decide +kernel
theorem dX10_ends_101 : decode cX10_ends 101 = .ok (.putfield 37, 3) := by decide +kernel
theorem dX10_ends_104 : decode cX10_ends 104 = .ok (.aload_n 0, 1) := by decide +kernel
theorem dX10_ends_105 : decode cX10_ends 105 = .ok (.dup, 1) := by decide +kernel
theorem dX10_ends_106 : decode cX10_ends 106 = .ok (.getfield 37, 3) := by decide +kernel
theorem dX10_ends_109 : decode cX10_ends 109 = .ok (.iconst 1, 1) := by decide +kernel
theorem dX10_ends_110 : decode cX10_ends 110 = .ok (.iadd, 1) := by decide +kernel
theorem dX10_ends_111 : decode cX10_ends 111 = .ok (.putfield 37, 3) := by decide +kernel
theorem dX10_ends_114 : decode cX10_ends 114 = .ok (.aload_n 0, 1) := by decide +kernel
theorem dX10_ends_115 : decode cX10_ends 115 = .ok (.bipush 10, 2) := by decide +kernel
theorem dX10_ends_117 : decode cX10_ends 117 = .ok (.aload_n 0, 1) := by decide +kernel
theorem dX10_ends_118 : decode cX10_ends 118 = .ok (.getfield 37, 3) := by decide +kernel
theorem dX10_ends_121 : decode cX10_ends 121 = .ok (.invokevirtual 33, 3) := by decide +kernel
theorem dX10_ends_124 : decode cX10_ends 124 = .ok (.aload_n 0, 1) := by decide +kernel
theorem dX10_ends_125 : decode cX10_ends 125 = .ok (.getfield 40, 3) := by decide +kernel
theorem dX10_ends_128 : decode cX10_ends 128 = .ok (.ireturn, 1) := by decide +kernel
theorem dX10_isFine_0 : decode cX10_isFine 0 = .ok (.aload_n 0, 1) := by decide +kernel
theorem dX10_isFine_1 : decode cX10_isFine 1 = .ok (.iload_n 1, 1) := by decide +kernel
theorem dX10_isFine_2 : decode cX10_isFine 2 = .ok (.ifCond .eq 7, 3) := by decide +kernel
theorem dX10_isFine_5 : decode cX10_isFine 5 = .ok (.iconst 0, 1) := by decide +kernel
theorem dX10_isFine_6 : decode cX10_isFine 6 = .ok (.goto 4, 3) := by decide +kernel
theorem dX10_isFine_9 : decode cX10_isFine 9 = .ok (.iconst 1, 1) := by decide +kernel
theorem dX10_isFine_10 : decode cX10_isFine 10 = .ok (.putfield 30, 3) := by decide +kernel
theorem dX10_isFine_13 : decode cX10_isFine 13 = .ok (.iload_n 1, 1) := by decide +kernel
theorem dX10_isFine_14 : decode cX10_isFine 14 = .ok (.ireturn, 1) := by decide +kernel
theorem dX10_c_0 : decode cX10_c 0 = .ok (.aload_n 0, 1) := by decide +kernel
theorem dX10_c_1 : decode cX10_c 1 = .ok (.getfield 9, 3) := by decide +kernel
theorem dX10_c_4 : decode cX10_c 4 = .ok (.bipush 12, 2) := by decide +kernel
theorem dX10_c_6 : decode cX10_c 6 = .ok (.bipush 30, 2) := by decide +kernel
theorem dX10_c_8 : decode cX10_c 8 = .ok (.iload_n 1, 1) := by decide +kernel
theorem dX10_c_9 : decode cX10_c 9 = .ok (.imul, 1) := by decide +kernel
theorem dX10_c_10 : decode cX10_c 10 = .ok (.iadd, 1) := by decide +kernel
theorem dX10_c_11 : decode cX10_c 11 = .ok (.iload_n 2, 1) := by decide +kernel
theorem dX10_c_12 : decode cX10_c 12 = .ok (.iadd, 1) := by decide +kernel
theorem dX10_c_13 : decode cX10_c 13 = .ok (.iaload, 1) := by decide +kernel
theorem dX10_c_14 : decode cX10_c 14 = .ok (.ireturn, 1) := by decide +kernel
theorem dX10_set_0 : decode cX10_set 0 = .ok (.aload_n 0, 1) := by decide +kernel
theorem dX10_set_1 : decode cX10_set 1 = .ok (.getfield 9, 3) := by decide +kernel
theorem dX10_set_4 : decode cX10_set 4 = .ok (.bipush 12, 2) := by decide +kernel
theorem dX10_set_6 : decode cX10_set 6 = .ok (.bipush 30, 2) := by decide +kernel
theorem dX10_set_8 : decode cX10_set 8 = .ok (.iload_n 1, 1) := by decide +kernel
theorem dX10_set_9 : decode cX10_set 9 = .ok (.imul, 1) := by decide +kernel
theorem dX10_set_10 : decode cX10_set 10 = .ok (.iadd, 1) := by decide +kernel
theorem dX10_set_11 : decode cX10_set 11 = .ok (.iload_n 2, 1) := by decide +kernel
theorem dX10_set_12 : decode cX10_set 12 = .ok (.iadd, 1) := by decide +kernel
theorem dX10_set_13 : decode cX10_set 13 = .ok (.iload_n 3, 1) := by decide +kernel
theorem dX10_set_14 : decode cX10_set 14 = .ok (.iastore, 1) := by decide +kernel
theorem dX10_set_15 : decode cX10_set 15 = .ok (.return_, 1) := by decide +kernel
theorem dX10_t_0 : decode cX10_t 0 = .ok (.aload_n 0, 1) := by decide +kernel
theorem dX10_t_1 : decode cX10_t 1 = .ok (.getfield 9, 3) := by decide +kernel
theorem dX10_t_4 : decode cX10_t 4 = .ok (.bipush 12, 2) := by decide +kernel
theorem dX10_t_6 : decode cX10_t 6 = .ok (.bipush 30, 2) := by decide +kernel
theorem dX10_t_8 : decode cX10_t 8 = .ok (.iload_n 1, 1) := by decide +kernel
theorem dX10_t_9 : decode cX10_t 9 = .ok (.imul, 1) := by decide +kernel
theorem dX10_t_10 : decode cX10_t 10 = .ok (.iadd, 1) := by decide +kernel
theorem dX10_t_11 : decode cX10_t 11 = .ok (.bipush 6, 2) := by decide +kernel
theorem dX10_t_13 : decode cX10_t 13 = .ok (.iadd, 1) := by decide +kernel
theorem dX10_t_14 : decode cX10_t 14 = .ok (.iconst 4, 1) := by decide +kernel
theorem dX10_t_15 : decode cX10_t 15 = .ok (.iload_n 2, 1) := by decide +kernel
theorem dX10_t_16 : decode cX10_t 16 = .ok (.imul, 1) := by decide +kernel
theorem dX10_t_17 : decode cX10_t 17 = .ok (.iadd, 1) := by decide +kernel
theorem dX10_t_18 : decode cX10_t 18 = .ok (.iload_n 3, 1) := by decide +kernel
theorem dX10_t_19 : decode cX10_t 19 = .ok (.iadd, 1) := by decide +kernel
theorem dX10_t_20 : decode cX10_t 20 = .ok (.iaload, 1) := by decide +kernel
theorem dX10_t_21 : decode cX10_t 21 = .ok (.ireturn, 1) := by decide +kernel
theorem dX10_isCase_0 : decode cX10_isCase 0 = .ok (.iload_n 1, 1) := by decide +kernel
theorem dX10_isCase_1 : decode cX10_isCase 1 = .ok (.iconst 0, 1) := by decide +kernel
theorem dX10_isCase_2 : decode cX10_isCase 2 = .ok (.aload_n 0, 1) := by decide +kernel
theorem dX10_isCase_3 : decode cX10_isCase 3 = .ok (.getfield 9, 3) := by decide +kernel
theorem dX10_isCase_6 : decode cX10_isCase 6 = .ok (.iconst 0, 1) := by decide +kernel
theorem dX10_isCase_7 : decode cX10_isCase 7 = .ok (.iaload, 1) := by decide +kernel
theorem dX10_isCase_8 : decode cX10_isCase 8 = .ok (.iconst 1, 1) := by decide +kernel
theorem dX10_isCase_9 : decode cX10_isCase 9 = .ok (.isub, 1) := by decide +kernel
theorem dX10_isCase_10 : decode cX10_isCase 10 = .ok (.invokestatic 43, 3) := by decide +kernel
theorem dX10_isCase_13 : decode cX10_isCase 13 = .ok (.ireturn, 1) := by decide +kernel
theorem dX10_isWitness_0 : decode cX10_isWitness 0 = .ok (.iload_n 1, 1) := by decide +kernel
theorem dX10_isWitness_1 : decode cX10_isWitness 1 = .ok (.iconst 0, 1) := by decide +kernel
theorem dX10_isWitness_2 : decode cX10_isWitness 2 = .ok (.aload_n 0, 1) := by decide +kernel
theorem dX10_isWitness_3 : decode cX10_isWitness 3 = .ok (.getfield 9, 3) := by decide +kernel
theorem dX10_isWitness_6 : decode cX10_isWitness 6 = .ok (.iconst 1, 1) := by decide +kernel
theorem dX10_isWitness_7 : decode cX10_isWitness 7 = .ok (.iaload, 1) := by decide +kernel
theorem dX10_isWitness_8 : decode cX10_isWitness 8 = .ok (.iconst 1, 1) := by decide +kernel
theorem dX10_isWitness_9 : decode cX10_isWitness 9 = .ok (.isub, 1) := by decide +kernel
theorem dX10_isWitness_10 : decode cX10_isWitness 10 = .ok (.invokestatic 43, 3) := by decide +kernel
theorem dX10_isWitness_13 : decode cX10_isWitness 13 = .ok (.ireturn, 1) := by decide +kernel
theorem dX10_spokenBy_0 : decode cX10_spokenBy 0 = .ok (.iconst 0, 1) := by decide +kernel
theorem dX10_spokenBy_1 : decode cX10_spokenBy 1 = .ok (.istore_n 3, 1) := by decide +kernel
theorem dX10_spokenBy_2 : decode cX10_spokenBy 2 = .ok (.iload_n 3, 1) := by decide +kernel
theorem dX10_spokenBy_3 : decode cX10_spokenBy 3 = .ok (.aload_n 0, 1) := by decide +kernel
theorem dX10_spokenBy_4 : decode cX10_spokenBy 4 = .ok (.iload_n 1, 1) := by decide +kernel
theorem dX10_spokenBy_5 : decode cX10_spokenBy 5 = .ok (.iconst 5, 1) := by decide +kernel
theorem dX10_spokenBy_6 : decode cX10_spokenBy 6 = .ok (.invokevirtual 47, 3) := by decide +kernel
theorem dX10_spokenBy_9 : decode cX10_spokenBy 9 = .ok (.if_icmp .ge 22, 3) := by decide +kernel
theorem dX10_spokenBy_12 : decode cX10_spokenBy 12 = .ok (.aload_n 0, 1) := by decide +kernel
theorem dX10_spokenBy_13 : decode cX10_spokenBy 13 = .ok (.iload_n 1, 1) := by decide +kernel
theorem dX10_spokenBy_14 : decode cX10_spokenBy 14 = .ok (.iload_n 3, 1) := by decide +kernel
theorem dX10_spokenBy_15 : decode cX10_spokenBy 15 = .ok (.iconst 0, 1) := by decide +kernel
theorem dX10_spokenBy_16 : decode cX10_spokenBy 16 = .ok (.invokevirtual 51, 3) := by decide +kernel
theorem dX10_spokenBy_19 : decode cX10_spokenBy 19 = .ok (.iload_n 2, 1) := by decide +kernel
theorem dX10_spokenBy_20 : decode cX10_spokenBy 20 = .ok (.if_icmp .ne 5, 3) := by decide +kernel
theorem dX10_spokenBy_23 : decode cX10_spokenBy 23 = .ok (.iload_n 3, 1) := by decide +kernel
theorem dX10_spokenBy_24 : decode cX10_spokenBy 24 = .ok (.ireturn, 1) := by decide +kernel
theorem dX10_spokenBy_25 : decode cX10_spokenBy 25 = .ok (.iinc 3 1, 3) := by decide +kernel
theorem dX10_spokenBy_28 : decode cX10_spokenBy 28 = .ok (.goto (-26), 3) := by decide +kernel
theorem dX10_spokenBy_31 : decode cX10_spokenBy 31 = .ok (.iconst (-1), 1) := by decide +kernel
theorem dX10_spokenBy_32 : decode cX10_spokenBy 32 = .ok (.ireturn, 1) := by decide +kernel
theorem dX10_severity_0 : decode cX10_severity 0 = .ok (.aload_n 0, 1) := by decide +kernel
theorem dX10_severity_1 : decode cX10_severity 1 = .ok (.iload_n 1, 1) := by decide +kernel
theorem dX10_severity_2 : decode cX10_severity 2 = .ok (.iconst 1, 1) := by decide +kernel
theorem dX10_severity_3 : decode cX10_severity 3 = .ok (.invokevirtual 47, 3) := by decide +kernel
theorem dX10_severity_6 : decode cX10_severity 6 = .ok (.iconst 1, 1) := by decide +kernel
theorem dX10_severity_7 : decode cX10_severity 7 = .ok (.iadd, 1) := by decide +kernel
theorem dX10_severity_8 : decode cX10_severity 8 = .ok (.ireturn, 1) := by decide +kernel
theorem dX10_weightAt_0 : decode cX10_weightAt 0 = .ok (.aload_n 0, 1) := by decide +kernel
theorem dX10_weightAt_1 : decode cX10_weightAt 1 = .ok (.iload_n 1, 1) := by decide +kernel
theorem dX10_weightAt_2 : decode cX10_weightAt 2 = .ok (.iload_n 2, 1) := by decide +kernel
theorem dX10_weightAt_3 : decode cX10_weightAt 3 = .ok (.iconst 2, 1) := by decide +kernel
theorem dX10_weightAt_4 : decode cX10_weightAt 4 = .ok (.invokevirtual 51, 3) := by decide +kernel
theorem dX10_weightAt_7 : decode cX10_weightAt 7 = .ok (.aload_n 0, 1) := by decide +kernel
theorem dX10_weightAt_8 : decode cX10_weightAt 8 = .ok (.getfield 9, 3) := by decide +kernel
theorem dX10_weightAt_11 : decode cX10_weightAt 11 = .ok (.iconst 4, 1) := by decide +kernel
theorem dX10_weightAt_12 : decode cX10_weightAt 12 = .ok (.aload_n 0, 1) := by decide +kernel
theorem dX10_weightAt_13 : decode cX10_weightAt 13 = .ok (.iload_n 1, 1) := by decide +kernel
theorem dX10_weightAt_14 : decode cX10_weightAt 14 = .ok (.iload_n 2, 1) := by decide +kernel
theorem dX10_weightAt_15 : decode cX10_weightAt 15 = .ok (.iconst 0, 1) := by decide +kernel
theorem dX10_weightAt_16 : decode cX10_weightAt 16 = .ok (.invokevirtual 51, 3) := by decide +kernel
theorem dX10_weightAt_19 : decode cX10_weightAt 19 = .ok (.iadd, 1) := by decide +kernel
theorem dX10_weightAt_20 : decode cX10_weightAt 20 = .ok (.iaload, 1) := by decide +kernel
theorem dX10_weightAt_21 : decode cX10_weightAt 21 = .ok (.imul, 1) := by decide +kernel
theorem dX10_weightAt_22 : decode cX10_weightAt 22 = .ok (.ireturn, 1) := by decide +kernel
theorem dX10_weightOf_0 : decode cX10_weightOf 0 = .ok (.iconst 0, 1) := by decide +kernel
theorem dX10_weightOf_1 : decode cX10_weightOf 1 = .ok (.istore_n 3, 1) := by decide +kernel
theorem dX10_weightOf_2 : decode cX10_weightOf 2 = .ok (.iconst 0, 1) := by decide +kernel
theorem dX10_weightOf_3 : decode cX10_weightOf 3 = .ok (.istore 4, 2) := by decide +kernel
theorem dX10_weightOf_5 : decode cX10_weightOf 5 = .ok (.iload 4, 2) := by decide +kernel
theorem dX10_weightOf_7 : decode cX10_weightOf 7 = .ok (.aload_n 0, 1) := by decide +kernel
theorem dX10_weightOf_8 : decode cX10_weightOf 8 = .ok (.iload_n 1, 1) := by decide +kernel
theorem dX10_weightOf_9 : decode cX10_weightOf 9 = .ok (.iconst 5, 1) := by decide +kernel
theorem dX10_weightOf_10 : decode cX10_weightOf 10 = .ok (.invokevirtual 47, 3) := by decide +kernel
theorem dX10_weightOf_13 : decode cX10_weightOf 13 = .ok (.if_icmp .ge 35, 3) := by decide +kernel
theorem dX10_weightOf_16 : decode cX10_weightOf 16 = .ok (.iload_n 3, 1) := by decide +kernel
theorem dX10_weightOf_17 : decode cX10_weightOf 17 = .ok (.aload_n 0, 1) := by decide +kernel
theorem dX10_weightOf_18 : decode cX10_weightOf 18 = .ok (.iload_n 1, 1) := by decide +kernel
theorem dX10_weightOf_19 : decode cX10_weightOf 19 = .ok (.iload 4, 2) := by decide +kernel
theorem dX10_weightOf_21 : decode cX10_weightOf 21 = .ok (.iconst 1, 1) := by decide +kernel
theorem dX10_weightOf_22 : decode cX10_weightOf 22 = .ok (.invokevirtual 51, 3) := by decide +kernel
theorem dX10_weightOf_25 : decode cX10_weightOf 25 = .ok (.iload_n 2, 1) := by decide +kernel
theorem dX10_weightOf_26 : decode cX10_weightOf 26 = .ok (.if_icmp .ne 13, 3) := by decide +kernel
theorem dX10_weightOf_29 : decode cX10_weightOf 29 = .ok (.aload_n 0, 1) := by decide +kernel
theorem dX10_weightOf_30 : decode cX10_weightOf 30 = .ok (.iload_n 1, 1) := by decide +kernel
theorem dX10_weightOf_31 : decode cX10_weightOf 31 = .ok (.iload 4, 2) := by decide +kernel
theorem dX10_weightOf_33 : decode cX10_weightOf 33 = .ok (.invokevirtual 55, 3) := by decide +kernel
theorem dX10_weightOf_36 : decode cX10_weightOf 36 = .ok (.goto 4, 3) := by decide +kernel
theorem dX10_weightOf_39 : decode cX10_weightOf 39 = .ok (.iconst 0, 1) := by decide +kernel
theorem dX10_weightOf_40 : decode cX10_weightOf 40 = .ok (.iadd, 1) := by decide +kernel
theorem dX10_weightOf_41 : decode cX10_weightOf 41 = .ok (.istore_n 3, 1) := by decide +kernel
theorem dX10_weightOf_42 : decode cX10_weightOf 42 = .ok (.iinc 4 1, 3) := by decide +kernel
theorem dX10_weightOf_45 : decode cX10_weightOf 45 = .ok (.goto (-40), 3) := by decide +kernel
theorem dX10_weightOf_48 : decode cX10_weightOf 48 = .ok (.iload_n 3, 1) := by decide +kernel
theorem dX10_weightOf_49 : decode cX10_weightOf 49 = .ok (.ireturn, 1) := by decide +kernel
theorem dX10_marginOf_0 : decode cX10_marginOf 0 = .ok (.aload_n 0, 1) := by decide +kernel
theorem dX10_marginOf_1 : decode cX10_marginOf 1 = .ok (.iload_n 1, 1) := by decide +kernel
theorem dX10_marginOf_2 : decode cX10_marginOf 2 = .ok (.iconst 1, 1) := by decide +kernel
theorem dX10_marginOf_3 : decode cX10_marginOf 3 = .ok (.invokevirtual 58, 3) := by decide +kernel
theorem dX10_marginOf_6 : decode cX10_marginOf 6 = .ok (.aload_n 0, 1) := by decide +kernel
theorem dX10_marginOf_7 : decode cX10_marginOf 7 = .ok (.iload_n 1, 1) := by decide +kernel
theorem dX10_marginOf_8 : decode cX10_marginOf 8 = .ok (.iconst 0, 1) := by decide +kernel
theorem dX10_marginOf_9 : decode cX10_marginOf 9 = .ok (.invokevirtual 58, 3) := by decide +kernel
theorem dX10_marginOf_12 : decode cX10_marginOf 12 = .ok (.isub, 1) := by decide +kernel
theorem dX10_marginOf_13 : decode cX10_marginOf 13 = .ok (.iconst 2, 1) := by decide +kernel
theorem dX10_marginOf_14 : decode cX10_marginOf 14 = .ok (.aload_n 0, 1) := by decide +kernel
theorem dX10_marginOf_15 : decode cX10_marginOf 15 = .ok (.iload_n 1, 1) := by decide +kernel
theorem dX10_marginOf_16 : decode cX10_marginOf 16 = .ok (.invokevirtual 61, 3) := by decide +kernel
theorem dX10_marginOf_19 : decode cX10_marginOf 19 = .ok (.imul, 1) := by decide +kernel
theorem dX10_marginOf_20 : decode cX10_marginOf 20 = .ok (.isub, 1) := by decide +kernel
theorem dX10_marginOf_21 : decode cX10_marginOf 21 = .ok (.ireturn, 1) := by decide +kernel
theorem dX10_findCase_0 : decode cX10_findCase 0 = .ok (.iconst 0, 1) := by decide +kernel
theorem dX10_findCase_1 : decode cX10_findCase 1 = .ok (.istore_n 3, 1) := by decide +kernel
theorem dX10_findCase_2 : decode cX10_findCase 2 = .ok (.iload_n 3, 1) := by decide +kernel
theorem dX10_findCase_3 : decode cX10_findCase 3 = .ok (.aload_n 0, 1) := by decide +kernel
theorem dX10_findCase_4 : decode cX10_findCase 4 = .ok (.getfield 9, 3) := by decide +kernel
theorem dX10_findCase_7 : decode cX10_findCase 7 = .ok (.iconst 0, 1) := by decide +kernel
theorem dX10_findCase_8 : decode cX10_findCase 8 = .ok (.iaload, 1) := by decide +kernel
theorem dX10_findCase_9 : decode cX10_findCase 9 = .ok (.if_icmp .ge 31, 3) := by decide +kernel
theorem dX10_findCase_12 : decode cX10_findCase 12 = .ok (.aload_n 0, 1) := by decide +kernel
theorem dX10_findCase_13 : decode cX10_findCase 13 = .ok (.iload_n 3, 1) := by decide +kernel
theorem dX10_findCase_14 : decode cX10_findCase 14 = .ok (.iconst 0, 1) := by decide +kernel
theorem dX10_findCase_15 : decode cX10_findCase 15 = .ok (.invokevirtual 47, 3) := by decide +kernel
theorem dX10_findCase_18 : decode cX10_findCase 18 = .ok (.iload_n 1, 1) := by decide +kernel
theorem dX10_findCase_19 : decode cX10_findCase 19 = .ok (.if_icmp .ne 15, 3) := by decide +kernel
theorem dX10_findCase_22 : decode cX10_findCase 22 = .ok (.aload_n 0, 1) := by decide +kernel
theorem dX10_findCase_23 : decode cX10_findCase 23 = .ok (.iload_n 3, 1) := by decide +kernel
theorem dX10_findCase_24 : decode cX10_findCase 24 = .ok (.iconst 1, 1) := by decide +kernel
theorem dX10_findCase_25 : decode cX10_findCase 25 = .ok (.invokevirtual 47, 3) := by decide +kernel
theorem dX10_findCase_28 : decode cX10_findCase 28 = .ok (.iload_n 2, 1) := by decide +kernel
theorem dX10_findCase_29 : decode cX10_findCase 29 = .ok (.if_icmp .ne 5, 3) := by decide +kernel
theorem dX10_findCase_32 : decode cX10_findCase 32 = .ok (.iload_n 3, 1) := by decide +kernel
theorem dX10_findCase_33 : decode cX10_findCase 33 = .ok (.ireturn, 1) := by decide +kernel
theorem dX10_findCase_34 : decode cX10_findCase 34 = .ok (.iinc 3 1, 3) := by decide +kernel
theorem dX10_findCase_37 : decode cX10_findCase 37 = .ok (.goto (-35), 3) := by decide +kernel
theorem dX10_findCase_40 : decode cX10_findCase 40 = .ok (.iconst (-1), 1) := by decide +kernel
theorem dX10_findCase_41 : decode cX10_findCase 41 = .ok (.ireturn, 1) := by decide +kernel
theorem dX10_isDefendant_0 : decode cX10_isDefendant 0 = .ok (.iload_n 0, 1) := by decide +kernel
theorem dX10_isDefendant_1 : decode cX10_isDefendant 1 = .ok (.iconst 0, 1) := by decide +kernel
theorem dX10_isDefendant_2 : decode cX10_isDefendant 2 = .ok (.iconst 5, 1) := by decide +kernel
theorem dX10_isDefendant_3 : decode cX10_isDefendant 3 = .ok (.invokestatic 43, 3) := by decide +kernel
theorem dX10_isDefendant_6 : decode cX10_isDefendant 6 = .ok (.ireturn, 1) := by decide +kernel
theorem dX10_isOffence_0 : decode cX10_isOffence 0 = .ok (.iload_n 0, 1) := by decide +kernel
theorem dX10_isOffence_1 : decode cX10_isOffence 1 = .ok (.iconst 0, 1) := by decide +kernel
theorem dX10_isOffence_2 : decode cX10_isOffence 2 = .ok (.iconst 4, 1) := by decide +kernel
theorem dX10_isOffence_3 : decode cX10_isOffence 3 = .ok (.invokestatic 43, 3) := by decide +kernel
theorem dX10_isOffence_6 : decode cX10_isOffence 6 = .ok (.ireturn, 1) := by decide +kernel
theorem dX10_charges_0 : decode cX10_charges 0 = .ok (.iload_n 1, 1) := by decide +kernel
theorem dX10_charges_1 : decode cX10_charges 1 = .ok (.invokestatic 65, 3) := by decide +kernel
theorem dX10_charges_4 : decode cX10_charges 4 = .ok (.ifCond .eq 10, 3) := by decide +kernel
theorem dX10_charges_7 : decode cX10_charges 7 = .ok (.iload_n 2, 1) := by decide +kernel
theorem dX10_charges_8 : decode cX10_charges 8 = .ok (.invokestatic 69, 3) := by decide +kernel
theorem dX10_charges_11 : decode cX10_charges 11 = .ok (.ifCond .ne 5, 3) := by decide +kernel
theorem dX10_charges_14 : decode cX10_charges 14 = .ok (.iconst 2, 1) := by decide +kernel
theorem dX10_charges_15 : decode cX10_charges 15 = .ok (.ireturn, 1) := by decide +kernel
theorem dX10_charges_16 : decode cX10_charges 16 = .ok (.aload_n 0, 1) := by decide +kernel
theorem dX10_charges_17 : decode cX10_charges 17 = .ok (.getfield 9, 3) := by decide +kernel
theorem dX10_charges_20 : decode cX10_charges 20 = .ok (.iconst 0, 1) := by decide +kernel
theorem dX10_charges_21 : decode cX10_charges 21 = .ok (.iaload, 1) := by decide +kernel
theorem dX10_charges_22 : decode cX10_charges 22 = .ok (.istore_n 3, 1) := by decide +kernel
theorem dX10_charges_23 : decode cX10_charges 23 = .ok (.aload_n 0, 1) := by decide +kernel
theorem dX10_charges_24 : decode cX10_charges 24 = .ok (.iload_n 1, 1) := by decide +kernel
theorem dX10_charges_25 : decode cX10_charges 25 = .ok (.iload_n 2, 1) := by decide +kernel
theorem dX10_charges_26 : decode cX10_charges 26 = .ok (.invokevirtual 72, 3) := by decide +kernel
theorem dX10_charges_29 : decode cX10_charges 29 = .ok (.ifCond .ge 9, 3) := by decide +kernel
theorem dX10_charges_32 : decode cX10_charges 32 = .ok (.iload_n 3, 1) := by decide +kernel
theorem dX10_charges_33 : decode cX10_charges 33 = .ok (.bipush 16, 2) := by decide +kernel
theorem dX10_charges_35 : decode cX10_charges 35 = .ok (.if_icmp .ne 5, 3) := by decide +kernel
theorem dX10_charges_38 : decode cX10_charges 38 = .ok (.iconst 4, 1) := by decide +kernel
theorem dX10_charges_39 : decode cX10_charges 39 = .ok (.ireturn, 1) := by decide +kernel
theorem dX10_charges_40 : decode cX10_charges 40 = .ok (.aload_n 0, 1) := by decide +kernel
theorem dX10_charges_41 : decode cX10_charges 41 = .ok (.getfield 9, 3) := by decide +kernel
theorem dX10_charges_44 : decode cX10_charges 44 = .ok (.iconst 0, 1) := by decide +kernel
theorem dX10_charges_45 : decode cX10_charges 45 = .ok (.dup2, 1) := by decide +kernel
theorem dX10_charges_46 : decode cX10_charges 46 = .ok (.iaload, 1) := by decide +kernel
theorem dX10_charges_47 : decode cX10_charges 47 = .ok (.iconst 1, 1) := by decide +kernel
theorem dX10_charges_48 : decode cX10_charges 48 = .ok (.iadd, 1) := by decide +kernel
theorem dX10_charges_49 : decode cX10_charges 49 = .ok (.iastore, 1) := by decide +kernel
theorem dX10_charges_50 : decode cX10_charges 50 = .ok (.iconst 0, 1) := by decide +kernel
theorem dX10_charges_51 : decode cX10_charges 51 = .ok (.istore 4, 2) := by decide +kernel
theorem dX10_charges_53 : decode cX10_charges 53 = .ok (.iload 4, 2) := by decide +kernel
theorem dX10_charges_55 : decode cX10_charges 55 = .ok (.bipush 30, 2) := by decide +kernel
theorem dX10_charges_57 : decode cX10_charges 57 = .ok (.if_icmp .ge 17, 3) := by decide +kernel
theorem dX10_charges_60 : decode cX10_charges 60 = .ok (.aload_n 0, 1) := by decide +kernel
theorem dX10_charges_61 : decode cX10_charges 61 = .ok (.iload_n 3, 1) := by decide +kernel
theorem dX10_charges_62 : decode cX10_charges 62 = .ok (.iload 4, 2) := by decide +kernel
theorem dX10_charges_64 : decode cX10_charges 64 = .ok (.iconst 0, 1) := by decide +kernel
theorem dX10_charges_65 : decode cX10_charges 65 = .ok (.invokevirtual 75, 3) := by decide +kernel
theorem dX10_charges_68 : decode cX10_charges 68 = .ok (.iinc 4 1, 3) := by decide +kernel
theorem dX10_charges_71 : decode cX10_charges 71 = .ok (.goto (-18), 3) := by decide +kernel
theorem dX10_charges_74 : decode cX10_charges 74 = .ok (.aload_n 0, 1) := by decide +kernel
theorem dX10_charges_75 : decode cX10_charges 75 = .ok (.iload_n 3, 1) := by decide +kernel
theorem dX10_charges_76 : decode cX10_charges 76 = .ok (.iconst 0, 1) := by decide +kernel
theorem dX10_charges_77 : decode cX10_charges 77 = .ok (.iload_n 1, 1) := by decide +kernel
theorem dX10_charges_78 : decode cX10_charges 78 = .ok (.invokevirtual 75, 3) := by decide +kernel
theorem dX10_charges_81 : decode cX10_charges 81 = .ok (.aload_n 0, 1) := by decide +kernel
theorem dX10_charges_82 : decode cX10_charges 82 = .ok (.iload_n 3, 1) := by decide +kernel
theorem dX10_charges_83 : decode cX10_charges 83 = .ok (.iconst 1, 1) := by decide +kernel
theorem dX10_charges_84 : decode cX10_charges 84 = .ok (.iload_n 2, 1) := by decide +kernel
theorem dX10_charges_85 : decode cX10_charges 85 = .ok (.invokevirtual 75, 3) := by decide +kernel
theorem dX10_charges_88 : decode cX10_charges 88 = .ok (.aload_n 0, 1) := by decide +kernel
theorem dX10_charges_89 : decode cX10_charges 89 = .ok (.iload_n 3, 1) := by decide +kernel
theorem dX10_charges_90 : decode cX10_charges 90 = .ok (.putfield 40, 3) := by decide +kernel
theorem dX10_charges_93 : decode cX10_charges 93 = .ok (.iconst 0, 1) := by decide +kernel
theorem dX10_charges_94 : decode cX10_charges 94 = .ok (.ireturn, 1) := by decide +kernel
theorem dX10_charge_0 : decode cX10_charge 0 = .ok (.aload_n 0, 1) := by decide +kernel
theorem dX10_charge_1 : decode cX10_charge 1 = .ok (.invokevirtual 79, 3) := by decide +kernel
theorem dX10_charge_4 : decode cX10_charge 4 = .ok (.aload_n 0, 1) := by decide +kernel
theorem dX10_charge_5 : decode cX10_charge 5 = .ok (.aload_n 0, 1) := by decide +kernel
theorem dX10_charge_6 : decode cX10_charge 6 = .ok (.iload_n 1, 1) := by decide +kernel
theorem dX10_charge_7 : decode cX10_charge 7 = .ok (.iload_n 2, 1) := by decide +kernel
theorem dX10_charge_8 : decode cX10_charge 8 = .ok (.invokevirtual 82, 3) := by decide +kernel
theorem dX10_charge_11 : decode cX10_charge 11 = .ok (.iconst 0, 1) := by decide +kernel
theorem dX10_charge_12 : decode cX10_charge 12 = .ok (.iconst 1, 1) := by decide +kernel
theorem dX10_charge_13 : decode cX10_charge 13 = .ok (.iconst 0, 1) := by decide +kernel
theorem dX10_charge_14 : decode cX10_charge 14 = .ok (.iconst 2, 1) := by decide +kernel
theorem dX10_charge_15 : decode cX10_charge 15 = .ok (.invokevirtual 85, 3) := by decide +kernel
theorem dX10_charge_18 : decode cX10_charge 18 = .ok (.ireturn, 1) := by decide +kernel
theorem dX10_registers_0 : decode cX10_registers 0 = .ok (.iload_n 1, 1) := by decide +kernel
theorem dX10_registers_1 : decode cX10_registers 1 = .ok (.iconst 0, 1) := by decide +kernel
theorem dX10_registers_2 : decode cX10_registers 2 = .ok (.bipush 9, 2) := by decide +kernel
theorem dX10_registers_4 : decode cX10_registers 4 = .ok (.invokestatic 43, 3) := by decide +kernel
theorem dX10_registers_7 : decode cX10_registers 7 = .ok (.ifCond .ne 5, 3) := by decide +kernel
theorem dX10_registers_10 : decode cX10_registers 10 = .ok (.iconst 2, 1) := by decide +kernel
theorem dX10_registers_11 : decode cX10_registers 11 = .ok (.ireturn, 1) := by decide +kernel
theorem dX10_registers_12 : decode cX10_registers 12 = .ok (.aload_n 0, 1) := by decide +kernel
theorem dX10_registers_13 : decode cX10_registers 13 = .ok (.getfield 9, 3) := by decide +kernel
theorem dX10_registers_16 : decode cX10_registers 16 = .ok (.iconst 1, 1) := by decide +kernel
theorem dX10_registers_17 : decode cX10_registers 17 = .ok (.iaload, 1) := by decide +kernel
theorem dX10_registers_18 : decode cX10_registers 18 = .ok (.bipush 8, 2) := by decide +kernel
theorem dX10_registers_20 : decode cX10_registers 20 = .ok (.if_icmp .ne 5, 3) := by decide +kernel
theorem dX10_registers_23 : decode cX10_registers 23 = .ok (.iconst 4, 1) := by decide +kernel
theorem dX10_registers_24 : decode cX10_registers 24 = .ok (.ireturn, 1) := by decide +kernel
theorem dX10_registers_25 : decode cX10_registers 25 = .ok (.aload_n 0, 1) := by decide +kernel
theorem dX10_registers_26 : decode cX10_registers 26 = .ok (.aload_n 0, 1) := by decide +kernel
theorem dX10_registers_27 : decode cX10_registers 27 = .ok (.getfield 9, 3) := by decide +kernel
theorem dX10_registers_30 : decode cX10_registers 30 = .ok (.iconst 1, 1) := by decide +kernel
theorem dX10_registers_31 : decode cX10_registers 31 = .ok (.iaload, 1) := by decide +kernel
theorem dX10_registers_32 : decode cX10_registers 32 = .ok (.putfield 40, 3) := by decide +kernel
theorem dX10_registers_35 : decode cX10_registers 35 = .ok (.aload_n 0, 1) := by decide +kernel
theorem dX10_registers_36 : decode cX10_registers 36 = .ok (.getfield 9, 3) := by decide +kernel
theorem dX10_registers_39 : decode cX10_registers 39 = .ok (.iconst 1, 1) := by decide +kernel
theorem dX10_registers_40 : decode cX10_registers 40 = .ok (.dup2, 1) := by decide +kernel
theorem dX10_registers_41 : decode cX10_registers 41 = .ok (.iaload, 1) := by decide +kernel
theorem dX10_registers_42 : decode cX10_registers 42 = .ok (.iconst 1, 1) := by decide +kernel
theorem dX10_registers_43 : decode cX10_registers 43 = .ok (.iadd, 1) := by decide +kernel
theorem dX10_registers_44 : decode cX10_registers 44 = .ok (.iastore, 1) := by decide +kernel
theorem dX10_registers_45 : decode cX10_registers 45 = .ok (.aload_n 0, 1) := by decide +kernel
theorem dX10_registers_46 : decode cX10_registers 46 = .ok (.getfield 9, 3) := by decide +kernel
theorem dX10_registers_49 : decode cX10_registers 49 = .ok (.iconst 4, 1) := by decide +kernel
theorem dX10_registers_50 : decode cX10_registers 50 = .ok (.aload_n 0, 1) := by decide +kernel
theorem dX10_registers_51 : decode cX10_registers 51 = .ok (.getfield 40, 3) := by decide +kernel
theorem dX10_registers_54 : decode cX10_registers 54 = .ok (.iadd, 1) := by decide +kernel
theorem dX10_registers_55 : decode cX10_registers 55 = .ok (.iload_n 1, 1) := by decide +kernel
theorem dX10_registers_56 : decode cX10_registers 56 = .ok (.iastore, 1) := by decide +kernel
theorem dX10_registers_57 : decode cX10_registers 57 = .ok (.iconst 0, 1) := by decide +kernel
theorem dX10_registers_58 : decode cX10_registers 58 = .ok (.ireturn, 1) := by decide +kernel
theorem dX10_addWitness_0 : decode cX10_addWitness 0 = .ok (.aload_n 0, 1) := by decide +kernel
theorem dX10_addWitness_1 : decode cX10_addWitness 1 = .ok (.invokevirtual 79, 3) := by decide +kernel
theorem dX10_addWitness_4 : decode cX10_addWitness 4 = .ok (.aload_n 0, 1) := by decide +kernel
theorem dX10_addWitness_5 : decode cX10_addWitness 5 = .ok (.aload_n 0, 1) := by decide +kernel
theorem dX10_addWitness_6 : decode cX10_addWitness 6 = .ok (.iload_n 1, 1) := by decide +kernel
theorem dX10_addWitness_7 : decode cX10_addWitness 7 = .ok (.invokevirtual 89, 3) := by decide +kernel
theorem dX10_addWitness_10 : decode cX10_addWitness 10 = .ok (.iconst 0, 1) := by decide +kernel
theorem dX10_addWitness_11 : decode cX10_addWitness 11 = .ok (.iconst 1, 1) := by decide +kernel
theorem dX10_addWitness_12 : decode cX10_addWitness 12 = .ok (.iconst 0, 1) := by decide +kernel
theorem dX10_addWitness_13 : decode cX10_addWitness 13 = .ok (.iconst 2, 1) := by decide +kernel
theorem dX10_addWitness_14 : decode cX10_addWitness 14 = .ok (.invokevirtual 85, 3) := by decide +kernel
theorem dX10_addWitness_17 : decode cX10_addWitness 17 = .ok (.ireturn, 1) := by decide +kernel
theorem dX10_testifies_0 : decode cX10_testifies 0 = .ok (.aload_n 0, 1) := by decide +kernel
theorem dX10_testifies_1 : decode cX10_testifies 1 = .ok (.iload_n 1, 1) := by decide +kernel
theorem dX10_testifies_2 : decode cX10_testifies 2 = .ok (.invokevirtual 92, 3) := by decide +kernel
theorem dX10_testifies_5 : decode cX10_testifies 5 = .ok (.ifCond .eq 11, 3) := by decide +kernel
theorem dX10_testifies_8 : decode cX10_testifies 8 = .ok (.aload_n 0, 1) := by decide +kernel
theorem dX10_testifies_9 : decode cX10_testifies 9 = .ok (.iload_n 2, 1) := by decide +kernel
theorem dX10_testifies_10 : decode cX10_testifies 10 = .ok (.invokevirtual 95, 3) := by decide +kernel
theorem dX10_testifies_13 : decode cX10_testifies 13 = .ok (.ifCond .ne 5, 3) := by decide +kernel
theorem dX10_testifies_16 : decode cX10_testifies 16 = .ok (.iconst 1, 1) := by decide +kernel
theorem dX10_testifies_17 : decode cX10_testifies 17 = .ok (.ireturn, 1) := by decide +kernel
theorem dX10_testifies_18 : decode cX10_testifies 18 = .ok (.iload 4, 2) := by decide +kernel
theorem dX10_testifies_20 : decode cX10_testifies 20 = .ok (.iconst 1, 1) := by decide +kernel
theorem dX10_testifies_21 : decode cX10_testifies 21 = .ok (.iconst 5, 1) := by decide +kernel
theorem dX10_testifies_22 : decode cX10_testifies 22 = .ok (.invokestatic 43, 3) := by decide +kernel
theorem dX10_testifies_25 : decode cX10_testifies 25 = .ok (.ifCond .ne 5, 3) := by decide +kernel
theorem dX10_testifies_28 : decode cX10_testifies 28 = .ok (.iconst 2, 1) := by decide +kernel
theorem dX10_testifies_29 : decode cX10_testifies 29 = .ok (.ireturn, 1) := by decide +kernel
theorem dX10_testifies_30 : decode cX10_testifies 30 = .ok (.aload_n 0, 1) := by decide +kernel
theorem dX10_testifies_31 : decode cX10_testifies 31 = .ok (.iload_n 1, 1) := by decide +kernel
theorem dX10_testifies_32 : decode cX10_testifies 32 = .ok (.iconst 5, 1) := by decide +kernel
theorem dX10_testifies_33 : decode cX10_testifies 33 = .ok (.invokevirtual 47, 3) := by decide +kernel
theorem dX10_testifies_36 : decode cX10_testifies 36 = .ok (.istore 5, 2) := by decide +kernel
theorem dX10_testifies_38 : decode cX10_testifies 38 = .ok (.aload_n 0, 1) := by decide +kernel
theorem dX10_testifies_39 : decode cX10_testifies 39 = .ok (.iload_n 1, 1) := by decide +kernel
theorem dX10_testifies_40 : decode cX10_testifies 40 = .ok (.iconst 2, 1) := by decide +kernel
theorem dX10_testifies_41 : decode cX10_testifies 41 = .ok (.invokevirtual 47, 3) := by decide +kernel
theorem dX10_testifies_44 : decode cX10_testifies 44 = .ok (.ifCond .ne 19, 3) := by decide +kernel
theorem dX10_testifies_47 : decode cX10_testifies 47 = .ok (.aload_n 0, 1) := by decide +kernel
theorem dX10_testifies_48 : decode cX10_testifies 48 = .ok (.iload_n 1, 1) := by decide +kernel
theorem dX10_testifies_49 : decode cX10_testifies 49 = .ok (.iload_n 2, 1) := by decide +kernel
theorem dX10_testifies_50 : decode cX10_testifies 50 = .ok (.invokevirtual 98, 3) := by decide +kernel
theorem dX10_testifies_53 : decode cX10_testifies 53 = .ok (.ifCond .ge 10, 3) := by decide +kernel
theorem dX10_testifies_56 : decode cX10_testifies 56 = .ok (.iload 5, 2) := by decide +kernel
theorem dX10_testifies_58 : decode cX10_testifies 58 = .ok (.bipush 6, 2) := by decide +kernel
theorem dX10_testifies_60 : decode cX10_testifies 60 = .ok (.if_icmp .ne 5, 3) := by decide +kernel
theorem dX10_testifies_63 : decode cX10_testifies 63 = .ok (.iconst 4, 1) := by decide +kernel
theorem dX10_testifies_64 : decode cX10_testifies 64 = .ok (.ireturn, 1) := by decide +kernel
theorem dX10_testifies_65 : decode cX10_testifies 65 = .ok (.aload_n 0, 1) := by decide +kernel
theorem dX10_testifies_66 : decode cX10_testifies 66 = .ok (.iload_n 1, 1) := by decide +kernel
theorem dX10_testifies_67 : decode cX10_testifies 67 = .ok (.bipush 6, 2) := by decide +kernel
theorem dX10_testifies_69 : decode cX10_testifies 69 = .ok (.iconst 4, 1) := by decide +kernel
theorem dX10_testifies_70 : decode cX10_testifies 70 = .ok (.iload 5, 2) := by decide +kernel
theorem dX10_testifies_72 : decode cX10_testifies 72 = .ok (.imul, 1) := by decide +kernel
theorem dX10_testifies_73 : decode cX10_testifies 73 = .ok (.iadd, 1) := by decide +kernel
theorem dX10_testifies_74 : decode cX10_testifies 74 = .ok (.iconst 0, 1) := by decide +kernel
theorem dX10_testifies_75 : decode cX10_testifies 75 = .ok (.iadd, 1) := by decide +kernel
theorem dX10_testifies_76 : decode cX10_testifies 76 = .ok (.iload_n 2, 1) := by decide +kernel
theorem dX10_testifies_77 : decode cX10_testifies 77 = .ok (.invokevirtual 75, 3) := by decide +kernel
theorem dX10_testifies_80 : decode cX10_testifies 80 = .ok (.aload_n 0, 1) := by decide +kernel
theorem dX10_testifies_81 : decode cX10_testifies 81 = .ok (.iload_n 1, 1) := by decide +kernel
theorem dX10_testifies_82 : decode cX10_testifies 82 = .ok (.bipush 6, 2) := by decide +kernel
theorem dX10_testifies_84 : decode cX10_testifies 84 = .ok (.iconst 4, 1) := by decide +kernel
theorem dX10_testifies_85 : decode cX10_testifies 85 = .ok (.iload 5, 2) := by decide +kernel
theorem dX10_testifies_87 : decode cX10_testifies 87 = .ok (.imul, 1) := by decide +kernel
theorem dX10_testifies_88 : decode cX10_testifies 88 = .ok (.iadd, 1) := by decide +kernel
theorem dX10_testifies_89 : decode cX10_testifies 89 = .ok (.iconst 1, 1) := by decide +kernel
theorem dX10_testifies_90 : decode cX10_testifies 90 = .ok (.iadd, 1) := by decide +kernel
theorem dX10_testifies_91 : decode cX10_testifies 91 = .ok (.iload_n 3, 1) := by decide +kernel
theorem dX10_testifies_92 : decode cX10_testifies 92 = .ok (.invokevirtual 75, 3) := by decide +kernel
theorem dX10_testifies_95 : decode cX10_testifies 95 = .ok (.aload_n 0, 1) := by decide +kernel
theorem dX10_testifies_96 : decode cX10_testifies 96 = .ok (.iload_n 1, 1) := by decide +kernel
theorem dX10_testifies_97 : decode cX10_testifies 97 = .ok (.bipush 6, 2) := by decide +kernel
theorem dX10_testifies_99 : decode cX10_testifies 99 = .ok (.iconst 4, 1) := by decide +kernel
theorem dX10_testifies_100 : decode cX10_testifies 100 = .ok (.iload 5, 2) := by decide +kernel
theorem dX10_testifies_102 : decode cX10_testifies 102 = .ok (.imul, 1) := by decide +kernel
theorem dX10_testifies_103 : decode cX10_testifies 103 = .ok (.iadd, 1) := by decide +kernel
theorem dX10_testifies_104 : decode cX10_testifies 104 = .ok (.iconst 2, 1) := by decide +kernel
theorem dX10_testifies_105 : decode cX10_testifies 105 = .ok (.iadd, 1) := by decide +kernel
theorem dX10_testifies_106 : decode cX10_testifies 106 = .ok (.iload 4, 2) := by decide +kernel
theorem dX10_testifies_108 : decode cX10_testifies 108 = .ok (.invokevirtual 75, 3) := by decide +kernel
theorem dX10_testifies_111 : decode cX10_testifies 111 = .ok (.aload_n 0, 1) := by decide +kernel
theorem dX10_testifies_112 : decode cX10_testifies 112 = .ok (.iload_n 1, 1) := by decide +kernel
theorem dX10_testifies_113 : decode cX10_testifies 113 = .ok (.bipush 6, 2) := by decide +kernel
theorem dX10_testifies_115 : decode cX10_testifies 115 = .ok (.iconst 4, 1) := by decide +kernel
theorem dX10_testifies_116 : decode cX10_testifies 116 = .ok (.iload 5, 2) := by decide +kernel
theorem dX10_testifies_118 : decode cX10_testifies 118 = .ok (.imul, 1) := by decide +kernel
theorem dX10_testifies_119 : decode cX10_testifies 119 = .ok (.iadd, 1) := by decide +kernel
theorem dX10_testifies_120 : decode cX10_testifies 120 = .ok (.iconst 3, 1) := by decide +kernel
theorem dX10_testifies_121 : decode cX10_testifies 121 = .ok (.iadd, 1) := by decide +kernel
theorem dX10_testifies_122 : decode cX10_testifies 122 = .ok (.iconst 0, 1) := by decide +kernel
theorem dX10_testifies_123 : decode cX10_testifies 123 = .ok (.invokevirtual 75, 3) := by decide +kernel
theorem dX10_testifies_126 : decode cX10_testifies 126 = .ok (.aload_n 0, 1) := by decide +kernel
theorem dX10_testifies_127 : decode cX10_testifies 127 = .ok (.iload_n 1, 1) := by decide +kernel
theorem dX10_testifies_128 : decode cX10_testifies 128 = .ok (.iconst 5, 1) := by decide +kernel
theorem dX10_testifies_129 : decode cX10_testifies 129 = .ok (.iload 5, 2) := by decide +kernel
theorem dX10_testifies_131 : decode cX10_testifies 131 = .ok (.iconst 1, 1) := by decide +kernel
theorem dX10_testifies_132 : decode cX10_testifies 132 = .ok (.iadd, 1) := by decide +kernel
theorem dX10_testifies_133 : decode cX10_testifies 133 = .ok (.invokevirtual 75, 3) := by decide +kernel
theorem dX10_testifies_136 : decode cX10_testifies 136 = .ok (.aload_n 0, 1) := by decide +kernel
theorem dX10_testifies_137 : decode cX10_testifies 137 = .ok (.iload 5, 2) := by decide +kernel
theorem dX10_testifies_139 : decode cX10_testifies 139 = .ok (.iconst 1, 1) := by decide +kernel
theorem dX10_testifies_140 : decode cX10_testifies 140 = .ok (.iadd, 1) := by decide +kernel
theorem dX10_testifies_141 : decode cX10_testifies 141 = .ok (.putfield 40, 3) := by decide +kernel
theorem dX10_testifies_144 : decode cX10_testifies 144 = .ok (.iconst 0, 1) := by decide +kernel
theorem dX10_testifies_145 : decode cX10_testifies 145 = .ok (.ireturn, 1) := by decide +kernel
theorem dX10_testify_0 : decode cX10_testify 0 = .ok (.aload_n 0, 1) := by decide +kernel
theorem dX10_testify_1 : decode cX10_testify 1 = .ok (.invokevirtual 79, 3) := by decide +kernel
theorem dX10_testify_4 : decode cX10_testify 4 = .ok (.aload_n 0, 1) := by decide +kernel
theorem dX10_testify_5 : decode cX10_testify 5 = .ok (.aload_n 0, 1) := by decide +kernel
theorem dX10_testify_6 : decode cX10_testify 6 = .ok (.iload_n 1, 1) := by decide +kernel
theorem dX10_testify_7 : decode cX10_testify 7 = .ok (.iload_n 2, 1) := by decide +kernel
theorem dX10_testify_8 : decode cX10_testify 8 = .ok (.iload_n 3, 1) := by decide +kernel
theorem dX10_testify_9 : decode cX10_testify 9 = .ok (.ifCond .eq 7, 3) := by decide +kernel
theorem dX10_testify_12 : decode cX10_testify 12 = .ok (.iconst 1, 1) := by decide +kernel
theorem dX10_testify_13 : decode cX10_testify 13 = .ok (.goto 4, 3) := by decide +kernel
theorem dX10_testify_16 : decode cX10_testify 16 = .ok (.iconst 0, 1) := by decide +kernel
theorem dX10_testify_17 : decode cX10_testify 17 = .ok (.iload 4, 2) := by decide +kernel
theorem dX10_testify_19 : decode cX10_testify 19 = .ok (.invokevirtual 101, 3) := by decide +kernel
theorem dX10_testify_22 : decode cX10_testify 22 = .ok (.iconst 1, 1) := by decide +kernel
theorem dX10_testify_23 : decode cX10_testify 23 = .ok (.iconst 2, 1) := by decide +kernel
theorem dX10_testify_24 : decode cX10_testify 24 = .ok (.iconst 0, 1) := by decide +kernel
theorem dX10_testify_25 : decode cX10_testify 25 = .ok (.iconst 3, 1) := by decide +kernel
theorem dX10_testify_26 : decode cX10_testify 26 = .ok (.invokevirtual 85, 3) := by decide +kernel
theorem dX10_testify_29 : decode cX10_testify 29 = .ok (.ireturn, 1) := by decide +kernel
theorem dX10_asks_0 : decode cX10_asks 0 = .ok (.aload_n 0, 1) := by decide +kernel
theorem dX10_asks_1 : decode cX10_asks 1 = .ok (.iload_n 1, 1) := by decide +kernel
theorem dX10_asks_2 : decode cX10_asks 2 = .ok (.invokevirtual 92, 3) := by decide +kernel
theorem dX10_asks_5 : decode cX10_asks 5 = .ok (.ifCond .eq 11, 3) := by decide +kernel
theorem dX10_asks_8 : decode cX10_asks 8 = .ok (.aload_n 0, 1) := by decide +kernel
theorem dX10_asks_9 : decode cX10_asks 9 = .ok (.iload_n 2, 1) := by decide +kernel
theorem dX10_asks_10 : decode cX10_asks 10 = .ok (.invokevirtual 95, 3) := by decide +kernel
theorem dX10_asks_13 : decode cX10_asks 13 = .ok (.ifCond .ne 5, 3) := by decide +kernel
theorem dX10_asks_16 : decode cX10_asks 16 = .ok (.iconst 1, 1) := by decide +kernel
theorem dX10_asks_17 : decode cX10_asks 17 = .ok (.ireturn, 1) := by decide +kernel
theorem dX10_asks_18 : decode cX10_asks 18 = .ok (.aload_n 0, 1) := by decide +kernel
theorem dX10_asks_19 : decode cX10_asks 19 = .ok (.iload_n 1, 1) := by decide +kernel
theorem dX10_asks_20 : decode cX10_asks 20 = .ok (.iload_n 2, 1) := by decide +kernel
theorem dX10_asks_21 : decode cX10_asks 21 = .ok (.invokevirtual 98, 3) := by decide +kernel
theorem dX10_asks_24 : decode cX10_asks 24 = .ok (.istore 4, 2) := by decide +kernel
theorem dX10_asks_26 : decode cX10_asks 26 = .ok (.iload 4, 2) := by decide +kernel
theorem dX10_asks_28 : decode cX10_asks 28 = .ok (.ifCond .ge 5, 3) := by decide +kernel
theorem dX10_asks_31 : decode cX10_asks 31 = .ok (.iconst 3, 1) := by decide +kernel
theorem dX10_asks_32 : decode cX10_asks 32 = .ok (.ireturn, 1) := by decide +kernel
theorem dX10_asks_33 : decode cX10_asks 33 = .ok (.aload_n 0, 1) := by decide +kernel
theorem dX10_asks_34 : decode cX10_asks 34 = .ok (.iload_n 1, 1) := by decide +kernel
theorem dX10_asks_35 : decode cX10_asks 35 = .ok (.iconst 2, 1) := by decide +kernel
theorem dX10_asks_36 : decode cX10_asks 36 = .ok (.invokevirtual 47, 3) := by decide +kernel
theorem dX10_asks_39 : decode cX10_asks 39 = .ok (.ifCond .ne 15, 3) := by decide +kernel
theorem dX10_asks_42 : decode cX10_asks 42 = .ok (.aload_n 0, 1) := by decide +kernel
theorem dX10_asks_43 : decode cX10_asks 43 = .ok (.iload_n 1, 1) := by decide +kernel
theorem dX10_asks_44 : decode cX10_asks 44 = .ok (.iload 4, 2) := by decide +kernel
theorem dX10_asks_46 : decode cX10_asks 46 = .ok (.iconst 3, 1) := by decide +kernel
theorem dX10_asks_47 : decode cX10_asks 47 = .ok (.invokevirtual 51, 3) := by decide +kernel
theorem dX10_asks_50 : decode cX10_asks 50 = .ok (.iconst 2, 1) := by decide +kernel
theorem dX10_asks_51 : decode cX10_asks 51 = .ok (.if_icmp .ne 5, 3) := by decide +kernel
theorem dX10_asks_54 : decode cX10_asks 54 = .ok (.iconst 4, 1) := by decide +kernel
theorem dX10_asks_55 : decode cX10_asks 55 = .ok (.ireturn, 1) := by decide +kernel
theorem dX10_asks_56 : decode cX10_asks 56 = .ok (.aload_n 0, 1) := by decide +kernel
theorem dX10_asks_57 : decode cX10_asks 57 = .ok (.iload_n 1, 1) := by decide +kernel
theorem dX10_asks_58 : decode cX10_asks 58 = .ok (.bipush 6, 2) := by decide +kernel
theorem dX10_asks_60 : decode cX10_asks 60 = .ok (.iconst 4, 1) := by decide +kernel
theorem dX10_asks_61 : decode cX10_asks 61 = .ok (.iload 4, 2) := by decide +kernel
theorem dX10_asks_63 : decode cX10_asks 63 = .ok (.imul, 1) := by decide +kernel
theorem dX10_asks_64 : decode cX10_asks 64 = .ok (.iadd, 1) := by decide +kernel
theorem dX10_asks_65 : decode cX10_asks 65 = .ok (.iconst 3, 1) := by decide +kernel
theorem dX10_asks_66 : decode cX10_asks 66 = .ok (.iadd, 1) := by decide +kernel
theorem dX10_asks_67 : decode cX10_asks 67 = .ok (.aload_n 0, 1) := by decide +kernel
theorem dX10_asks_68 : decode cX10_asks 68 = .ok (.iload_n 1, 1) := by decide +kernel
theorem dX10_asks_69 : decode cX10_asks 69 = .ok (.iload 4, 2) := by decide +kernel
theorem dX10_asks_71 : decode cX10_asks 71 = .ok (.iconst 3, 1) := by decide +kernel
theorem dX10_asks_72 : decode cX10_asks 72 = .ok (.invokevirtual 51, 3) := by decide +kernel
theorem dX10_asks_75 : decode cX10_asks 75 = .ok (.iconst 1, 1) := by decide +kernel
theorem dX10_asks_76 : decode cX10_asks 76 = .ok (.iadd, 1) := by decide +kernel
theorem dX10_asks_77 : decode cX10_asks 77 = .ok (.invokevirtual 75, 3) := by decide +kernel
theorem dX10_asks_80 : decode cX10_asks 80 = .ok (.aload_n 0, 1) := by decide +kernel
theorem dX10_asks_81 : decode cX10_asks 81 = .ok (.getfield 9, 3) := by decide +kernel
theorem dX10_asks_84 : decode cX10_asks 84 = .ok (.iconst 4, 1) := by decide +kernel
theorem dX10_asks_85 : decode cX10_asks 85 = .ok (.iload_n 2, 1) := by decide +kernel
theorem dX10_asks_86 : decode cX10_asks 86 = .ok (.iadd, 1) := by decide +kernel
theorem dX10_asks_87 : decode cX10_asks 87 = .ok (.iaload, 1) := by decide +kernel
theorem dX10_asks_88 : decode cX10_asks 88 = .ok (.iload_n 3, 1) := by decide +kernel
theorem dX10_asks_89 : decode cX10_asks 89 = .ok (.ifCond .eq 7, 3) := by decide +kernel
theorem dX10_asks_92 : decode cX10_asks 92 = .ok (.iconst 1, 1) := by decide +kernel
theorem dX10_asks_93 : decode cX10_asks 93 = .ok (.goto 5, 3) := by decide +kernel
theorem dX10_asks_96 : decode cX10_asks 96 = .ok (.bipush (-2), 2) := by decide +kernel
theorem dX10_asks_98 : decode cX10_asks 98 = .ok (.iadd, 1) := by decide +kernel
theorem dX10_asks_99 : decode cX10_asks 99 = .ok (.istore 5, 2) := by decide +kernel
theorem dX10_asks_101 : decode cX10_asks 101 = .ok (.aload_n 0, 1) := by decide +kernel
theorem dX10_asks_102 : decode cX10_asks 102 = .ok (.iload 5, 2) := by decide +kernel
theorem dX10_asks_104 : decode cX10_asks 104 = .ok (.bipush 9, 2) := by decide +kernel
theorem dX10_asks_106 : decode cX10_asks 106 = .ok (.if_icmp .le 8, 3) := by decide +kernel
theorem dX10_asks_109 : decode cX10_asks 109 = .ok (.bipush 9, 2) := by decide +kernel
theorem dX10_asks_111 : decode cX10_asks 111 = .ok (.goto 14, 3) := by decide +kernel
theorem dX10_asks_114 : decode cX10_asks 114 = .ok (.iload 5, 2) := by decide +kernel
theorem dX10_asks_116 : decode cX10_asks 116 = .ok (.ifCond .ge 7, 3) := by decide +kernel
theorem dX10_asks_119 : decode cX10_asks 119 = .ok (.iconst 0, 1) := by decide +kernel
theorem dX10_asks_120 : decode cX10_asks 120 = .ok (.goto 5, 3) := by decide +kernel
theorem dX10_asks_123 : decode cX10_asks 123 = .ok (.iload 5, 2) := by decide +kernel
theorem dX10_asks_125 : decode cX10_asks 125 = .ok (.putfield 40, 3) := by decide +kernel
theorem dX10_asks_128 : decode cX10_asks 128 = .ok (.aload_n 0, 1) := by decide +kernel
theorem dX10_asks_129 : decode cX10_asks 129 = .ok (.getfield 9, 3) := by decide +kernel
theorem dX10_asks_132 : decode cX10_asks 132 = .ok (.iconst 4, 1) := by decide +kernel
theorem dX10_asks_133 : decode cX10_asks 133 = .ok (.iload_n 2, 1) := by decide +kernel
theorem dX10_asks_134 : decode cX10_asks 134 = .ok (.iadd, 1) := by decide +kernel
theorem dX10_asks_135 : decode cX10_asks 135 = .ok (.aload_n 0, 1) := by decide +kernel
theorem dX10_asks_136 : decode cX10_asks 136 = .ok (.getfield 40, 3) := by decide +kernel
theorem dX10_asks_139 : decode cX10_asks 139 = .ok (.iastore, 1) := by decide +kernel
theorem dX10_asks_140 : decode cX10_asks 140 = .ok (.aload_n 0, 1) := by decide +kernel
theorem dX10_asks_141 : decode cX10_asks 141 = .ok (.getfield 9, 3) := by decide +kernel
theorem dX10_asks_144 : decode cX10_asks 144 = .ok (.iconst 3, 1) := by decide +kernel
theorem dX10_asks_145 : decode cX10_asks 145 = .ok (.dup2, 1) := by decide +kernel
theorem dX10_asks_146 : decode cX10_asks 146 = .ok (.iaload, 1) := by decide +kernel
theorem dX10_asks_147 : decode cX10_asks 147 = .ok (.iconst 1, 1) := by decide +kernel
theorem dX10_asks_148 : decode cX10_asks 148 = .ok (.iadd, 1) := by decide +kernel
theorem dX10_asks_149 : decode cX10_asks 149 = .ok (.iastore, 1) := by decide +kernel
theorem dX10_asks_150 : decode cX10_asks 150 = .ok (.iconst 0, 1) := by decide +kernel
theorem dX10_asks_151 : decode cX10_asks 151 = .ok (.ireturn, 1) := by decide +kernel
theorem dX10_question_0 : decode cX10_question 0 = .ok (.aload_n 0, 1) := by decide +kernel
theorem dX10_question_1 : decode cX10_question 1 = .ok (.invokevirtual 79, 3) := by decide +kernel
theorem dX10_question_4 : decode cX10_question 4 = .ok (.aload_n 0, 1) := by decide +kernel
theorem dX10_question_5 : decode cX10_question 5 = .ok (.aload_n 0, 1) := by decide +kernel
theorem dX10_question_6 : decode cX10_question 6 = .ok (.iload_n 1, 1) := by decide +kernel
theorem dX10_question_7 : decode cX10_question 7 = .ok (.iload_n 2, 1) := by decide +kernel
theorem dX10_question_8 : decode cX10_question 8 = .ok (.iload_n 3, 1) := by decide +kernel
theorem dX10_question_9 : decode cX10_question 9 = .ok (.invokevirtual 105, 3) := by decide +kernel
theorem dX10_question_12 : decode cX10_question 12 = .ok (.iconst 1, 1) := by decide +kernel
theorem dX10_question_13 : decode cX10_question 13 = .ok (.iconst 0, 1) := by decide +kernel
theorem dX10_question_14 : decode cX10_question 14 = .ok (.iconst 2, 1) := by decide +kernel
theorem dX10_question_15 : decode cX10_question 15 = .ok (.iconst 3, 1) := by decide +kernel
theorem dX10_question_16 : decode cX10_question 16 = .ok (.invokevirtual 85, 3) := by decide +kernel
theorem dX10_question_19 : decode cX10_question 19 = .ok (.ireturn, 1) := by decide +kernel
theorem dX10_decides_0 : decode cX10_decides 0 = .ok (.aload_n 0, 1) := by decide +kernel
theorem dX10_decides_1 : decode cX10_decides 1 = .ok (.iload_n 1, 1) := by decide +kernel
theorem dX10_decides_2 : decode cX10_decides 2 = .ok (.invokevirtual 92, 3) := by decide +kernel
theorem dX10_decides_5 : decode cX10_decides 5 = .ok (.ifCond .ne 5, 3) := by decide +kernel
theorem dX10_decides_8 : decode cX10_decides 8 = .ok (.iconst 1, 1) := by decide +kernel
theorem dX10_decides_9 : decode cX10_decides 9 = .ok (.ireturn, 1) := by decide +kernel
theorem dX10_decides_10 : decode cX10_decides 10 = .ok (.aload_n 0, 1) := by decide +kernel
theorem dX10_decides_11 : decode cX10_decides 11 = .ok (.iload_n 1, 1) := by decide +kernel
theorem dX10_decides_12 : decode cX10_decides 12 = .ok (.iconst 2, 1) := by decide +kernel
theorem dX10_decides_13 : decode cX10_decides 13 = .ok (.invokevirtual 47, 3) := by decide +kernel
theorem dX10_decides_16 : decode cX10_decides 16 = .ok (.ifCond .ne 12, 3) := by decide +kernel
theorem dX10_decides_19 : decode cX10_decides 19 = .ok (.aload_n 0, 1) := by decide +kernel
theorem dX10_decides_20 : decode cX10_decides 20 = .ok (.iload_n 1, 1) := by decide +kernel
theorem dX10_decides_21 : decode cX10_decides 21 = .ok (.iconst 5, 1) := by decide +kernel
theorem dX10_decides_22 : decode cX10_decides 22 = .ok (.invokevirtual 47, 3) := by decide +kernel
theorem dX10_decides_25 : decode cX10_decides 25 = .ok (.ifCond .ne 5, 3) := by decide +kernel
theorem dX10_decides_28 : decode cX10_decides 28 = .ok (.iconst 4, 1) := by decide +kernel
theorem dX10_decides_29 : decode cX10_decides 29 = .ok (.ireturn, 1) := by decide +kernel
theorem dX10_decides_30 : decode cX10_decides 30 = .ok (.aload_n 0, 1) := by decide +kernel
theorem dX10_decides_31 : decode cX10_decides 31 = .ok (.aload_n 0, 1) := by decide +kernel
theorem dX10_decides_32 : decode cX10_decides 32 = .ok (.iload_n 1, 1) := by decide +kernel
theorem dX10_decides_33 : decode cX10_decides 33 = .ok (.invokevirtual 109, 3) := by decide +kernel
theorem dX10_decides_36 : decode cX10_decides 36 = .ok (.ifCond .le 7, 3) := by decide +kernel
theorem dX10_decides_39 : decode cX10_decides 39 = .ok (.iconst 1, 1) := by decide +kernel
theorem dX10_decides_40 : decode cX10_decides 40 = .ok (.goto 4, 3) := by decide +kernel
theorem dX10_decides_43 : decode cX10_decides 43 = .ok (.iconst 0, 1) := by decide +kernel
theorem dX10_decides_44 : decode cX10_decides 44 = .ok (.putfield 40, 3) := by decide +kernel
theorem dX10_decides_47 : decode cX10_decides 47 = .ok (.aload_n 0, 1) := by decide +kernel
theorem dX10_decides_48 : decode cX10_decides 48 = .ok (.iload_n 1, 1) := by decide +kernel
theorem dX10_decides_49 : decode cX10_decides 49 = .ok (.iconst 3, 1) := by decide +kernel
theorem dX10_decides_50 : decode cX10_decides 50 = .ok (.aload_n 0, 1) := by decide +kernel
theorem dX10_decides_51 : decode cX10_decides 51 = .ok (.getfield 40, 3) := by decide +kernel
theorem dX10_decides_54 : decode cX10_decides 54 = .ok (.invokevirtual 75, 3) := by decide +kernel
theorem dX10_decides_57 : decode cX10_decides 57 = .ok (.aload_n 0, 1) := by decide +kernel
theorem dX10_decides_58 : decode cX10_decides 58 = .ok (.iload_n 1, 1) := by decide +kernel
theorem dX10_decides_59 : decode cX10_decides 59 = .ok (.iconst 2, 1) := by decide +kernel
theorem dX10_decides_60 : decode cX10_decides 60 = .ok (.aload_n 0, 1) := by decide +kernel
theorem dX10_decides_61 : decode cX10_decides 61 = .ok (.iload_n 1, 1) := by decide +kernel
theorem dX10_decides_62 : decode cX10_decides 62 = .ok (.iconst 4, 1) := by decide +kernel
theorem dX10_decides_63 : decode cX10_decides 63 = .ok (.invokevirtual 47, 3) := by decide +kernel
theorem dX10_decides_66 : decode cX10_decides 66 = .ok (.iconst 2, 1) := by decide +kernel
theorem dX10_decides_67 : decode cX10_decides 67 = .ok (.if_icmp .ne 7, 3) := by decide +kernel
theorem dX10_decides_70 : decode cX10_decides 70 = .ok (.iconst 2, 1) := by decide +kernel
theorem dX10_decides_71 : decode cX10_decides 71 = .ok (.goto 4, 3) := by decide +kernel
theorem dX10_decides_74 : decode cX10_decides 74 = .ok (.iconst 1, 1) := by decide +kernel
theorem dX10_decides_75 : decode cX10_decides 75 = .ok (.invokevirtual 75, 3) := by decide +kernel
theorem dX10_decides_78 : decode cX10_decides 78 = .ok (.aload_n 0, 1) := by decide +kernel
theorem dX10_decides_79 : decode cX10_decides 79 = .ok (.getfield 9, 3) := by decide +kernel
theorem dX10_decides_82 : decode cX10_decides 82 = .ok (.iconst 2, 1) := by decide +kernel
theorem dX10_decides_83 : decode cX10_decides 83 = .ok (.dup2, 1) := by decide +kernel
theorem dX10_decides_84 : decode cX10_decides 84 = .ok (.iaload, 1) := by decide +kernel
theorem dX10_decides_85 : decode cX10_decides 85 = .ok (.iconst 1, 1) := by decide +kernel
theorem dX10_decides_86 : decode cX10_decides 86 = .ok (.iadd, 1) := by decide +kernel
theorem dX10_decides_87 : decode cX10_decides 87 = .ok (.iastore, 1) := by decide +kernel
theorem dX10_decides_88 : decode cX10_decides 88 = .ok (.iconst 0, 1) := by decide +kernel
theorem dX10_decides_89 : decode cX10_decides 89 = .ok (.ireturn, 1) := by decide +kernel
theorem dX10_decide_0 : decode cX10_decide 0 = .ok (.aload_n 0, 1) := by decide +kernel
theorem dX10_decide_1 : decode cX10_decide 1 = .ok (.invokevirtual 79, 3) := by decide +kernel
theorem dX10_decide_4 : decode cX10_decide 4 = .ok (.aload_n 0, 1) := by decide +kernel
theorem dX10_decide_5 : decode cX10_decide 5 = .ok (.aload_n 0, 1) := by decide +kernel
theorem dX10_decide_6 : decode cX10_decide 6 = .ok (.iload_n 1, 1) := by decide +kernel
theorem dX10_decide_7 : decode cX10_decide 7 = .ok (.invokevirtual 112, 3) := by decide +kernel
theorem dX10_decide_10 : decode cX10_decide 10 = .ok (.iconst 1, 1) := by decide +kernel
theorem dX10_decide_11 : decode cX10_decide 11 = .ok (.iconst 0, 1) := by decide +kernel
theorem dX10_decide_12 : decode cX10_decide 12 = .ok (.iconst 0, 1) := by decide +kernel
theorem dX10_decide_13 : decode cX10_decide 13 = .ok (.iconst 2, 1) := by decide +kernel
theorem dX10_decide_14 : decode cX10_decide 14 = .ok (.invokevirtual 85, 3) := by decide +kernel
theorem dX10_decide_17 : decode cX10_decide 17 = .ok (.iconst 1, 1) := by decide +kernel
theorem dX10_decide_18 : decode cX10_decide 18 = .ok (.if_icmp .ne 7, 3) := by decide +kernel
theorem dX10_decide_21 : decode cX10_decide 21 = .ok (.iconst 1, 1) := by decide +kernel
theorem dX10_decide_22 : decode cX10_decide 22 = .ok (.goto 4, 3) := by decide +kernel
theorem dX10_decide_25 : decode cX10_decide 25 = .ok (.iconst 0, 1) := by decide +kernel
theorem dX10_decide_26 : decode cX10_decide 26 = .ok (.ireturn, 1) := by decide +kernel
theorem dX10_appeals_0 : decode cX10_appeals 0 = .ok (.aload_n 0, 1) := by decide +kernel
theorem dX10_appeals_1 : decode cX10_appeals 1 = .ok (.iload_n 1, 1) := by decide +kernel
theorem dX10_appeals_2 : decode cX10_appeals 2 = .ok (.invokevirtual 92, 3) := by decide +kernel
theorem dX10_appeals_5 : decode cX10_appeals 5 = .ok (.ifCond .ne 5, 3) := by decide +kernel
theorem dX10_appeals_8 : decode cX10_appeals 8 = .ok (.iconst 1, 1) := by decide +kernel
theorem dX10_appeals_9 : decode cX10_appeals 9 = .ok (.ireturn, 1) := by decide +kernel
theorem dX10_appeals_10 : decode cX10_appeals 10 = .ok (.aload_n 0, 1) := by decide +kernel
theorem dX10_appeals_11 : decode cX10_appeals 11 = .ok (.iload_n 1, 1) := by decide +kernel
theorem dX10_appeals_12 : decode cX10_appeals 12 = .ok (.iconst 2, 1) := by decide +kernel
theorem dX10_appeals_13 : decode cX10_appeals 13 = .ok (.invokevirtual 47, 3) := by decide +kernel
theorem dX10_appeals_16 : decode cX10_appeals 16 = .ok (.iconst 1, 1) := by decide +kernel
theorem dX10_appeals_17 : decode cX10_appeals 17 = .ok (.if_icmp .eq 5, 3) := by decide +kernel
theorem dX10_appeals_20 : decode cX10_appeals 20 = .ok (.iconst 4, 1) := by decide +kernel
theorem dX10_appeals_21 : decode cX10_appeals 21 = .ok (.ireturn, 1) := by decide +kernel
theorem dX10_appeals_22 : decode cX10_appeals 22 = .ok (.aload_n 0, 1) := by decide +kernel
theorem dX10_appeals_23 : decode cX10_appeals 23 = .ok (.aload_n 0, 1) := by decide +kernel
theorem dX10_appeals_24 : decode cX10_appeals 24 = .ok (.iload_n 1, 1) := by decide +kernel
theorem dX10_appeals_25 : decode cX10_appeals 25 = .ok (.iconst 4, 1) := by decide +kernel
theorem dX10_appeals_26 : decode cX10_appeals 26 = .ok (.invokevirtual 47, 3) := by decide +kernel
theorem dX10_appeals_29 : decode cX10_appeals 29 = .ok (.iconst 1, 1) := by decide +kernel
theorem dX10_appeals_30 : decode cX10_appeals 30 = .ok (.iadd, 1) := by decide +kernel
theorem dX10_appeals_31 : decode cX10_appeals 31 = .ok (.putfield 40, 3) := by decide +kernel
theorem dX10_appeals_34 : decode cX10_appeals 34 = .ok (.aload_n 0, 1) := by decide +kernel
theorem dX10_appeals_35 : decode cX10_appeals 35 = .ok (.iload_n 1, 1) := by decide +kernel
theorem dX10_appeals_36 : decode cX10_appeals 36 = .ok (.iconst 4, 1) := by decide +kernel
theorem dX10_appeals_37 : decode cX10_appeals 37 = .ok (.aload_n 0, 1) := by decide +kernel
theorem dX10_appeals_38 : decode cX10_appeals 38 = .ok (.getfield 40, 3) := by decide +kernel
theorem dX10_appeals_41 : decode cX10_appeals 41 = .ok (.invokevirtual 75, 3) := by decide +kernel
theorem dX10_appeals_44 : decode cX10_appeals 44 = .ok (.aload_n 0, 1) := by decide +kernel
theorem dX10_appeals_45 : decode cX10_appeals 45 = .ok (.iload_n 1, 1) := by decide +kernel
theorem dX10_appeals_46 : decode cX10_appeals 46 = .ok (.iconst 2, 1) := by decide +kernel
theorem dX10_appeals_47 : decode cX10_appeals 47 = .ok (.iconst 0, 1) := by decide +kernel
theorem dX10_appeals_48 : decode cX10_appeals 48 = .ok (.invokevirtual 75, 3) := by decide +kernel
theorem dX10_appeals_51 : decode cX10_appeals 51 = .ok (.aload_n 0, 1) := by decide +kernel
theorem dX10_appeals_52 : decode cX10_appeals 52 = .ok (.iload_n 1, 1) := by decide +kernel
theorem dX10_appeals_53 : decode cX10_appeals 53 = .ok (.iconst 3, 1) := by decide +kernel
theorem dX10_appeals_54 : decode cX10_appeals 54 = .ok (.iconst 0, 1) := by decide +kernel
theorem dX10_appeals_55 : decode cX10_appeals 55 = .ok (.invokevirtual 75, 3) := by decide +kernel
theorem dX10_appeals_58 : decode cX10_appeals 58 = .ok (.iconst 0, 1) := by decide +kernel
theorem dX10_appeals_59 : decode cX10_appeals 59 = .ok (.ireturn, 1) := by decide +kernel
theorem dX10_appeal_0 : decode cX10_appeal 0 = .ok (.aload_n 0, 1) := by decide +kernel
theorem dX10_appeal_1 : decode cX10_appeal 1 = .ok (.invokevirtual 79, 3) := by decide +kernel
theorem dX10_appeal_4 : decode cX10_appeal 4 = .ok (.aload_n 0, 1) := by decide +kernel
theorem dX10_appeal_5 : decode cX10_appeal 5 = .ok (.aload_n 0, 1) := by decide +kernel
theorem dX10_appeal_6 : decode cX10_appeal 6 = .ok (.iload_n 1, 1) := by decide +kernel
theorem dX10_appeal_7 : decode cX10_appeal 7 = .ok (.invokevirtual 115, 3) := by decide +kernel
theorem dX10_appeal_10 : decode cX10_appeal 10 = .ok (.iconst 1, 1) := by decide +kernel
theorem dX10_appeal_11 : decode cX10_appeal 11 = .ok (.iconst 0, 1) := by decide +kernel
theorem dX10_appeal_12 : decode cX10_appeal 12 = .ok (.iconst 0, 1) := by decide +kernel
theorem dX10_appeal_13 : decode cX10_appeal 13 = .ok (.iconst 2, 1) := by decide +kernel
theorem dX10_appeal_14 : decode cX10_appeal 14 = .ok (.invokevirtual 85, 3) := by decide +kernel
theorem dX10_appeal_17 : decode cX10_appeal 17 = .ok (.ireturn, 1) := by decide +kernel
theorem dX10_inPhase_0 : decode cX10_inPhase 0 = .ok (.iconst 0, 1) := by decide +kernel
theorem dX10_inPhase_1 : decode cX10_inPhase 1 = .ok (.istore_n 3, 1) := by decide +kernel
theorem dX10_inPhase_2 : decode cX10_inPhase 2 = .ok (.iconst 0, 1) := by decide +kernel
theorem dX10_inPhase_3 : decode cX10_inPhase 3 = .ok (.istore 4, 2) := by decide +kernel
theorem dX10_inPhase_5 : decode cX10_inPhase 5 = .ok (.iload 4, 2) := by decide +kernel
theorem dX10_inPhase_7 : decode cX10_inPhase 7 = .ok (.aload_n 0, 1) := by decide +kernel
theorem dX10_inPhase_8 : decode cX10_inPhase 8 = .ok (.getfield 9, 3) := by decide +kernel
theorem dX10_inPhase_11 : decode cX10_inPhase 11 = .ok (.iconst 0, 1) := by decide +kernel
theorem dX10_inPhase_12 : decode cX10_inPhase 12 = .ok (.iaload, 1) := by decide +kernel
theorem dX10_inPhase_13 : decode cX10_inPhase 13 = .ok (.if_icmp .ge 43, 3) := by decide +kernel
theorem dX10_inPhase_16 : decode cX10_inPhase 16 = .ok (.iload_n 3, 1) := by decide +kernel
theorem dX10_inPhase_17 : decode cX10_inPhase 17 = .ok (.aload_n 0, 1) := by decide +kernel
theorem dX10_inPhase_18 : decode cX10_inPhase 18 = .ok (.iload 4, 2) := by decide +kernel
theorem dX10_inPhase_20 : decode cX10_inPhase 20 = .ok (.iconst 2, 1) := by decide +kernel
theorem dX10_inPhase_21 : decode cX10_inPhase 21 = .ok (.invokevirtual 47, 3) := by decide +kernel
theorem dX10_inPhase_24 : decode cX10_inPhase 24 = .ok (.iload_n 1, 1) := by decide +kernel
theorem dX10_inPhase_25 : decode cX10_inPhase 25 = .ok (.if_icmp .ne 22, 3) := by decide +kernel
theorem dX10_inPhase_28 : decode cX10_inPhase 28 = .ok (.iload_n 2, 1) := by decide +kernel
theorem dX10_inPhase_29 : decode cX10_inPhase 29 = .ok (.ifCond .lt 14, 3) := by decide +kernel
theorem dX10_inPhase_32 : decode cX10_inPhase 32 = .ok (.aload_n 0, 1) := by decide +kernel
theorem dX10_inPhase_33 : decode cX10_inPhase 33 = .ok (.iload 4, 2) := by decide +kernel
theorem dX10_inPhase_35 : decode cX10_inPhase 35 = .ok (.iconst 3, 1) := by decide +kernel
theorem dX10_inPhase_36 : decode cX10_inPhase 36 = .ok (.invokevirtual 47, 3) := by decide +kernel
theorem dX10_inPhase_39 : decode cX10_inPhase 39 = .ok (.iload_n 2, 1) := by decide +kernel
theorem dX10_inPhase_40 : decode cX10_inPhase 40 = .ok (.if_icmp .ne 7, 3) := by decide +kernel
theorem dX10_inPhase_43 : decode cX10_inPhase 43 = .ok (.iconst 1, 1) := by decide +kernel
theorem dX10_inPhase_44 : decode cX10_inPhase 44 = .ok (.goto 4, 3) := by decide +kernel
theorem dX10_inPhase_47 : decode cX10_inPhase 47 = .ok (.iconst 0, 1) := by decide +kernel
theorem dX10_inPhase_48 : decode cX10_inPhase 48 = .ok (.iadd, 1) := by decide +kernel
theorem dX10_inPhase_49 : decode cX10_inPhase 49 = .ok (.istore_n 3, 1) := by decide +kernel
theorem dX10_inPhase_50 : decode cX10_inPhase 50 = .ok (.iinc 4 1, 3) := by decide +kernel
theorem dX10_inPhase_53 : decode cX10_inPhase 53 = .ok (.goto (-48), 3) := by decide +kernel
theorem dX10_inPhase_56 : decode cX10_inPhase 56 = .ok (.iload_n 3, 1) := by decide +kernel
theorem dX10_inPhase_57 : decode cX10_inPhase 57 = .ok (.ireturn, 1) := by decide +kernel
theorem dX10_closes_0 : decode cX10_closes 0 = .ok (.aload_n 0, 1) := by decide +kernel
theorem dX10_closes_1 : decode cX10_closes 1 = .ok (.iload_n 1, 1) := by decide +kernel
theorem dX10_closes_2 : decode cX10_closes 2 = .ok (.invokevirtual 92, 3) := by decide +kernel
theorem dX10_closes_5 : decode cX10_closes 5 = .ok (.ifCond .ne 5, 3) := by decide +kernel
theorem dX10_closes_8 : decode cX10_closes 8 = .ok (.iconst 1, 1) := by decide +kernel
theorem dX10_closes_9 : decode cX10_closes 9 = .ok (.ireturn, 1) := by decide +kernel
theorem dX10_closes_10 : decode cX10_closes 10 = .ok (.aload_n 0, 1) := by decide +kernel
theorem dX10_closes_11 : decode cX10_closes 11 = .ok (.iload_n 1, 1) := by decide +kernel
theorem dX10_closes_12 : decode cX10_closes 12 = .ok (.iconst 2, 1) := by decide +kernel
theorem dX10_closes_13 : decode cX10_closes 13 = .ok (.invokevirtual 47, 3) := by decide +kernel
theorem dX10_closes_16 : decode cX10_closes 16 = .ok (.iconst 1, 1) := by decide +kernel
theorem dX10_closes_17 : decode cX10_closes 17 = .ok (.if_icmp .eq 5, 3) := by decide +kernel
theorem dX10_closes_20 : decode cX10_closes 20 = .ok (.iconst 4, 1) := by decide +kernel
theorem dX10_closes_21 : decode cX10_closes 21 = .ok (.ireturn, 1) := by decide +kernel
theorem dX10_closes_22 : decode cX10_closes 22 = .ok (.aload_n 0, 1) := by decide +kernel
theorem dX10_closes_23 : decode cX10_closes 23 = .ok (.iload_n 1, 1) := by decide +kernel
theorem dX10_closes_24 : decode cX10_closes 24 = .ok (.iconst 2, 1) := by decide +kernel
theorem dX10_closes_25 : decode cX10_closes 25 = .ok (.iconst 2, 1) := by decide +kernel
theorem dX10_closes_26 : decode cX10_closes 26 = .ok (.invokevirtual 75, 3) := by decide +kernel
theorem dX10_closes_29 : decode cX10_closes 29 = .ok (.aload_n 0, 1) := by decide +kernel
theorem dX10_closes_30 : decode cX10_closes 30 = .ok (.aload_n 0, 1) := by decide +kernel
theorem dX10_closes_31 : decode cX10_closes 31 = .ok (.iconst 2, 1) := by decide +kernel
theorem dX10_closes_32 : decode cX10_closes 32 = .ok (.iconst (-1), 1) := by decide +kernel
theorem dX10_closes_33 : decode cX10_closes 33 = .ok (.invokevirtual 118, 3) := by decide +kernel
theorem dX10_closes_36 : decode cX10_closes 36 = .ok (.putfield 40, 3) := by decide +kernel
theorem dX10_closes_39 : decode cX10_closes 39 = .ok (.iconst 0, 1) := by decide +kernel
theorem dX10_closes_40 : decode cX10_closes 40 = .ok (.ireturn, 1) := by decide +kernel
theorem dX10_close_0 : decode cX10_close 0 = .ok (.aload_n 0, 1) := by decide +kernel
theorem dX10_close_1 : decode cX10_close 1 = .ok (.invokevirtual 79, 3) := by decide +kernel
theorem dX10_close_4 : decode cX10_close 4 = .ok (.aload_n 0, 1) := by decide +kernel
theorem dX10_close_5 : decode cX10_close 5 = .ok (.aload_n 0, 1) := by decide +kernel
theorem dX10_close_6 : decode cX10_close 6 = .ok (.iload_n 1, 1) := by decide +kernel
theorem dX10_close_7 : decode cX10_close 7 = .ok (.invokevirtual 121, 3) := by decide +kernel
theorem dX10_close_10 : decode cX10_close 10 = .ok (.iconst 1, 1) := by decide +kernel
theorem dX10_close_11 : decode cX10_close 11 = .ok (.iconst 0, 1) := by decide +kernel
theorem dX10_close_12 : decode cX10_close 12 = .ok (.iconst 0, 1) := by decide +kernel
theorem dX10_close_13 : decode cX10_close 13 = .ok (.iconst 2, 1) := by decide +kernel
theorem dX10_close_14 : decode cX10_close 14 = .ok (.invokevirtual 85, 3) := by decide +kernel
theorem dX10_close_17 : decode cX10_close 17 = .ok (.ireturn, 1) := by decide +kernel
theorem dX10_caseCount_0 : decode cX10_caseCount 0 = .ok (.aload_n 0, 1) := by decide +kernel
theorem dX10_caseCount_1 : decode cX10_caseCount 1 = .ok (.iconst 0, 1) := by decide +kernel
theorem dX10_caseCount_2 : decode cX10_caseCount 2 = .ok (.putfield 30, 3) := by decide +kernel
theorem dX10_caseCount_5 : decode cX10_caseCount 5 = .ok (.aload_n 0, 1) := by decide +kernel
theorem dX10_caseCount_6 : decode cX10_caseCount 6 = .ok (.getfield 9, 3) := by decide +kernel
theorem dX10_caseCount_9 : decode cX10_caseCount 9 = .ok (.iconst 0, 1) := by decide +kernel
theorem dX10_caseCount_10 : decode cX10_caseCount 10 = .ok (.iaload, 1) := by decide +kernel
theorem dX10_caseCount_11 : decode cX10_caseCount 11 = .ok (.ireturn, 1) := by decide +kernel
theorem dX10_caseOf_0 : decode cX10_caseOf 0 = .ok (.aload_n 0, 1) := by decide +kernel
theorem dX10_caseOf_1 : decode cX10_caseOf 1 = .ok (.iload_n 1, 1) := by decide +kernel
theorem dX10_caseOf_2 : decode cX10_caseOf 2 = .ok (.iload_n 2, 1) := by decide +kernel
theorem dX10_caseOf_3 : decode cX10_caseOf 3 = .ok (.invokevirtual 72, 3) := by decide +kernel
theorem dX10_caseOf_6 : decode cX10_caseOf 6 = .ok (.istore_n 3, 1) := by decide +kernel
theorem dX10_caseOf_7 : decode cX10_caseOf 7 = .ok (.aload_n 0, 1) := by decide +kernel
theorem dX10_caseOf_8 : decode cX10_caseOf 8 = .ok (.iload_n 1, 1) := by decide +kernel
theorem dX10_caseOf_9 : decode cX10_caseOf 9 = .ok (.invokestatic 65, 3) := by decide +kernel
theorem dX10_caseOf_12 : decode cX10_caseOf 12 = .ok (.ifCond .eq 10, 3) := by decide +kernel
theorem dX10_caseOf_15 : decode cX10_caseOf 15 = .ok (.iload_n 2, 1) := by decide +kernel
theorem dX10_caseOf_16 : decode cX10_caseOf 16 = .ok (.invokestatic 69, 3) := by decide +kernel
theorem dX10_caseOf_19 : decode cX10_caseOf 19 = .ok (.ifCond .ne 7, 3) := by decide +kernel
theorem dX10_caseOf_22 : decode cX10_caseOf 22 = .ok (.iconst 1, 1) := by decide +kernel
theorem dX10_caseOf_23 : decode cX10_caseOf 23 = .ok (.goto 12, 3) := by decide +kernel
theorem dX10_caseOf_26 : decode cX10_caseOf 26 = .ok (.iload_n 3, 1) := by decide +kernel
theorem dX10_caseOf_27 : decode cX10_caseOf 27 = .ok (.ifCond .ge 7, 3) := by decide +kernel
theorem dX10_caseOf_30 : decode cX10_caseOf 30 = .ok (.iconst 2, 1) := by decide +kernel
theorem dX10_caseOf_31 : decode cX10_caseOf 31 = .ok (.goto 4, 3) := by decide +kernel
theorem dX10_caseOf_34 : decode cX10_caseOf 34 = .ok (.iconst 0, 1) := by decide +kernel
theorem dX10_caseOf_35 : decode cX10_caseOf 35 = .ok (.putfield 30, 3) := by decide +kernel
theorem dX10_caseOf_38 : decode cX10_caseOf 38 = .ok (.aload_n 0, 1) := by decide +kernel
theorem dX10_caseOf_39 : decode cX10_caseOf 39 = .ok (.getfield 30, 3) := by decide +kernel
theorem dX10_caseOf_42 : decode cX10_caseOf 42 = .ok (.ifCond .ne 7, 3) := by decide +kernel
theorem dX10_caseOf_45 : decode cX10_caseOf 45 = .ok (.iload_n 3, 1) := by decide +kernel
theorem dX10_caseOf_46 : decode cX10_caseOf 46 = .ok (.goto 4, 3) := by decide +kernel
theorem dX10_caseOf_49 : decode cX10_caseOf 49 = .ok (.iconst 0, 1) := by decide +kernel
theorem dX10_caseOf_50 : decode cX10_caseOf 50 = .ok (.ireturn, 1) := by decide +kernel
theorem dX10_ofCase_0 : decode cX10_ofCase 0 = .ok (.aload_n 0, 1) := by decide +kernel
theorem dX10_ofCase_1 : decode cX10_ofCase 1 = .ok (.aload_n 0, 1) := by decide +kernel
theorem dX10_ofCase_2 : decode cX10_ofCase 2 = .ok (.iload_n 1, 1) := by decide +kernel
theorem dX10_ofCase_3 : decode cX10_ofCase 3 = .ok (.invokevirtual 92, 3) := by decide +kernel
theorem dX10_ofCase_6 : decode cX10_ofCase 6 = .ok (.invokevirtual 124, 3) := by decide +kernel
theorem dX10_ofCase_9 : decode cX10_ofCase 9 = .ok (.ifCond .eq 12, 3) := by decide +kernel
theorem dX10_ofCase_12 : decode cX10_ofCase 12 = .ok (.aload_n 0, 1) := by decide +kernel
theorem dX10_ofCase_13 : decode cX10_ofCase 13 = .ok (.iload_n 1, 1) := by decide +kernel
theorem dX10_ofCase_14 : decode cX10_ofCase 14 = .ok (.iload_n 2, 1) := by decide +kernel
theorem dX10_ofCase_15 : decode cX10_ofCase 15 = .ok (.invokevirtual 47, 3) := by decide +kernel
theorem dX10_ofCase_18 : decode cX10_ofCase 18 = .ok (.goto 4, 3) := by decide +kernel
theorem dX10_ofCase_21 : decode cX10_ofCase 21 = .ok (.iconst 0, 1) := by decide +kernel
theorem dX10_ofCase_22 : decode cX10_ofCase 22 = .ok (.ireturn, 1) := by decide +kernel
theorem dX10_defendantOf_0 : decode cX10_defendantOf 0 = .ok (.aload_n 0, 1) := by decide +kernel
theorem dX10_defendantOf_1 : decode cX10_defendantOf 1 = .ok (.iload_n 1, 1) := by decide +kernel
theorem dX10_defendantOf_2 : decode cX10_defendantOf 2 = .ok (.iconst 0, 1) := by decide +kernel
theorem dX10_defendantOf_3 : decode cX10_defendantOf 3 = .ok (.invokevirtual 128, 3) := by decide +kernel
theorem dX10_defendantOf_6 : decode cX10_defendantOf 6 = .ok (.ireturn, 1) := by decide +kernel
theorem dX10_offenceOf_0 : decode cX10_offenceOf 0 = .ok (.aload_n 0, 1) := by decide +kernel
theorem dX10_offenceOf_1 : decode cX10_offenceOf 1 = .ok (.iload_n 1, 1) := by decide +kernel
theorem dX10_offenceOf_2 : decode cX10_offenceOf 2 = .ok (.iconst 1, 1) := by decide +kernel
theorem dX10_offenceOf_3 : decode cX10_offenceOf 3 = .ok (.invokevirtual 128, 3) := by decide +kernel
theorem dX10_offenceOf_6 : decode cX10_offenceOf 6 = .ok (.ireturn, 1) := by decide +kernel
theorem dX10_isOpen_0 : decode cX10_isOpen 0 = .ok (.aload_n 0, 1) := by decide +kernel
theorem dX10_isOpen_1 : decode cX10_isOpen 1 = .ok (.aload_n 0, 1) := by decide +kernel
theorem dX10_isOpen_2 : decode cX10_isOpen 2 = .ok (.iload_n 1, 1) := by decide +kernel
theorem dX10_isOpen_3 : decode cX10_isOpen 3 = .ok (.invokevirtual 92, 3) := by decide +kernel
theorem dX10_isOpen_6 : decode cX10_isOpen 6 = .ok (.invokevirtual 124, 3) := by decide +kernel
theorem dX10_isOpen_9 : decode cX10_isOpen 9 = .ok (.ifCond .eq 16, 3) := by decide +kernel
theorem dX10_isOpen_12 : decode cX10_isOpen 12 = .ok (.aload_n 0, 1) := by decide +kernel
theorem dX10_isOpen_13 : decode cX10_isOpen 13 = .ok (.iload_n 1, 1) := by decide +kernel
theorem dX10_isOpen_14 : decode cX10_isOpen 14 = .ok (.iconst 2, 1) := by decide +kernel
theorem dX10_isOpen_15 : decode cX10_isOpen 15 = .ok (.invokevirtual 47, 3) := by decide +kernel
theorem dX10_isOpen_18 : decode cX10_isOpen 18 = .ok (.ifCond .ne 7, 3) := by decide +kernel
theorem dX10_isOpen_21 : decode cX10_isOpen 21 = .ok (.iconst 1, 1) := by decide +kernel
theorem dX10_isOpen_22 : decode cX10_isOpen 22 = .ok (.goto 4, 3) := by decide +kernel
theorem dX10_isOpen_25 : decode cX10_isOpen 25 = .ok (.iconst 0, 1) := by decide +kernel
theorem dX10_isOpen_26 : decode cX10_isOpen 26 = .ok (.ireturn, 1) := by decide +kernel
theorem dX10_isDecided_0 : decode cX10_isDecided 0 = .ok (.aload_n 0, 1) := by decide +kernel
theorem dX10_isDecided_1 : decode cX10_isDecided 1 = .ok (.iload_n 1, 1) := by decide +kernel
theorem dX10_isDecided_2 : decode cX10_isDecided 2 = .ok (.iconst 2, 1) := by decide +kernel
theorem dX10_isDecided_3 : decode cX10_isDecided 3 = .ok (.invokevirtual 128, 3) := by decide +kernel
theorem dX10_isDecided_6 : decode cX10_isDecided 6 = .ok (.iconst 1, 1) := by decide +kernel
theorem dX10_isDecided_7 : decode cX10_isDecided 7 = .ok (.if_icmp .ne 7, 3) := by decide +kernel
theorem dX10_isDecided_10 : decode cX10_isDecided 10 = .ok (.iconst 1, 1) := by decide +kernel
theorem dX10_isDecided_11 : decode cX10_isDecided 11 = .ok (.goto 4, 3) := by decide +kernel
theorem dX10_isDecided_14 : decode cX10_isDecided 14 = .ok (.iconst 0, 1) := by decide +kernel
theorem dX10_isDecided_15 : decode cX10_isDecided 15 = .ok (.ireturn, 1) := by decide +kernel
theorem dX10_isClosed_0 : decode cX10_isClosed 0 = .ok (.aload_n 0, 1) := by decide +kernel
theorem dX10_isClosed_1 : decode cX10_isClosed 1 = .ok (.iload_n 1, 1) := by decide +kernel
theorem dX10_isClosed_2 : decode cX10_isClosed 2 = .ok (.iconst 2, 1) := by decide +kernel
theorem dX10_isClosed_3 : decode cX10_isClosed 3 = .ok (.invokevirtual 128, 3) := by decide +kernel
theorem dX10_isClosed_6 : decode cX10_isClosed 6 = .ok (.iconst 2, 1) := by decide +kernel
theorem dX10_isClosed_7 : decode cX10_isClosed 7 = .ok (.if_icmp .ne 7, 3) := by decide +kernel
theorem dX10_isClosed_10 : decode cX10_isClosed 10 = .ok (.iconst 1, 1) := by decide +kernel
theorem dX10_isClosed_11 : decode cX10_isClosed 11 = .ok (.goto 4, 3) := by decide +kernel
theorem dX10_isClosed_14 : decode cX10_isClosed 14 = .ok (.iconst 0, 1) := by decide +kernel
theorem dX10_isClosed_15 : decode cX10_isClosed 15 = .ok (.ireturn, 1) := by decide +kernel
theorem dX10_isGuilty_0 : decode cX10_isGuilty 0 = .ok (.aload_n 0, 1) := by decide +kernel
theorem dX10_isGuilty_1 : decode cX10_isGuilty 1 = .ok (.aload_n 0, 1) := by decide +kernel
theorem dX10_isGuilty_2 : decode cX10_isGuilty 2 = .ok (.iload_n 1, 1) := by decide +kernel
theorem dX10_isGuilty_3 : decode cX10_isGuilty 3 = .ok (.invokevirtual 92, 3) := by decide +kernel
theorem dX10_isGuilty_6 : decode cX10_isGuilty 6 = .ok (.ifCond .ne 7, 3) := by decide +kernel
theorem dX10_isGuilty_9 : decode cX10_isGuilty 9 = .ok (.iconst 1, 1) := by decide +kernel
theorem dX10_isGuilty_10 : decode cX10_isGuilty 10 = .ok (.goto 17, 3) := by decide +kernel
theorem dX10_isGuilty_13 : decode cX10_isGuilty 13 = .ok (.aload_n 0, 1) := by decide +kernel
theorem dX10_isGuilty_14 : decode cX10_isGuilty 14 = .ok (.iload_n 1, 1) := by decide +kernel
theorem dX10_isGuilty_15 : decode cX10_isGuilty 15 = .ok (.iconst 2, 1) := by decide +kernel
theorem dX10_isGuilty_16 : decode cX10_isGuilty 16 = .ok (.invokevirtual 47, 3) := by decide +kernel
theorem dX10_isGuilty_19 : decode cX10_isGuilty 19 = .ok (.ifCond .ne 7, 3) := by decide +kernel
theorem dX10_isGuilty_22 : decode cX10_isGuilty 22 = .ok (.iconst 2, 1) := by decide +kernel
theorem dX10_isGuilty_23 : decode cX10_isGuilty 23 = .ok (.goto 4, 3) := by decide +kernel
theorem dX10_isGuilty_26 : decode cX10_isGuilty 26 = .ok (.iconst 0, 1) := by decide +kernel
theorem dX10_isGuilty_27 : decode cX10_isGuilty 27 = .ok (.putfield 30, 3) := by decide +kernel
theorem dX10_isGuilty_30 : decode cX10_isGuilty 30 = .ok (.aload_n 0, 1) := by decide +kernel
theorem dX10_isGuilty_31 : decode cX10_isGuilty 31 = .ok (.getfield 30, 3) := by decide +kernel
theorem dX10_isGuilty_34 : decode cX10_isGuilty 34 = .ok (.ifCond .ne 17, 3) := by decide +kernel
theorem dX10_isGuilty_37 : decode cX10_isGuilty 37 = .ok (.aload_n 0, 1) := by decide +kernel
theorem dX10_isGuilty_38 : decode cX10_isGuilty 38 = .ok (.iload_n 1, 1) := by decide +kernel
theorem dX10_isGuilty_39 : decode cX10_isGuilty 39 = .ok (.iconst 3, 1) := by decide +kernel
theorem dX10_isGuilty_40 : decode cX10_isGuilty 40 = .ok (.invokevirtual 47, 3) := by decide +kernel
theorem dX10_isGuilty_43 : decode cX10_isGuilty 43 = .ok (.iconst 1, 1) := by decide +kernel
theorem dX10_isGuilty_44 : decode cX10_isGuilty 44 = .ok (.if_icmp .ne 7, 3) := by decide +kernel
theorem dX10_isGuilty_47 : decode cX10_isGuilty 47 = .ok (.iconst 1, 1) := by decide +kernel
theorem dX10_isGuilty_48 : decode cX10_isGuilty 48 = .ok (.goto 4, 3) := by decide +kernel
theorem dX10_isGuilty_51 : decode cX10_isGuilty 51 = .ok (.iconst 0, 1) := by decide +kernel
theorem dX10_isGuilty_52 : decode cX10_isGuilty 52 = .ok (.ireturn, 1) := by decide +kernel
theorem dX10_appealCount_0 : decode cX10_appealCount 0 = .ok (.aload_n 0, 1) := by decide +kernel
theorem dX10_appealCount_1 : decode cX10_appealCount 1 = .ok (.iload_n 1, 1) := by decide +kernel
theorem dX10_appealCount_2 : decode cX10_appealCount 2 = .ok (.iconst 4, 1) := by decide +kernel
theorem dX10_appealCount_3 : decode cX10_appealCount 3 = .ok (.invokevirtual 128, 3) := by decide +kernel
theorem dX10_appealCount_6 : decode cX10_appealCount 6 = .ok (.ireturn, 1) := by decide +kernel
theorem dX10_testimonyCount_0 : decode cX10_testimonyCount 0 = .ok (.aload_n 0, 1) := by decide +kernel
theorem dX10_testimonyCount_1 : decode cX10_testimonyCount 1 = .ok (.iload_n 1, 1) := by decide +kernel
theorem dX10_testimonyCount_2 : decode cX10_testimonyCount 2 = .ok (.iconst 5, 1) := by decide +kernel
theorem dX10_testimonyCount_3 : decode cX10_testimonyCount 3 = .ok (.invokevirtual 128, 3) := by decide +kernel
theorem dX10_testimonyCount_6 : decode cX10_testimonyCount 6 = .ok (.ireturn, 1) := by decide +kernel
theorem dX10_witnessAt_0 : decode cX10_witnessAt 0 = .ok (.aload_n 0, 1) := by decide +kernel
theorem dX10_witnessAt_1 : decode cX10_witnessAt 1 = .ok (.aload_n 0, 1) := by decide +kernel
theorem dX10_witnessAt_2 : decode cX10_witnessAt 2 = .ok (.iload_n 1, 1) := by decide +kernel
theorem dX10_witnessAt_3 : decode cX10_witnessAt 3 = .ok (.invokevirtual 92, 3) := by decide +kernel
theorem dX10_witnessAt_6 : decode cX10_witnessAt 6 = .ok (.ifCond .ne 7, 3) := by decide +kernel
theorem dX10_witnessAt_9 : decode cX10_witnessAt 9 = .ok (.iconst 1, 1) := by decide +kernel
theorem dX10_witnessAt_10 : decode cX10_witnessAt 10 = .ok (.goto 24, 3) := by decide +kernel
theorem dX10_witnessAt_13 : decode cX10_witnessAt 13 = .ok (.iload_n 2, 1) := by decide +kernel
theorem dX10_witnessAt_14 : decode cX10_witnessAt 14 = .ok (.iconst 0, 1) := by decide +kernel
theorem dX10_witnessAt_15 : decode cX10_witnessAt 15 = .ok (.aload_n 0, 1) := by decide +kernel
theorem dX10_witnessAt_16 : decode cX10_witnessAt 16 = .ok (.iload_n 1, 1) := by decide +kernel
theorem dX10_witnessAt_17 : decode cX10_witnessAt 17 = .ok (.iconst 5, 1) := by decide +kernel
theorem dX10_witnessAt_18 : decode cX10_witnessAt 18 = .ok (.invokevirtual 47, 3) := by decide +kernel
theorem dX10_witnessAt_21 : decode cX10_witnessAt 21 = .ok (.iconst 1, 1) := by decide +kernel
theorem dX10_witnessAt_22 : decode cX10_witnessAt 22 = .ok (.isub, 1) := by decide +kernel
theorem dX10_witnessAt_23 : decode cX10_witnessAt 23 = .ok (.invokestatic 43, 3) := by decide +kernel
theorem dX10_witnessAt_26 : decode cX10_witnessAt 26 = .ok (.ifCond .eq 7, 3) := by decide +kernel
theorem dX10_witnessAt_29 : decode cX10_witnessAt 29 = .ok (.iconst 0, 1) := by decide +kernel
theorem dX10_witnessAt_30 : decode cX10_witnessAt 30 = .ok (.goto 4, 3) := by decide +kernel
theorem dX10_witnessAt_33 : decode cX10_witnessAt 33 = .ok (.iconst 2, 1) := by decide +kernel
theorem dX10_witnessAt_34 : decode cX10_witnessAt 34 = .ok (.putfield 30, 3) := by decide +kernel
theorem dX10_witnessAt_37 : decode cX10_witnessAt 37 = .ok (.aload_n 0, 1) := by decide +kernel
theorem dX10_witnessAt_38 : decode cX10_witnessAt 38 = .ok (.getfield 30, 3) := by decide +kernel
theorem dX10_witnessAt_41 : decode cX10_witnessAt 41 = .ok (.ifCond .ne 13, 3) := by decide +kernel
theorem dX10_witnessAt_44 : decode cX10_witnessAt 44 = .ok (.aload_n 0, 1) := by decide +kernel
theorem dX10_witnessAt_45 : decode cX10_witnessAt 45 = .ok (.iload_n 1, 1) := by decide +kernel
theorem dX10_witnessAt_46 : decode cX10_witnessAt 46 = .ok (.iload_n 2, 1) := by decide +kernel
theorem dX10_witnessAt_47 : decode cX10_witnessAt 47 = .ok (.iconst 0, 1) := by decide +kernel
theorem dX10_witnessAt_48 : decode cX10_witnessAt 48 = .ok (.invokevirtual 51, 3) := by decide +kernel
theorem dX10_witnessAt_51 : decode cX10_witnessAt 51 = .ok (.goto 4, 3) := by decide +kernel
theorem dX10_witnessAt_54 : decode cX10_witnessAt 54 = .ok (.iconst 0, 1) := by decide +kernel
theorem dX10_witnessAt_55 : decode cX10_witnessAt 55 = .ok (.ireturn, 1) := by decide +kernel
theorem dX10_hasTestified_0 : decode cX10_hasTestified 0 = .ok (.aload_n 0, 1) := by decide +kernel
theorem dX10_hasTestified_1 : decode cX10_hasTestified 1 = .ok (.aload_n 0, 1) := by decide +kernel
theorem dX10_hasTestified_2 : decode cX10_hasTestified 2 = .ok (.iload_n 1, 1) := by decide +kernel
theorem dX10_hasTestified_3 : decode cX10_hasTestified 3 = .ok (.invokevirtual 92, 3) := by decide +kernel
theorem dX10_hasTestified_6 : decode cX10_hasTestified 6 = .ok (.ifCond .eq 15, 3) := by decide +kernel
theorem dX10_hasTestified_9 : decode cX10_hasTestified 9 = .ok (.aload_n 0, 1) := by decide +kernel
theorem dX10_hasTestified_10 : decode cX10_hasTestified 10 = .ok (.iload_n 2, 1) := by decide +kernel
theorem dX10_hasTestified_11 : decode cX10_hasTestified 11 = .ok (.invokevirtual 95, 3) := by decide +kernel
theorem dX10_hasTestified_14 : decode cX10_hasTestified 14 = .ok (.ifCond .eq 7, 3) := by decide +kernel
theorem dX10_hasTestified_17 : decode cX10_hasTestified 17 = .ok (.iconst 1, 1) := by decide +kernel
theorem dX10_hasTestified_18 : decode cX10_hasTestified 18 = .ok (.goto 4, 3) := by decide +kernel
theorem dX10_hasTestified_21 : decode cX10_hasTestified 21 = .ok (.iconst 0, 1) := by decide +kernel
theorem dX10_hasTestified_22 : decode cX10_hasTestified 22 = .ok (.invokevirtual 124, 3) := by decide +kernel
theorem dX10_hasTestified_25 : decode cX10_hasTestified 25 = .ok (.ifCond .eq 16, 3) := by decide +kernel
theorem dX10_hasTestified_28 : decode cX10_hasTestified 28 = .ok (.aload_n 0, 1) := by decide +kernel
theorem dX10_hasTestified_29 : decode cX10_hasTestified 29 = .ok (.iload_n 1, 1) := by decide +kernel
theorem dX10_hasTestified_30 : decode cX10_hasTestified 30 = .ok (.iload_n 2, 1) := by decide +kernel
theorem dX10_hasTestified_31 : decode cX10_hasTestified 31 = .ok (.invokevirtual 98, 3) := by decide +kernel
theorem dX10_hasTestified_34 : decode cX10_hasTestified 34 = .ok (.ifCond .lt 7, 3) := by decide +kernel
theorem dX10_hasTestified_37 : decode cX10_hasTestified 37 = .ok (.iconst 1, 1) := by decide +kernel
theorem dX10_hasTestified_38 : decode cX10_hasTestified 38 = .ok (.goto 4, 3) := by decide +kernel
theorem dX10_hasTestified_41 : decode cX10_hasTestified 41 = .ok (.iconst 0, 1) := by decide +kernel
theorem dX10_hasTestified_42 : decode cX10_hasTestified 42 = .ok (.ireturn, 1) := by decide +kernel
theorem dX10_ofTestimony_0 : decode cX10_ofTestimony 0 = .ok (.aload_n 0, 1) := by decide +kernel
theorem dX10_ofTestimony_1 : decode cX10_ofTestimony 1 = .ok (.aload_n 0, 1) := by decide +kernel
theorem dX10_ofTestimony_2 : decode cX10_ofTestimony 2 = .ok (.iload_n 1, 1) := by decide +kernel
theorem dX10_ofTestimony_3 : decode cX10_ofTestimony 3 = .ok (.invokevirtual 92, 3) := by decide +kernel
theorem dX10_ofTestimony_6 : decode cX10_ofTestimony 6 = .ok (.ifCond .eq 11, 3) := by decide +kernel
theorem dX10_ofTestimony_9 : decode cX10_ofTestimony 9 = .ok (.aload_n 0, 1) := by decide +kernel
theorem dX10_ofTestimony_10 : decode cX10_ofTestimony 10 = .ok (.iload_n 2, 1) := by decide +kernel
theorem dX10_ofTestimony_11 : decode cX10_ofTestimony 11 = .ok (.invokevirtual 95, 3) := by decide +kernel
theorem dX10_ofTestimony_14 : decode cX10_ofTestimony 14 = .ok (.ifCond .ne 7, 3) := by decide +kernel
theorem dX10_ofTestimony_17 : decode cX10_ofTestimony 17 = .ok (.iconst 1, 1) := by decide +kernel
theorem dX10_ofTestimony_18 : decode cX10_ofTestimony 18 = .ok (.goto 17, 3) := by decide +kernel
theorem dX10_ofTestimony_21 : decode cX10_ofTestimony 21 = .ok (.aload_n 0, 1) := by decide +kernel
theorem dX10_ofTestimony_22 : decode cX10_ofTestimony 22 = .ok (.iload_n 1, 1) := by decide +kernel
theorem dX10_ofTestimony_23 : decode cX10_ofTestimony 23 = .ok (.iload_n 2, 1) := by decide +kernel
theorem dX10_ofTestimony_24 : decode cX10_ofTestimony 24 = .ok (.invokevirtual 98, 3) := by decide +kernel
theorem dX10_ofTestimony_27 : decode cX10_ofTestimony 27 = .ok (.ifCond .ge 7, 3) := by decide +kernel
theorem dX10_ofTestimony_30 : decode cX10_ofTestimony 30 = .ok (.iconst 2, 1) := by decide +kernel
theorem dX10_ofTestimony_31 : decode cX10_ofTestimony 31 = .ok (.goto 4, 3) := by decide +kernel
theorem dX10_ofTestimony_34 : decode cX10_ofTestimony 34 = .ok (.iconst 0, 1) := by decide +kernel
theorem dX10_ofTestimony_35 : decode cX10_ofTestimony 35 = .ok (.putfield 30, 3) := by decide +kernel
theorem dX10_ofTestimony_38 : decode cX10_ofTestimony 38 = .ok (.aload_n 0, 1) := by decide +kernel
theorem dX10_ofTestimony_39 : decode cX10_ofTestimony 39 = .ok (.getfield 30, 3) := by decide +kernel
theorem dX10_ofTestimony_42 : decode cX10_ofTestimony 42 = .ok (.ifCond .ne 18, 3) := by decide +kernel
theorem dX10_ofTestimony_45 : decode cX10_ofTestimony 45 = .ok (.aload_n 0, 1) := by decide +kernel
theorem dX10_ofTestimony_46 : decode cX10_ofTestimony 46 = .ok (.iload_n 1, 1) := by decide +kernel
theorem dX10_ofTestimony_47 : decode cX10_ofTestimony 47 = .ok (.aload_n 0, 1) := by decide +kernel
theorem dX10_ofTestimony_48 : decode cX10_ofTestimony 48 = .ok (.iload_n 1, 1) := by decide +kernel
theorem dX10_ofTestimony_49 : decode cX10_ofTestimony 49 = .ok (.iload_n 2, 1) := by decide +kernel
theorem dX10_ofTestimony_50 : decode cX10_ofTestimony 50 = .ok (.invokevirtual 98, 3) := by decide +kernel
theorem dX10_ofTestimony_53 : decode cX10_ofTestimony 53 = .ok (.iload_n 3, 1) := by decide +kernel
theorem dX10_ofTestimony_54 : decode cX10_ofTestimony 54 = .ok (.invokevirtual 51, 3) := by decide +kernel
theorem dX10_ofTestimony_57 : decode cX10_ofTestimony 57 = .ok (.goto 4, 3) := by decide +kernel
theorem dX10_ofTestimony_60 : decode cX10_ofTestimony 60 = .ok (.iconst 0, 1) := by decide +kernel
theorem dX10_ofTestimony_61 : decode cX10_ofTestimony 61 = .ok (.ireturn, 1) := by decide +kernel
theorem dX10_isForProsecution_0 : decode cX10_isForProsecution 0 = .ok (.aload_n 0, 1) := by decide +kernel
theorem dX10_isForProsecution_1 : decode cX10_isForProsecution 1 = .ok (.iload_n 1, 1) := by decide +kernel
theorem dX10_isForProsecution_2 : decode cX10_isForProsecution 2 = .ok (.iload_n 2, 1) := by decide +kernel
theorem dX10_isForProsecution_3 : decode cX10_isForProsecution 3 = .ok (.iconst 1, 1) := by decide +kernel
theorem dX10_isForProsecution_4 : decode cX10_isForProsecution 4 = .ok (.invokevirtual 131, 3) := by decide +kernel
theorem dX10_isForProsecution_7 : decode cX10_isForProsecution 7 = .ok (.iconst 1, 1) := by decide +kernel
theorem dX10_isForProsecution_8 : decode cX10_isForProsecution 8 = .ok (.if_icmp .ne 7, 3) := by decide +kernel
theorem dX10_isForProsecution_11 : decode cX10_isForProsecution 11 = .ok (.iconst 1, 1) := by decide +kernel
theorem dX10_isForProsecution_12 : decode cX10_isForProsecution 12 = .ok (.goto 4, 3) := by decide +kernel
theorem dX10_isForProsecution_15 : decode cX10_isForProsecution 15 = .ok (.iconst 0, 1) := by decide +kernel
theorem dX10_isForProsecution_16 : decode cX10_isForProsecution 16 = .ok (.ireturn, 1) := by decide +kernel
theorem dX10_strength_0 : decode cX10_strength 0 = .ok (.aload_n 0, 1) := by decide +kernel
theorem dX10_strength_1 : decode cX10_strength 1 = .ok (.iload_n 1, 1) := by decide +kernel
theorem dX10_strength_2 : decode cX10_strength 2 = .ok (.iload_n 2, 1) := by decide +kernel
theorem dX10_strength_3 : decode cX10_strength 3 = .ok (.iconst 2, 1) := by decide +kernel
theorem dX10_strength_4 : decode cX10_strength 4 = .ok (.invokevirtual 131, 3) := by decide +kernel
theorem dX10_strength_7 : decode cX10_strength 7 = .ok (.ireturn, 1) := by decide +kernel
theorem dX10_questionCount_0 : decode cX10_questionCount 0 = .ok (.aload_n 0, 1) := by decide +kernel
theorem dX10_questionCount_1 : decode cX10_questionCount 1 = .ok (.iload_n 1, 1) := by decide +kernel
theorem dX10_questionCount_2 : decode cX10_questionCount 2 = .ok (.iload_n 2, 1) := by decide +kernel
theorem dX10_questionCount_3 : decode cX10_questionCount 3 = .ok (.iconst 3, 1) := by decide +kernel
theorem dX10_questionCount_4 : decode cX10_questionCount 4 = .ok (.invokevirtual 131, 3) := by decide +kernel
theorem dX10_questionCount_7 : decode cX10_questionCount 7 = .ok (.ireturn, 1) := by decide +kernel
theorem dX10_witnessCount_0 : decode cX10_witnessCount 0 = .ok (.aload_n 0, 1) := by decide +kernel
theorem dX10_witnessCount_1 : decode cX10_witnessCount 1 = .ok (.iconst 0, 1) := by decide +kernel
theorem dX10_witnessCount_2 : decode cX10_witnessCount 2 = .ok (.putfield 30, 3) := by decide +kernel
theorem dX10_witnessCount_5 : decode cX10_witnessCount 5 = .ok (.aload_n 0, 1) := by decide +kernel
theorem dX10_witnessCount_6 : decode cX10_witnessCount 6 = .ok (.getfield 9, 3) := by decide +kernel
theorem dX10_witnessCount_9 : decode cX10_witnessCount 9 = .ok (.iconst 1, 1) := by decide +kernel
theorem dX10_witnessCount_10 : decode cX10_witnessCount 10 = .ok (.iaload, 1) := by decide +kernel
theorem dX10_witnessCount_11 : decode cX10_witnessCount 11 = .ok (.ireturn, 1) := by decide +kernel
theorem dX10_credibility_0 : decode cX10_credibility 0 = .ok (.aload_n 0, 1) := by decide +kernel
theorem dX10_credibility_1 : decode cX10_credibility 1 = .ok (.aload_n 0, 1) := by decide +kernel
theorem dX10_credibility_2 : decode cX10_credibility 2 = .ok (.iload_n 1, 1) := by decide +kernel
theorem dX10_credibility_3 : decode cX10_credibility 3 = .ok (.invokevirtual 95, 3) := by decide +kernel
theorem dX10_credibility_6 : decode cX10_credibility 6 = .ok (.invokevirtual 124, 3) := by decide +kernel
theorem dX10_credibility_9 : decode cX10_credibility 9 = .ok (.ifCond .eq 14, 3) := by decide +kernel
theorem dX10_credibility_12 : decode cX10_credibility 12 = .ok (.aload_n 0, 1) := by decide +kernel
theorem dX10_credibility_13 : decode cX10_credibility 13 = .ok (.getfield 9, 3) := by decide +kernel
theorem dX10_credibility_16 : decode cX10_credibility 16 = .ok (.iconst 4, 1) := by decide +kernel
theorem dX10_credibility_17 : decode cX10_credibility 17 = .ok (.iload_n 1, 1) := by decide +kernel
theorem dX10_credibility_18 : decode cX10_credibility 18 = .ok (.iadd, 1) := by decide +kernel
theorem dX10_credibility_19 : decode cX10_credibility 19 = .ok (.iaload, 1) := by decide +kernel
theorem dX10_credibility_20 : decode cX10_credibility 20 = .ok (.goto 4, 3) := by decide +kernel
theorem dX10_credibility_23 : decode cX10_credibility 23 = .ok (.iconst 0, 1) := by decide +kernel
theorem dX10_credibility_24 : decode cX10_credibility 24 = .ok (.ireturn, 1) := by decide +kernel
theorem dX10_casesBy_0 : decode cX10_casesBy 0 = .ok (.iconst 0, 1) := by decide +kernel
theorem dX10_casesBy_1 : decode cX10_casesBy 1 = .ok (.istore_n 2, 1) := by decide +kernel
theorem dX10_casesBy_2 : decode cX10_casesBy 2 = .ok (.iconst 0, 1) := by decide +kernel
theorem dX10_casesBy_3 : decode cX10_casesBy 3 = .ok (.istore_n 3, 1) := by decide +kernel
theorem dX10_casesBy_4 : decode cX10_casesBy 4 = .ok (.iload_n 3, 1) := by decide +kernel
theorem dX10_casesBy_5 : decode cX10_casesBy 5 = .ok (.aload_n 0, 1) := by decide +kernel
theorem dX10_casesBy_6 : decode cX10_casesBy 6 = .ok (.getfield 9, 3) := by decide +kernel
theorem dX10_casesBy_9 : decode cX10_casesBy 9 = .ok (.iconst 0, 1) := by decide +kernel
theorem dX10_casesBy_10 : decode cX10_casesBy 10 = .ok (.iaload, 1) := by decide +kernel
theorem dX10_casesBy_11 : decode cX10_casesBy 11 = .ok (.if_icmp .ge 26, 3) := by decide +kernel
theorem dX10_casesBy_14 : decode cX10_casesBy 14 = .ok (.iload_n 2, 1) := by decide +kernel
theorem dX10_casesBy_15 : decode cX10_casesBy 15 = .ok (.aload_n 0, 1) := by decide +kernel
theorem dX10_casesBy_16 : decode cX10_casesBy 16 = .ok (.iload_n 3, 1) := by decide +kernel
theorem dX10_casesBy_17 : decode cX10_casesBy 17 = .ok (.iload_n 1, 1) := by decide +kernel
theorem dX10_casesBy_18 : decode cX10_casesBy 18 = .ok (.invokevirtual 98, 3) := by decide +kernel
theorem dX10_casesBy_21 : decode cX10_casesBy 21 = .ok (.ifCond .lt 7, 3) := by decide +kernel
theorem dX10_casesBy_24 : decode cX10_casesBy 24 = .ok (.iconst 1, 1) := by decide +kernel
theorem dX10_casesBy_25 : decode cX10_casesBy 25 = .ok (.goto 4, 3) := by decide +kernel
theorem dX10_casesBy_28 : decode cX10_casesBy 28 = .ok (.iconst 0, 1) := by decide +kernel
theorem dX10_casesBy_29 : decode cX10_casesBy 29 = .ok (.iadd, 1) := by decide +kernel
theorem dX10_casesBy_30 : decode cX10_casesBy 30 = .ok (.istore_n 2, 1) := by decide +kernel
theorem dX10_casesBy_31 : decode cX10_casesBy 31 = .ok (.iinc 3 1, 3) := by decide +kernel
theorem dX10_casesBy_34 : decode cX10_casesBy 34 = .ok (.goto (-30), 3) := by decide +kernel
theorem dX10_casesBy_37 : decode cX10_casesBy 37 = .ok (.iload_n 2, 1) := by decide +kernel
theorem dX10_casesBy_38 : decode cX10_casesBy 38 = .ok (.ireturn, 1) := by decide +kernel
theorem dX10_casesOfWitness_0 : decode cX10_casesOfWitness 0 = .ok (.aload_n 0, 1) := by decide +kernel
theorem dX10_casesOfWitness_1 : decode cX10_casesOfWitness 1 = .ok (.aload_n 0, 1) := by decide +kernel
theorem dX10_casesOfWitness_2 : decode cX10_casesOfWitness 2 = .ok (.iload_n 1, 1) := by decide +kernel
theorem dX10_casesOfWitness_3 : decode cX10_casesOfWitness 3 = .ok (.invokevirtual 95, 3) := by decide +kernel
theorem dX10_casesOfWitness_6 : decode cX10_casesOfWitness 6 = .ok (.invokevirtual 124, 3) := by decide +kernel
theorem dX10_casesOfWitness_9 : decode cX10_casesOfWitness 9 = .ok (.ifCond .eq 11, 3) := by decide +kernel
theorem dX10_casesOfWitness_12 : decode cX10_casesOfWitness 12 = .ok (.aload_n 0, 1) := by decide +kernel
theorem dX10_casesOfWitness_13 : decode cX10_casesOfWitness 13 = .ok (.iload_n 1, 1) := by decide +kernel
theorem dX10_casesOfWitness_14 : decode cX10_casesOfWitness 14 = .ok (.invokevirtual 134, 3) := by decide +kernel
theorem dX10_casesOfWitness_17 : decode cX10_casesOfWitness 17 = .ok (.goto 4, 3) := by decide +kernel
theorem dX10_casesOfWitness_20 : decode cX10_casesOfWitness 20 = .ok (.iconst 0, 1) := by decide +kernel
theorem dX10_casesOfWitness_21 : decode cX10_casesOfWitness 21 = .ok (.ireturn, 1) := by decide +kernel
theorem dX10_mostCredible_0 : decode cX10_mostCredible 0 = .ok (.iconst 0, 1) := by decide +kernel
theorem dX10_mostCredible_1 : decode cX10_mostCredible 1 = .ok (.istore_n 2, 1) := by decide +kernel
theorem dX10_mostCredible_2 : decode cX10_mostCredible 2 = .ok (.iload_n 2, 1) := by decide +kernel
theorem dX10_mostCredible_3 : decode cX10_mostCredible 3 = .ok (.aload_n 0, 1) := by decide +kernel
theorem dX10_mostCredible_4 : decode cX10_mostCredible 4 = .ok (.getfield 9, 3) := by decide +kernel
theorem dX10_mostCredible_7 : decode cX10_mostCredible 7 = .ok (.iconst 1, 1) := by decide +kernel
theorem dX10_mostCredible_8 : decode cX10_mostCredible 8 = .ok (.iaload, 1) := by decide +kernel
theorem dX10_mostCredible_9 : decode cX10_mostCredible 9 = .ok (.if_icmp .ge 118, 3) := by decide +kernel
theorem dX10_mostCredible_12 : decode cX10_mostCredible 12 = .ok (.iconst 0, 1) := by decide +kernel
theorem dX10_mostCredible_13 : decode cX10_mostCredible 13 = .ok (.istore_n 3, 1) := by decide +kernel
theorem dX10_mostCredible_14 : decode cX10_mostCredible 14 = .ok (.iconst 0, 1) := by decide +kernel
theorem dX10_mostCredible_15 : decode cX10_mostCredible 15 = .ok (.istore 4, 2) := by decide +kernel
theorem dX10_mostCredible_17 : decode cX10_mostCredible 17 = .ok (.iload 4, 2) := by decide +kernel
theorem dX10_mostCredible_19 : decode cX10_mostCredible 19 = .ok (.aload_n 0, 1) := by decide +kernel
theorem dX10_mostCredible_20 : decode cX10_mostCredible 20 = .ok (.getfield 9, 3) := by decide +kernel
theorem dX10_mostCredible_23 : decode cX10_mostCredible 23 = .ok (.iconst 1, 1) := by decide +kernel
theorem dX10_mostCredible_24 : decode cX10_mostCredible 24 = .ok (.iaload, 1) := by decide +kernel
theorem dX10_mostCredible_25 : decode cX10_mostCredible 25 = .ok (.if_icmp .ge 77, 3) := by decide +kernel
theorem dX10_mostCredible_28 : decode cX10_mostCredible 28 = .ok (.aload_n 0, 1) := by decide +kernel
theorem dX10_mostCredible_29 : decode cX10_mostCredible 29 = .ok (.getfield 9, 3) := by decide +kernel
theorem dX10_mostCredible_32 : decode cX10_mostCredible 32 = .ok (.iconst 4, 1) := by decide +kernel
theorem dX10_mostCredible_33 : decode cX10_mostCredible 33 = .ok (.iload 4, 2) := by decide +kernel
theorem dX10_mostCredible_35 : decode cX10_mostCredible 35 = .ok (.iadd, 1) := by decide +kernel
theorem dX10_mostCredible_36 : decode cX10_mostCredible 36 = .ok (.iaload, 1) := by decide +kernel
theorem dX10_mostCredible_37 : decode cX10_mostCredible 37 = .ok (.aload_n 0, 1) := by decide +kernel
theorem dX10_mostCredible_38 : decode cX10_mostCredible 38 = .ok (.getfield 9, 3) := by decide +kernel
theorem dX10_mostCredible_41 : decode cX10_mostCredible 41 = .ok (.iconst 4, 1) := by decide +kernel
theorem dX10_mostCredible_42 : decode cX10_mostCredible 42 = .ok (.iload_n 2, 1) := by decide +kernel
theorem dX10_mostCredible_43 : decode cX10_mostCredible 43 = .ok (.iadd, 1) := by decide +kernel
theorem dX10_mostCredible_44 : decode cX10_mostCredible 44 = .ok (.iaload, 1) := by decide +kernel
theorem dX10_mostCredible_45 : decode cX10_mostCredible 45 = .ok (.isub, 1) := by decide +kernel
theorem dX10_mostCredible_46 : decode cX10_mostCredible 46 = .ok (.istore 5, 2) := by decide +kernel
theorem dX10_mostCredible_48 : decode cX10_mostCredible 48 = .ok (.aload_n 0, 1) := by decide +kernel
theorem dX10_mostCredible_49 : decode cX10_mostCredible 49 = .ok (.iload 4, 2) := by decide +kernel
theorem dX10_mostCredible_51 : decode cX10_mostCredible 51 = .ok (.invokevirtual 134, 3) := by decide +kernel
theorem dX10_mostCredible_54 : decode cX10_mostCredible 54 = .ok (.aload_n 0, 1) := by decide +kernel
theorem dX10_mostCredible_55 : decode cX10_mostCredible 55 = .ok (.iload_n 2, 1) := by decide +kernel
theorem dX10_mostCredible_56 : decode cX10_mostCredible 56 = .ok (.invokevirtual 134, 3) := by decide +kernel
theorem dX10_mostCredible_59 : decode cX10_mostCredible 59 = .ok (.isub, 1) := by decide +kernel
theorem dX10_mostCredible_60 : decode cX10_mostCredible 60 = .ok (.istore 6, 2) := by decide +kernel
theorem dX10_mostCredible_62 : decode cX10_mostCredible 62 = .ok (.iload_n 3, 1) := by decide +kernel
theorem dX10_mostCredible_63 : decode cX10_mostCredible 63 = .ok (.iload 5, 2) := by decide +kernel
theorem dX10_mostCredible_65 : decode cX10_mostCredible 65 = .ok (.ifCond .gt 24, 3) := by decide +kernel
theorem dX10_mostCredible_68 : decode cX10_mostCredible 68 = .ok (.iload 5, 2) := by decide +kernel
theorem dX10_mostCredible_70 : decode cX10_mostCredible 70 = .ok (.ifCond .ne 23, 3) := by decide +kernel
theorem dX10_mostCredible_73 : decode cX10_mostCredible 73 = .ok (.iload 6, 2) := by decide +kernel
theorem dX10_mostCredible_75 : decode cX10_mostCredible 75 = .ok (.ifCond .gt 14, 3) := by decide +kernel
theorem dX10_mostCredible_78 : decode cX10_mostCredible 78 = .ok (.iload 6, 2) := by decide +kernel
theorem dX10_mostCredible_80 : decode cX10_mostCredible 80 = .ok (.ifCond .ne 13, 3) := by decide +kernel
theorem dX10_mostCredible_83 : decode cX10_mostCredible 83 = .ok (.iload 4, 2) := by decide +kernel
theorem dX10_mostCredible_85 : decode cX10_mostCredible 85 = .ok (.iload_n 2, 1) := by decide +kernel
theorem dX10_mostCredible_86 : decode cX10_mostCredible 86 = .ok (.if_icmp .ge 7, 3) := by decide +kernel
theorem dX10_mostCredible_89 : decode cX10_mostCredible 89 = .ok (.iconst 1, 1) := by decide +kernel
theorem dX10_mostCredible_90 : decode cX10_mostCredible 90 = .ok (.goto 4, 3) := by decide +kernel
theorem dX10_mostCredible_93 : decode cX10_mostCredible 93 = .ok (.iconst 0, 1) := by decide +kernel
theorem dX10_mostCredible_94 : decode cX10_mostCredible 94 = .ok (.iadd, 1) := by decide +kernel
theorem dX10_mostCredible_95 : decode cX10_mostCredible 95 = .ok (.istore_n 3, 1) := by decide +kernel
theorem dX10_mostCredible_96 : decode cX10_mostCredible 96 = .ok (.iinc 4 1, 3) := by decide +kernel
theorem dX10_mostCredible_99 : decode cX10_mostCredible 99 = .ok (.goto (-82), 3) := by decide +kernel
theorem dX10_mostCredible_102 : decode cX10_mostCredible 102 = .ok (.aload_n 0, 1) := by decide +kernel
theorem dX10_mostCredible_103 : decode cX10_mostCredible 103 = .ok (.iload_n 3, 1) := by decide +kernel
theorem dX10_mostCredible_104 : decode cX10_mostCredible 104 = .ok (.iload_n 1, 1) := by decide +kernel
theorem dX10_mostCredible_105 : decode cX10_mostCredible 105 = .ok (.if_icmp .ne 7, 3) := by decide +kernel
theorem dX10_mostCredible_108 : decode cX10_mostCredible 108 = .ok (.iconst 1, 1) := by decide +kernel
theorem dX10_mostCredible_109 : decode cX10_mostCredible 109 = .ok (.goto 4, 3) := by decide +kernel
theorem dX10_mostCredible_112 : decode cX10_mostCredible 112 = .ok (.iconst 0, 1) := by decide +kernel
theorem dX10_mostCredible_113 : decode cX10_mostCredible 113 = .ok (.invokevirtual 124, 3) := by decide +kernel
theorem dX10_mostCredible_116 : decode cX10_mostCredible 116 = .ok (.ifCond .eq 5, 3) := by decide +kernel
theorem dX10_mostCredible_119 : decode cX10_mostCredible 119 = .ok (.iload_n 2, 1) := by decide +kernel
theorem dX10_mostCredible_120 : decode cX10_mostCredible 120 = .ok (.ireturn, 1) := by decide +kernel
theorem dX10_mostCredible_121 : decode cX10_mostCredible 121 = .ok (.iinc 2 1, 3) := by decide +kernel
theorem dX10_mostCredible_124 : decode cX10_mostCredible 124 = .ok (.goto (-122), 3) := by decide +kernel
theorem dX10_mostCredible_127 : decode cX10_mostCredible 127 = .ok (.aload_n 0, 1) := by decide +kernel
theorem dX10_mostCredible_128 : decode cX10_mostCredible 128 = .ok (.iconst 1, 1) := by decide +kernel
theorem dX10_mostCredible_129 : decode cX10_mostCredible 129 = .ok (.putfield 30, 3) := by decide +kernel
theorem dX10_mostCredible_132 : decode cX10_mostCredible 132 = .ok (.iconst 0, 1) := by decide +kernel
theorem dX10_mostCredible_133 : decode cX10_mostCredible 133 = .ok (.ireturn, 1) := by decide +kernel
theorem dX10_agreement_0 : decode cX10_agreement 0 = .ok (.aload_n 0, 1) := by decide +kernel
theorem dX10_agreement_1 : decode cX10_agreement 1 = .ok (.aload_n 0, 1) := by decide +kernel
theorem dX10_agreement_2 : decode cX10_agreement 2 = .ok (.iload_n 1, 1) := by decide +kernel
theorem dX10_agreement_3 : decode cX10_agreement 3 = .ok (.invokevirtual 95, 3) := by decide +kernel
theorem dX10_agreement_6 : decode cX10_agreement 6 = .ok (.ifCond .eq 15, 3) := by decide +kernel
theorem dX10_agreement_9 : decode cX10_agreement 9 = .ok (.aload_n 0, 1) := by decide +kernel
theorem dX10_agreement_10 : decode cX10_agreement 10 = .ok (.iload_n 2, 1) := by decide +kernel
theorem dX10_agreement_11 : decode cX10_agreement 11 = .ok (.invokevirtual 95, 3) := by decide +kernel
theorem dX10_agreement_14 : decode cX10_agreement 14 = .ok (.ifCond .eq 7, 3) := by decide +kernel
theorem dX10_agreement_17 : decode cX10_agreement 17 = .ok (.iconst 1, 1) := by decide +kernel
theorem dX10_agreement_18 : decode cX10_agreement 18 = .ok (.goto 4, 3) := by decide +kernel
theorem dX10_agreement_21 : decode cX10_agreement 21 = .ok (.iconst 0, 1) := by decide +kernel
theorem dX10_agreement_22 : decode cX10_agreement 22 = .ok (.invokevirtual 124, 3) := by decide +kernel
theorem dX10_agreement_25 : decode cX10_agreement 25 = .ok (.ifCond .ne 5, 3) := by decide +kernel
theorem dX10_agreement_28 : decode cX10_agreement 28 = .ok (.iconst 0, 1) := by decide +kernel
theorem dX10_agreement_29 : decode cX10_agreement 29 = .ok (.ireturn, 1) := by decide +kernel
theorem dX10_agreement_30 : decode cX10_agreement 30 = .ok (.iconst 0, 1) := by decide +kernel
theorem dX10_agreement_31 : decode cX10_agreement 31 = .ok (.istore_n 3, 1) := by decide +kernel
theorem dX10_agreement_32 : decode cX10_agreement 32 = .ok (.iconst 0, 1) := by decide +kernel
theorem dX10_agreement_33 : decode cX10_agreement 33 = .ok (.istore 4, 2) := by decide +kernel
theorem dX10_agreement_35 : decode cX10_agreement 35 = .ok (.iload 4, 2) := by decide +kernel
theorem dX10_agreement_37 : decode cX10_agreement 37 = .ok (.aload_n 0, 1) := by decide +kernel
theorem dX10_agreement_38 : decode cX10_agreement 38 = .ok (.getfield 9, 3) := by decide +kernel
theorem dX10_agreement_41 : decode cX10_agreement 41 = .ok (.iconst 0, 1) := by decide +kernel
theorem dX10_agreement_42 : decode cX10_agreement 42 = .ok (.iaload, 1) := by decide +kernel
theorem dX10_agreement_43 : decode cX10_agreement 43 = .ok (.if_icmp .ge 69, 3) := by decide +kernel
theorem dX10_agreement_46 : decode cX10_agreement 46 = .ok (.aload_n 0, 1) := by decide +kernel
theorem dX10_agreement_47 : decode cX10_agreement 47 = .ok (.iload 4, 2) := by decide +kernel
theorem dX10_agreement_49 : decode cX10_agreement 49 = .ok (.iload_n 1, 1) := by decide +kernel
theorem dX10_agreement_50 : decode cX10_agreement 50 = .ok (.invokevirtual 98, 3) := by decide +kernel
theorem dX10_agreement_53 : decode cX10_agreement 53 = .ok (.istore 5, 2) := by decide +kernel
theorem dX10_agreement_55 : decode cX10_agreement 55 = .ok (.aload_n 0, 1) := by decide +kernel
theorem dX10_agreement_56 : decode cX10_agreement 56 = .ok (.iload 4, 2) := by decide +kernel
theorem dX10_agreement_58 : decode cX10_agreement 58 = .ok (.iload_n 2, 1) := by decide +kernel
theorem dX10_agreement_59 : decode cX10_agreement 59 = .ok (.invokevirtual 98, 3) := by decide +kernel
theorem dX10_agreement_62 : decode cX10_agreement 62 = .ok (.istore 6, 2) := by decide +kernel
theorem dX10_agreement_64 : decode cX10_agreement 64 = .ok (.iload 5, 2) := by decide +kernel
theorem dX10_agreement_66 : decode cX10_agreement 66 = .ok (.ifCond .lt 40, 3) := by decide +kernel
theorem dX10_agreement_69 : decode cX10_agreement 69 = .ok (.iload 6, 2) := by decide +kernel
theorem dX10_agreement_71 : decode cX10_agreement 71 = .ok (.ifCond .ge 6, 3) := by decide +kernel
theorem dX10_agreement_74 : decode cX10_agreement 74 = .ok (.goto 32, 3) := by decide +kernel
theorem dX10_agreement_77 : decode cX10_agreement 77 = .ok (.iload_n 3, 1) := by decide +kernel
theorem dX10_agreement_78 : decode cX10_agreement 78 = .ok (.aload_n 0, 1) := by decide +kernel
theorem dX10_agreement_79 : decode cX10_agreement 79 = .ok (.iload 4, 2) := by decide +kernel
theorem dX10_agreement_81 : decode cX10_agreement 81 = .ok (.iload 5, 2) := by decide +kernel
theorem dX10_agreement_83 : decode cX10_agreement 83 = .ok (.iconst 1, 1) := by decide +kernel
theorem dX10_agreement_84 : decode cX10_agreement 84 = .ok (.invokevirtual 51, 3) := by decide +kernel
theorem dX10_agreement_87 : decode cX10_agreement 87 = .ok (.aload_n 0, 1) := by decide +kernel
theorem dX10_agreement_88 : decode cX10_agreement 88 = .ok (.iload 4, 2) := by decide +kernel
theorem dX10_agreement_90 : decode cX10_agreement 90 = .ok (.iload 6, 2) := by decide +kernel
theorem dX10_agreement_92 : decode cX10_agreement 92 = .ok (.iconst 1, 1) := by decide +kernel
theorem dX10_agreement_93 : decode cX10_agreement 93 = .ok (.invokevirtual 51, 3) := by decide +kernel
theorem dX10_agreement_96 : decode cX10_agreement 96 = .ok (.if_icmp .ne 7, 3) := by decide +kernel
theorem dX10_agreement_99 : decode cX10_agreement 99 = .ok (.iconst 1, 1) := by decide +kernel
theorem dX10_agreement_100 : decode cX10_agreement 100 = .ok (.goto 4, 3) := by decide +kernel
theorem dX10_agreement_103 : decode cX10_agreement 103 = .ok (.iconst (-1), 1) := by decide +kernel
theorem dX10_agreement_104 : decode cX10_agreement 104 = .ok (.iadd, 1) := by decide +kernel
theorem dX10_agreement_105 : decode cX10_agreement 105 = .ok (.istore_n 3, 1) := by decide +kernel
theorem dX10_agreement_106 : decode cX10_agreement 106 = .ok (.iinc 4 1, 3) := by decide +kernel
theorem dX10_agreement_109 : decode cX10_agreement 109 = .ok (.goto (-74), 3) := by decide +kernel
theorem dX10_agreement_112 : decode cX10_agreement 112 = .ok (.iload_n 3, 1) := by decide +kernel
theorem dX10_agreement_113 : decode cX10_agreement 113 = .ok (.ireturn, 1) := by decide +kernel
theorem dX10_groupOf_0 : decode cX10_groupOf 0 = .ok (.iconst 1, 1) := by decide +kernel
theorem dX10_groupOf_1 : decode cX10_groupOf 1 = .ok (.iload_n 1, 1) := by decide +kernel
theorem dX10_groupOf_2 : decode cX10_groupOf 2 = .ok (.ishl, 1) := by decide +kernel
theorem dX10_groupOf_3 : decode cX10_groupOf 3 = .ok (.istore_n 2, 1) := by decide +kernel
theorem dX10_groupOf_4 : decode cX10_groupOf 4 = .ok (.iconst 0, 1) := by decide +kernel
theorem dX10_groupOf_5 : decode cX10_groupOf 5 = .ok (.istore_n 3, 1) := by decide +kernel
theorem dX10_groupOf_6 : decode cX10_groupOf 6 = .ok (.iload_n 3, 1) := by decide +kernel
theorem dX10_groupOf_7 : decode cX10_groupOf 7 = .ok (.bipush 8, 2) := by decide +kernel
theorem dX10_groupOf_9 : decode cX10_groupOf 9 = .ok (.if_icmp .ge 85, 3) := by decide +kernel
theorem dX10_groupOf_12 : decode cX10_groupOf 12 = .ok (.iconst 0, 1) := by decide +kernel
theorem dX10_groupOf_13 : decode cX10_groupOf 13 = .ok (.istore 4, 2) := by decide +kernel
theorem dX10_groupOf_15 : decode cX10_groupOf 15 = .ok (.iload 4, 2) := by decide +kernel
theorem dX10_groupOf_17 : decode cX10_groupOf 17 = .ok (.aload_n 0, 1) := by decide +kernel
theorem dX10_groupOf_18 : decode cX10_groupOf 18 = .ok (.getfield 9, 3) := by decide +kernel
theorem dX10_groupOf_21 : decode cX10_groupOf 21 = .ok (.iconst 0, 1) := by decide +kernel
theorem dX10_groupOf_22 : decode cX10_groupOf 22 = .ok (.iaload, 1) := by decide +kernel
theorem dX10_groupOf_23 : decode cX10_groupOf 23 = .ok (.if_icmp .ge 65, 3) := by decide +kernel
theorem dX10_groupOf_26 : decode cX10_groupOf 26 = .ok (.iconst 0, 1) := by decide +kernel
theorem dX10_groupOf_27 : decode cX10_groupOf 27 = .ok (.istore 5, 2) := by decide +kernel
theorem dX10_groupOf_29 : decode cX10_groupOf 29 = .ok (.iconst 0, 1) := by decide +kernel
theorem dX10_groupOf_30 : decode cX10_groupOf 30 = .ok (.istore 6, 2) := by decide +kernel
theorem dX10_groupOf_32 : decode cX10_groupOf 32 = .ok (.iload 6, 2) := by decide +kernel
theorem dX10_groupOf_34 : decode cX10_groupOf 34 = .ok (.aload_n 0, 1) := by decide +kernel
theorem dX10_groupOf_35 : decode cX10_groupOf 35 = .ok (.iload 4, 2) := by decide +kernel
theorem dX10_groupOf_37 : decode cX10_groupOf 37 = .ok (.iconst 5, 1) := by decide +kernel
theorem dX10_groupOf_38 : decode cX10_groupOf 38 = .ok (.invokevirtual 47, 3) := by decide +kernel
theorem dX10_groupOf_41 : decode cX10_groupOf 41 = .ok (.if_icmp .ge 25, 3) := by decide +kernel
theorem dX10_groupOf_44 : decode cX10_groupOf 44 = .ok (.iload 5, 2) := by decide +kernel
theorem dX10_groupOf_46 : decode cX10_groupOf 46 = .ok (.iconst 1, 1) := by decide +kernel
theorem dX10_groupOf_47 : decode cX10_groupOf 47 = .ok (.aload_n 0, 1) := by decide +kernel
theorem dX10_groupOf_48 : decode cX10_groupOf 48 = .ok (.iload 4, 2) := by decide +kernel
theorem dX10_groupOf_50 : decode cX10_groupOf 50 = .ok (.iload 6, 2) := by decide +kernel
theorem dX10_groupOf_52 : decode cX10_groupOf 52 = .ok (.iconst 0, 1) := by decide +kernel
theorem dX10_groupOf_53 : decode cX10_groupOf 53 = .ok (.invokevirtual 51, 3) := by decide +kernel
theorem dX10_groupOf_56 : decode cX10_groupOf 56 = .ok (.ishl, 1) := by decide +kernel
theorem dX10_groupOf_57 : decode cX10_groupOf 57 = .ok (.ior, 1) := by decide +kernel
theorem dX10_groupOf_58 : decode cX10_groupOf 58 = .ok (.istore 5, 2) := by decide +kernel
theorem dX10_groupOf_60 : decode cX10_groupOf 60 = .ok (.iinc 6 1, 3) := by decide +kernel
theorem dX10_groupOf_63 : decode cX10_groupOf 63 = .ok (.goto (-31), 3) := by decide +kernel
theorem dX10_groupOf_66 : decode cX10_groupOf 66 = .ok (.iload_n 2, 1) := by decide +kernel
theorem dX10_groupOf_67 : decode cX10_groupOf 67 = .ok (.iload_n 2, 1) := by decide +kernel
theorem dX10_groupOf_68 : decode cX10_groupOf 68 = .ok (.iload 5, 2) := by decide +kernel
theorem dX10_groupOf_70 : decode cX10_groupOf 70 = .ok (.iand, 1) := by decide +kernel
theorem dX10_groupOf_71 : decode cX10_groupOf 71 = .ok (.ifCond .eq 8, 3) := by decide +kernel
theorem dX10_groupOf_74 : decode cX10_groupOf 74 = .ok (.iload 5, 2) := by decide +kernel
theorem dX10_groupOf_76 : decode cX10_groupOf 76 = .ok (.goto 4, 3) := by decide +kernel
theorem dX10_groupOf_79 : decode cX10_groupOf 79 = .ok (.iconst 0, 1) := by decide +kernel
theorem dX10_groupOf_80 : decode cX10_groupOf 80 = .ok (.ior, 1) := by decide +kernel
theorem dX10_groupOf_81 : decode cX10_groupOf 81 = .ok (.istore_n 2, 1) := by decide +kernel
theorem dX10_groupOf_82 : decode cX10_groupOf 82 = .ok (.iinc 4 1, 3) := by decide +kernel
theorem dX10_groupOf_85 : decode cX10_groupOf 85 = .ok (.goto (-70), 3) := by decide +kernel
theorem dX10_groupOf_88 : decode cX10_groupOf 88 = .ok (.iinc 3 1, 3) := by decide +kernel
theorem dX10_groupOf_91 : decode cX10_groupOf 91 = .ok (.goto (-85), 3) := by decide +kernel
theorem dX10_groupOf_94 : decode cX10_groupOf 94 = .ok (.iload_n 2, 1) := by decide +kernel
theorem dX10_groupOf_95 : decode cX10_groupOf 95 = .ok (.ireturn, 1) := by decide +kernel
theorem dX10_areConnected_0 : decode cX10_areConnected 0 = .ok (.aload_n 0, 1) := by decide +kernel
theorem dX10_areConnected_1 : decode cX10_areConnected 1 = .ok (.aload_n 0, 1) := by decide +kernel
theorem dX10_areConnected_2 : decode cX10_areConnected 2 = .ok (.iload_n 1, 1) := by decide +kernel
theorem dX10_areConnected_3 : decode cX10_areConnected 3 = .ok (.invokevirtual 95, 3) := by decide +kernel
theorem dX10_areConnected_6 : decode cX10_areConnected 6 = .ok (.ifCond .eq 15, 3) := by decide +kernel
theorem dX10_areConnected_9 : decode cX10_areConnected 9 = .ok (.aload_n 0, 1) := by decide +kernel
theorem dX10_areConnected_10 : decode cX10_areConnected 10 = .ok (.iload_n 2, 1) := by decide +kernel
theorem dX10_areConnected_11 : decode cX10_areConnected 11 = .ok (.invokevirtual 95, 3) := by decide +kernel
theorem dX10_areConnected_14 : decode cX10_areConnected 14 = .ok (.ifCond .eq 7, 3) := by decide +kernel
theorem dX10_areConnected_17 : decode cX10_areConnected 17 = .ok (.iconst 1, 1) := by decide +kernel
theorem dX10_areConnected_18 : decode cX10_areConnected 18 = .ok (.goto 4, 3) := by decide +kernel
theorem dX10_areConnected_21 : decode cX10_areConnected 21 = .ok (.iconst 0, 1) := by decide +kernel
theorem dX10_areConnected_22 : decode cX10_areConnected 22 = .ok (.invokevirtual 124, 3) := by decide +kernel
theorem dX10_areConnected_25 : decode cX10_areConnected 25 = .ok (.ifCond .eq 20, 3) := by decide +kernel
theorem dX10_areConnected_28 : decode cX10_areConnected 28 = .ok (.aload_n 0, 1) := by decide +kernel
theorem dX10_areConnected_29 : decode cX10_areConnected 29 = .ok (.iload_n 1, 1) := by decide +kernel
theorem dX10_areConnected_30 : decode cX10_areConnected 30 = .ok (.invokevirtual 137, 3) := by decide +kernel
theorem dX10_areConnected_33 : decode cX10_areConnected 33 = .ok (.iload_n 2, 1) := by decide +kernel
theorem dX10_areConnected_34 : decode cX10_areConnected 34 = .ok (.ishr, 1) := by decide +kernel
theorem dX10_areConnected_35 : decode cX10_areConnected 35 = .ok (.iconst 1, 1) := by decide +kernel
theorem dX10_areConnected_36 : decode cX10_areConnected 36 = .ok (.iand, 1) := by decide +kernel
theorem dX10_areConnected_37 : decode cX10_areConnected 37 = .ok (.iconst 1, 1) := by decide +kernel
theorem dX10_areConnected_38 : decode cX10_areConnected 38 = .ok (.if_icmp .ne 7, 3) := by decide +kernel
theorem dX10_areConnected_41 : decode cX10_areConnected 41 = .ok (.iconst 1, 1) := by decide +kernel
theorem dX10_areConnected_42 : decode cX10_areConnected 42 = .ok (.goto 4, 3) := by decide +kernel
theorem dX10_areConnected_45 : decode cX10_areConnected 45 = .ok (.iconst 0, 1) := by decide +kernel
theorem dX10_areConnected_46 : decode cX10_areConnected 46 = .ok (.ireturn, 1) := by decide +kernel
theorem dX10_areConnectedBySearch_0 : decode cX10_areConnectedBySearch 0 = .ok (.aload_n 0, 1) := by decide +kernel
theorem dX10_areConnectedBySearch_1 : decode cX10_areConnectedBySearch 1 = .ok (.iload_n 1, 1) := by decide +kernel
theorem dX10_areConnectedBySearch_2 : decode cX10_areConnectedBySearch 2 = .ok (.iload_n 2, 1) := by decide +kernel
theorem dX10_areConnectedBySearch_3 : decode cX10_areConnectedBySearch 3 = .ok (.invokevirtual 140, 3) := by decide +kernel
theorem dX10_areConnectedBySearch_6 : decode cX10_areConnectedBySearch 6 = .ok (.ireturn, 1) := by decide +kernel
theorem dX10_groupSize_0 : decode cX10_groupSize 0 = .ok (.aload_n 0, 1) := by decide +kernel
theorem dX10_groupSize_1 : decode cX10_groupSize 1 = .ok (.aload_n 0, 1) := by decide +kernel
theorem dX10_groupSize_2 : decode cX10_groupSize 2 = .ok (.iload_n 1, 1) := by decide +kernel
theorem dX10_groupSize_3 : decode cX10_groupSize 3 = .ok (.invokevirtual 95, 3) := by decide +kernel
theorem dX10_groupSize_6 : decode cX10_groupSize 6 = .ok (.invokevirtual 124, 3) := by decide +kernel
theorem dX10_groupSize_9 : decode cX10_groupSize 9 = .ok (.ifCond .ne 5, 3) := by decide +kernel
theorem dX10_groupSize_12 : decode cX10_groupSize 12 = .ok (.iconst 0, 1) := by decide +kernel
theorem dX10_groupSize_13 : decode cX10_groupSize 13 = .ok (.ireturn, 1) := by decide +kernel
theorem dX10_groupSize_14 : decode cX10_groupSize 14 = .ok (.aload_n 0, 1) := by decide +kernel
theorem dX10_groupSize_15 : decode cX10_groupSize 15 = .ok (.iload_n 1, 1) := by decide +kernel
theorem dX10_groupSize_16 : decode cX10_groupSize 16 = .ok (.invokevirtual 137, 3) := by decide +kernel
theorem dX10_groupSize_19 : decode cX10_groupSize 19 = .ok (.istore_n 2, 1) := by decide +kernel
theorem dX10_groupSize_20 : decode cX10_groupSize 20 = .ok (.iconst 0, 1) := by decide +kernel
theorem dX10_groupSize_21 : decode cX10_groupSize 21 = .ok (.istore_n 3, 1) := by decide +kernel
theorem dX10_groupSize_22 : decode cX10_groupSize 22 = .ok (.iconst 0, 1) := by decide +kernel
theorem dX10_groupSize_23 : decode cX10_groupSize 23 = .ok (.istore 4, 2) := by decide +kernel
theorem dX10_groupSize_25 : decode cX10_groupSize 25 = .ok (.iload 4, 2) := by decide +kernel
theorem dX10_groupSize_27 : decode cX10_groupSize 27 = .ok (.bipush 8, 2) := by decide +kernel
theorem dX10_groupSize_29 : decode cX10_groupSize 29 = .ok (.if_icmp .ge 18, 3) := by decide +kernel
theorem dX10_groupSize_32 : decode cX10_groupSize 32 = .ok (.iload_n 3, 1) := by decide +kernel
theorem dX10_groupSize_33 : decode cX10_groupSize 33 = .ok (.iload_n 2, 1) := by decide +kernel
theorem dX10_groupSize_34 : decode cX10_groupSize 34 = .ok (.iload 4, 2) := by decide +kernel
theorem dX10_groupSize_36 : decode cX10_groupSize 36 = .ok (.ishr, 1) := by decide +kernel
theorem dX10_groupSize_37 : decode cX10_groupSize 37 = .ok (.iconst 1, 1) := by decide +kernel
theorem dX10_groupSize_38 : decode cX10_groupSize 38 = .ok (.iand, 1) := by decide +kernel
theorem dX10_groupSize_39 : decode cX10_groupSize 39 = .ok (.iadd, 1) := by decide +kernel
theorem dX10_groupSize_40 : decode cX10_groupSize 40 = .ok (.istore_n 3, 1) := by decide +kernel
theorem dX10_groupSize_41 : decode cX10_groupSize 41 = .ok (.iinc 4 1, 3) := by decide +kernel
theorem dX10_groupSize_44 : decode cX10_groupSize 44 = .ok (.goto (-19), 3) := by decide +kernel
theorem dX10_groupSize_47 : decode cX10_groupSize 47 = .ok (.iload_n 3, 1) := by decide +kernel
theorem dX10_groupSize_48 : decode cX10_groupSize 48 = .ok (.ireturn, 1) := by decide +kernel
theorem dX10_groupCount_0 : decode cX10_groupCount 0 = .ok (.aload_n 0, 1) := by decide +kernel
theorem dX10_groupCount_1 : decode cX10_groupCount 1 = .ok (.iconst 0, 1) := by decide +kernel
theorem dX10_groupCount_2 : decode cX10_groupCount 2 = .ok (.putfield 30, 3) := by decide +kernel
theorem dX10_groupCount_5 : decode cX10_groupCount 5 = .ok (.iconst 0, 1) := by decide +kernel
theorem dX10_groupCount_6 : decode cX10_groupCount 6 = .ok (.istore_n 1, 1) := by decide +kernel
theorem dX10_groupCount_7 : decode cX10_groupCount 7 = .ok (.iconst 0, 1) := by decide +kernel
theorem dX10_groupCount_8 : decode cX10_groupCount 8 = .ok (.istore_n 2, 1) := by decide +kernel
theorem dX10_groupCount_9 : decode cX10_groupCount 9 = .ok (.iload_n 2, 1) := by decide +kernel
theorem dX10_groupCount_10 : decode cX10_groupCount 10 = .ok (.aload_n 0, 1) := by decide +kernel
theorem dX10_groupCount_11 : decode cX10_groupCount 11 = .ok (.getfield 9, 3) := by decide +kernel
theorem dX10_groupCount_14 : decode cX10_groupCount 14 = .ok (.iconst 1, 1) := by decide +kernel
theorem dX10_groupCount_15 : decode cX10_groupCount 15 = .ok (.iaload, 1) := by decide +kernel
theorem dX10_groupCount_16 : decode cX10_groupCount 16 = .ok (.if_icmp .ge 31, 3) := by decide +kernel
theorem dX10_groupCount_19 : decode cX10_groupCount 19 = .ok (.iload_n 1, 1) := by decide +kernel
theorem dX10_groupCount_20 : decode cX10_groupCount 20 = .ok (.aload_n 0, 1) := by decide +kernel
theorem dX10_groupCount_21 : decode cX10_groupCount 21 = .ok (.iload_n 2, 1) := by decide +kernel
theorem dX10_groupCount_22 : decode cX10_groupCount 22 = .ok (.invokevirtual 137, 3) := by decide +kernel
theorem dX10_groupCount_25 : decode cX10_groupCount 25 = .ok (.iconst 1, 1) := by decide +kernel
theorem dX10_groupCount_26 : decode cX10_groupCount 26 = .ok (.iload_n 2, 1) := by decide +kernel
theorem dX10_groupCount_27 : decode cX10_groupCount 27 = .ok (.ishl, 1) := by decide +kernel
theorem dX10_groupCount_28 : decode cX10_groupCount 28 = .ok (.iconst 1, 1) := by decide +kernel
theorem dX10_groupCount_29 : decode cX10_groupCount 29 = .ok (.isub, 1) := by decide +kernel
theorem dX10_groupCount_30 : decode cX10_groupCount 30 = .ok (.iand, 1) := by decide +kernel
theorem dX10_groupCount_31 : decode cX10_groupCount 31 = .ok (.ifCond .ne 7, 3) := by decide +kernel
theorem dX10_groupCount_34 : decode cX10_groupCount 34 = .ok (.iconst 1, 1) := by decide +kernel
theorem dX10_groupCount_35 : decode cX10_groupCount 35 = .ok (.goto 4, 3) := by decide +kernel
theorem dX10_groupCount_38 : decode cX10_groupCount 38 = .ok (.iconst 0, 1) := by decide +kernel
theorem dX10_groupCount_39 : decode cX10_groupCount 39 = .ok (.iadd, 1) := by decide +kernel
theorem dX10_groupCount_40 : decode cX10_groupCount 40 = .ok (.istore_n 1, 1) := by decide +kernel
theorem dX10_groupCount_41 : decode cX10_groupCount 41 = .ok (.iinc 2 1, 3) := by decide +kernel
theorem dX10_groupCount_44 : decode cX10_groupCount 44 = .ok (.goto (-35), 3) := by decide +kernel
theorem dX10_groupCount_47 : decode cX10_groupCount 47 = .ok (.iload_n 1, 1) := by decide +kernel
theorem dX10_groupCount_48 : decode cX10_groupCount 48 = .ok (.ireturn, 1) := by decide +kernel
theorem dX10_heaviestWitness_0 : decode cX10_heaviestWitness 0 = .ok (.aload_n 0, 1) := by decide +kernel
theorem dX10_heaviestWitness_1 : decode cX10_heaviestWitness 1 = .ok (.aload_n 0, 1) := by decide +kernel
theorem dX10_heaviestWitness_2 : decode cX10_heaviestWitness 2 = .ok (.iload_n 1, 1) := by decide +kernel
theorem dX10_heaviestWitness_3 : decode cX10_heaviestWitness 3 = .ok (.invokevirtual 92, 3) := by decide +kernel
theorem dX10_heaviestWitness_6 : decode cX10_heaviestWitness 6 = .ok (.ifCond .ne 7, 3) := by decide +kernel
theorem dX10_heaviestWitness_9 : decode cX10_heaviestWitness 9 = .ok (.iconst 1, 1) := by decide +kernel
theorem dX10_heaviestWitness_10 : decode cX10_heaviestWitness 10 = .ok (.goto 17, 3) := by decide +kernel
theorem dX10_heaviestWitness_13 : decode cX10_heaviestWitness 13 = .ok (.aload_n 0, 1) := by decide +kernel
theorem dX10_heaviestWitness_14 : decode cX10_heaviestWitness 14 = .ok (.iload_n 1, 1) := by decide +kernel
theorem dX10_heaviestWitness_15 : decode cX10_heaviestWitness 15 = .ok (.iconst 5, 1) := by decide +kernel
theorem dX10_heaviestWitness_16 : decode cX10_heaviestWitness 16 = .ok (.invokevirtual 47, 3) := by decide +kernel
theorem dX10_heaviestWitness_19 : decode cX10_heaviestWitness 19 = .ok (.ifCond .ne 7, 3) := by decide +kernel
theorem dX10_heaviestWitness_22 : decode cX10_heaviestWitness 22 = .ok (.iconst 2, 1) := by decide +kernel
theorem dX10_heaviestWitness_23 : decode cX10_heaviestWitness 23 = .ok (.goto 4, 3) := by decide +kernel
theorem dX10_heaviestWitness_26 : decode cX10_heaviestWitness 26 = .ok (.iconst 0, 1) := by decide +kernel
theorem dX10_heaviestWitness_27 : decode cX10_heaviestWitness 27 = .ok (.putfield 30, 3) := by decide +kernel
theorem dX10_heaviestWitness_30 : decode cX10_heaviestWitness 30 = .ok (.aload_n 0, 1) := by decide +kernel
theorem dX10_heaviestWitness_31 : decode cX10_heaviestWitness 31 = .ok (.getfield 30, 3) := by decide +kernel
theorem dX10_heaviestWitness_34 : decode cX10_heaviestWitness 34 = .ok (.ifCond .eq 5, 3) := by decide +kernel
theorem dX10_heaviestWitness_37 : decode cX10_heaviestWitness 37 = .ok (.iconst 0, 1) := by decide +kernel
theorem dX10_heaviestWitness_38 : decode cX10_heaviestWitness 38 = .ok (.ireturn, 1) := by decide +kernel
theorem dX10_heaviestWitness_39 : decode cX10_heaviestWitness 39 = .ok (.iconst 0, 1) := by decide +kernel
theorem dX10_heaviestWitness_40 : decode cX10_heaviestWitness 40 = .ok (.istore_n 2, 1) := by decide +kernel
theorem dX10_heaviestWitness_41 : decode cX10_heaviestWitness 41 = .ok (.iconst 1, 1) := by decide +kernel
theorem dX10_heaviestWitness_42 : decode cX10_heaviestWitness 42 = .ok (.istore_n 3, 1) := by decide +kernel
theorem dX10_heaviestWitness_43 : decode cX10_heaviestWitness 43 = .ok (.iload_n 3, 1) := by decide +kernel
theorem dX10_heaviestWitness_44 : decode cX10_heaviestWitness 44 = .ok (.aload_n 0, 1) := by decide +kernel
theorem dX10_heaviestWitness_45 : decode cX10_heaviestWitness 45 = .ok (.iload_n 1, 1) := by decide +kernel
theorem dX10_heaviestWitness_46 : decode cX10_heaviestWitness 46 = .ok (.iconst 5, 1) := by decide +kernel
theorem dX10_heaviestWitness_47 : decode cX10_heaviestWitness 47 = .ok (.invokevirtual 47, 3) := by decide +kernel
theorem dX10_heaviestWitness_50 : decode cX10_heaviestWitness 50 = .ok (.if_icmp .ge 30, 3) := by decide +kernel
theorem dX10_heaviestWitness_53 : decode cX10_heaviestWitness 53 = .ok (.aload_n 0, 1) := by decide +kernel
theorem dX10_heaviestWitness_54 : decode cX10_heaviestWitness 54 = .ok (.iload_n 1, 1) := by decide +kernel
theorem dX10_heaviestWitness_55 : decode cX10_heaviestWitness 55 = .ok (.iload_n 3, 1) := by decide +kernel
theorem dX10_heaviestWitness_56 : decode cX10_heaviestWitness 56 = .ok (.invokevirtual 55, 3) := by decide +kernel
theorem dX10_heaviestWitness_59 : decode cX10_heaviestWitness 59 = .ok (.aload_n 0, 1) := by decide +kernel
theorem dX10_heaviestWitness_60 : decode cX10_heaviestWitness 60 = .ok (.iload_n 1, 1) := by decide +kernel
theorem dX10_heaviestWitness_61 : decode cX10_heaviestWitness 61 = .ok (.iload_n 2, 1) := by decide +kernel
theorem dX10_heaviestWitness_62 : decode cX10_heaviestWitness 62 = .ok (.invokevirtual 55, 3) := by decide +kernel
theorem dX10_heaviestWitness_65 : decode cX10_heaviestWitness 65 = .ok (.if_icmp .le 7, 3) := by decide +kernel
theorem dX10_heaviestWitness_68 : decode cX10_heaviestWitness 68 = .ok (.iload_n 3, 1) := by decide +kernel
theorem dX10_heaviestWitness_69 : decode cX10_heaviestWitness 69 = .ok (.goto 4, 3) := by decide +kernel
theorem dX10_heaviestWitness_72 : decode cX10_heaviestWitness 72 = .ok (.iload_n 2, 1) := by decide +kernel
theorem dX10_heaviestWitness_73 : decode cX10_heaviestWitness 73 = .ok (.istore_n 2, 1) := by decide +kernel
theorem dX10_heaviestWitness_74 : decode cX10_heaviestWitness 74 = .ok (.iinc 3 1, 3) := by decide +kernel
theorem dX10_heaviestWitness_77 : decode cX10_heaviestWitness 77 = .ok (.goto (-34), 3) := by decide +kernel
theorem dX10_heaviestWitness_80 : decode cX10_heaviestWitness 80 = .ok (.aload_n 0, 1) := by decide +kernel
theorem dX10_heaviestWitness_81 : decode cX10_heaviestWitness 81 = .ok (.iload_n 1, 1) := by decide +kernel
theorem dX10_heaviestWitness_82 : decode cX10_heaviestWitness 82 = .ok (.iload_n 2, 1) := by decide +kernel
theorem dX10_heaviestWitness_83 : decode cX10_heaviestWitness 83 = .ok (.iconst 0, 1) := by decide +kernel
theorem dX10_heaviestWitness_84 : decode cX10_heaviestWitness 84 = .ok (.invokevirtual 51, 3) := by decide +kernel
theorem dX10_heaviestWitness_87 : decode cX10_heaviestWitness 87 = .ok (.ireturn, 1) := by decide +kernel
theorem dX10_prosecutionWeight_0 : decode cX10_prosecutionWeight 0 = .ok (.aload_n 0, 1) := by decide +kernel
theorem dX10_prosecutionWeight_1 : decode cX10_prosecutionWeight 1 = .ok (.aload_n 0, 1) := by decide +kernel
theorem dX10_prosecutionWeight_2 : decode cX10_prosecutionWeight 2 = .ok (.iload_n 1, 1) := by decide +kernel
theorem dX10_prosecutionWeight_3 : decode cX10_prosecutionWeight 3 = .ok (.invokevirtual 92, 3) := by decide +kernel
theorem dX10_prosecutionWeight_6 : decode cX10_prosecutionWeight 6 = .ok (.invokevirtual 124, 3) := by decide +kernel
theorem dX10_prosecutionWeight_9 : decode cX10_prosecutionWeight 9 = .ok (.ifCond .eq 12, 3) := by decide +kernel
theorem dX10_prosecutionWeight_12 : decode cX10_prosecutionWeight 12 = .ok (.aload_n 0, 1) := by decide +kernel
theorem dX10_prosecutionWeight_13 : decode cX10_prosecutionWeight 13 = .ok (.iload_n 1, 1) := by decide +kernel
theorem dX10_prosecutionWeight_14 : decode cX10_prosecutionWeight 14 = .ok (.iconst 1, 1) := by decide +kernel
theorem dX10_prosecutionWeight_15 : decode cX10_prosecutionWeight 15 = .ok (.invokevirtual 58, 3) := by decide +kernel
theorem dX10_prosecutionWeight_18 : decode cX10_prosecutionWeight 18 = .ok (.goto 4, 3) := by decide +kernel
theorem dX10_prosecutionWeight_21 : decode cX10_prosecutionWeight 21 = .ok (.iconst 0, 1) := by decide +kernel
theorem dX10_prosecutionWeight_22 : decode cX10_prosecutionWeight 22 = .ok (.ireturn, 1) := by decide +kernel
theorem dX10_defenceWeight_0 : decode cX10_defenceWeight 0 = .ok (.aload_n 0, 1) := by decide +kernel
theorem dX10_defenceWeight_1 : decode cX10_defenceWeight 1 = .ok (.aload_n 0, 1) := by decide +kernel
theorem dX10_defenceWeight_2 : decode cX10_defenceWeight 2 = .ok (.iload_n 1, 1) := by decide +kernel
theorem dX10_defenceWeight_3 : decode cX10_defenceWeight 3 = .ok (.invokevirtual 92, 3) := by decide +kernel
theorem dX10_defenceWeight_6 : decode cX10_defenceWeight 6 = .ok (.invokevirtual 124, 3) := by decide +kernel
theorem dX10_defenceWeight_9 : decode cX10_defenceWeight 9 = .ok (.ifCond .eq 12, 3) := by decide +kernel
theorem dX10_defenceWeight_12 : decode cX10_defenceWeight 12 = .ok (.aload_n 0, 1) := by decide +kernel
theorem dX10_defenceWeight_13 : decode cX10_defenceWeight 13 = .ok (.iload_n 1, 1) := by decide +kernel
theorem dX10_defenceWeight_14 : decode cX10_defenceWeight 14 = .ok (.iconst 0, 1) := by decide +kernel
theorem dX10_defenceWeight_15 : decode cX10_defenceWeight 15 = .ok (.invokevirtual 58, 3) := by decide +kernel
theorem dX10_defenceWeight_18 : decode cX10_defenceWeight 18 = .ok (.goto 4, 3) := by decide +kernel
theorem dX10_defenceWeight_21 : decode cX10_defenceWeight 21 = .ok (.iconst 0, 1) := by decide +kernel
theorem dX10_defenceWeight_22 : decode cX10_defenceWeight 22 = .ok (.ireturn, 1) := by decide +kernel
theorem dX10_margin_0 : decode cX10_margin 0 = .ok (.aload_n 0, 1) := by decide +kernel
theorem dX10_margin_1 : decode cX10_margin 1 = .ok (.aload_n 0, 1) := by decide +kernel
theorem dX10_margin_2 : decode cX10_margin 2 = .ok (.iload_n 1, 1) := by decide +kernel
theorem dX10_margin_3 : decode cX10_margin 3 = .ok (.invokevirtual 92, 3) := by decide +kernel
theorem dX10_margin_6 : decode cX10_margin 6 = .ok (.invokevirtual 124, 3) := by decide +kernel
theorem dX10_margin_9 : decode cX10_margin 9 = .ok (.ifCond .eq 11, 3) := by decide +kernel
theorem dX10_margin_12 : decode cX10_margin 12 = .ok (.aload_n 0, 1) := by decide +kernel
theorem dX10_margin_13 : decode cX10_margin 13 = .ok (.iload_n 1, 1) := by decide +kernel
theorem dX10_margin_14 : decode cX10_margin 14 = .ok (.invokevirtual 109, 3) := by decide +kernel
theorem dX10_margin_17 : decode cX10_margin 17 = .ok (.goto 4, 3) := by decide +kernel
theorem dX10_margin_20 : decode cX10_margin 20 = .ok (.iconst 0, 1) := by decide +kernel
theorem dX10_margin_21 : decode cX10_margin 21 = .ok (.ireturn, 1) := by decide +kernel
theorem dX10_marginByCredibility_0 : decode cX10_marginByCredibility 0 = .ok (.aload_n 0, 1) := by decide +kernel
theorem dX10_marginByCredibility_1 : decode cX10_marginByCredibility 1 = .ok (.iload_n 1, 1) := by decide +kernel
theorem dX10_marginByCredibility_2 : decode cX10_marginByCredibility 2 = .ok (.invokevirtual 144, 3) := by decide +kernel
theorem dX10_marginByCredibility_5 : decode cX10_marginByCredibility 5 = .ok (.ireturn, 1) := by decide +kernel
theorem dX10_firmAnswersToGuilty_0 : decode cX10_firmAnswersToGuilty 0 = .ok (.aload_n 0, 1) := by decide +kernel
theorem dX10_firmAnswersToGuilty_1 : decode cX10_firmAnswersToGuilty 1 = .ok (.aload_n 0, 1) := by decide +kernel
theorem dX10_firmAnswersToGuilty_2 : decode cX10_firmAnswersToGuilty 2 = .ok (.iload_n 1, 1) := by decide +kernel
theorem dX10_firmAnswersToGuilty_3 : decode cX10_firmAnswersToGuilty 3 = .ok (.invokevirtual 92, 3) := by decide +kernel
theorem dX10_firmAnswersToGuilty_6 : decode cX10_firmAnswersToGuilty 6 = .ok (.ifCond .eq 11, 3) := by decide +kernel
theorem dX10_firmAnswersToGuilty_9 : decode cX10_firmAnswersToGuilty 9 = .ok (.aload_n 0, 1) := by decide +kernel
theorem dX10_firmAnswersToGuilty_10 : decode cX10_firmAnswersToGuilty 10 = .ok (.iload_n 2, 1) := by decide +kernel
theorem dX10_firmAnswersToGuilty_11 : decode cX10_firmAnswersToGuilty 11 = .ok (.invokevirtual 95, 3) := by decide +kernel
theorem dX10_firmAnswersToGuilty_14 : decode cX10_firmAnswersToGuilty 14 = .ok (.ifCond .ne 7, 3) := by decide +kernel
theorem dX10_firmAnswersToGuilty_17 : decode cX10_firmAnswersToGuilty 17 = .ok (.iconst 1, 1) := by decide +kernel
theorem dX10_firmAnswersToGuilty_18 : decode cX10_firmAnswersToGuilty 18 = .ok (.goto 17, 3) := by decide +kernel
theorem dX10_firmAnswersToGuilty_21 : decode cX10_firmAnswersToGuilty 21 = .ok (.aload_n 0, 1) := by decide +kernel
theorem dX10_firmAnswersToGuilty_22 : decode cX10_firmAnswersToGuilty 22 = .ok (.iload_n 1, 1) := by decide +kernel
theorem dX10_firmAnswersToGuilty_23 : decode cX10_firmAnswersToGuilty 23 = .ok (.iload_n 2, 1) := by decide +kernel
theorem dX10_firmAnswersToGuilty_24 : decode cX10_firmAnswersToGuilty 24 = .ok (.invokevirtual 98, 3) := by decide +kernel
theorem dX10_firmAnswersToGuilty_27 : decode cX10_firmAnswersToGuilty 27 = .ok (.ifCond .ge 7, 3) := by decide +kernel
theorem dX10_firmAnswersToGuilty_30 : decode cX10_firmAnswersToGuilty 30 = .ok (.iconst 2, 1) := by decide +kernel
theorem dX10_firmAnswersToGuilty_31 : decode cX10_firmAnswersToGuilty 31 = .ok (.goto 4, 3) := by decide +kernel
theorem dX10_firmAnswersToGuilty_34 : decode cX10_firmAnswersToGuilty 34 = .ok (.iconst 0, 1) := by decide +kernel
theorem dX10_firmAnswersToGuilty_35 : decode cX10_firmAnswersToGuilty 35 = .ok (.putfield 30, 3) := by decide +kernel
theorem dX10_firmAnswersToGuilty_38 : decode cX10_firmAnswersToGuilty 38 = .ok (.aload_n 0, 1) := by decide +kernel
theorem dX10_firmAnswersToGuilty_39 : decode cX10_firmAnswersToGuilty 39 = .ok (.getfield 30, 3) := by decide +kernel
theorem dX10_firmAnswersToGuilty_42 : decode cX10_firmAnswersToGuilty 42 = .ok (.ifCond .eq 5, 3) := by decide +kernel
theorem dX10_firmAnswersToGuilty_45 : decode cX10_firmAnswersToGuilty 45 = .ok (.iconst 0, 1) := by decide +kernel
theorem dX10_firmAnswersToGuilty_46 : decode cX10_firmAnswersToGuilty 46 = .ok (.ireturn, 1) := by decide +kernel
theorem dX10_firmAnswersToGuilty_47 : decode cX10_firmAnswersToGuilty 47 = .ok (.aload_n 0, 1) := by decide +kernel
theorem dX10_firmAnswersToGuilty_48 : decode cX10_firmAnswersToGuilty 48 = .ok (.iload_n 1, 1) := by decide +kernel
theorem dX10_firmAnswersToGuilty_49 : decode cX10_firmAnswersToGuilty 49 = .ok (.iload_n 2, 1) := by decide +kernel
theorem dX10_firmAnswersToGuilty_50 : decode cX10_firmAnswersToGuilty 50 = .ok (.invokevirtual 98, 3) := by decide +kernel
theorem dX10_firmAnswersToGuilty_53 : decode cX10_firmAnswersToGuilty 53 = .ok (.istore_n 3, 1) := by decide +kernel
theorem dX10_firmAnswersToGuilty_54 : decode cX10_firmAnswersToGuilty 54 = .ok (.aload_n 0, 1) := by decide +kernel
theorem dX10_firmAnswersToGuilty_55 : decode cX10_firmAnswersToGuilty 55 = .ok (.iload_n 1, 1) := by decide +kernel
theorem dX10_firmAnswersToGuilty_56 : decode cX10_firmAnswersToGuilty 56 = .ok (.iload_n 3, 1) := by decide +kernel
theorem dX10_firmAnswersToGuilty_57 : decode cX10_firmAnswersToGuilty 57 = .ok (.iconst 2, 1) := by decide +kernel
theorem dX10_firmAnswersToGuilty_58 : decode cX10_firmAnswersToGuilty 58 = .ok (.invokevirtual 51, 3) := by decide +kernel
theorem dX10_firmAnswersToGuilty_61 : decode cX10_firmAnswersToGuilty 61 = .ok (.aload_n 0, 1) := by decide +kernel
theorem dX10_firmAnswersToGuilty_62 : decode cX10_firmAnswersToGuilty 62 = .ok (.iload_n 1, 1) := by decide +kernel
theorem dX10_firmAnswersToGuilty_63 : decode cX10_firmAnswersToGuilty 63 = .ok (.iload_n 3, 1) := by decide +kernel
theorem dX10_firmAnswersToGuilty_64 : decode cX10_firmAnswersToGuilty 64 = .ok (.iconst 1, 1) := by decide +kernel
theorem dX10_firmAnswersToGuilty_65 : decode cX10_firmAnswersToGuilty 65 = .ok (.invokevirtual 51, 3) := by decide +kernel
theorem dX10_firmAnswersToGuilty_68 : decode cX10_firmAnswersToGuilty 68 = .ok (.iconst 1, 1) := by decide +kernel
theorem dX10_firmAnswersToGuilty_69 : decode cX10_firmAnswersToGuilty 69 = .ok (.if_icmp .ne 7, 3) := by decide +kernel
theorem dX10_firmAnswersToGuilty_72 : decode cX10_firmAnswersToGuilty 72 = .ok (.iconst 1, 1) := by decide +kernel
theorem dX10_firmAnswersToGuilty_73 : decode cX10_firmAnswersToGuilty 73 = .ok (.goto 4, 3) := by decide +kernel
theorem dX10_firmAnswersToGuilty_76 : decode cX10_firmAnswersToGuilty 76 = .ok (.iconst (-1), 1) := by decide +kernel
theorem dX10_firmAnswersToGuilty_77 : decode cX10_firmAnswersToGuilty 77 = .ok (.imul, 1) := by decide +kernel
theorem dX10_firmAnswersToGuilty_78 : decode cX10_firmAnswersToGuilty 78 = .ok (.istore 4, 2) := by decide +kernel
theorem dX10_firmAnswersToGuilty_80 : decode cX10_firmAnswersToGuilty 80 = .ok (.iconst 0, 1) := by decide +kernel
theorem dX10_firmAnswersToGuilty_81 : decode cX10_firmAnswersToGuilty 81 = .ok (.istore 5, 2) := by decide +kernel
theorem dX10_firmAnswersToGuilty_83 : decode cX10_firmAnswersToGuilty 83 = .ok (.iload 5, 2) := by decide +kernel
theorem dX10_firmAnswersToGuilty_85 : decode cX10_firmAnswersToGuilty 85 = .ok (.bipush 9, 2) := by decide +kernel
theorem dX10_firmAnswersToGuilty_87 : decode cX10_firmAnswersToGuilty 87 = .ok (.aload_n 0, 1) := by decide +kernel
theorem dX10_firmAnswersToGuilty_88 : decode cX10_firmAnswersToGuilty 88 = .ok (.getfield 9, 3) := by decide +kernel
theorem dX10_firmAnswersToGuilty_91 : decode cX10_firmAnswersToGuilty 91 = .ok (.iconst 4, 1) := by decide +kernel
theorem dX10_firmAnswersToGuilty_92 : decode cX10_firmAnswersToGuilty 92 = .ok (.iload_n 2, 1) := by decide +kernel
theorem dX10_firmAnswersToGuilty_93 : decode cX10_firmAnswersToGuilty 93 = .ok (.iadd, 1) := by decide +kernel
theorem dX10_firmAnswersToGuilty_94 : decode cX10_firmAnswersToGuilty 94 = .ok (.iaload, 1) := by decide +kernel
theorem dX10_firmAnswersToGuilty_95 : decode cX10_firmAnswersToGuilty 95 = .ok (.isub, 1) := by decide +kernel
theorem dX10_firmAnswersToGuilty_96 : decode cX10_firmAnswersToGuilty 96 = .ok (.if_icmp .gt 26, 3) := by decide +kernel
theorem dX10_firmAnswersToGuilty_99 : decode cX10_firmAnswersToGuilty 99 = .ok (.aload_n 0, 1) := by decide +kernel
theorem dX10_firmAnswersToGuilty_100 : decode cX10_firmAnswersToGuilty 100 = .ok (.iload_n 1, 1) := by decide +kernel
theorem dX10_firmAnswersToGuilty_101 : decode cX10_firmAnswersToGuilty 101 = .ok (.invokevirtual 109, 3) := by decide +kernel
theorem dX10_firmAnswersToGuilty_104 : decode cX10_firmAnswersToGuilty 104 = .ok (.iload 5, 2) := by decide +kernel
theorem dX10_firmAnswersToGuilty_106 : decode cX10_firmAnswersToGuilty 106 = .ok (.iload 4, 2) := by decide +kernel
theorem dX10_firmAnswersToGuilty_108 : decode cX10_firmAnswersToGuilty 108 = .ok (.imul, 1) := by decide +kernel
theorem dX10_firmAnswersToGuilty_109 : decode cX10_firmAnswersToGuilty 109 = .ok (.iadd, 1) := by decide +kernel
theorem dX10_firmAnswersToGuilty_110 : decode cX10_firmAnswersToGuilty 110 = .ok (.ifCond .le 6, 3) := by decide +kernel
theorem dX10_firmAnswersToGuilty_113 : decode cX10_firmAnswersToGuilty 113 = .ok (.iload 5, 2) := by decide +kernel
theorem dX10_firmAnswersToGuilty_115 : decode cX10_firmAnswersToGuilty 115 = .ok (.ireturn, 1) := by decide +kernel
theorem dX10_firmAnswersToGuilty_116 : decode cX10_firmAnswersToGuilty 116 = .ok (.iinc 5 1, 3) := by decide +kernel
theorem dX10_firmAnswersToGuilty_119 : decode cX10_firmAnswersToGuilty 119 = .ok (.goto (-36), 3) := by decide +kernel
theorem dX10_firmAnswersToGuilty_122 : decode cX10_firmAnswersToGuilty 122 = .ok (.aload_n 0, 1) := by decide +kernel
theorem dX10_firmAnswersToGuilty_123 : decode cX10_firmAnswersToGuilty 123 = .ok (.iconst 2, 1) := by decide +kernel
theorem dX10_firmAnswersToGuilty_124 : decode cX10_firmAnswersToGuilty 124 = .ok (.putfield 30, 3) := by decide +kernel
theorem dX10_firmAnswersToGuilty_127 : decode cX10_firmAnswersToGuilty 127 = .ok (.iconst 0, 1) := by decide +kernel
theorem dX10_firmAnswersToGuilty_128 : decode cX10_firmAnswersToGuilty 128 = .ok (.ireturn, 1) := by decide +kernel
theorem dX10_sentenceOf_0 : decode cX10_sentenceOf 0 = .ok (.iconst 0, 1) := by decide +kernel
theorem dX10_sentenceOf_1 : decode cX10_sentenceOf 1 = .ok (.istore_n 2, 1) := by decide +kernel
theorem dX10_sentenceOf_2 : decode cX10_sentenceOf 2 = .ok (.iconst 0, 1) := by decide +kernel
theorem dX10_sentenceOf_3 : decode cX10_sentenceOf 3 = .ok (.istore_n 3, 1) := by decide +kernel
theorem dX10_sentenceOf_4 : decode cX10_sentenceOf 4 = .ok (.iload_n 3, 1) := by decide +kernel
theorem dX10_sentenceOf_5 : decode cX10_sentenceOf 5 = .ok (.aload_n 0, 1) := by decide +kernel
theorem dX10_sentenceOf_6 : decode cX10_sentenceOf 6 = .ok (.getfield 9, 3) := by decide +kernel
theorem dX10_sentenceOf_9 : decode cX10_sentenceOf 9 = .ok (.iconst 0, 1) := by decide +kernel
theorem dX10_sentenceOf_10 : decode cX10_sentenceOf 10 = .ok (.iaload, 1) := by decide +kernel
theorem dX10_sentenceOf_11 : decode cX10_sentenceOf 11 = .ok (.if_icmp .ge 41, 3) := by decide +kernel
theorem dX10_sentenceOf_14 : decode cX10_sentenceOf 14 = .ok (.iload_n 2, 1) := by decide +kernel
theorem dX10_sentenceOf_15 : decode cX10_sentenceOf 15 = .ok (.aload_n 0, 1) := by decide +kernel
theorem dX10_sentenceOf_16 : decode cX10_sentenceOf 16 = .ok (.iload_n 3, 1) := by decide +kernel
theorem dX10_sentenceOf_17 : decode cX10_sentenceOf 17 = .ok (.iconst 0, 1) := by decide +kernel
theorem dX10_sentenceOf_18 : decode cX10_sentenceOf 18 = .ok (.invokevirtual 47, 3) := by decide +kernel
theorem dX10_sentenceOf_21 : decode cX10_sentenceOf 21 = .ok (.iload_n 1, 1) := by decide +kernel
theorem dX10_sentenceOf_22 : decode cX10_sentenceOf 22 = .ok (.if_icmp .ne 21, 3) := by decide +kernel
theorem dX10_sentenceOf_25 : decode cX10_sentenceOf 25 = .ok (.aload_n 0, 1) := by decide +kernel
theorem dX10_sentenceOf_26 : decode cX10_sentenceOf 26 = .ok (.iload_n 3, 1) := by decide +kernel
theorem dX10_sentenceOf_27 : decode cX10_sentenceOf 27 = .ok (.iconst 3, 1) := by decide +kernel
theorem dX10_sentenceOf_28 : decode cX10_sentenceOf 28 = .ok (.invokevirtual 47, 3) := by decide +kernel
theorem dX10_sentenceOf_31 : decode cX10_sentenceOf 31 = .ok (.iconst 1, 1) := by decide +kernel
theorem dX10_sentenceOf_32 : decode cX10_sentenceOf 32 = .ok (.if_icmp .ne 11, 3) := by decide +kernel
theorem dX10_sentenceOf_35 : decode cX10_sentenceOf 35 = .ok (.aload_n 0, 1) := by decide +kernel
theorem dX10_sentenceOf_36 : decode cX10_sentenceOf 36 = .ok (.iload_n 3, 1) := by decide +kernel
theorem dX10_sentenceOf_37 : decode cX10_sentenceOf 37 = .ok (.invokevirtual 61, 3) := by decide +kernel
theorem dX10_sentenceOf_40 : decode cX10_sentenceOf 40 = .ok (.goto 4, 3) := by decide +kernel
theorem dX10_sentenceOf_43 : decode cX10_sentenceOf 43 = .ok (.iconst 0, 1) := by decide +kernel
theorem dX10_sentenceOf_44 : decode cX10_sentenceOf 44 = .ok (.iadd, 1) := by decide +kernel
theorem dX10_sentenceOf_45 : decode cX10_sentenceOf 45 = .ok (.istore_n 2, 1) := by decide +kernel
theorem dX10_sentenceOf_46 : decode cX10_sentenceOf 46 = .ok (.iinc 3 1, 3) := by decide +kernel
theorem dX10_sentenceOf_49 : decode cX10_sentenceOf 49 = .ok (.goto (-45), 3) := by decide +kernel
theorem dX10_sentenceOf_52 : decode cX10_sentenceOf 52 = .ok (.iload_n 2, 1) := by decide +kernel
theorem dX10_sentenceOf_53 : decode cX10_sentenceOf 53 = .ok (.ireturn, 1) := by decide +kernel
theorem dX10_sentence_0 : decode cX10_sentence 0 = .ok (.aload_n 0, 1) := by decide +kernel
theorem dX10_sentence_1 : decode cX10_sentence 1 = .ok (.iload_n 1, 1) := by decide +kernel
theorem dX10_sentence_2 : decode cX10_sentence 2 = .ok (.invokestatic 65, 3) := by decide +kernel
theorem dX10_sentence_5 : decode cX10_sentence 5 = .ok (.invokevirtual 124, 3) := by decide +kernel
theorem dX10_sentence_8 : decode cX10_sentence 8 = .ok (.ifCond .eq 11, 3) := by decide +kernel
theorem dX10_sentence_11 : decode cX10_sentence 11 = .ok (.aload_n 0, 1) := by decide +kernel
theorem dX10_sentence_12 : decode cX10_sentence 12 = .ok (.iload_n 1, 1) := by decide +kernel
theorem dX10_sentence_13 : decode cX10_sentence 13 = .ok (.invokevirtual 147, 3) := by decide +kernel
theorem dX10_sentence_16 : decode cX10_sentence 16 = .ok (.goto 4, 3) := by decide +kernel
theorem dX10_sentence_19 : decode cX10_sentence 19 = .ok (.iconst 0, 1) := by decide +kernel
theorem dX10_sentence_20 : decode cX10_sentence 20 = .ok (.ireturn, 1) := by decide +kernel
theorem dX10_sentenceByCases_0 : decode cX10_sentenceByCases 0 = .ok (.aload_n 0, 1) := by decide +kernel
theorem dX10_sentenceByCases_1 : decode cX10_sentenceByCases 1 = .ok (.iload_n 1, 1) := by decide +kernel
theorem dX10_sentenceByCases_2 : decode cX10_sentenceByCases 2 = .ok (.invokevirtual 150, 3) := by decide +kernel
theorem dX10_sentenceByCases_5 : decode cX10_sentenceByCases 5 = .ok (.ireturn, 1) := by decide +kernel
theorem dX10_mostSentenced_0 : decode cX10_mostSentenced 0 = .ok (.aload_n 0, 1) := by decide +kernel
theorem dX10_mostSentenced_1 : decode cX10_mostSentenced 1 = .ok (.iconst 0, 1) := by decide +kernel
theorem dX10_mostSentenced_2 : decode cX10_mostSentenced 2 = .ok (.putfield 30, 3) := by decide +kernel
theorem dX10_mostSentenced_5 : decode cX10_mostSentenced 5 = .ok (.iconst 0, 1) := by decide +kernel
theorem dX10_mostSentenced_6 : decode cX10_mostSentenced 6 = .ok (.istore_n 1, 1) := by decide +kernel
theorem dX10_mostSentenced_7 : decode cX10_mostSentenced 7 = .ok (.iconst 1, 1) := by decide +kernel
theorem dX10_mostSentenced_8 : decode cX10_mostSentenced 8 = .ok (.istore_n 2, 1) := by decide +kernel
theorem dX10_mostSentenced_9 : decode cX10_mostSentenced 9 = .ok (.iload_n 2, 1) := by decide +kernel
theorem dX10_mostSentenced_10 : decode cX10_mostSentenced 10 = .ok (.bipush 6, 2) := by decide +kernel
theorem dX10_mostSentenced_12 : decode cX10_mostSentenced 12 = .ok (.if_icmp .ge 28, 3) := by decide +kernel
theorem dX10_mostSentenced_15 : decode cX10_mostSentenced 15 = .ok (.aload_n 0, 1) := by decide +kernel
theorem dX10_mostSentenced_16 : decode cX10_mostSentenced 16 = .ok (.iload_n 2, 1) := by decide +kernel
theorem dX10_mostSentenced_17 : decode cX10_mostSentenced 17 = .ok (.invokevirtual 147, 3) := by decide +kernel
theorem dX10_mostSentenced_20 : decode cX10_mostSentenced 20 = .ok (.aload_n 0, 1) := by decide +kernel
theorem dX10_mostSentenced_21 : decode cX10_mostSentenced 21 = .ok (.iload_n 1, 1) := by decide +kernel
theorem dX10_mostSentenced_22 : decode cX10_mostSentenced 22 = .ok (.invokevirtual 147, 3) := by decide +kernel
theorem dX10_mostSentenced_25 : decode cX10_mostSentenced 25 = .ok (.if_icmp .le 7, 3) := by decide +kernel
theorem dX10_mostSentenced_28 : decode cX10_mostSentenced 28 = .ok (.iload_n 2, 1) := by decide +kernel
theorem dX10_mostSentenced_29 : decode cX10_mostSentenced 29 = .ok (.goto 4, 3) := by decide +kernel
theorem dX10_mostSentenced_32 : decode cX10_mostSentenced 32 = .ok (.iload_n 1, 1) := by decide +kernel
theorem dX10_mostSentenced_33 : decode cX10_mostSentenced 33 = .ok (.istore_n 1, 1) := by decide +kernel
theorem dX10_mostSentenced_34 : decode cX10_mostSentenced 34 = .ok (.iinc 2 1, 3) := by decide +kernel
theorem dX10_mostSentenced_37 : decode cX10_mostSentenced 37 = .ok (.goto (-28), 3) := by decide +kernel
theorem dX10_mostSentenced_40 : decode cX10_mostSentenced 40 = .ok (.iload_n 1, 1) := by decide +kernel
theorem dX10_mostSentenced_41 : decode cX10_mostSentenced 41 = .ok (.ireturn, 1) := by decide +kernel
theorem dX10_rankOf_0 : decode cX10_rankOf 0 = .ok (.iconst 0, 1) := by decide +kernel
theorem dX10_rankOf_1 : decode cX10_rankOf 1 = .ok (.istore_n 2, 1) := by decide +kernel
theorem dX10_rankOf_2 : decode cX10_rankOf 2 = .ok (.iconst 0, 1) := by decide +kernel
theorem dX10_rankOf_3 : decode cX10_rankOf 3 = .ok (.istore_n 3, 1) := by decide +kernel
theorem dX10_rankOf_4 : decode cX10_rankOf 4 = .ok (.iload_n 3, 1) := by decide +kernel
theorem dX10_rankOf_5 : decode cX10_rankOf 5 = .ok (.aload_n 0, 1) := by decide +kernel
theorem dX10_rankOf_6 : decode cX10_rankOf 6 = .ok (.getfield 9, 3) := by decide +kernel
theorem dX10_rankOf_9 : decode cX10_rankOf 9 = .ok (.iconst 0, 1) := by decide +kernel
theorem dX10_rankOf_10 : decode cX10_rankOf 10 = .ok (.iaload, 1) := by decide +kernel
theorem dX10_rankOf_11 : decode cX10_rankOf 11 = .ok (.if_icmp .ge 82, 3) := by decide +kernel
theorem dX10_rankOf_14 : decode cX10_rankOf 14 = .ok (.aload_n 0, 1) := by decide +kernel
theorem dX10_rankOf_15 : decode cX10_rankOf 15 = .ok (.iload_n 3, 1) := by decide +kernel
theorem dX10_rankOf_16 : decode cX10_rankOf 16 = .ok (.iconst 2, 1) := by decide +kernel
theorem dX10_rankOf_17 : decode cX10_rankOf 17 = .ok (.invokevirtual 47, 3) := by decide +kernel
theorem dX10_rankOf_20 : decode cX10_rankOf 20 = .ok (.ifCond .eq 6, 3) := by decide +kernel
theorem dX10_rankOf_23 : decode cX10_rankOf 23 = .ok (.goto 64, 3) := by decide +kernel
theorem dX10_rankOf_26 : decode cX10_rankOf 26 = .ok (.aload_n 0, 1) := by decide +kernel
theorem dX10_rankOf_27 : decode cX10_rankOf 27 = .ok (.iload_n 3, 1) := by decide +kernel
theorem dX10_rankOf_28 : decode cX10_rankOf 28 = .ok (.invokevirtual 61, 3) := by decide +kernel
theorem dX10_rankOf_31 : decode cX10_rankOf 31 = .ok (.aload_n 0, 1) := by decide +kernel
theorem dX10_rankOf_32 : decode cX10_rankOf 32 = .ok (.iload_n 1, 1) := by decide +kernel
theorem dX10_rankOf_33 : decode cX10_rankOf 33 = .ok (.invokevirtual 61, 3) := by decide +kernel
theorem dX10_rankOf_36 : decode cX10_rankOf 36 = .ok (.isub, 1) := by decide +kernel
theorem dX10_rankOf_37 : decode cX10_rankOf 37 = .ok (.istore 4, 2) := by decide +kernel
theorem dX10_rankOf_39 : decode cX10_rankOf 39 = .ok (.aload_n 0, 1) := by decide +kernel
theorem dX10_rankOf_40 : decode cX10_rankOf 40 = .ok (.iload_n 3, 1) := by decide +kernel
theorem dX10_rankOf_41 : decode cX10_rankOf 41 = .ok (.iconst 5, 1) := by decide +kernel
theorem dX10_rankOf_42 : decode cX10_rankOf 42 = .ok (.invokevirtual 47, 3) := by decide +kernel
theorem dX10_rankOf_45 : decode cX10_rankOf 45 = .ok (.aload_n 0, 1) := by decide +kernel
theorem dX10_rankOf_46 : decode cX10_rankOf 46 = .ok (.iload_n 1, 1) := by decide +kernel
theorem dX10_rankOf_47 : decode cX10_rankOf 47 = .ok (.iconst 5, 1) := by decide +kernel
theorem dX10_rankOf_48 : decode cX10_rankOf 48 = .ok (.invokevirtual 47, 3) := by decide +kernel
theorem dX10_rankOf_51 : decode cX10_rankOf 51 = .ok (.isub, 1) := by decide +kernel
theorem dX10_rankOf_52 : decode cX10_rankOf 52 = .ok (.istore 5, 2) := by decide +kernel
theorem dX10_rankOf_54 : decode cX10_rankOf 54 = .ok (.iload_n 2, 1) := by decide +kernel
theorem dX10_rankOf_55 : decode cX10_rankOf 55 = .ok (.iload 4, 2) := by decide +kernel
theorem dX10_rankOf_57 : decode cX10_rankOf 57 = .ok (.ifCond .gt 23, 3) := by decide +kernel
theorem dX10_rankOf_60 : decode cX10_rankOf 60 = .ok (.iload 4, 2) := by decide +kernel
theorem dX10_rankOf_62 : decode cX10_rankOf 62 = .ok (.ifCond .ne 22, 3) := by decide +kernel
theorem dX10_rankOf_65 : decode cX10_rankOf 65 = .ok (.iload 5, 2) := by decide +kernel
theorem dX10_rankOf_67 : decode cX10_rankOf 67 = .ok (.ifCond .gt 13, 3) := by decide +kernel
theorem dX10_rankOf_70 : decode cX10_rankOf 70 = .ok (.iload 5, 2) := by decide +kernel
theorem dX10_rankOf_72 : decode cX10_rankOf 72 = .ok (.ifCond .ne 12, 3) := by decide +kernel
theorem dX10_rankOf_75 : decode cX10_rankOf 75 = .ok (.iload_n 3, 1) := by decide +kernel
theorem dX10_rankOf_76 : decode cX10_rankOf 76 = .ok (.iload_n 1, 1) := by decide +kernel
theorem dX10_rankOf_77 : decode cX10_rankOf 77 = .ok (.if_icmp .ge 7, 3) := by decide +kernel
theorem dX10_rankOf_80 : decode cX10_rankOf 80 = .ok (.iconst 1, 1) := by decide +kernel
theorem dX10_rankOf_81 : decode cX10_rankOf 81 = .ok (.goto 4, 3) := by decide +kernel
theorem dX10_rankOf_84 : decode cX10_rankOf 84 = .ok (.iconst 0, 1) := by decide +kernel
theorem dX10_rankOf_85 : decode cX10_rankOf 85 = .ok (.iadd, 1) := by decide +kernel
theorem dX10_rankOf_86 : decode cX10_rankOf 86 = .ok (.istore_n 2, 1) := by decide +kernel
theorem dX10_rankOf_87 : decode cX10_rankOf 87 = .ok (.iinc 3 1, 3) := by decide +kernel
theorem dX10_rankOf_90 : decode cX10_rankOf 90 = .ok (.goto (-86), 3) := by decide +kernel
theorem dX10_rankOf_93 : decode cX10_rankOf 93 = .ok (.iload_n 2, 1) := by decide +kernel
theorem dX10_rankOf_94 : decode cX10_rankOf 94 = .ok (.ireturn, 1) := by decide +kernel
theorem dX10_docketLength_0 : decode cX10_docketLength 0 = .ok (.aload_n 0, 1) := by decide +kernel
theorem dX10_docketLength_1 : decode cX10_docketLength 1 = .ok (.iconst 0, 1) := by decide +kernel
theorem dX10_docketLength_2 : decode cX10_docketLength 2 = .ok (.putfield 30, 3) := by decide +kernel
theorem dX10_docketLength_5 : decode cX10_docketLength 5 = .ok (.aload_n 0, 1) := by decide +kernel
theorem dX10_docketLength_6 : decode cX10_docketLength 6 = .ok (.iconst 0, 1) := by decide +kernel
theorem dX10_docketLength_7 : decode cX10_docketLength 7 = .ok (.iconst (-1), 1) := by decide +kernel
theorem dX10_docketLength_8 : decode cX10_docketLength 8 = .ok (.invokevirtual 118, 3) := by decide +kernel
theorem dX10_docketLength_11 : decode cX10_docketLength 11 = .ok (.ireturn, 1) := by decide +kernel
theorem dX10_docketAt_0 : decode cX10_docketAt 0 = .ok (.iconst 0, 1) := by decide +kernel
theorem dX10_docketAt_1 : decode cX10_docketAt 1 = .ok (.istore_n 2, 1) := by decide +kernel
theorem dX10_docketAt_2 : decode cX10_docketAt 2 = .ok (.iload_n 2, 1) := by decide +kernel
theorem dX10_docketAt_3 : decode cX10_docketAt 3 = .ok (.aload_n 0, 1) := by decide +kernel
theorem dX10_docketAt_4 : decode cX10_docketAt 4 = .ok (.getfield 9, 3) := by decide +kernel
theorem dX10_docketAt_7 : decode cX10_docketAt 7 = .ok (.iconst 0, 1) := by decide +kernel
theorem dX10_docketAt_8 : decode cX10_docketAt 8 = .ok (.iaload, 1) := by decide +kernel
theorem dX10_docketAt_9 : decode cX10_docketAt 9 = .ok (.if_icmp .ge 41, 3) := by decide +kernel
theorem dX10_docketAt_12 : decode cX10_docketAt 12 = .ok (.aload_n 0, 1) := by decide +kernel
theorem dX10_docketAt_13 : decode cX10_docketAt 13 = .ok (.aload_n 0, 1) := by decide +kernel
theorem dX10_docketAt_14 : decode cX10_docketAt 14 = .ok (.iload_n 2, 1) := by decide +kernel
theorem dX10_docketAt_15 : decode cX10_docketAt 15 = .ok (.iconst 2, 1) := by decide +kernel
theorem dX10_docketAt_16 : decode cX10_docketAt 16 = .ok (.invokevirtual 47, 3) := by decide +kernel
theorem dX10_docketAt_19 : decode cX10_docketAt 19 = .ok (.ifCond .ne 16, 3) := by decide +kernel
theorem dX10_docketAt_22 : decode cX10_docketAt 22 = .ok (.aload_n 0, 1) := by decide +kernel
theorem dX10_docketAt_23 : decode cX10_docketAt 23 = .ok (.iload_n 2, 1) := by decide +kernel
theorem dX10_docketAt_24 : decode cX10_docketAt 24 = .ok (.invokevirtual 153, 3) := by decide +kernel
theorem dX10_docketAt_27 : decode cX10_docketAt 27 = .ok (.iload_n 1, 1) := by decide +kernel
theorem dX10_docketAt_28 : decode cX10_docketAt 28 = .ok (.if_icmp .ne 7, 3) := by decide +kernel
theorem dX10_docketAt_31 : decode cX10_docketAt 31 = .ok (.iconst 1, 1) := by decide +kernel
theorem dX10_docketAt_32 : decode cX10_docketAt 32 = .ok (.goto 4, 3) := by decide +kernel
theorem dX10_docketAt_35 : decode cX10_docketAt 35 = .ok (.iconst 0, 1) := by decide +kernel
theorem dX10_docketAt_36 : decode cX10_docketAt 36 = .ok (.invokevirtual 124, 3) := by decide +kernel
theorem dX10_docketAt_39 : decode cX10_docketAt 39 = .ok (.ifCond .eq 5, 3) := by decide +kernel
theorem dX10_docketAt_42 : decode cX10_docketAt 42 = .ok (.iload_n 2, 1) := by decide +kernel
theorem dX10_docketAt_43 : decode cX10_docketAt 43 = .ok (.ireturn, 1) := by decide +kernel
theorem dX10_docketAt_44 : decode cX10_docketAt 44 = .ok (.iinc 2 1, 3) := by decide +kernel
theorem dX10_docketAt_47 : decode cX10_docketAt 47 = .ok (.goto (-45), 3) := by decide +kernel
theorem dX10_docketAt_50 : decode cX10_docketAt 50 = .ok (.aload_n 0, 1) := by decide +kernel
theorem dX10_docketAt_51 : decode cX10_docketAt 51 = .ok (.iconst 1, 1) := by decide +kernel
theorem dX10_docketAt_52 : decode cX10_docketAt 52 = .ok (.putfield 30, 3) := by decide +kernel
theorem dX10_docketAt_55 : decode cX10_docketAt 55 = .ok (.iconst 0, 1) := by decide +kernel
theorem dX10_docketAt_56 : decode cX10_docketAt 56 = .ok (.ireturn, 1) := by decide +kernel
theorem dX10_docketPosition_0 : decode cX10_docketPosition 0 = .ok (.aload_n 0, 1) := by decide +kernel
theorem dX10_docketPosition_1 : decode cX10_docketPosition 1 = .ok (.aload_n 0, 1) := by decide +kernel
theorem dX10_docketPosition_2 : decode cX10_docketPosition 2 = .ok (.iload_n 1, 1) := by decide +kernel
theorem dX10_docketPosition_3 : decode cX10_docketPosition 3 = .ok (.invokevirtual 92, 3) := by decide +kernel
theorem dX10_docketPosition_6 : decode cX10_docketPosition 6 = .ok (.ifCond .ne 7, 3) := by decide +kernel
theorem dX10_docketPosition_9 : decode cX10_docketPosition 9 = .ok (.iconst 1, 1) := by decide +kernel
theorem dX10_docketPosition_10 : decode cX10_docketPosition 10 = .ok (.goto 17, 3) := by decide +kernel
theorem dX10_docketPosition_13 : decode cX10_docketPosition 13 = .ok (.aload_n 0, 1) := by decide +kernel
theorem dX10_docketPosition_14 : decode cX10_docketPosition 14 = .ok (.iload_n 1, 1) := by decide +kernel
theorem dX10_docketPosition_15 : decode cX10_docketPosition 15 = .ok (.iconst 2, 1) := by decide +kernel
theorem dX10_docketPosition_16 : decode cX10_docketPosition 16 = .ok (.invokevirtual 47, 3) := by decide +kernel
theorem dX10_docketPosition_19 : decode cX10_docketPosition 19 = .ok (.ifCond .eq 7, 3) := by decide +kernel
theorem dX10_docketPosition_22 : decode cX10_docketPosition 22 = .ok (.iconst 2, 1) := by decide +kernel
theorem dX10_docketPosition_23 : decode cX10_docketPosition 23 = .ok (.goto 4, 3) := by decide +kernel
theorem dX10_docketPosition_26 : decode cX10_docketPosition 26 = .ok (.iconst 0, 1) := by decide +kernel
theorem dX10_docketPosition_27 : decode cX10_docketPosition 27 = .ok (.putfield 30, 3) := by decide +kernel
theorem dX10_docketPosition_30 : decode cX10_docketPosition 30 = .ok (.aload_n 0, 1) := by decide +kernel
theorem dX10_docketPosition_31 : decode cX10_docketPosition 31 = .ok (.getfield 30, 3) := by decide +kernel
theorem dX10_docketPosition_34 : decode cX10_docketPosition 34 = .ok (.ifCond .ne 11, 3) := by decide +kernel
theorem dX10_docketPosition_37 : decode cX10_docketPosition 37 = .ok (.aload_n 0, 1) := by decide +kernel
theorem dX10_docketPosition_38 : decode cX10_docketPosition 38 = .ok (.iload_n 1, 1) := by decide +kernel
theorem dX10_docketPosition_39 : decode cX10_docketPosition 39 = .ok (.invokevirtual 153, 3) := by decide +kernel
theorem dX10_docketPosition_42 : decode cX10_docketPosition 42 = .ok (.goto 4, 3) := by decide +kernel
theorem dX10_docketPosition_45 : decode cX10_docketPosition 45 = .ok (.iconst 0, 1) := by decide +kernel
theorem dX10_docketPosition_46 : decode cX10_docketPosition 46 = .ok (.ireturn, 1) := by decide +kernel
theorem dX10_nextToDecide_0 : decode cX10_nextToDecide 0 = .ok (.iconst (-1), 1) := by decide +kernel
theorem dX10_nextToDecide_1 : decode cX10_nextToDecide 1 = .ok (.istore_n 1, 1) := by decide +kernel
theorem dX10_nextToDecide_2 : decode cX10_nextToDecide 2 = .ok (.iconst 0, 1) := by decide +kernel
theorem dX10_nextToDecide_3 : decode cX10_nextToDecide 3 = .ok (.istore_n 2, 1) := by decide +kernel
theorem dX10_nextToDecide_4 : decode cX10_nextToDecide 4 = .ok (.iload_n 2, 1) := by decide +kernel
theorem dX10_nextToDecide_5 : decode cX10_nextToDecide 5 = .ok (.aload_n 0, 1) := by decide +kernel
theorem dX10_nextToDecide_6 : decode cX10_nextToDecide 6 = .ok (.getfield 9, 3) := by decide +kernel
theorem dX10_nextToDecide_9 : decode cX10_nextToDecide 9 = .ok (.iconst 0, 1) := by decide +kernel
theorem dX10_nextToDecide_10 : decode cX10_nextToDecide 10 = .ok (.iaload, 1) := by decide +kernel
theorem dX10_nextToDecide_11 : decode cX10_nextToDecide 11 = .ok (.if_icmp .ge 60, 3) := by decide +kernel
theorem dX10_nextToDecide_14 : decode cX10_nextToDecide 14 = .ok (.aload_n 0, 1) := by decide +kernel
theorem dX10_nextToDecide_15 : decode cX10_nextToDecide 15 = .ok (.iload_n 2, 1) := by decide +kernel
theorem dX10_nextToDecide_16 : decode cX10_nextToDecide 16 = .ok (.iconst 2, 1) := by decide +kernel
theorem dX10_nextToDecide_17 : decode cX10_nextToDecide 17 = .ok (.invokevirtual 47, 3) := by decide +kernel
theorem dX10_nextToDecide_20 : decode cX10_nextToDecide 20 = .ok (.ifCond .ne 16, 3) := by decide +kernel
theorem dX10_nextToDecide_23 : decode cX10_nextToDecide 23 = .ok (.aload_n 0, 1) := by decide +kernel
theorem dX10_nextToDecide_24 : decode cX10_nextToDecide 24 = .ok (.iload_n 2, 1) := by decide +kernel
theorem dX10_nextToDecide_25 : decode cX10_nextToDecide 25 = .ok (.iconst 5, 1) := by decide +kernel
theorem dX10_nextToDecide_26 : decode cX10_nextToDecide 26 = .ok (.invokevirtual 47, 3) := by decide +kernel
theorem dX10_nextToDecide_29 : decode cX10_nextToDecide 29 = .ok (.ifCond .le 7, 3) := by decide +kernel
theorem dX10_nextToDecide_32 : decode cX10_nextToDecide 32 = .ok (.iconst 1, 1) := by decide +kernel
theorem dX10_nextToDecide_33 : decode cX10_nextToDecide 33 = .ok (.goto 4, 3) := by decide +kernel
theorem dX10_nextToDecide_36 : decode cX10_nextToDecide 36 = .ok (.iconst 0, 1) := by decide +kernel
theorem dX10_nextToDecide_37 : decode cX10_nextToDecide 37 = .ok (.istore_n 3, 1) := by decide +kernel
theorem dX10_nextToDecide_38 : decode cX10_nextToDecide 38 = .ok (.iload_n 3, 1) := by decide +kernel
theorem dX10_nextToDecide_39 : decode cX10_nextToDecide 39 = .ok (.ifCond .eq 24, 3) := by decide +kernel
theorem dX10_nextToDecide_42 : decode cX10_nextToDecide 42 = .ok (.iload_n 1, 1) := by decide +kernel
theorem dX10_nextToDecide_43 : decode cX10_nextToDecide 43 = .ok (.ifCond .lt 16, 3) := by decide +kernel
theorem dX10_nextToDecide_46 : decode cX10_nextToDecide 46 = .ok (.aload_n 0, 1) := by decide +kernel
theorem dX10_nextToDecide_47 : decode cX10_nextToDecide 47 = .ok (.iload_n 2, 1) := by decide +kernel
theorem dX10_nextToDecide_48 : decode cX10_nextToDecide 48 = .ok (.invokevirtual 153, 3) := by decide +kernel
theorem dX10_nextToDecide_51 : decode cX10_nextToDecide 51 = .ok (.aload_n 0, 1) := by decide +kernel
theorem dX10_nextToDecide_52 : decode cX10_nextToDecide 52 = .ok (.iload_n 1, 1) := by decide +kernel
theorem dX10_nextToDecide_53 : decode cX10_nextToDecide 53 = .ok (.invokevirtual 153, 3) := by decide +kernel
theorem dX10_nextToDecide_56 : decode cX10_nextToDecide 56 = .ok (.if_icmp .ge 7, 3) := by decide +kernel
theorem dX10_nextToDecide_59 : decode cX10_nextToDecide 59 = .ok (.iload_n 2, 1) := by decide +kernel
theorem dX10_nextToDecide_60 : decode cX10_nextToDecide 60 = .ok (.goto 4, 3) := by decide +kernel
theorem dX10_nextToDecide_63 : decode cX10_nextToDecide 63 = .ok (.iload_n 1, 1) := by decide +kernel
theorem dX10_nextToDecide_64 : decode cX10_nextToDecide 64 = .ok (.istore_n 1, 1) := by decide +kernel
theorem dX10_nextToDecide_65 : decode cX10_nextToDecide 65 = .ok (.iinc 2 1, 3) := by decide +kernel
theorem dX10_nextToDecide_68 : decode cX10_nextToDecide 68 = .ok (.goto (-64), 3) := by decide +kernel
theorem dX10_nextToDecide_71 : decode cX10_nextToDecide 71 = .ok (.aload_n 0, 1) := by decide +kernel
theorem dX10_nextToDecide_72 : decode cX10_nextToDecide 72 = .ok (.iload_n 1, 1) := by decide +kernel
theorem dX10_nextToDecide_73 : decode cX10_nextToDecide 73 = .ok (.ifCond .lt 7, 3) := by decide +kernel
theorem dX10_nextToDecide_76 : decode cX10_nextToDecide 76 = .ok (.iconst 1, 1) := by decide +kernel
theorem dX10_nextToDecide_77 : decode cX10_nextToDecide 77 = .ok (.goto 4, 3) := by decide +kernel
theorem dX10_nextToDecide_80 : decode cX10_nextToDecide 80 = .ok (.iconst 0, 1) := by decide +kernel
theorem dX10_nextToDecide_81 : decode cX10_nextToDecide 81 = .ok (.invokevirtual 124, 3) := by decide +kernel
theorem dX10_nextToDecide_84 : decode cX10_nextToDecide 84 = .ok (.ifCond .eq 7, 3) := by decide +kernel
theorem dX10_nextToDecide_87 : decode cX10_nextToDecide 87 = .ok (.iload_n 1, 1) := by decide +kernel
theorem dX10_nextToDecide_88 : decode cX10_nextToDecide 88 = .ok (.goto 4, 3) := by decide +kernel
theorem dX10_nextToDecide_91 : decode cX10_nextToDecide 91 = .ok (.iconst 0, 1) := by decide +kernel
theorem dX10_nextToDecide_92 : decode cX10_nextToDecide 92 = .ok (.ireturn, 1) := by decide +kernel
theorem dX10_closedCount_0 : decode cX10_closedCount 0 = .ok (.aload_n 0, 1) := by decide +kernel
theorem dX10_closedCount_1 : decode cX10_closedCount 1 = .ok (.iconst 0, 1) := by decide +kernel
theorem dX10_closedCount_2 : decode cX10_closedCount 2 = .ok (.putfield 30, 3) := by decide +kernel
theorem dX10_closedCount_5 : decode cX10_closedCount 5 = .ok (.aload_n 0, 1) := by decide +kernel
theorem dX10_closedCount_6 : decode cX10_closedCount 6 = .ok (.iconst 2, 1) := by decide +kernel
theorem dX10_closedCount_7 : decode cX10_closedCount 7 = .ok (.iconst (-1), 1) := by decide +kernel
theorem dX10_closedCount_8 : decode cX10_closedCount 8 = .ok (.invokevirtual 118, 3) := by decide +kernel
theorem dX10_closedCount_11 : decode cX10_closedCount 11 = .ok (.ireturn, 1) := by decide +kernel
theorem dX10_guiltyCount_0 : decode cX10_guiltyCount 0 = .ok (.aload_n 0, 1) := by decide +kernel
theorem dX10_guiltyCount_1 : decode cX10_guiltyCount 1 = .ok (.iconst 0, 1) := by decide +kernel
theorem dX10_guiltyCount_2 : decode cX10_guiltyCount 2 = .ok (.putfield 30, 3) := by decide +kernel
theorem dX10_guiltyCount_5 : decode cX10_guiltyCount 5 = .ok (.aload_n 0, 1) := by decide +kernel
theorem dX10_guiltyCount_6 : decode cX10_guiltyCount 6 = .ok (.iconst 1, 1) := by decide +kernel
theorem dX10_guiltyCount_7 : decode cX10_guiltyCount 7 = .ok (.iconst 1, 1) := by decide +kernel
theorem dX10_guiltyCount_8 : decode cX10_guiltyCount 8 = .ok (.invokevirtual 118, 3) := by decide +kernel
theorem dX10_guiltyCount_11 : decode cX10_guiltyCount 11 = .ok (.aload_n 0, 1) := by decide +kernel
theorem dX10_guiltyCount_12 : decode cX10_guiltyCount 12 = .ok (.iconst 2, 1) := by decide +kernel
theorem dX10_guiltyCount_13 : decode cX10_guiltyCount 13 = .ok (.iconst 1, 1) := by decide +kernel
theorem dX10_guiltyCount_14 : decode cX10_guiltyCount 14 = .ok (.invokevirtual 118, 3) := by decide +kernel
theorem dX10_guiltyCount_17 : decode cX10_guiltyCount 17 = .ok (.iadd, 1) := by decide +kernel
theorem dX10_guiltyCount_18 : decode cX10_guiltyCount 18 = .ok (.ireturn, 1) := by decide +kernel
theorem dX10_decisionCount_0 : decode cX10_decisionCount 0 = .ok (.aload_n 0, 1) := by decide +kernel
theorem dX10_decisionCount_1 : decode cX10_decisionCount 1 = .ok (.iconst 0, 1) := by decide +kernel
theorem dX10_decisionCount_2 : decode cX10_decisionCount 2 = .ok (.putfield 30, 3) := by decide +kernel
theorem dX10_decisionCount_5 : decode cX10_decisionCount 5 = .ok (.aload_n 0, 1) := by decide +kernel
theorem dX10_decisionCount_6 : decode cX10_decisionCount 6 = .ok (.getfield 9, 3) := by decide +kernel
theorem dX10_decisionCount_9 : decode cX10_decisionCount 9 = .ok (.iconst 2, 1) := by decide +kernel
theorem dX10_decisionCount_10 : decode cX10_decisionCount 10 = .ok (.iaload, 1) := by decide +kernel
theorem dX10_decisionCount_11 : decode cX10_decisionCount 11 = .ok (.ireturn, 1) := by decide +kernel
theorem dX10_questionTotal_0 : decode cX10_questionTotal 0 = .ok (.aload_n 0, 1) := by decide +kernel
theorem dX10_questionTotal_1 : decode cX10_questionTotal 1 = .ok (.iconst 0, 1) := by decide +kernel
theorem dX10_questionTotal_2 : decode cX10_questionTotal 2 = .ok (.putfield 30, 3) := by decide +kernel
theorem dX10_questionTotal_5 : decode cX10_questionTotal 5 = .ok (.aload_n 0, 1) := by decide +kernel
theorem dX10_questionTotal_6 : decode cX10_questionTotal 6 = .ok (.getfield 9, 3) := by decide +kernel
theorem dX10_questionTotal_9 : decode cX10_questionTotal 9 = .ok (.iconst 3, 1) := by decide +kernel
theorem dX10_questionTotal_10 : decode cX10_questionTotal 10 = .ok (.iaload, 1) := by decide +kernel
theorem dX10_questionTotal_11 : decode cX10_questionTotal 11 = .ok (.ireturn, 1) := by decide +kernel
theorem dX10_meanCredibility_0 : decode cX10_meanCredibility 0 = .ok (.aload_n 0, 1) := by decide +kernel
theorem dX10_meanCredibility_1 : decode cX10_meanCredibility 1 = .ok (.getfield 9, 3) := by decide +kernel
theorem dX10_meanCredibility_4 : decode cX10_meanCredibility 4 = .ok (.iconst 1, 1) := by decide +kernel
theorem dX10_meanCredibility_5 : decode cX10_meanCredibility 5 = .ok (.iaload, 1) := by decide +kernel
theorem dX10_meanCredibility_6 : decode cX10_meanCredibility 6 = .ok (.istore_n 1, 1) := by decide +kernel
theorem dX10_meanCredibility_7 : decode cX10_meanCredibility 7 = .ok (.aload_n 0, 1) := by decide +kernel
theorem dX10_meanCredibility_8 : decode cX10_meanCredibility 8 = .ok (.iload_n 1, 1) := by decide +kernel
theorem dX10_meanCredibility_9 : decode cX10_meanCredibility 9 = .ok (.ifCond .le 7, 3) := by decide +kernel
theorem dX10_meanCredibility_12 : decode cX10_meanCredibility 12 = .ok (.iconst 1, 1) := by decide +kernel
theorem dX10_meanCredibility_13 : decode cX10_meanCredibility 13 = .ok (.goto 4, 3) := by decide +kernel
theorem dX10_meanCredibility_16 : decode cX10_meanCredibility 16 = .ok (.iconst 0, 1) := by decide +kernel
theorem dX10_meanCredibility_17 : decode cX10_meanCredibility 17 = .ok (.invokevirtual 124, 3) := by decide +kernel
theorem dX10_meanCredibility_20 : decode cX10_meanCredibility 20 = .ok (.ifCond .ne 5, 3) := by decide +kernel
theorem dX10_meanCredibility_23 : decode cX10_meanCredibility 23 = .ok (.dconst 0, 1) := by decide +kernel
theorem dX10_meanCredibility_24 : decode cX10_meanCredibility 24 = .ok (.dreturn, 1) := by decide +kernel
theorem dX10_meanCredibility_25 : decode cX10_meanCredibility 25 = .ok (.iconst 0, 1) := by decide +kernel
theorem dX10_meanCredibility_26 : decode cX10_meanCredibility 26 = .ok (.istore_n 2, 1) := by decide +kernel
theorem dX10_meanCredibility_27 : decode cX10_meanCredibility 27 = .ok (.iconst 0, 1) := by decide +kernel
theorem dX10_meanCredibility_28 : decode cX10_meanCredibility 28 = .ok (.istore_n 3, 1) := by decide +kernel
theorem dX10_meanCredibility_29 : decode cX10_meanCredibility 29 = .ok (.iload_n 3, 1) := by decide +kernel
theorem dX10_meanCredibility_30 : decode cX10_meanCredibility 30 = .ok (.iload_n 1, 1) := by decide +kernel
theorem dX10_meanCredibility_31 : decode cX10_meanCredibility 31 = .ok (.if_icmp .ge 20, 3) := by decide +kernel
theorem dX10_meanCredibility_34 : decode cX10_meanCredibility 34 = .ok (.iload_n 2, 1) := by decide +kernel
theorem dX10_meanCredibility_35 : decode cX10_meanCredibility 35 = .ok (.aload_n 0, 1) := by decide +kernel
theorem dX10_meanCredibility_36 : decode cX10_meanCredibility 36 = .ok (.getfield 9, 3) := by decide +kernel
theorem dX10_meanCredibility_39 : decode cX10_meanCredibility 39 = .ok (.iconst 4, 1) := by decide +kernel
theorem dX10_meanCredibility_40 : decode cX10_meanCredibility 40 = .ok (.iload_n 3, 1) := by decide +kernel
theorem dX10_meanCredibility_41 : decode cX10_meanCredibility 41 = .ok (.iadd, 1) := by decide +kernel
theorem dX10_meanCredibility_42 : decode cX10_meanCredibility 42 = .ok (.iaload, 1) := by decide +kernel
theorem dX10_meanCredibility_43 : decode cX10_meanCredibility 43 = .ok (.iadd, 1) := by decide +kernel
theorem dX10_meanCredibility_44 : decode cX10_meanCredibility 44 = .ok (.istore_n 2, 1) := by decide +kernel
theorem dX10_meanCredibility_45 : decode cX10_meanCredibility 45 = .ok (.iinc 3 1, 3) := by decide +kernel
theorem dX10_meanCredibility_48 : decode cX10_meanCredibility 48 = .ok (.goto (-19), 3) := by decide +kernel
theorem dX10_meanCredibility_51 : decode cX10_meanCredibility 51 = .ok (.iload_n 2, 1) := by decide +kernel
theorem dX10_meanCredibility_52 : decode cX10_meanCredibility 52 = .ok (.i2d, 1) := by decide +kernel
theorem dX10_meanCredibility_53 : decode cX10_meanCredibility 53 = .ok (.iload_n 1, 1) := by decide +kernel
theorem dX10_meanCredibility_54 : decode cX10_meanCredibility 54 = .ok (.i2d, 1) := by decide +kernel
theorem dX10_meanCredibility_55 : decode cX10_meanCredibility 55 = .ok (.ddiv, 1) := by decide +kernel
theorem dX10_meanCredibility_56 : decode cX10_meanCredibility 56 = .ok (.dreturn, 1) := by decide +kernel
theorem dX10_guiltyShare_0 : decode cX10_guiltyShare 0 = .ok (.aload_n 0, 1) := by decide +kernel
theorem dX10_guiltyShare_1 : decode cX10_guiltyShare 1 = .ok (.getfield 9, 3) := by decide +kernel
theorem dX10_guiltyShare_4 : decode cX10_guiltyShare 4 = .ok (.iconst 0, 1) := by decide +kernel
theorem dX10_guiltyShare_5 : decode cX10_guiltyShare 5 = .ok (.iaload, 1) := by decide +kernel
theorem dX10_guiltyShare_6 : decode cX10_guiltyShare 6 = .ok (.aload_n 0, 1) := by decide +kernel
theorem dX10_guiltyShare_7 : decode cX10_guiltyShare 7 = .ok (.iconst 0, 1) := by decide +kernel
theorem dX10_guiltyShare_8 : decode cX10_guiltyShare 8 = .ok (.iconst (-1), 1) := by decide +kernel
theorem dX10_guiltyShare_9 : decode cX10_guiltyShare 9 = .ok (.invokevirtual 118, 3) := by decide +kernel
theorem dX10_guiltyShare_12 : decode cX10_guiltyShare 12 = .ok (.isub, 1) := by decide +kernel
theorem dX10_guiltyShare_13 : decode cX10_guiltyShare 13 = .ok (.istore_n 1, 1) := by decide +kernel
theorem dX10_guiltyShare_14 : decode cX10_guiltyShare 14 = .ok (.aload_n 0, 1) := by decide +kernel
theorem dX10_guiltyShare_15 : decode cX10_guiltyShare 15 = .ok (.iload_n 1, 1) := by decide +kernel
theorem dX10_guiltyShare_16 : decode cX10_guiltyShare 16 = .ok (.ifCond .le 7, 3) := by decide +kernel
theorem dX10_guiltyShare_19 : decode cX10_guiltyShare 19 = .ok (.iconst 1, 1) := by decide +kernel
theorem dX10_guiltyShare_20 : decode cX10_guiltyShare 20 = .ok (.goto 4, 3) := by decide +kernel
theorem dX10_guiltyShare_23 : decode cX10_guiltyShare 23 = .ok (.iconst 0, 1) := by decide +kernel
theorem dX10_guiltyShare_24 : decode cX10_guiltyShare 24 = .ok (.invokevirtual 124, 3) := by decide +kernel
theorem dX10_guiltyShare_27 : decode cX10_guiltyShare 27 = .ok (.ifCond .eq 23, 3) := by decide +kernel
theorem dX10_guiltyShare_30 : decode cX10_guiltyShare 30 = .ok (.aload_n 0, 1) := by decide +kernel
theorem dX10_guiltyShare_31 : decode cX10_guiltyShare 31 = .ok (.iconst 1, 1) := by decide +kernel
theorem dX10_guiltyShare_32 : decode cX10_guiltyShare 32 = .ok (.iconst 1, 1) := by decide +kernel
theorem dX10_guiltyShare_33 : decode cX10_guiltyShare 33 = .ok (.invokevirtual 118, 3) := by decide +kernel
theorem dX10_guiltyShare_36 : decode cX10_guiltyShare 36 = .ok (.aload_n 0, 1) := by decide +kernel
theorem dX10_guiltyShare_37 : decode cX10_guiltyShare 37 = .ok (.iconst 2, 1) := by decide +kernel
theorem dX10_guiltyShare_38 : decode cX10_guiltyShare 38 = .ok (.iconst 1, 1) := by decide +kernel
theorem dX10_guiltyShare_39 : decode cX10_guiltyShare 39 = .ok (.invokevirtual 118, 3) := by decide +kernel
theorem dX10_guiltyShare_42 : decode cX10_guiltyShare 42 = .ok (.iadd, 1) := by decide +kernel
theorem dX10_guiltyShare_43 : decode cX10_guiltyShare 43 = .ok (.i2f, 1) := by decide +kernel
theorem dX10_guiltyShare_44 : decode cX10_guiltyShare 44 = .ok (.iload_n 1, 1) := by decide +kernel
theorem dX10_guiltyShare_45 : decode cX10_guiltyShare 45 = .ok (.i2f, 1) := by decide +kernel
theorem dX10_guiltyShare_46 : decode cX10_guiltyShare 46 = .ok (.fdiv, 1) := by decide +kernel
theorem dX10_guiltyShare_47 : decode cX10_guiltyShare 47 = .ok (.goto 4, 3) := by decide +kernel
theorem dX10_guiltyShare_50 : decode cX10_guiltyShare 50 = .ok (.fconst 0, 1) := by decide +kernel
theorem dX10_guiltyShare_51 : decode cX10_guiltyShare 51 = .ok (.freturn, 1) := by decide +kernel
theorem dX10_isConsistent_0 : decode cX10_isConsistent 0 = .ok (.aload_n 0, 1) := by decide +kernel
theorem dX10_isConsistent_1 : decode cX10_isConsistent 1 = .ok (.iconst 0, 1) := by decide +kernel
theorem dX10_isConsistent_2 : decode cX10_isConsistent 2 = .ok (.putfield 30, 3) := by decide +kernel
theorem dX10_isConsistent_5 : decode cX10_isConsistent 5 = .ok (.iconst 1, 1) := by decide +kernel
theorem dX10_isConsistent_6 : decode cX10_isConsistent 6 = .ok (.ireturn, 1) := by decide +kernel
theorem dX10_writes_0 : decode cX10_writes 0 = .ok (.aload_n 0, 1) := by decide +kernel
theorem dX10_writes_1 : decode cX10_writes 1 = .ok (.getfield 13, 3) := by decide +kernel
theorem dX10_writes_4 : decode cX10_writes 4 = .ok (.aload_n 0, 1) := by decide +kernel
theorem dX10_writes_5 : decode cX10_writes 5 = .ok (.getfield 156, 3) := by decide +kernel
theorem dX10_writes_8 : decode cX10_writes 8 = .ok (.iload_n 1, 1) := by decide +kernel
theorem dX10_writes_9 : decode cX10_writes 9 = .ok (.i2c, 1) := by decide +kernel
theorem dX10_writes_10 : decode cX10_writes 10 = .ok (.castore, 1) := by decide +kernel
theorem dX10_writes_11 : decode cX10_writes 11 = .ok (.aload_n 0, 1) := by decide +kernel
theorem dX10_writes_12 : decode cX10_writes 12 = .ok (.dup, 1) := by decide +kernel
theorem dX10_writes_13 : decode cX10_writes 13 = .ok (.getfield 156, 3) := by decide +kernel
theorem dX10_writes_16 : decode cX10_writes 16 = .ok (.iconst 1, 1) := by decide +kernel
theorem dX10_writes_17 : decode cX10_writes 17 = .ok (.iadd, 1) := by decide +kernel
theorem dX10_writes_18 : decode cX10_writes 18 = .ok (.putfield 156, 3) := by decide +kernel
theorem dX10_writes_21 : decode cX10_writes 21 = .ok (.return_, 1) := by decide +kernel
theorem dX10_writesNumber_0 : decode cX10_writesNumber 0 = .ok (.iload_n 1, 1) := by decide +kernel
theorem dX10_writesNumber_1 : decode cX10_writesNumber 1 = .ok (.bipush 9, 2) := by decide +kernel
theorem dX10_writesNumber_3 : decode cX10_writesNumber 3 = .ok (.if_icmp .le 11, 3) := by decide +kernel
theorem dX10_writesNumber_6 : decode cX10_writesNumber 6 = .ok (.aload_n 0, 1) := by decide +kernel
theorem dX10_writesNumber_7 : decode cX10_writesNumber 7 = .ok (.iload_n 1, 1) := by decide +kernel
theorem dX10_writesNumber_8 : decode cX10_writesNumber 8 = .ok (.bipush 10, 2) := by decide +kernel
theorem dX10_writesNumber_10 : decode cX10_writesNumber 10 = .ok (.idiv, 1) := by decide +kernel
theorem dX10_writesNumber_11 : decode cX10_writesNumber 11 = .ok (.invokevirtual 159, 3) := by decide +kernel
theorem dX10_writesNumber_14 : decode cX10_writesNumber 14 = .ok (.aload_n 0, 1) := by decide +kernel
theorem dX10_writesNumber_15 : decode cX10_writesNumber 15 = .ok (.bipush 48, 2) := by decide +kernel
theorem dX10_writesNumber_17 : decode cX10_writesNumber 17 = .ok (.iload_n 1, 1) := by decide +kernel
theorem dX10_writesNumber_18 : decode cX10_writesNumber 18 = .ok (.bipush 10, 2) := by decide +kernel
theorem dX10_writesNumber_20 : decode cX10_writesNumber 20 = .ok (.irem, 1) := by decide +kernel
theorem dX10_writesNumber_21 : decode cX10_writesNumber 21 = .ok (.iadd, 1) := by decide +kernel
theorem dX10_writesNumber_22 : decode cX10_writesNumber 22 = .ok (.invokevirtual 163, 3) := by decide +kernel
theorem dX10_writesNumber_25 : decode cX10_writesNumber 25 = .ok (.return_, 1) := by decide +kernel
theorem dX10_formatCase_0 : decode cX10_formatCase 0 = .ok (.aload_n 0, 1) := by decide +kernel
theorem dX10_formatCase_1 : decode cX10_formatCase 1 = .ok (.aload_n 0, 1) := by decide +kernel
theorem dX10_formatCase_2 : decode cX10_formatCase 2 = .ok (.iload_n 1, 1) := by decide +kernel
theorem dX10_formatCase_3 : decode cX10_formatCase 3 = .ok (.invokevirtual 92, 3) := by decide +kernel
theorem dX10_formatCase_6 : decode cX10_formatCase 6 = .ok (.invokevirtual 124, 3) := by decide +kernel
theorem dX10_formatCase_9 : decode cX10_formatCase 9 = .ok (.ifCond .ne 5, 3) := by decide +kernel
theorem dX10_formatCase_12 : decode cX10_formatCase 12 = .ok (.iconst 0, 1) := by decide +kernel
theorem dX10_formatCase_13 : decode cX10_formatCase 13 = .ok (.ireturn, 1) := by decide +kernel
theorem dX10_formatCase_14 : decode cX10_formatCase 14 = .ok (.aload_n 0, 1) := by decide +kernel
theorem dX10_formatCase_15 : decode cX10_formatCase 15 = .ok (.iload_n 1, 1) := by decide +kernel
theorem dX10_formatCase_16 : decode cX10_formatCase 16 = .ok (.iconst 2, 1) := by decide +kernel
theorem dX10_formatCase_17 : decode cX10_formatCase 17 = .ok (.invokevirtual 47, 3) := by decide +kernel
theorem dX10_formatCase_20 : decode cX10_formatCase 20 = .ok (.istore_n 2, 1) := by decide +kernel
theorem dX10_formatCase_21 : decode cX10_formatCase 21 = .ok (.aload_n 0, 1) := by decide +kernel
theorem dX10_formatCase_22 : decode cX10_formatCase 22 = .ok (.iconst 0, 1) := by decide +kernel
theorem dX10_formatCase_23 : decode cX10_formatCase 23 = .ok (.putfield 156, 3) := by decide +kernel
theorem dX10_formatCase_26 : decode cX10_formatCase 26 = .ok (.aload_n 0, 1) := by decide +kernel
theorem dX10_formatCase_27 : decode cX10_formatCase 27 = .ok (.iload_n 1, 1) := by decide +kernel
theorem dX10_formatCase_28 : decode cX10_formatCase 28 = .ok (.invokevirtual 159, 3) := by decide +kernel
theorem dX10_formatCase_31 : decode cX10_formatCase 31 = .ok (.aload_n 0, 1) := by decide +kernel
theorem dX10_formatCase_32 : decode cX10_formatCase 32 = .ok (.bipush 58, 2) := by decide +kernel
theorem dX10_formatCase_34 : decode cX10_formatCase 34 = .ok (.invokevirtual 163, 3) := by decide +kernel
theorem dX10_formatCase_37 : decode cX10_formatCase 37 = .ok (.aload_n 0, 1) := by decide +kernel
theorem dX10_formatCase_38 : decode cX10_formatCase 38 = .ok (.aload_n 0, 1) := by decide +kernel
theorem dX10_formatCase_39 : decode cX10_formatCase 39 = .ok (.iload_n 1, 1) := by decide +kernel
theorem dX10_formatCase_40 : decode cX10_formatCase 40 = .ok (.iconst 0, 1) := by decide +kernel
theorem dX10_formatCase_41 : decode cX10_formatCase 41 = .ok (.invokevirtual 47, 3) := by decide +kernel
theorem dX10_formatCase_44 : decode cX10_formatCase 44 = .ok (.invokevirtual 159, 3) := by decide +kernel
theorem dX10_formatCase_47 : decode cX10_formatCase 47 = .ok (.aload_n 0, 1) := by decide +kernel
theorem dX10_formatCase_48 : decode cX10_formatCase 48 = .ok (.bipush 47, 2) := by decide +kernel
theorem dX10_formatCase_50 : decode cX10_formatCase 50 = .ok (.invokevirtual 163, 3) := by decide +kernel
theorem dX10_formatCase_53 : decode cX10_formatCase 53 = .ok (.aload_n 0, 1) := by decide +kernel
theorem dX10_formatCase_54 : decode cX10_formatCase 54 = .ok (.aload_n 0, 1) := by decide +kernel
theorem dX10_formatCase_55 : decode cX10_formatCase 55 = .ok (.iload_n 1, 1) := by decide +kernel
theorem dX10_formatCase_56 : decode cX10_formatCase 56 = .ok (.iconst 1, 1) := by decide +kernel
theorem dX10_formatCase_57 : decode cX10_formatCase 57 = .ok (.invokevirtual 47, 3) := by decide +kernel
theorem dX10_formatCase_60 : decode cX10_formatCase 60 = .ok (.invokevirtual 159, 3) := by decide +kernel
theorem dX10_formatCase_63 : decode cX10_formatCase 63 = .ok (.aload_n 0, 1) := by decide +kernel
theorem dX10_formatCase_64 : decode cX10_formatCase 64 = .ok (.iload_n 2, 1) := by decide +kernel
theorem dX10_formatCase_65 : decode cX10_formatCase 65 = .ok (.ifCond .ne 8, 3) := by decide +kernel
theorem dX10_formatCase_68 : decode cX10_formatCase 68 = .ok (.bipush 111, 2) := by decide +kernel
theorem dX10_formatCase_70 : decode cX10_formatCase 70 = .ok (.goto 20, 3) := by decide +kernel
theorem dX10_formatCase_73 : decode cX10_formatCase 73 = .ok (.aload_n 0, 1) := by decide +kernel
theorem dX10_formatCase_74 : decode cX10_formatCase 74 = .ok (.iload_n 1, 1) := by decide +kernel
theorem dX10_formatCase_75 : decode cX10_formatCase 75 = .ok (.iconst 3, 1) := by decide +kernel
theorem dX10_formatCase_76 : decode cX10_formatCase 76 = .ok (.invokevirtual 47, 3) := by decide +kernel
theorem dX10_formatCase_79 : decode cX10_formatCase 79 = .ok (.iconst 1, 1) := by decide +kernel
theorem dX10_formatCase_80 : decode cX10_formatCase 80 = .ok (.if_icmp .ne 8, 3) := by decide +kernel
theorem dX10_formatCase_83 : decode cX10_formatCase 83 = .ok (.bipush 103, 2) := by decide +kernel
theorem dX10_formatCase_85 : decode cX10_formatCase 85 = .ok (.goto 5, 3) := by decide +kernel
theorem dX10_formatCase_88 : decode cX10_formatCase 88 = .ok (.bipush 110, 2) := by decide +kernel
theorem dX10_formatCase_90 : decode cX10_formatCase 90 = .ok (.invokevirtual 163, 3) := by decide +kernel
theorem dX10_formatCase_93 : decode cX10_formatCase 93 = .ok (.iload_n 2, 1) := by decide +kernel
theorem dX10_formatCase_94 : decode cX10_formatCase 94 = .ok (.iconst 2, 1) := by decide +kernel
theorem dX10_formatCase_95 : decode cX10_formatCase 95 = .ok (.if_icmp .ne 9, 3) := by decide +kernel
theorem dX10_formatCase_98 : decode cX10_formatCase 98 = .ok (.aload_n 0, 1) := by decide +kernel
theorem dX10_formatCase_99 : decode cX10_formatCase 99 = .ok (.bipush 46, 2) := by decide +kernel
theorem dX10_formatCase_101 : decode cX10_formatCase 101 = .ok (.invokevirtual 163, 3) := by decide +kernel
theorem dX10_formatCase_104 : decode cX10_formatCase 104 = .ok (.iconst 0, 1) := by decide +kernel
theorem dX10_formatCase_105 : decode cX10_formatCase 105 = .ok (.istore_n 3, 1) := by decide +kernel
theorem dX10_formatCase_106 : decode cX10_formatCase 106 = .ok (.iload_n 3, 1) := by decide +kernel
theorem dX10_formatCase_107 : decode cX10_formatCase 107 = .ok (.aload_n 0, 1) := by decide +kernel
theorem dX10_formatCase_108 : decode cX10_formatCase 108 = .ok (.iload_n 1, 1) := by decide +kernel
theorem dX10_formatCase_109 : decode cX10_formatCase 109 = .ok (.iconst 5, 1) := by decide +kernel
theorem dX10_formatCase_110 : decode cX10_formatCase 110 = .ok (.invokevirtual 47, 3) := by decide +kernel
theorem dX10_formatCase_113 : decode cX10_formatCase 113 = .ok (.if_icmp .ge 65, 3) := by decide +kernel
theorem dX10_formatCase_116 : decode cX10_formatCase 116 = .ok (.aload_n 0, 1) := by decide +kernel
theorem dX10_formatCase_117 : decode cX10_formatCase 117 = .ok (.bipush 32, 2) := by decide +kernel
theorem dX10_formatCase_119 : decode cX10_formatCase 119 = .ok (.invokevirtual 163, 3) := by decide +kernel
theorem dX10_formatCase_122 : decode cX10_formatCase 122 = .ok (.aload_n 0, 1) := by decide +kernel
theorem dX10_formatCase_123 : decode cX10_formatCase 123 = .ok (.aload_n 0, 1) := by decide +kernel
theorem dX10_formatCase_124 : decode cX10_formatCase 124 = .ok (.iload_n 1, 1) := by decide +kernel
theorem dX10_formatCase_125 : decode cX10_formatCase 125 = .ok (.iload_n 3, 1) := by decide +kernel
theorem dX10_formatCase_126 : decode cX10_formatCase 126 = .ok (.iconst 1, 1) := by decide +kernel
theorem dX10_formatCase_127 : decode cX10_formatCase 127 = .ok (.invokevirtual 51, 3) := by decide +kernel
theorem dX10_formatCase_130 : decode cX10_formatCase 130 = .ok (.iconst 1, 1) := by decide +kernel
theorem dX10_formatCase_131 : decode cX10_formatCase 131 = .ok (.if_icmp .ne 8, 3) := by decide +kernel
theorem dX10_formatCase_134 : decode cX10_formatCase 134 = .ok (.bipush 43, 2) := by decide +kernel
theorem dX10_formatCase_136 : decode cX10_formatCase 136 = .ok (.goto 5, 3) := by decide +kernel
theorem dX10_formatCase_139 : decode cX10_formatCase 139 = .ok (.bipush 45, 2) := by decide +kernel
theorem dX10_formatCase_141 : decode cX10_formatCase 141 = .ok (.invokevirtual 163, 3) := by decide +kernel
theorem dX10_formatCase_144 : decode cX10_formatCase 144 = .ok (.aload_n 0, 1) := by decide +kernel
theorem dX10_formatCase_145 : decode cX10_formatCase 145 = .ok (.aload_n 0, 1) := by decide +kernel
theorem dX10_formatCase_146 : decode cX10_formatCase 146 = .ok (.iload_n 1, 1) := by decide +kernel
theorem dX10_formatCase_147 : decode cX10_formatCase 147 = .ok (.iload_n 3, 1) := by decide +kernel
theorem dX10_formatCase_148 : decode cX10_formatCase 148 = .ok (.iconst 0, 1) := by decide +kernel
theorem dX10_formatCase_149 : decode cX10_formatCase 149 = .ok (.invokevirtual 51, 3) := by decide +kernel
theorem dX10_formatCase_152 : decode cX10_formatCase 152 = .ok (.invokevirtual 159, 3) := by decide +kernel
theorem dX10_formatCase_155 : decode cX10_formatCase 155 = .ok (.aload_n 0, 1) := by decide +kernel
theorem dX10_formatCase_156 : decode cX10_formatCase 156 = .ok (.bipush 42, 2) := by decide +kernel
theorem dX10_formatCase_158 : decode cX10_formatCase 158 = .ok (.invokevirtual 163, 3) := by decide +kernel
theorem dX10_formatCase_161 : decode cX10_formatCase 161 = .ok (.aload_n 0, 1) := by decide +kernel
theorem dX10_formatCase_162 : decode cX10_formatCase 162 = .ok (.aload_n 0, 1) := by decide +kernel
theorem dX10_formatCase_163 : decode cX10_formatCase 163 = .ok (.iload_n 1, 1) := by decide +kernel
theorem dX10_formatCase_164 : decode cX10_formatCase 164 = .ok (.iload_n 3, 1) := by decide +kernel
theorem dX10_formatCase_165 : decode cX10_formatCase 165 = .ok (.iconst 2, 1) := by decide +kernel
theorem dX10_formatCase_166 : decode cX10_formatCase 166 = .ok (.invokevirtual 51, 3) := by decide +kernel
theorem dX10_formatCase_169 : decode cX10_formatCase 169 = .ok (.invokevirtual 159, 3) := by decide +kernel
theorem dX10_formatCase_172 : decode cX10_formatCase 172 = .ok (.iinc 3 1, 3) := by decide +kernel
theorem dX10_formatCase_175 : decode cX10_formatCase 175 = .ok (.goto (-69), 3) := by decide +kernel
theorem dX10_formatCase_178 : decode cX10_formatCase 178 = .ok (.aload_n 0, 1) := by decide +kernel
theorem dX10_formatCase_179 : decode cX10_formatCase 179 = .ok (.getfield 156, 3) := by decide +kernel
theorem dX10_formatCase_182 : decode cX10_formatCase 182 = .ok (.ireturn, 1) := by decide +kernel
theorem dX10_formatWitness_0 : decode cX10_formatWitness 0 = .ok (.aload_n 0, 1) := by decide +kernel
theorem dX10_formatWitness_1 : decode cX10_formatWitness 1 = .ok (.aload_n 0, 1) := by decide +kernel
theorem dX10_formatWitness_2 : decode cX10_formatWitness 2 = .ok (.iload_n 1, 1) := by decide +kernel
theorem dX10_formatWitness_3 : decode cX10_formatWitness 3 = .ok (.invokevirtual 95, 3) := by decide +kernel
theorem dX10_formatWitness_6 : decode cX10_formatWitness 6 = .ok (.invokevirtual 124, 3) := by decide +kernel
theorem dX10_formatWitness_9 : decode cX10_formatWitness 9 = .ok (.ifCond .ne 5, 3) := by decide +kernel
theorem dX10_formatWitness_12 : decode cX10_formatWitness 12 = .ok (.iconst 0, 1) := by decide +kernel
theorem dX10_formatWitness_13 : decode cX10_formatWitness 13 = .ok (.ireturn, 1) := by decide +kernel
theorem dX10_formatWitness_14 : decode cX10_formatWitness 14 = .ok (.aload_n 0, 1) := by decide +kernel
theorem dX10_formatWitness_15 : decode cX10_formatWitness 15 = .ok (.iconst 0, 1) := by decide +kernel
theorem dX10_formatWitness_16 : decode cX10_formatWitness 16 = .ok (.putfield 156, 3) := by decide +kernel
theorem dX10_formatWitness_19 : decode cX10_formatWitness 19 = .ok (.aload_n 0, 1) := by decide +kernel
theorem dX10_formatWitness_20 : decode cX10_formatWitness 20 = .ok (.bipush 119, 2) := by decide +kernel
theorem dX10_formatWitness_22 : decode cX10_formatWitness 22 = .ok (.invokevirtual 163, 3) := by decide +kernel
theorem dX10_formatWitness_25 : decode cX10_formatWitness 25 = .ok (.aload_n 0, 1) := by decide +kernel
theorem dX10_formatWitness_26 : decode cX10_formatWitness 26 = .ok (.iload_n 1, 1) := by decide +kernel
theorem dX10_formatWitness_27 : decode cX10_formatWitness 27 = .ok (.invokevirtual 159, 3) := by decide +kernel
theorem dX10_formatWitness_30 : decode cX10_formatWitness 30 = .ok (.aload_n 0, 1) := by decide +kernel
theorem dX10_formatWitness_31 : decode cX10_formatWitness 31 = .ok (.bipush 61, 2) := by decide +kernel
theorem dX10_formatWitness_33 : decode cX10_formatWitness 33 = .ok (.invokevirtual 163, 3) := by decide +kernel
theorem dX10_formatWitness_36 : decode cX10_formatWitness 36 = .ok (.aload_n 0, 1) := by decide +kernel
theorem dX10_formatWitness_37 : decode cX10_formatWitness 37 = .ok (.aload_n 0, 1) := by decide +kernel
theorem dX10_formatWitness_38 : decode cX10_formatWitness 38 = .ok (.getfield 9, 3) := by decide +kernel
theorem dX10_formatWitness_41 : decode cX10_formatWitness 41 = .ok (.iconst 4, 1) := by decide +kernel
theorem dX10_formatWitness_42 : decode cX10_formatWitness 42 = .ok (.iload_n 1, 1) := by decide +kernel
theorem dX10_formatWitness_43 : decode cX10_formatWitness 43 = .ok (.iadd, 1) := by decide +kernel
theorem dX10_formatWitness_44 : decode cX10_formatWitness 44 = .ok (.iaload, 1) := by decide +kernel
theorem dX10_formatWitness_45 : decode cX10_formatWitness 45 = .ok (.invokevirtual 159, 3) := by decide +kernel
theorem dX10_formatWitness_48 : decode cX10_formatWitness 48 = .ok (.aload_n 0, 1) := by decide +kernel
theorem dX10_formatWitness_49 : decode cX10_formatWitness 49 = .ok (.getfield 156, 3) := by decide +kernel
theorem dX10_formatWitness_52 : decode cX10_formatWitness 52 = .ok (.ireturn, 1) := by decide +kernel
theorem dX10_lineChar_0 : decode cX10_lineChar 0 = .ok (.aload_n 0, 1) := by decide +kernel
theorem dX10_lineChar_1 : decode cX10_lineChar 1 = .ok (.iload_n 1, 1) := by decide +kernel
theorem dX10_lineChar_2 : decode cX10_lineChar 2 = .ok (.iconst 0, 1) := by decide +kernel
theorem dX10_lineChar_3 : decode cX10_lineChar 3 = .ok (.aload_n 0, 1) := by decide +kernel
theorem dX10_lineChar_4 : decode cX10_lineChar 4 = .ok (.getfield 156, 3) := by decide +kernel
theorem dX10_lineChar_7 : decode cX10_lineChar 7 = .ok (.iconst 1, 1) := by decide +kernel
theorem dX10_lineChar_8 : decode cX10_lineChar 8 = .ok (.isub, 1) := by decide +kernel
theorem dX10_lineChar_9 : decode cX10_lineChar 9 = .ok (.invokestatic 43, 3) := by decide +kernel
theorem dX10_lineChar_12 : decode cX10_lineChar 12 = .ok (.invokevirtual 124, 3) := by decide +kernel
theorem dX10_lineChar_15 : decode cX10_lineChar 15 = .ok (.ifCond .eq 12, 3) := by decide +kernel
theorem dX10_lineChar_18 : decode cX10_lineChar 18 = .ok (.aload_n 0, 1) := by decide +kernel
theorem dX10_lineChar_19 : decode cX10_lineChar 19 = .ok (.getfield 13, 3) := by decide +kernel
theorem dX10_lineChar_22 : decode cX10_lineChar 22 = .ok (.iload_n 1, 1) := by decide +kernel
theorem dX10_lineChar_23 : decode cX10_lineChar 23 = .ok (.caload, 1) := by decide +kernel
theorem dX10_lineChar_24 : decode cX10_lineChar 24 = .ok (.goto 4, 3) := by decide +kernel
theorem dX10_lineChar_27 : decode cX10_lineChar 27 = .ok (.iconst 0, 1) := by decide +kernel
theorem dX10_lineChar_28 : decode cX10_lineChar 28 = .ok (.ireturn, 1) := by decide +kernel
theorem dX10_append_0 : decode cX10_append 0 = .ok (.aload_n 0, 1) := by decide +kernel
theorem dX10_append_1 : decode cX10_append 1 = .ok (.iload_n 1, 1) := by decide +kernel
theorem dX10_append_2 : decode cX10_append 2 = .ok (.bipush 32, 2) := by decide +kernel
theorem dX10_append_4 : decode cX10_append 4 = .ok (.bipush 126, 2) := by decide +kernel
theorem dX10_append_6 : decode cX10_append 6 = .ok (.invokestatic 43, 3) := by decide +kernel
theorem dX10_append_9 : decode cX10_append 9 = .ok (.ifCond .ne 7, 3) := by decide +kernel
theorem dX10_append_12 : decode cX10_append 12 = .ok (.iconst 1, 1) := by decide +kernel
theorem dX10_append_13 : decode cX10_append 13 = .ok (.goto 17, 3) := by decide +kernel
theorem dX10_append_16 : decode cX10_append 16 = .ok (.aload_n 0, 1) := by decide +kernel
theorem dX10_append_17 : decode cX10_append 17 = .ok (.getfield 166, 3) := by decide +kernel
theorem dX10_append_20 : decode cX10_append 20 = .ok (.bipush 60, 2) := by decide +kernel
theorem dX10_append_22 : decode cX10_append 22 = .ok (.if_icmp .ne 7, 3) := by decide +kernel
theorem dX10_append_25 : decode cX10_append 25 = .ok (.iconst 2, 1) := by decide +kernel
theorem dX10_append_26 : decode cX10_append 26 = .ok (.goto 4, 3) := by decide +kernel
theorem dX10_append_29 : decode cX10_append 29 = .ok (.iconst 0, 1) := by decide +kernel
theorem dX10_append_30 : decode cX10_append 30 = .ok (.putfield 30, 3) := by decide +kernel
theorem dX10_append_33 : decode cX10_append 33 = .ok (.aload_n 0, 1) := by decide +kernel
theorem dX10_append_34 : decode cX10_append 34 = .ok (.getfield 30, 3) := by decide +kernel
theorem dX10_append_37 : decode cX10_append 37 = .ok (.ifCond .eq 5, 3) := by decide +kernel
theorem dX10_append_40 : decode cX10_append 40 = .ok (.iconst 0, 1) := by decide +kernel
theorem dX10_append_41 : decode cX10_append 41 = .ok (.ireturn, 1) := by decide +kernel
theorem dX10_append_42 : decode cX10_append 42 = .ok (.aload_n 0, 1) := by decide +kernel
theorem dX10_append_43 : decode cX10_append 43 = .ok (.getfield 17, 3) := by decide +kernel
theorem dX10_append_46 : decode cX10_append 46 = .ok (.aload_n 0, 1) := by decide +kernel
theorem dX10_append_47 : decode cX10_append 47 = .ok (.getfield 166, 3) := by decide +kernel
theorem dX10_append_50 : decode cX10_append 50 = .ok (.iload_n 1, 1) := by decide +kernel
theorem dX10_append_51 : decode cX10_append 51 = .ok (.castore, 1) := by decide +kernel
theorem dX10_append_52 : decode cX10_append 52 = .ok (.aload_n 0, 1) := by decide +kernel
theorem dX10_append_53 : decode cX10_append 53 = .ok (.dup, 1) := by decide +kernel
theorem dX10_append_54 : decode cX10_append 54 = .ok (.getfield 166, 3) := by decide +kernel
theorem dX10_append_57 : decode cX10_append 57 = .ok (.iconst 1, 1) := by decide +kernel
theorem dX10_append_58 : decode cX10_append 58 = .ok (.iadd, 1) := by decide +kernel
theorem dX10_append_59 : decode cX10_append 59 = .ok (.putfield 166, 3) := by decide +kernel
theorem dX10_append_62 : decode cX10_append 62 = .ok (.aload_n 0, 1) := by decide +kernel
theorem dX10_append_63 : decode cX10_append 63 = .ok (.getfield 166, 3) := by decide +kernel
theorem dX10_append_66 : decode cX10_append 66 = .ok (.ireturn, 1) := by decide +kernel
theorem dX10_sign_0 : decode cX10_sign 0 = .ok (.aload_n 0, 1) := by decide +kernel
theorem dX10_sign_1 : decode cX10_sign 1 = .ok (.getfield 169, 3) := by decide +kernel
theorem dX10_sign_4 : decode cX10_sign 4 = .ok (.aload_n 0, 1) := by decide +kernel
theorem dX10_sign_5 : decode cX10_sign 5 = .ok (.getfield 166, 3) := by decide +kernel
theorem dX10_sign_8 : decode cX10_sign 8 = .ok (.if_icmp .ge 15, 3) := by decide +kernel
theorem dX10_sign_11 : decode cX10_sign 11 = .ok (.aload_n 0, 1) := by decide +kernel
theorem dX10_sign_12 : decode cX10_sign 12 = .ok (.getfield 17, 3) := by decide +kernel
theorem dX10_sign_15 : decode cX10_sign 15 = .ok (.aload_n 0, 1) := by decide +kernel
theorem dX10_sign_16 : decode cX10_sign 16 = .ok (.getfield 169, 3) := by decide +kernel
theorem dX10_sign_19 : decode cX10_sign 19 = .ok (.caload, 1) := by decide +kernel
theorem dX10_sign_20 : decode cX10_sign 20 = .ok (.goto 4, 3) := by decide +kernel
theorem dX10_sign_23 : decode cX10_sign 23 = .ok (.iconst (-1), 1) := by decide +kernel
theorem dX10_sign_24 : decode cX10_sign 24 = .ok (.ireturn, 1) := by decide +kernel
theorem dX10_needs_0 : decode cX10_needs 0 = .ok (.aload_n 0, 1) := by decide +kernel
theorem dX10_needs_1 : decode cX10_needs 1 = .ok (.getfield 172, 3) := by decide +kernel
theorem dX10_needs_4 : decode cX10_needs 4 = .ok (.ifCond .lt 4, 3) := by decide +kernel
theorem dX10_needs_7 : decode cX10_needs 7 = .ok (.return_, 1) := by decide +kernel
theorem dX10_needs_8 : decode cX10_needs 8 = .ok (.aload_n 0, 1) := by decide +kernel
theorem dX10_needs_9 : decode cX10_needs 9 = .ok (.invokevirtual 175, 3) := by decide +kernel
theorem dX10_needs_12 : decode cX10_needs 12 = .ok (.iload_n 1, 1) := by decide +kernel
theorem dX10_needs_13 : decode cX10_needs 13 = .ok (.if_icmp .eq 12, 3) := by decide +kernel
theorem dX10_needs_16 : decode cX10_needs 16 = .ok (.aload_n 0, 1) := by decide +kernel
theorem dX10_needs_17 : decode cX10_needs 17 = .ok (.aload_n 0, 1) := by decide +kernel
theorem dX10_needs_18 : decode cX10_needs 18 = .ok (.getfield 169, 3) := by decide +kernel
theorem dX10_needs_21 : decode cX10_needs 21 = .ok (.putfield 172, 3) := by decide +kernel
theorem dX10_needs_24 : decode cX10_needs 24 = .ok (.return_, 1) := by decide +kernel
theorem dX10_needs_25 : decode cX10_needs 25 = .ok (.aload_n 0, 1) := by decide +kernel
theorem dX10_needs_26 : decode cX10_needs 26 = .ok (.dup, 1) := by decide +kernel
theorem dX10_needs_27 : decode cX10_needs 27 = .ok (.getfield 169, 3) := by decide +kernel
theorem dX10_needs_30 : decode cX10_needs 30 = .ok (.iconst 1, 1) := by decide +kernel
theorem dX10_needs_31 : decode cX10_needs 31 = .ok (.iadd, 1) := by decide +kernel
theorem dX10_needs_32 : decode cX10_needs 32 = .ok (.putfield 169, 3) := by decide +kernel
theorem dX10_needs_35 : decode cX10_needs 35 = .ok (.return_, 1) := by decide +kernel
theorem dX10_letters_0 : decode cX10_letters 0 = .ok (.aload_n 0, 1) := by decide +kernel
theorem dX10_letters_1 : decode cX10_letters 1 = .ok (.iload_n 1, 1) := by decide +kernel
theorem dX10_letters_2 : decode cX10_letters 2 = .ok (.invokevirtual 179, 3) := by decide +kernel
theorem dX10_letters_5 : decode cX10_letters 5 = .ok (.aload_n 0, 1) := by decide +kernel
theorem dX10_letters_6 : decode cX10_letters 6 = .ok (.iload_n 2, 1) := by decide +kernel
theorem dX10_letters_7 : decode cX10_letters 7 = .ok (.invokevirtual 179, 3) := by decide +kernel
theorem dX10_letters_10 : decode cX10_letters 10 = .ok (.aload_n 0, 1) := by decide +kernel
theorem dX10_letters_11 : decode cX10_letters 11 = .ok (.iload_n 3, 1) := by decide +kernel
theorem dX10_letters_12 : decode cX10_letters 12 = .ok (.invokevirtual 179, 3) := by decide +kernel
theorem dX10_letters_15 : decode cX10_letters 15 = .ok (.return_, 1) := by decide +kernel
theorem dX10_number_0 : decode cX10_number 0 = .ok (.aload_n 0, 1) := by decide +kernel
theorem dX10_number_1 : decode cX10_number 1 = .ok (.getfield 172, 3) := by decide +kernel
theorem dX10_number_4 : decode cX10_number 4 = .ok (.ifCond .lt 5, 3) := by decide +kernel
theorem dX10_number_7 : decode cX10_number 7 = .ok (.iconst 0, 1) := by decide +kernel
theorem dX10_number_8 : decode cX10_number 8 = .ok (.ireturn, 1) := by decide +kernel
theorem dX10_number_9 : decode cX10_number 9 = .ok (.aload_n 0, 1) := by decide +kernel
theorem dX10_number_10 : decode cX10_number 10 = .ok (.invokevirtual 175, 3) := by decide +kernel
theorem dX10_number_13 : decode cX10_number 13 = .ok (.bipush 48, 2) := by decide +kernel
theorem dX10_number_15 : decode cX10_number 15 = .ok (.bipush 57, 2) := by decide +kernel
theorem dX10_number_17 : decode cX10_number 17 = .ok (.invokestatic 43, 3) := by decide +kernel
theorem dX10_number_20 : decode cX10_number 20 = .ok (.ifCond .ne 13, 3) := by decide +kernel
theorem dX10_number_23 : decode cX10_number 23 = .ok (.aload_n 0, 1) := by decide +kernel
theorem dX10_number_24 : decode cX10_number 24 = .ok (.aload_n 0, 1) := by decide +kernel
theorem dX10_number_25 : decode cX10_number 25 = .ok (.getfield 169, 3) := by decide +kernel
theorem dX10_number_28 : decode cX10_number 28 = .ok (.putfield 172, 3) := by decide +kernel
theorem dX10_number_31 : decode cX10_number 31 = .ok (.iconst 0, 1) := by decide +kernel
theorem dX10_number_32 : decode cX10_number 32 = .ok (.ireturn, 1) := by decide +kernel
theorem dX10_number_33 : decode cX10_number 33 = .ok (.iconst 0, 1) := by decide +kernel
theorem dX10_number_34 : decode cX10_number 34 = .ok (.istore_n 2, 1) := by decide +kernel
theorem dX10_number_35 : decode cX10_number 35 = .ok (.iconst 0, 1) := by decide +kernel
theorem dX10_number_36 : decode cX10_number 36 = .ok (.istore_n 3, 1) := by decide +kernel
theorem dX10_number_37 : decode cX10_number 37 = .ok (.iload_n 3, 1) := by decide +kernel
theorem dX10_number_38 : decode cX10_number 38 = .ok (.iload_n 1, 1) := by decide +kernel
theorem dX10_number_39 : decode cX10_number 39 = .ok (.if_icmp .ge 46, 3) := by decide +kernel
theorem dX10_number_42 : decode cX10_number 42 = .ok (.aload_n 0, 1) := by decide +kernel
theorem dX10_number_43 : decode cX10_number 43 = .ok (.invokevirtual 175, 3) := by decide +kernel
theorem dX10_number_46 : decode cX10_number 46 = .ok (.bipush 48, 2) := by decide +kernel
theorem dX10_number_48 : decode cX10_number 48 = .ok (.bipush 57, 2) := by decide +kernel
theorem dX10_number_50 : decode cX10_number 50 = .ok (.invokestatic 43, 3) := by decide +kernel
theorem dX10_number_53 : decode cX10_number 53 = .ok (.ifCond .eq 32, 3) := by decide +kernel
theorem dX10_number_56 : decode cX10_number 56 = .ok (.bipush 10, 2) := by decide +kernel
theorem dX10_number_58 : decode cX10_number 58 = .ok (.iload_n 2, 1) := by decide +kernel
theorem dX10_number_59 : decode cX10_number 59 = .ok (.imul, 1) := by decide +kernel
theorem dX10_number_60 : decode cX10_number 60 = .ok (.aload_n 0, 1) := by decide +kernel
theorem dX10_number_61 : decode cX10_number 61 = .ok (.invokevirtual 175, 3) := by decide +kernel
theorem dX10_number_64 : decode cX10_number 64 = .ok (.iadd, 1) := by decide +kernel
theorem dX10_number_65 : decode cX10_number 65 = .ok (.bipush 48, 2) := by decide +kernel
theorem dX10_number_67 : decode cX10_number 67 = .ok (.isub, 1) := by decide +kernel
theorem dX10_number_68 : decode cX10_number 68 = .ok (.istore_n 2, 1) := by decide +kernel
theorem dX10_number_69 : decode cX10_number 69 = .ok (.aload_n 0, 1) := by decide +kernel
theorem dX10_number_70 : decode cX10_number 70 = .ok (.dup, 1) := by decide +kernel
theorem dX10_number_71 : decode cX10_number 71 = .ok (.getfield 169, 3) := by decide +kernel
theorem dX10_number_74 : decode cX10_number 74 = .ok (.iconst 1, 1) := by decide +kernel
theorem dX10_number_75 : decode cX10_number 75 = .ok (.iadd, 1) := by decide +kernel
theorem dX10_number_76 : decode cX10_number 76 = .ok (.putfield 169, 3) := by decide +kernel
theorem dX10_number_79 : decode cX10_number 79 = .ok (.iinc 3 1, 3) := by decide +kernel
theorem dX10_number_82 : decode cX10_number 82 = .ok (.goto (-45), 3) := by decide +kernel
theorem dX10_number_85 : decode cX10_number 85 = .ok (.iload_n 2, 1) := by decide +kernel
theorem dX10_number_86 : decode cX10_number 86 = .ok (.ireturn, 1) := by decide +kernel
theorem dX10_behind_0 : decode cX10_behind 0 = .ok (.aload_n 0, 1) := by decide +kernel
theorem dX10_behind_1 : decode cX10_behind 1 = .ok (.bipush 32, 2) := by decide +kernel
theorem dX10_behind_3 : decode cX10_behind 3 = .ok (.invokevirtual 179, 3) := by decide +kernel
theorem dX10_behind_6 : decode cX10_behind 6 = .ok (.aload_n 0, 1) := by decide +kernel
theorem dX10_behind_7 : decode cX10_behind 7 = .ok (.iload_n 1, 1) := by decide +kernel
theorem dX10_behind_8 : decode cX10_behind 8 = .ok (.invokevirtual 182, 3) := by decide +kernel
theorem dX10_behind_11 : decode cX10_behind 11 = .ok (.ireturn, 1) := by decide +kernel
theorem dX10_either_0 : decode cX10_either 0 = .ok (.aload_n 0, 1) := by decide +kernel
theorem dX10_either_1 : decode cX10_either 1 = .ok (.getfield 172, 3) := by decide +kernel
theorem dX10_either_4 : decode cX10_either 4 = .ok (.ifCond .lt 5, 3) := by decide +kernel
theorem dX10_either_7 : decode cX10_either 7 = .ok (.iconst 0, 1) := by decide +kernel
theorem dX10_either_8 : decode cX10_either 8 = .ok (.ireturn, 1) := by decide +kernel
theorem dX10_either_9 : decode cX10_either 9 = .ok (.aload_n 0, 1) := by decide +kernel
theorem dX10_either_10 : decode cX10_either 10 = .ok (.invokevirtual 175, 3) := by decide +kernel
theorem dX10_either_13 : decode cX10_either 13 = .ok (.istore_n 3, 1) := by decide +kernel
theorem dX10_either_14 : decode cX10_either 14 = .ok (.iload_n 3, 1) := by decide +kernel
theorem dX10_either_15 : decode cX10_either 15 = .ok (.iload_n 1, 1) := by decide +kernel
theorem dX10_either_16 : decode cX10_either 16 = .ok (.if_icmp .eq 18, 3) := by decide +kernel
theorem dX10_either_19 : decode cX10_either 19 = .ok (.iload_n 3, 1) := by decide +kernel
theorem dX10_either_20 : decode cX10_either 20 = .ok (.iload_n 2, 1) := by decide +kernel
theorem dX10_either_21 : decode cX10_either 21 = .ok (.if_icmp .eq 13, 3) := by decide +kernel
theorem dX10_either_24 : decode cX10_either 24 = .ok (.aload_n 0, 1) := by decide +kernel
theorem dX10_either_25 : decode cX10_either 25 = .ok (.aload_n 0, 1) := by decide +kernel
theorem dX10_either_26 : decode cX10_either 26 = .ok (.getfield 169, 3) := by decide +kernel
theorem dX10_either_29 : decode cX10_either 29 = .ok (.putfield 172, 3) := by decide +kernel
theorem dX10_either_32 : decode cX10_either 32 = .ok (.iconst 0, 1) := by decide +kernel
theorem dX10_either_33 : decode cX10_either 33 = .ok (.ireturn, 1) := by decide +kernel
theorem dX10_either_34 : decode cX10_either 34 = .ok (.aload_n 0, 1) := by decide +kernel
theorem dX10_either_35 : decode cX10_either 35 = .ok (.dup, 1) := by decide +kernel
theorem dX10_either_36 : decode cX10_either 36 = .ok (.getfield 169, 3) := by decide +kernel
theorem dX10_either_39 : decode cX10_either 39 = .ok (.iconst 1, 1) := by decide +kernel
theorem dX10_either_40 : decode cX10_either 40 = .ok (.iadd, 1) := by decide +kernel
theorem dX10_either_41 : decode cX10_either 41 = .ok (.putfield 169, 3) := by decide +kernel
theorem dX10_either_44 : decode cX10_either 44 = .ok (.iload_n 3, 1) := by decide +kernel
theorem dX10_either_45 : decode cX10_either 45 = .ok (.iload_n 1, 1) := by decide +kernel
theorem dX10_either_46 : decode cX10_either 46 = .ok (.if_icmp .ne 7, 3) := by decide +kernel
theorem dX10_either_49 : decode cX10_either 49 = .ok (.iconst 1, 1) := by decide +kernel
theorem dX10_either_50 : decode cX10_either 50 = .ok (.goto 4, 3) := by decide +kernel
theorem dX10_either_53 : decode cX10_either 53 = .ok (.iconst 0, 1) := by decide +kernel
theorem dX10_either_54 : decode cX10_either 54 = .ok (.ireturn, 1) := by decide +kernel
theorem dX10_word_0 : decode cX10_word 0 = .ok (.iload_n 1, 1) := by decide +kernel
theorem dX10_word_1 : decode cX10_word 1 = .ok (.lookupswitch 176 #[(97, 151), (100, 126), (113, 97), (116, 74), (119, 51)], 51) := by decide +kernel
theorem dX10_word_52 : decode cX10_word 52 = .ok (.aload_n 0, 1) := by decide +kernel
theorem dX10_word_53 : decode cX10_word 53 = .ok (.bipush 105, 2) := by decide +kernel
theorem dX10_word_55 : decode cX10_word 55 = .ok (.bipush 116, 2) := by decide +kernel
theorem dX10_word_57 : decode cX10_word 57 = .ok (.bipush 110, 2) := by decide +kernel
theorem dX10_word_59 : decode cX10_word 59 = .ok (.invokevirtual 185, 3) := by decide +kernel
theorem dX10_word_62 : decode cX10_word 62 = .ok (.aload_n 0, 1) := by decide +kernel
theorem dX10_word_63 : decode cX10_word 63 = .ok (.bipush 101, 2) := by decide +kernel
theorem dX10_word_65 : decode cX10_word 65 = .ok (.bipush 115, 2) := by decide +kernel
theorem dX10_word_67 : decode cX10_word 67 = .ok (.bipush 115, 2) := by decide +kernel
theorem dX10_word_69 : decode cX10_word 69 = .ok (.invokevirtual 185, 3) := by decide +kernel
theorem dX10_word_72 : decode cX10_word 72 = .ok (.bipush 119, 2) := by decide +kernel
theorem dX10_word_74 : decode cX10_word 74 = .ok (.ireturn, 1) := by decide +kernel
theorem dX10_word_75 : decode cX10_word 75 = .ok (.aload_n 0, 1) := by decide +kernel
theorem dX10_word_76 : decode cX10_word 76 = .ok (.bipush 101, 2) := by decide +kernel
theorem dX10_word_78 : decode cX10_word 78 = .ok (.bipush 115, 2) := by decide +kernel
theorem dX10_word_80 : decode cX10_word 80 = .ok (.bipush 116, 2) := by decide +kernel
theorem dX10_word_82 : decode cX10_word 82 = .ok (.invokevirtual 185, 3) := by decide +kernel
theorem dX10_word_85 : decode cX10_word 85 = .ok (.aload_n 0, 1) := by decide +kernel
theorem dX10_word_86 : decode cX10_word 86 = .ok (.bipush 105, 2) := by decide +kernel
theorem dX10_word_88 : decode cX10_word 88 = .ok (.bipush 102, 2) := by decide +kernel
theorem dX10_word_90 : decode cX10_word 90 = .ok (.bipush 121, 2) := by decide +kernel
theorem dX10_word_92 : decode cX10_word 92 = .ok (.invokevirtual 185, 3) := by decide +kernel
theorem dX10_word_95 : decode cX10_word 95 = .ok (.bipush 116, 2) := by decide +kernel
theorem dX10_word_97 : decode cX10_word 97 = .ok (.ireturn, 1) := by decide +kernel
theorem dX10_word_98 : decode cX10_word 98 = .ok (.aload_n 0, 1) := by decide +kernel
theorem dX10_word_99 : decode cX10_word 99 = .ok (.bipush 117, 2) := by decide +kernel
theorem dX10_word_101 : decode cX10_word 101 = .ok (.bipush 101, 2) := by decide +kernel
theorem dX10_word_103 : decode cX10_word 103 = .ok (.bipush 115, 2) := by decide +kernel
theorem dX10_word_105 : decode cX10_word 105 = .ok (.invokevirtual 185, 3) := by decide +kernel
theorem dX10_word_108 : decode cX10_word 108 = .ok (.aload_n 0, 1) := by decide +kernel
theorem dX10_word_109 : decode cX10_word 109 = .ok (.bipush 116, 2) := by decide +kernel
theorem dX10_word_111 : decode cX10_word 111 = .ok (.bipush 105, 2) := by decide +kernel
theorem dX10_word_113 : decode cX10_word 113 = .ok (.bipush 111, 2) := by decide +kernel
theorem dX10_word_115 : decode cX10_word 115 = .ok (.invokevirtual 185, 3) := by decide +kernel
theorem dX10_word_118 : decode cX10_word 118 = .ok (.aload_n 0, 1) := by decide +kernel
theorem dX10_word_119 : decode cX10_word 119 = .ok (.bipush 110, 2) := by decide +kernel
theorem dX10_word_121 : decode cX10_word 121 = .ok (.invokevirtual 179, 3) := by decide +kernel
theorem dX10_word_124 : decode cX10_word 124 = .ok (.bipush 113, 2) := by decide +kernel
theorem dX10_word_126 : decode cX10_word 126 = .ok (.ireturn, 1) := by decide +kernel
theorem dX10_word_127 : decode cX10_word 127 = .ok (.aload_n 0, 1) := by decide +kernel
theorem dX10_word_128 : decode cX10_word 128 = .ok (.bipush 101, 2) := by decide +kernel
theorem dX10_word_130 : decode cX10_word 130 = .ok (.bipush 99, 2) := by decide +kernel
theorem dX10_word_132 : decode cX10_word 132 = .ok (.bipush 105, 2) := by decide +kernel
theorem dX10_word_134 : decode cX10_word 134 = .ok (.invokevirtual 185, 3) := by decide +kernel
theorem dX10_word_137 : decode cX10_word 137 = .ok (.aload_n 0, 1) := by decide +kernel
theorem dX10_word_138 : decode cX10_word 138 = .ok (.bipush 100, 2) := by decide +kernel
theorem dX10_word_140 : decode cX10_word 140 = .ok (.invokevirtual 179, 3) := by decide +kernel
theorem dX10_word_143 : decode cX10_word 143 = .ok (.aload_n 0, 1) := by decide +kernel
theorem dX10_word_144 : decode cX10_word 144 = .ok (.bipush 101, 2) := by decide +kernel
theorem dX10_word_146 : decode cX10_word 146 = .ok (.invokevirtual 179, 3) := by decide +kernel
theorem dX10_word_149 : decode cX10_word 149 = .ok (.bipush 100, 2) := by decide +kernel
theorem dX10_word_151 : decode cX10_word 151 = .ok (.ireturn, 1) := by decide +kernel
theorem dX10_word_152 : decode cX10_word 152 = .ok (.aload_n 0, 1) := by decide +kernel
theorem dX10_word_153 : decode cX10_word 153 = .ok (.bipush 112, 2) := by decide +kernel
theorem dX10_word_155 : decode cX10_word 155 = .ok (.bipush 112, 2) := by decide +kernel
theorem dX10_word_157 : decode cX10_word 157 = .ok (.bipush 101, 2) := by decide +kernel
theorem dX10_word_159 : decode cX10_word 159 = .ok (.invokevirtual 185, 3) := by decide +kernel
theorem dX10_word_162 : decode cX10_word 162 = .ok (.aload_n 0, 1) := by decide +kernel
theorem dX10_word_163 : decode cX10_word 163 = .ok (.bipush 97, 2) := by decide +kernel
theorem dX10_word_165 : decode cX10_word 165 = .ok (.invokevirtual 179, 3) := by decide +kernel
theorem dX10_word_168 : decode cX10_word 168 = .ok (.aload_n 0, 1) := by decide +kernel
theorem dX10_word_169 : decode cX10_word 169 = .ok (.bipush 108, 2) := by decide +kernel
theorem dX10_word_171 : decode cX10_word 171 = .ok (.invokevirtual 179, 3) := by decide +kernel
theorem dX10_word_174 : decode cX10_word 174 = .ok (.bipush 97, 2) := by decide +kernel
theorem dX10_word_176 : decode cX10_word 176 = .ok (.ireturn, 1) := by decide +kernel
theorem dX10_word_177 : decode cX10_word 177 = .ok (.aload_n 0, 1) := by decide +kernel
theorem dX10_word_178 : decode cX10_word 178 = .ok (.invokevirtual 175, 3) := by decide +kernel
theorem dX10_word_181 : decode cX10_word 181 = .ok (.bipush 108, 2) := by decide +kernel
theorem dX10_word_183 : decode cX10_word 183 = .ok (.if_icmp .ne 22, 3) := by decide +kernel
theorem dX10_word_186 : decode cX10_word 186 = .ok (.aload_n 0, 1) := by decide +kernel
theorem dX10_word_187 : decode cX10_word 187 = .ok (.bipush 108, 2) := by decide +kernel
theorem dX10_word_189 : decode cX10_word 189 = .ok (.bipush 111, 2) := by decide +kernel
theorem dX10_word_191 : decode cX10_word 191 = .ok (.bipush 115, 2) := by decide +kernel
theorem dX10_word_193 : decode cX10_word 193 = .ok (.invokevirtual 185, 3) := by decide +kernel
theorem dX10_word_196 : decode cX10_word 196 = .ok (.aload_n 0, 1) := by decide +kernel
theorem dX10_word_197 : decode cX10_word 197 = .ok (.bipush 101, 2) := by decide +kernel
theorem dX10_word_199 : decode cX10_word 199 = .ok (.invokevirtual 179, 3) := by decide +kernel
theorem dX10_word_202 : decode cX10_word 202 = .ok (.bipush 108, 2) := by decide +kernel
theorem dX10_word_204 : decode cX10_word 204 = .ok (.ireturn, 1) := by decide +kernel
theorem dX10_word_205 : decode cX10_word 205 = .ok (.aload_n 0, 1) := by decide +kernel
theorem dX10_word_206 : decode cX10_word 206 = .ok (.bipush 104, 2) := by decide +kernel
theorem dX10_word_208 : decode cX10_word 208 = .ok (.bipush 97, 2) := by decide +kernel
theorem dX10_word_210 : decode cX10_word 210 = .ok (.bipush 114, 2) := by decide +kernel
theorem dX10_word_212 : decode cX10_word 212 = .ok (.invokevirtual 185, 3) := by decide +kernel
theorem dX10_word_215 : decode cX10_word 215 = .ok (.aload_n 0, 1) := by decide +kernel
theorem dX10_word_216 : decode cX10_word 216 = .ok (.bipush 103, 2) := by decide +kernel
theorem dX10_word_218 : decode cX10_word 218 = .ok (.invokevirtual 179, 3) := by decide +kernel
theorem dX10_word_221 : decode cX10_word 221 = .ok (.aload_n 0, 1) := by decide +kernel
theorem dX10_word_222 : decode cX10_word 222 = .ok (.bipush 101, 2) := by decide +kernel
theorem dX10_word_224 : decode cX10_word 224 = .ok (.invokevirtual 179, 3) := by decide +kernel
theorem dX10_word_227 : decode cX10_word 227 = .ok (.bipush 99, 2) := by decide +kernel
theorem dX10_word_229 : decode cX10_word 229 = .ok (.ireturn, 1) := by decide +kernel
theorem dX10_command_0 : decode cX10_command 0 = .ok (.iconst 5, 1) := by decide +kernel
theorem dX10_command_1 : decode cX10_command 1 = .ok (.aload_n 0, 1) := by decide +kernel
theorem dX10_command_2 : decode cX10_command 2 = .ok (.getfield 188, 3) := by decide +kernel
theorem dX10_command_5 : decode cX10_command 5 = .ok (.imul, 1) := by decide +kernel
theorem dX10_command_6 : decode cX10_command 6 = .ok (.istore_n 1, 1) := by decide +kernel
theorem dX10_command_7 : decode cX10_command 7 = .ok (.aload_n 0, 1) := by decide +kernel
theorem dX10_command_8 : decode cX10_command 8 = .ok (.dup, 1) := by decide +kernel
theorem dX10_command_9 : decode cX10_command 9 = .ok (.getfield 188, 3) := by decide +kernel
theorem dX10_command_12 : decode cX10_command 12 = .ok (.iconst 1, 1) := by decide +kernel
theorem dX10_command_13 : decode cX10_command 13 = .ok (.iadd, 1) := by decide +kernel
theorem dX10_command_14 : decode cX10_command 14 = .ok (.putfield 188, 3) := by decide +kernel
theorem dX10_command_17 : decode cX10_command 17 = .ok (.aload_n 0, 1) := by decide +kernel
theorem dX10_command_18 : decode cX10_command 18 = .ok (.invokevirtual 175, 3) := by decide +kernel
theorem dX10_command_21 : decode cX10_command 21 = .ok (.istore_n 2, 1) := by decide +kernel
theorem dX10_command_22 : decode cX10_command 22 = .ok (.iconst 0, 1) := by decide +kernel
theorem dX10_command_23 : decode cX10_command 23 = .ok (.istore_n 3, 1) := by decide +kernel
theorem dX10_command_24 : decode cX10_command 24 = .ok (.iload_n 3, 1) := by decide +kernel
theorem dX10_command_25 : decode cX10_command 25 = .ok (.iconst 5, 1) := by decide +kernel
theorem dX10_command_26 : decode cX10_command 26 = .ok (.if_icmp .ge 18, 3) := by decide +kernel
theorem dX10_command_29 : decode cX10_command 29 = .ok (.aload_n 0, 1) := by decide +kernel
theorem dX10_command_30 : decode cX10_command 30 = .ok (.getfield 27, 3) := by decide +kernel
theorem dX10_command_33 : decode cX10_command 33 = .ok (.iload_n 1, 1) := by decide +kernel
theorem dX10_command_34 : decode cX10_command 34 = .ok (.iload_n 3, 1) := by decide +kernel
theorem dX10_command_35 : decode cX10_command 35 = .ok (.iadd, 1) := by decide +kernel
theorem dX10_command_36 : decode cX10_command 36 = .ok (.iconst 0, 1) := by decide +kernel
theorem dX10_command_37 : decode cX10_command 37 = .ok (.iastore, 1) := by decide +kernel
theorem dX10_command_38 : decode cX10_command 38 = .ok (.iinc 3 1, 3) := by decide +kernel
theorem dX10_command_41 : decode cX10_command 41 = .ok (.goto (-17), 3) := by decide +kernel
theorem dX10_command_44 : decode cX10_command 44 = .ok (.iload_n 2, 1) := by decide +kernel
theorem dX10_command_45 : decode cX10_command 45 = .ok (.bipush 99, 2) := by decide +kernel
theorem dX10_command_47 : decode cX10_command 47 = .ok (.if_icmp .eq 42, 3) := by decide +kernel
theorem dX10_command_50 : decode cX10_command 50 = .ok (.iload_n 2, 1) := by decide +kernel
theorem dX10_command_51 : decode cX10_command 51 = .ok (.bipush 119, 2) := by decide +kernel
theorem dX10_command_53 : decode cX10_command 53 = .ok (.if_icmp .eq 36, 3) := by decide +kernel
theorem dX10_command_56 : decode cX10_command 56 = .ok (.iload_n 2, 1) := by decide +kernel
theorem dX10_command_57 : decode cX10_command 57 = .ok (.bipush 116, 2) := by decide +kernel
theorem dX10_command_59 : decode cX10_command 59 = .ok (.if_icmp .eq 30, 3) := by decide +kernel
theorem dX10_command_62 : decode cX10_command 62 = .ok (.iload_n 2, 1) := by decide +kernel
theorem dX10_command_63 : decode cX10_command 63 = .ok (.bipush 113, 2) := by decide +kernel
theorem dX10_command_65 : decode cX10_command 65 = .ok (.if_icmp .eq 24, 3) := by decide +kernel
theorem dX10_command_68 : decode cX10_command 68 = .ok (.iload_n 2, 1) := by decide +kernel
theorem dX10_command_69 : decode cX10_command 69 = .ok (.bipush 100, 2) := by decide +kernel
theorem dX10_command_71 : decode cX10_command 71 = .ok (.if_icmp .eq 18, 3) := by decide +kernel
theorem dX10_command_74 : decode cX10_command 74 = .ok (.iload_n 2, 1) := by decide +kernel
theorem dX10_command_75 : decode cX10_command 75 = .ok (.bipush 97, 2) := by decide +kernel
theorem dX10_command_77 : decode cX10_command 77 = .ok (.if_icmp .eq 12, 3) := by decide +kernel
theorem dX10_command_80 : decode cX10_command 80 = .ok (.aload_n 0, 1) := by decide +kernel
theorem dX10_command_81 : decode cX10_command 81 = .ok (.aload_n 0, 1) := by decide +kernel
theorem dX10_command_82 : decode cX10_command 82 = .ok (.getfield 169, 3) := by decide +kernel
theorem dX10_command_85 : decode cX10_command 85 = .ok (.putfield 172, 3) := by decide +kernel
theorem dX10_command_88 : decode cX10_command 88 = .ok (.return_, 1) := by decide +kernel
theorem dX10_command_89 : decode cX10_command 89 = .ok (.aload_n 0, 1) := by decide +kernel
theorem dX10_command_90 : decode cX10_command 90 = .ok (.dup, 1) := by decide +kernel
theorem dX10_command_91 : decode cX10_command 91 = .ok (.getfield 169, 3) := by decide +kernel
theorem dX10_command_94 : decode cX10_command 94 = .ok (.iconst 1, 1) := by decide +kernel
theorem dX10_command_95 : decode cX10_command 95 = .ok (.iadd, 1) := by decide +kernel
theorem dX10_command_96 : decode cX10_command 96 = .ok (.putfield 169, 3) := by decide +kernel
theorem dX10_command_99 : decode cX10_command 99 = .ok (.aload_n 0, 1) := by decide +kernel
theorem dX10_command_100 : decode cX10_command 100 = .ok (.iload_n 2, 1) := by decide +kernel
theorem dX10_command_101 : decode cX10_command 101 = .ok (.invokevirtual 191, 3) := by decide +kernel
theorem dX10_command_104 : decode cX10_command 104 = .ok (.istore_n 3, 1) := by decide +kernel
theorem dX10_command_105 : decode cX10_command 105 = .ok (.aload_n 0, 1) := by decide +kernel
theorem dX10_command_106 : decode cX10_command 106 = .ok (.getfield 27, 3) := by decide +kernel
theorem dX10_command_109 : decode cX10_command 109 = .ok (.iload_n 1, 1) := by decide +kernel
theorem dX10_command_110 : decode cX10_command 110 = .ok (.iload_n 3, 1) := by decide +kernel
theorem dX10_command_111 : decode cX10_command 111 = .ok (.iastore, 1) := by decide +kernel
theorem dX10_command_112 : decode cX10_command 112 = .ok (.aload_n 0, 1) := by decide +kernel
theorem dX10_command_113 : decode cX10_command 113 = .ok (.getfield 27, 3) := by decide +kernel
theorem dX10_command_116 : decode cX10_command 116 = .ok (.iload_n 1, 1) := by decide +kernel
theorem dX10_command_117 : decode cX10_command 117 = .ok (.iconst 1, 1) := by decide +kernel
theorem dX10_command_118 : decode cX10_command 118 = .ok (.iadd, 1) := by decide +kernel
theorem dX10_command_119 : decode cX10_command 119 = .ok (.aload_n 0, 1) := by decide +kernel
theorem dX10_command_120 : decode cX10_command 120 = .ok (.iload_n 3, 1) := by decide +kernel
theorem dX10_command_121 : decode cX10_command 121 = .ok (.bipush 99, 2) := by decide +kernel
theorem dX10_command_123 : decode cX10_command 123 = .ok (.if_icmp .eq 9, 3) := by decide +kernel
theorem dX10_command_126 : decode cX10_command 126 = .ok (.iload_n 3, 1) := by decide +kernel
theorem dX10_command_127 : decode cX10_command 127 = .ok (.bipush 119, 2) := by decide +kernel
theorem dX10_command_129 : decode cX10_command 129 = .ok (.if_icmp .ne 7, 3) := by decide +kernel
theorem dX10_command_132 : decode cX10_command 132 = .ok (.iconst 1, 1) := by decide +kernel
theorem dX10_command_133 : decode cX10_command 133 = .ok (.goto 4, 3) := by decide +kernel
theorem dX10_command_136 : decode cX10_command 136 = .ok (.iconst 2, 1) := by decide +kernel
theorem dX10_command_137 : decode cX10_command 137 = .ok (.invokevirtual 194, 3) := by decide +kernel
theorem dX10_command_140 : decode cX10_command 140 = .ok (.iastore, 1) := by decide +kernel
theorem dX10_command_141 : decode cX10_command 141 = .ok (.iload_n 3, 1) := by decide +kernel
theorem dX10_command_142 : decode cX10_command 142 = .ok (.lookupswitch 127 #[(99, 34), (113, 95), (116, 50)], 34) := by decide +kernel
theorem dX10_command_176 : decode cX10_command 176 = .ok (.aload_n 0, 1) := by decide +kernel
theorem dX10_command_177 : decode cX10_command 177 = .ok (.getfield 27, 3) := by decide +kernel
theorem dX10_command_180 : decode cX10_command 180 = .ok (.iload_n 1, 1) := by decide +kernel
theorem dX10_command_181 : decode cX10_command 181 = .ok (.iconst 2, 1) := by decide +kernel
theorem dX10_command_182 : decode cX10_command 182 = .ok (.iadd, 1) := by decide +kernel
theorem dX10_command_183 : decode cX10_command 183 = .ok (.aload_n 0, 1) := by decide +kernel
theorem dX10_command_184 : decode cX10_command 184 = .ok (.iconst 1, 1) := by decide +kernel
theorem dX10_command_185 : decode cX10_command 185 = .ok (.invokevirtual 194, 3) := by decide +kernel
theorem dX10_command_188 : decode cX10_command 188 = .ok (.iastore, 1) := by decide +kernel
theorem dX10_command_189 : decode cX10_command 189 = .ok (.goto 80, 3) := by decide +kernel
theorem dX10_command_192 : decode cX10_command 192 = .ok (.aload_n 0, 1) := by decide +kernel
theorem dX10_command_193 : decode cX10_command 193 = .ok (.getfield 27, 3) := by decide +kernel
theorem dX10_command_196 : decode cX10_command 196 = .ok (.iload_n 1, 1) := by decide +kernel
theorem dX10_command_197 : decode cX10_command 197 = .ok (.iconst 2, 1) := by decide +kernel
theorem dX10_command_198 : decode cX10_command 198 = .ok (.iadd, 1) := by decide +kernel
theorem dX10_command_199 : decode cX10_command 199 = .ok (.aload_n 0, 1) := by decide +kernel
theorem dX10_command_200 : decode cX10_command 200 = .ok (.iconst 1, 1) := by decide +kernel
theorem dX10_command_201 : decode cX10_command 201 = .ok (.invokevirtual 194, 3) := by decide +kernel
theorem dX10_command_204 : decode cX10_command 204 = .ok (.iastore, 1) := by decide +kernel
theorem dX10_command_205 : decode cX10_command 205 = .ok (.aload_n 0, 1) := by decide +kernel
theorem dX10_command_206 : decode cX10_command 206 = .ok (.getfield 27, 3) := by decide +kernel
theorem dX10_command_209 : decode cX10_command 209 = .ok (.iload_n 1, 1) := by decide +kernel
theorem dX10_command_210 : decode cX10_command 210 = .ok (.iconst 3, 1) := by decide +kernel
theorem dX10_command_211 : decode cX10_command 211 = .ok (.iadd, 1) := by decide +kernel
theorem dX10_command_212 : decode cX10_command 212 = .ok (.aload_n 0, 1) := by decide +kernel
theorem dX10_command_213 : decode cX10_command 213 = .ok (.bipush 43, 2) := by decide +kernel
theorem dX10_command_215 : decode cX10_command 215 = .ok (.bipush 45, 2) := by decide +kernel
theorem dX10_command_217 : decode cX10_command 217 = .ok (.invokevirtual 197, 3) := by decide +kernel
theorem dX10_command_220 : decode cX10_command 220 = .ok (.iastore, 1) := by decide +kernel
theorem dX10_command_221 : decode cX10_command 221 = .ok (.aload_n 0, 1) := by decide +kernel
theorem dX10_command_222 : decode cX10_command 222 = .ok (.getfield 27, 3) := by decide +kernel
theorem dX10_command_225 : decode cX10_command 225 = .ok (.iload_n 1, 1) := by decide +kernel
theorem dX10_command_226 : decode cX10_command 226 = .ok (.iconst 4, 1) := by decide +kernel
theorem dX10_command_227 : decode cX10_command 227 = .ok (.iadd, 1) := by decide +kernel
theorem dX10_command_228 : decode cX10_command 228 = .ok (.aload_n 0, 1) := by decide +kernel
theorem dX10_command_229 : decode cX10_command 229 = .ok (.iconst 1, 1) := by decide +kernel
theorem dX10_command_230 : decode cX10_command 230 = .ok (.invokevirtual 182, 3) := by decide +kernel
theorem dX10_command_233 : decode cX10_command 233 = .ok (.iastore, 1) := by decide +kernel
theorem dX10_command_234 : decode cX10_command 234 = .ok (.goto 35, 3) := by decide +kernel
theorem dX10_command_237 : decode cX10_command 237 = .ok (.aload_n 0, 1) := by decide +kernel
theorem dX10_command_238 : decode cX10_command 238 = .ok (.getfield 27, 3) := by decide +kernel
theorem dX10_command_241 : decode cX10_command 241 = .ok (.iload_n 1, 1) := by decide +kernel
theorem dX10_command_242 : decode cX10_command 242 = .ok (.iconst 2, 1) := by decide +kernel
theorem dX10_command_243 : decode cX10_command 243 = .ok (.iadd, 1) := by decide +kernel
theorem dX10_command_244 : decode cX10_command 244 = .ok (.aload_n 0, 1) := by decide +kernel
theorem dX10_command_245 : decode cX10_command 245 = .ok (.iconst 1, 1) := by decide +kernel
theorem dX10_command_246 : decode cX10_command 246 = .ok (.invokevirtual 194, 3) := by decide +kernel
theorem dX10_command_249 : decode cX10_command 249 = .ok (.iastore, 1) := by decide +kernel
theorem dX10_command_250 : decode cX10_command 250 = .ok (.aload_n 0, 1) := by decide +kernel
theorem dX10_command_251 : decode cX10_command 251 = .ok (.getfield 27, 3) := by decide +kernel
theorem dX10_command_254 : decode cX10_command 254 = .ok (.iload_n 1, 1) := by decide +kernel
theorem dX10_command_255 : decode cX10_command 255 = .ok (.iconst 3, 1) := by decide +kernel
theorem dX10_command_256 : decode cX10_command 256 = .ok (.iadd, 1) := by decide +kernel
theorem dX10_command_257 : decode cX10_command 257 = .ok (.aload_n 0, 1) := by decide +kernel
theorem dX10_command_258 : decode cX10_command 258 = .ok (.bipush 33, 2) := by decide +kernel
theorem dX10_command_260 : decode cX10_command 260 = .ok (.bipush 63, 2) := by decide +kernel
theorem dX10_command_262 : decode cX10_command 262 = .ok (.invokevirtual 197, 3) := by decide +kernel
theorem dX10_command_265 : decode cX10_command 265 = .ok (.iastore, 1) := by decide +kernel
theorem dX10_command_266 : decode cX10_command 266 = .ok (.goto 3, 3) := by decide +kernel
theorem dX10_command_269 : decode cX10_command 269 = .ok (.return_, 1) := by decide +kernel
theorem dX10_parse_0 : decode cX10_parse 0 = .ok (.aload_n 0, 1) := by decide +kernel
theorem dX10_parse_1 : decode cX10_parse 1 = .ok (.iconst 0, 1) := by decide +kernel
theorem dX10_parse_2 : decode cX10_parse 2 = .ok (.putfield 169, 3) := by decide +kernel
theorem dX10_parse_5 : decode cX10_parse 5 = .ok (.aload_n 0, 1) := by decide +kernel
theorem dX10_parse_6 : decode cX10_parse 6 = .ok (.iconst (-1), 1) := by decide +kernel
theorem dX10_parse_7 : decode cX10_parse 7 = .ok (.putfield 172, 3) := by decide +kernel
theorem dX10_parse_10 : decode cX10_parse 10 = .ok (.aload_n 0, 1) := by decide +kernel
theorem dX10_parse_11 : decode cX10_parse 11 = .ok (.iconst 0, 1) := by decide +kernel
theorem dX10_parse_12 : decode cX10_parse 12 = .ok (.putfield 188, 3) := by decide +kernel
theorem dX10_parse_15 : decode cX10_parse 15 = .ok (.aload_n 0, 1) := by decide +kernel
theorem dX10_parse_16 : decode cX10_parse 16 = .ok (.invokevirtual 200, 3) := by decide +kernel
theorem dX10_parse_19 : decode cX10_parse 19 = .ok (.aload_n 0, 1) := by decide +kernel
theorem dX10_parse_20 : decode cX10_parse 20 = .ok (.getfield 172, 3) := by decide +kernel
theorem dX10_parse_23 : decode cX10_parse 23 = .ok (.ifCond .ge 29, 3) := by decide +kernel
theorem dX10_parse_26 : decode cX10_parse 26 = .ok (.aload_n 0, 1) := by decide +kernel
theorem dX10_parse_27 : decode cX10_parse 27 = .ok (.invokevirtual 175, 3) := by decide +kernel
theorem dX10_parse_30 : decode cX10_parse 30 = .ok (.bipush 59, 2) := by decide +kernel
theorem dX10_parse_32 : decode cX10_parse 32 = .ok (.if_icmp .ne 20, 3) := by decide +kernel
theorem dX10_parse_35 : decode cX10_parse 35 = .ok (.aload_n 0, 1) := by decide +kernel
theorem dX10_parse_36 : decode cX10_parse 36 = .ok (.dup, 1) := by decide +kernel
theorem dX10_parse_37 : decode cX10_parse 37 = .ok (.getfield 169, 3) := by decide +kernel
theorem dX10_parse_40 : decode cX10_parse 40 = .ok (.iconst 1, 1) := by decide +kernel
theorem dX10_parse_41 : decode cX10_parse 41 = .ok (.iadd, 1) := by decide +kernel
theorem dX10_parse_42 : decode cX10_parse 42 = .ok (.putfield 169, 3) := by decide +kernel
theorem dX10_parse_45 : decode cX10_parse 45 = .ok (.aload_n 0, 1) := by decide +kernel
theorem dX10_parse_46 : decode cX10_parse 46 = .ok (.invokevirtual 200, 3) := by decide +kernel
theorem dX10_parse_49 : decode cX10_parse 49 = .ok (.goto (-30), 3) := by decide +kernel
theorem dX10_parse_52 : decode cX10_parse 52 = .ok (.aload_n 0, 1) := by decide +kernel
theorem dX10_parse_53 : decode cX10_parse 53 = .ok (.getfield 172, 3) := by decide +kernel
theorem dX10_parse_56 : decode cX10_parse 56 = .ok (.ifCond .ge 22, 3) := by decide +kernel
theorem dX10_parse_59 : decode cX10_parse 59 = .ok (.aload_n 0, 1) := by decide +kernel
theorem dX10_parse_60 : decode cX10_parse 60 = .ok (.getfield 169, 3) := by decide +kernel
theorem dX10_parse_63 : decode cX10_parse 63 = .ok (.aload_n 0, 1) := by decide +kernel
theorem dX10_parse_64 : decode cX10_parse 64 = .ok (.getfield 166, 3) := by decide +kernel
theorem dX10_parse_67 : decode cX10_parse 67 = .ok (.if_icmp .ge 11, 3) := by decide +kernel
theorem dX10_parse_70 : decode cX10_parse 70 = .ok (.aload_n 0, 1) := by decide +kernel
theorem dX10_parse_71 : decode cX10_parse 71 = .ok (.aload_n 0, 1) := by decide +kernel
theorem dX10_parse_72 : decode cX10_parse 72 = .ok (.getfield 169, 3) := by decide +kernel
theorem dX10_parse_75 : decode cX10_parse 75 = .ok (.putfield 172, 3) := by decide +kernel
theorem dX10_parse_78 : decode cX10_parse 78 = .ok (.return_, 1) := by decide +kernel
theorem dX10_does_0 : decode cX10_does 0 = .ok (.aload_n 0, 1) := by decide +kernel
theorem dX10_does_1 : decode cX10_does 1 = .ok (.getfield 27, 3) := by decide +kernel
theorem dX10_does_4 : decode cX10_does 4 = .ok (.iload_n 1, 1) := by decide +kernel
theorem dX10_does_5 : decode cX10_does 5 = .ok (.iconst 1, 1) := by decide +kernel
theorem dX10_does_6 : decode cX10_does 6 = .ok (.iadd, 1) := by decide +kernel
theorem dX10_does_7 : decode cX10_does 7 = .ok (.iaload, 1) := by decide +kernel
theorem dX10_does_8 : decode cX10_does 8 = .ok (.istore_n 2, 1) := by decide +kernel
theorem dX10_does_9 : decode cX10_does 9 = .ok (.aload_n 0, 1) := by decide +kernel
theorem dX10_does_10 : decode cX10_does 10 = .ok (.getfield 27, 3) := by decide +kernel
theorem dX10_does_13 : decode cX10_does 13 = .ok (.iload_n 1, 1) := by decide +kernel
theorem dX10_does_14 : decode cX10_does 14 = .ok (.iconst 2, 1) := by decide +kernel
theorem dX10_does_15 : decode cX10_does 15 = .ok (.iadd, 1) := by decide +kernel
theorem dX10_does_16 : decode cX10_does 16 = .ok (.iaload, 1) := by decide +kernel
theorem dX10_does_17 : decode cX10_does 17 = .ok (.istore_n 3, 1) := by decide +kernel
theorem dX10_does_18 : decode cX10_does 18 = .ok (.aload_n 0, 1) := by decide +kernel
theorem dX10_does_19 : decode cX10_does 19 = .ok (.getfield 27, 3) := by decide +kernel
theorem dX10_does_22 : decode cX10_does 22 = .ok (.iload_n 1, 1) := by decide +kernel
theorem dX10_does_23 : decode cX10_does 23 = .ok (.iconst 3, 1) := by decide +kernel
theorem dX10_does_24 : decode cX10_does 24 = .ok (.iadd, 1) := by decide +kernel
theorem dX10_does_25 : decode cX10_does 25 = .ok (.iaload, 1) := by decide +kernel
theorem dX10_does_26 : decode cX10_does 26 = .ok (.istore 4, 2) := by decide +kernel
theorem dX10_does_28 : decode cX10_does 28 = .ok (.aload_n 0, 1) := by decide +kernel
theorem dX10_does_29 : decode cX10_does 29 = .ok (.getfield 27, 3) := by decide +kernel
theorem dX10_does_32 : decode cX10_does 32 = .ok (.iload_n 1, 1) := by decide +kernel
theorem dX10_does_33 : decode cX10_does 33 = .ok (.iaload, 1) := by decide +kernel
theorem dX10_does_34 : decode cX10_does 34 = .ok (.lookupswitch 118 #[(97, 112), (99, 58), (100, 106), (113, 88), (116, 71), (119, 65)], 58) := by decide +kernel
theorem dX10_does_92 : decode cX10_does 92 = .ok (.aload_n 0, 1) := by decide +kernel
theorem dX10_does_93 : decode cX10_does 93 = .ok (.iload_n 2, 1) := by decide +kernel
theorem dX10_does_94 : decode cX10_does 94 = .ok (.iload_n 3, 1) := by decide +kernel
theorem dX10_does_95 : decode cX10_does 95 = .ok (.invokevirtual 82, 3) := by decide +kernel
theorem dX10_does_98 : decode cX10_does 98 = .ok (.ireturn, 1) := by decide +kernel
theorem dX10_does_99 : decode cX10_does 99 = .ok (.aload_n 0, 1) := by decide +kernel
theorem dX10_does_100 : decode cX10_does 100 = .ok (.iload_n 2, 1) := by decide +kernel
theorem dX10_does_101 : decode cX10_does 101 = .ok (.invokevirtual 89, 3) := by decide +kernel
theorem dX10_does_104 : decode cX10_does 104 = .ok (.ireturn, 1) := by decide +kernel
theorem dX10_does_105 : decode cX10_does 105 = .ok (.aload_n 0, 1) := by decide +kernel
theorem dX10_does_106 : decode cX10_does 106 = .ok (.iload_n 2, 1) := by decide +kernel
theorem dX10_does_107 : decode cX10_does 107 = .ok (.iload_n 3, 1) := by decide +kernel
theorem dX10_does_108 : decode cX10_does 108 = .ok (.iload 4, 2) := by decide +kernel
theorem dX10_does_110 : decode cX10_does 110 = .ok (.aload_n 0, 1) := by decide +kernel
theorem dX10_does_111 : decode cX10_does 111 = .ok (.getfield 27, 3) := by decide +kernel
theorem dX10_does_114 : decode cX10_does 114 = .ok (.iload_n 1, 1) := by decide +kernel
theorem dX10_does_115 : decode cX10_does 115 = .ok (.iconst 4, 1) := by decide +kernel
theorem dX10_does_116 : decode cX10_does 116 = .ok (.iadd, 1) := by decide +kernel
theorem dX10_does_117 : decode cX10_does 117 = .ok (.iaload, 1) := by decide +kernel
theorem dX10_does_118 : decode cX10_does 118 = .ok (.invokevirtual 101, 3) := by decide +kernel
theorem dX10_does_121 : decode cX10_does 121 = .ok (.ireturn, 1) := by decide +kernel
theorem dX10_does_122 : decode cX10_does 122 = .ok (.aload_n 0, 1) := by decide +kernel
theorem dX10_does_123 : decode cX10_does 123 = .ok (.iload_n 2, 1) := by decide +kernel
theorem dX10_does_124 : decode cX10_does 124 = .ok (.iload_n 3, 1) := by decide +kernel
theorem dX10_does_125 : decode cX10_does 125 = .ok (.iload 4, 2) := by decide +kernel
theorem dX10_does_127 : decode cX10_does 127 = .ok (.iconst 1, 1) := by decide +kernel
theorem dX10_does_128 : decode cX10_does 128 = .ok (.if_icmp .ne 7, 3) := by decide +kernel
theorem dX10_does_131 : decode cX10_does 131 = .ok (.iconst 1, 1) := by decide +kernel
theorem dX10_does_132 : decode cX10_does 132 = .ok (.goto 4, 3) := by decide +kernel
theorem dX10_does_135 : decode cX10_does 135 = .ok (.iconst 0, 1) := by decide +kernel
theorem dX10_does_136 : decode cX10_does 136 = .ok (.invokevirtual 105, 3) := by decide +kernel
theorem dX10_does_139 : decode cX10_does 139 = .ok (.ireturn, 1) := by decide +kernel
theorem dX10_does_140 : decode cX10_does 140 = .ok (.aload_n 0, 1) := by decide +kernel
theorem dX10_does_141 : decode cX10_does 141 = .ok (.iload_n 2, 1) := by decide +kernel
theorem dX10_does_142 : decode cX10_does 142 = .ok (.invokevirtual 112, 3) := by decide +kernel
theorem dX10_does_145 : decode cX10_does 145 = .ok (.ireturn, 1) := by decide +kernel
theorem dX10_does_146 : decode cX10_does 146 = .ok (.aload_n 0, 1) := by decide +kernel
theorem dX10_does_147 : decode cX10_does 147 = .ok (.iload_n 2, 1) := by decide +kernel
theorem dX10_does_148 : decode cX10_does 148 = .ok (.invokevirtual 115, 3) := by decide +kernel
theorem dX10_does_151 : decode cX10_does 151 = .ok (.ireturn, 1) := by decide +kernel
theorem dX10_does_152 : decode cX10_does 152 = .ok (.aload_n 0, 1) := by decide +kernel
theorem dX10_does_153 : decode cX10_does 153 = .ok (.iload_n 2, 1) := by decide +kernel
theorem dX10_does_154 : decode cX10_does 154 = .ok (.invokevirtual 121, 3) := by decide +kernel
theorem dX10_does_157 : decode cX10_does 157 = .ok (.ireturn, 1) := by decide +kernel
theorem dX10_run_0 : decode cX10_run 0 = .ok (.aload_n 0, 1) := by decide +kernel
theorem dX10_run_1 : decode cX10_run 1 = .ok (.invokevirtual 203, 3) := by decide +kernel
theorem dX10_run_4 : decode cX10_run 4 = .ok (.aload_n 0, 1) := by decide +kernel
theorem dX10_run_5 : decode cX10_run 5 = .ok (.iconst 0, 1) := by decide +kernel
theorem dX10_run_6 : decode cX10_run 6 = .ok (.putfield 166, 3) := by decide +kernel
theorem dX10_run_9 : decode cX10_run 9 = .ok (.aload_n 0, 1) := by decide +kernel
theorem dX10_run_10 : decode cX10_run 10 = .ok (.getfield 172, 3) := by decide +kernel
theorem dX10_run_13 : decode cX10_run 13 = .ok (.ifCond .lt 18, 3) := by decide +kernel
theorem dX10_run_16 : decode cX10_run 16 = .ok (.aload_n 0, 1) := by decide +kernel
theorem dX10_run_17 : decode cX10_run 17 = .ok (.aload_n 0, 1) := by decide +kernel
theorem dX10_run_18 : decode cX10_run 18 = .ok (.getfield 172, 3) := by decide +kernel
theorem dX10_run_21 : decode cX10_run 21 = .ok (.putfield 20, 3) := by decide +kernel
theorem dX10_run_24 : decode cX10_run 24 = .ok (.aload_n 0, 1) := by decide +kernel
theorem dX10_run_25 : decode cX10_run 25 = .ok (.iconst 1, 1) := by decide +kernel
theorem dX10_run_26 : decode cX10_run 26 = .ok (.putfield 30, 3) := by decide +kernel
theorem dX10_run_29 : decode cX10_run 29 = .ok (.iconst 0, 1) := by decide +kernel
theorem dX10_run_30 : decode cX10_run 30 = .ok (.ireturn, 1) := by decide +kernel
theorem dX10_run_31 : decode cX10_run 31 = .ok (.aload_n 0, 1) := by decide +kernel
theorem dX10_run_32 : decode cX10_run 32 = .ok (.invokevirtual 79, 3) := by decide +kernel
theorem dX10_run_35 : decode cX10_run 35 = .ok (.iconst 0, 1) := by decide +kernel
theorem dX10_run_36 : decode cX10_run 36 = .ok (.istore_n 1, 1) := by decide +kernel
theorem dX10_run_37 : decode cX10_run 37 = .ok (.iconst 0, 1) := by decide +kernel
theorem dX10_run_38 : decode cX10_run 38 = .ok (.istore_n 2, 1) := by decide +kernel
theorem dX10_run_39 : decode cX10_run 39 = .ok (.iload_n 2, 1) := by decide +kernel
theorem dX10_run_40 : decode cX10_run 40 = .ok (.aload_n 0, 1) := by decide +kernel
theorem dX10_run_41 : decode cX10_run 41 = .ok (.getfield 188, 3) := by decide +kernel
theorem dX10_run_44 : decode cX10_run 44 = .ok (.if_icmp .ge 21, 3) := by decide +kernel
theorem dX10_run_47 : decode cX10_run 47 = .ok (.iload_n 1, 1) := by decide +kernel
theorem dX10_run_48 : decode cX10_run 48 = .ok (.ifCond .ne 17, 3) := by decide +kernel
theorem dX10_run_51 : decode cX10_run 51 = .ok (.aload_n 0, 1) := by decide +kernel
theorem dX10_run_52 : decode cX10_run 52 = .ok (.iconst 5, 1) := by decide +kernel
theorem dX10_run_53 : decode cX10_run 53 = .ok (.iload_n 2, 1) := by decide +kernel
theorem dX10_run_54 : decode cX10_run 54 = .ok (.imul, 1) := by decide +kernel
theorem dX10_run_55 : decode cX10_run 55 = .ok (.invokevirtual 206, 3) := by decide +kernel
theorem dX10_run_58 : decode cX10_run 58 = .ok (.istore_n 1, 1) := by decide +kernel
theorem dX10_run_59 : decode cX10_run 59 = .ok (.iinc 2 1, 3) := by decide +kernel
theorem dX10_run_62 : decode cX10_run 62 = .ok (.goto (-23), 3) := by decide +kernel
theorem dX10_run_65 : decode cX10_run 65 = .ok (.iload_n 1, 1) := by decide +kernel
theorem dX10_run_66 : decode cX10_run 66 = .ok (.ifCond .eq 24, 3) := by decide +kernel
theorem dX10_run_69 : decode cX10_run 69 = .ok (.aload_n 0, 1) := by decide +kernel
theorem dX10_run_70 : decode cX10_run 70 = .ok (.iload_n 2, 1) := by decide +kernel
theorem dX10_run_71 : decode cX10_run 71 = .ok (.iconst 1, 1) := by decide +kernel
theorem dX10_run_72 : decode cX10_run 72 = .ok (.isub, 1) := by decide +kernel
theorem dX10_run_73 : decode cX10_run 73 = .ok (.putfield 24, 3) := by decide +kernel
theorem dX10_run_76 : decode cX10_run 76 = .ok (.aload_n 0, 1) := by decide +kernel
theorem dX10_run_77 : decode cX10_run 77 = .ok (.iload_n 1, 1) := by decide +kernel
theorem dX10_run_78 : decode cX10_run 78 = .ok (.iconst 4, 1) := by decide +kernel
theorem dX10_run_79 : decode cX10_run 79 = .ok (.if_icmp .ne 7, 3) := by decide +kernel
theorem dX10_run_82 : decode cX10_run 82 = .ok (.iconst 1, 1) := by decide +kernel
theorem dX10_run_83 : decode cX10_run 83 = .ok (.goto 4, 3) := by decide +kernel
theorem dX10_run_86 : decode cX10_run 86 = .ok (.iconst 0, 1) := by decide +kernel
theorem dX10_run_87 : decode cX10_run 87 = .ok (.putfield 209, 3) := by decide +kernel
theorem dX10_run_90 : decode cX10_run 90 = .ok (.aload_n 0, 1) := by decide +kernel
theorem dX10_run_91 : decode cX10_run 91 = .ok (.aload_n 0, 1) := by decide +kernel
theorem dX10_run_92 : decode cX10_run 92 = .ok (.getfield 188, 3) := by decide +kernel
theorem dX10_run_95 : decode cX10_run 95 = .ok (.putfield 40, 3) := by decide +kernel
theorem dX10_run_98 : decode cX10_run 98 = .ok (.aload_n 0, 1) := by decide +kernel
theorem dX10_run_99 : decode cX10_run 99 = .ok (.iload_n 1, 1) := by decide +kernel
theorem dX10_run_100 : decode cX10_run 100 = .ok (.ifCond .ne 7, 3) := by decide +kernel
theorem dX10_run_103 : decode cX10_run 103 = .ok (.iconst 0, 1) := by decide +kernel
theorem dX10_run_104 : decode cX10_run 104 = .ok (.goto 4, 3) := by decide +kernel
theorem dX10_run_107 : decode cX10_run 107 = .ok (.iconst 4, 1) := by decide +kernel
theorem dX10_run_108 : decode cX10_run 108 = .ok (.iconst 0, 1) := by decide +kernel
theorem dX10_run_109 : decode cX10_run 109 = .ok (.iconst 0, 1) := by decide +kernel
theorem dX10_run_110 : decode cX10_run 110 = .ok (.iconst 0, 1) := by decide +kernel
theorem dX10_run_111 : decode cX10_run 111 = .ok (.iconst 2, 1) := by decide +kernel
theorem dX10_run_112 : decode cX10_run 112 = .ok (.invokevirtual 85, 3) := by decide +kernel
theorem dX10_run_115 : decode cX10_run 115 = .ok (.ireturn, 1) := by decide +kernel
theorem dX10_errorPosition_0 : decode cX10_errorPosition 0 = .ok (.aload_n 0, 1) := by decide +kernel
theorem dX10_errorPosition_1 : decode cX10_errorPosition 1 = .ok (.aload_n 0, 1) := by decide +kernel
theorem dX10_errorPosition_2 : decode cX10_errorPosition 2 = .ok (.getfield 20, 3) := by decide +kernel
theorem dX10_errorPosition_5 : decode cX10_errorPosition 5 = .ok (.iconst (-1), 1) := by decide +kernel
theorem dX10_errorPosition_6 : decode cX10_errorPosition 6 = .ok (.if_icmp .eq 7, 3) := by decide +kernel
theorem dX10_errorPosition_9 : decode cX10_errorPosition 9 = .ok (.iconst 1, 1) := by decide +kernel
theorem dX10_errorPosition_10 : decode cX10_errorPosition 10 = .ok (.goto 4, 3) := by decide +kernel
theorem dX10_errorPosition_13 : decode cX10_errorPosition 13 = .ok (.iconst 0, 1) := by decide +kernel
theorem dX10_errorPosition_14 : decode cX10_errorPosition 14 = .ok (.invokevirtual 124, 3) := by decide +kernel
theorem dX10_errorPosition_17 : decode cX10_errorPosition 17 = .ok (.ifCond .eq 10, 3) := by decide +kernel
theorem dX10_errorPosition_20 : decode cX10_errorPosition 20 = .ok (.aload_n 0, 1) := by decide +kernel
theorem dX10_errorPosition_21 : decode cX10_errorPosition 21 = .ok (.getfield 20, 3) := by decide +kernel
theorem dX10_errorPosition_24 : decode cX10_errorPosition 24 = .ok (.goto 4, 3) := by decide +kernel
theorem dX10_errorPosition_27 : decode cX10_errorPosition 27 = .ok (.iconst 0, 1) := by decide +kernel
theorem dX10_errorPosition_28 : decode cX10_errorPosition 28 = .ok (.ireturn, 1) := by decide +kernel
theorem dX10_failedCommand_0 : decode cX10_failedCommand 0 = .ok (.aload_n 0, 1) := by decide +kernel
theorem dX10_failedCommand_1 : decode cX10_failedCommand 1 = .ok (.aload_n 0, 1) := by decide +kernel
theorem dX10_failedCommand_2 : decode cX10_failedCommand 2 = .ok (.getfield 24, 3) := by decide +kernel
theorem dX10_failedCommand_5 : decode cX10_failedCommand 5 = .ok (.iconst (-1), 1) := by decide +kernel
theorem dX10_failedCommand_6 : decode cX10_failedCommand 6 = .ok (.if_icmp .eq 7, 3) := by decide +kernel
theorem dX10_failedCommand_9 : decode cX10_failedCommand 9 = .ok (.iconst 1, 1) := by decide +kernel
theorem dX10_failedCommand_10 : decode cX10_failedCommand 10 = .ok (.goto 4, 3) := by decide +kernel
theorem dX10_failedCommand_13 : decode cX10_failedCommand 13 = .ok (.iconst 0, 1) := by decide +kernel
theorem dX10_failedCommand_14 : decode cX10_failedCommand 14 = .ok (.invokevirtual 124, 3) := by decide +kernel
theorem dX10_failedCommand_17 : decode cX10_failedCommand 17 = .ok (.ifCond .eq 10, 3) := by decide +kernel
theorem dX10_failedCommand_20 : decode cX10_failedCommand 20 = .ok (.aload_n 0, 1) := by decide +kernel
theorem dX10_failedCommand_21 : decode cX10_failedCommand 21 = .ok (.getfield 24, 3) := by decide +kernel
theorem dX10_failedCommand_24 : decode cX10_failedCommand 24 = .ok (.goto 4, 3) := by decide +kernel
theorem dX10_failedCommand_27 : decode cX10_failedCommand 27 = .ok (.iconst 0, 1) := by decide +kernel
theorem dX10_failedCommand_28 : decode cX10_failedCommand 28 = .ok (.ireturn, 1) := by decide +kernel
theorem dX10_isFailureOfState_0 : decode cX10_isFailureOfState 0 = .ok (.aload_n 0, 1) := by decide +kernel
theorem dX10_isFailureOfState_1 : decode cX10_isFailureOfState 1 = .ok (.aload_n 0, 1) := by decide +kernel
theorem dX10_isFailureOfState_2 : decode cX10_isFailureOfState 2 = .ok (.getfield 24, 3) := by decide +kernel
theorem dX10_isFailureOfState_5 : decode cX10_isFailureOfState 5 = .ok (.iconst (-1), 1) := by decide +kernel
theorem dX10_isFailureOfState_6 : decode cX10_isFailureOfState 6 = .ok (.if_icmp .eq 7, 3) := by decide +kernel
theorem dX10_isFailureOfState_9 : decode cX10_isFailureOfState 9 = .ok (.iconst 1, 1) := by decide +kernel
theorem dX10_isFailureOfState_10 : decode cX10_isFailureOfState 10 = .ok (.goto 4, 3) := by decide +kernel
theorem dX10_isFailureOfState_13 : decode cX10_isFailureOfState 13 = .ok (.iconst 0, 1) := by decide +kernel
theorem dX10_isFailureOfState_14 : decode cX10_isFailureOfState 14 = .ok (.invokevirtual 124, 3) := by decide +kernel
theorem dX10_isFailureOfState_17 : decode cX10_isFailureOfState 17 = .ok (.ifCond .eq 14, 3) := by decide +kernel
theorem dX10_isFailureOfState_20 : decode cX10_isFailureOfState 20 = .ok (.aload_n 0, 1) := by decide +kernel
theorem dX10_isFailureOfState_21 : decode cX10_isFailureOfState 21 = .ok (.getfield 209, 3) := by decide +kernel
theorem dX10_isFailureOfState_24 : decode cX10_isFailureOfState 24 = .ok (.ifCond .eq 7, 3) := by decide +kernel
theorem dX10_isFailureOfState_27 : decode cX10_isFailureOfState 27 = .ok (.iconst 1, 1) := by decide +kernel
theorem dX10_isFailureOfState_28 : decode cX10_isFailureOfState 28 = .ok (.goto 4, 3) := by decide +kernel
theorem dX10_isFailureOfState_31 : decode cX10_isFailureOfState 31 = .ok (.iconst 0, 1) := by decide +kernel
theorem dX10_isFailureOfState_32 : decode cX10_isFailureOfState 32 = .ok (.ireturn, 1) := by decide +kernel
theorem dX10_undoableCount_0 : decode cX10_undoableCount 0 = .ok (.aload_n 0, 1) := by decide +kernel
theorem dX10_undoableCount_1 : decode cX10_undoableCount 1 = .ok (.iconst 0, 1) := by decide +kernel
theorem dX10_undoableCount_2 : decode cX10_undoableCount 2 = .ok (.putfield 30, 3) := by decide +kernel
theorem dX10_undoableCount_5 : decode cX10_undoableCount 5 = .ok (.aload_n 0, 1) := by decide +kernel
theorem dX10_undoableCount_6 : decode cX10_undoableCount 6 = .ok (.getfield 37, 3) := by decide +kernel
theorem dX10_undoableCount_9 : decode cX10_undoableCount 9 = .ok (.ireturn, 1) := by decide +kernel
theorem dX10_undo_0 : decode cX10_undo 0 = .ok (.aload_n 0, 1) := by decide +kernel
theorem dX10_undo_1 : decode cX10_undo 1 = .ok (.aload_n 0, 1) := by decide +kernel
theorem dX10_undo_2 : decode cX10_undo 2 = .ok (.getfield 37, 3) := by decide +kernel
theorem dX10_undo_5 : decode cX10_undo 5 = .ok (.ifCond .le 7, 3) := by decide +kernel
theorem dX10_undo_8 : decode cX10_undo 8 = .ok (.iconst 1, 1) := by decide +kernel
theorem dX10_undo_9 : decode cX10_undo 9 = .ok (.goto 4, 3) := by decide +kernel
theorem dX10_undo_12 : decode cX10_undo 12 = .ok (.iconst 0, 1) := by decide +kernel
theorem dX10_undo_13 : decode cX10_undo 13 = .ok (.invokevirtual 124, 3) := by decide +kernel
theorem dX10_undo_16 : decode cX10_undo 16 = .ok (.ifCond .ne 5, 3) := by decide +kernel
theorem dX10_undo_19 : decode cX10_undo 19 = .ok (.iconst 0, 1) := by decide +kernel
theorem dX10_undo_20 : decode cX10_undo 20 = .ok (.ireturn, 1) := by decide +kernel
theorem dX10_undo_21 : decode cX10_undo 21 = .ok (.aload_n 0, 1) := by decide +kernel
theorem dX10_undo_22 : decode cX10_undo 22 = .ok (.aload_n 0, 1) := by decide +kernel
theorem dX10_undo_23 : decode cX10_undo 23 = .ok (.getfield 37, 3) := by decide +kernel
theorem dX10_undo_26 : decode cX10_undo 26 = .ok (.iconst 0, 1) := by decide +kernel
theorem dX10_undo_27 : decode cX10_undo 27 = .ok (.invokevirtual 33, 3) := by decide +kernel
theorem dX10_undo_30 : decode cX10_undo 30 = .ok (.aload_n 0, 1) := by decide +kernel
theorem dX10_undo_31 : decode cX10_undo 31 = .ok (.dup, 1) := by decide +kernel
theorem dX10_undo_32 : decode cX10_undo 32 = .ok (.getfield 37, 3) := by decide +kernel
theorem dX10_undo_35 : decode cX10_undo 35 = .ok (.iconst 1, 1) := by decide +kernel
theorem dX10_undo_36 : decode cX10_undo 36 = .ok (.isub, 1) := by decide +kernel
theorem dX10_undo_37 : decode cX10_undo 37 = .ok (.putfield 37, 3) := by decide +kernel
theorem dX10_undo_40 : decode cX10_undo 40 = .ok (.aload_n 0, 1) := by decide +kernel
theorem dX10_undo_41 : decode cX10_undo 41 = .ok (.getfield 37, 3) := by decide +kernel
theorem dX10_undo_44 : decode cX10_undo 44 = .ok (.ireturn, 1) := by decide +kernel
theorem dX10_save_0 : decode cX10_save 0 = .ok (.aload_n 0, 1) := by decide +kernel
theorem dX10_save_1 : decode cX10_save 1 = .ok (.iconst 0, 1) := by decide +kernel
theorem dX10_save_2 : decode cX10_save 2 = .ok (.putfield 30, 3) := by decide +kernel
theorem dX10_save_5 : decode cX10_save 5 = .ok (.aload_n 0, 1) := by decide +kernel
theorem dX10_save_6 : decode cX10_save 6 = .ok (.iconst 1, 1) := by decide +kernel
theorem dX10_save_7 : decode cX10_save 7 = .ok (.putfield 213, 3) := by decide +kernel
theorem dX10_save_10 : decode cX10_save 10 = .ok (.aload_n 0, 1) := by decide +kernel
theorem dX10_save_11 : decode cX10_save 11 = .ok (.iconst 0, 1) := by decide +kernel
theorem dX10_save_12 : decode cX10_save 12 = .ok (.bipush 9, 2) := by decide +kernel
theorem dX10_save_14 : decode cX10_save 14 = .ok (.invokevirtual 33, 3) := by decide +kernel
theorem dX10_save_17 : decode cX10_save 17 = .ok (.aload_n 0, 1) := by decide +kernel
theorem dX10_save_18 : decode cX10_save 18 = .ok (.getfield 9, 3) := by decide +kernel
theorem dX10_save_21 : decode cX10_save 21 = .ok (.iconst 0, 1) := by decide +kernel
theorem dX10_save_22 : decode cX10_save 22 = .ok (.iaload, 1) := by decide +kernel
theorem dX10_save_23 : decode cX10_save 23 = .ok (.ireturn, 1) := by decide +kernel
theorem dX10_restore_0 : decode cX10_restore 0 = .ok (.aload_n 0, 1) := by decide +kernel
theorem dX10_restore_1 : decode cX10_restore 1 = .ok (.aload_n 0, 1) := by decide +kernel
theorem dX10_restore_2 : decode cX10_restore 2 = .ok (.getfield 213, 3) := by decide +kernel
theorem dX10_restore_5 : decode cX10_restore 5 = .ok (.invokevirtual 124, 3) := by decide +kernel
theorem dX10_restore_8 : decode cX10_restore 8 = .ok (.ifCond .ne 5, 3) := by decide +kernel
theorem dX10_restore_11 : decode cX10_restore 11 = .ok (.iconst 0, 1) := by decide +kernel
theorem dX10_restore_12 : decode cX10_restore 12 = .ok (.ireturn, 1) := by decide +kernel
theorem dX10_restore_13 : decode cX10_restore 13 = .ok (.aload_n 0, 1) := by decide +kernel
theorem dX10_restore_14 : decode cX10_restore 14 = .ok (.bipush 9, 2) := by decide +kernel
theorem dX10_restore_16 : decode cX10_restore 16 = .ok (.iconst 0, 1) := by decide +kernel
theorem dX10_restore_17 : decode cX10_restore 17 = .ok (.invokevirtual 33, 3) := by decide +kernel
theorem dX10_restore_20 : decode cX10_restore 20 = .ok (.aload_n 0, 1) := by decide +kernel
theorem dX10_restore_21 : decode cX10_restore 21 = .ok (.iconst 0, 1) := by decide +kernel
theorem dX10_restore_22 : decode cX10_restore 22 = .ok (.putfield 37, 3) := by decide +kernel
theorem dX10_restore_25 : decode cX10_restore 25 = .ok (.aload_n 0, 1) := by decide +kernel
theorem dX10_restore_26 : decode cX10_restore 26 = .ok (.getfield 9, 3) := by decide +kernel
theorem dX10_restore_29 : decode cX10_restore 29 = .ok (.iconst 0, 1) := by decide +kernel
theorem dX10_restore_30 : decode cX10_restore 30 = .ok (.iaload, 1) := by decide +kernel
theorem dX10_restore_31 : decode cX10_restore 31 = .ok (.ireturn, 1) := by decide +kernel
