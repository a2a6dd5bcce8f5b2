theorem w_1821 : (Cond.methodLink "LinesPromisedModel" 253 ⟨"LinesPromisedModel", "canPay", "(I)J"⟩) ∈ wG := wG_in 1821 (by decide +kernel) (by decide +kernel)
theorem w_1820 : (Cond.code ⟨"LinesPromisedModel", "settles", "()V"⟩ prog_14_method_83_code 7 none) ∈ wG := wG_in 1820 (by decide +kernel) (by decide +kernel)
theorem w_1819 : (Cond.instanceMethod ⟨"LinesPromisedModel", "settles", "()V"⟩) ∈ wG := wG_in 1819 (by decide +kernel) (by decide +kernel)
theorem w_80 : (Cond.selects "LinesPromisedModel" ⟨"LinesPromisedModel", "settles", "()V"⟩ ⟨"LinesPromisedModel", "settles", "()V"⟩) ∈ wG := wG_in 80 (by decide +kernel) (by decide +kernel)
theorem w_1828 : (Cond.code ⟨"LinesPromisedModel", "pays", "(I)J"⟩ prog_14_method_85_code 5 (some .long)) ∈ wG := wG_in 1828 (by decide +kernel) (by decide +kernel)
theorem w_1827 : (Cond.instanceMethod ⟨"LinesPromisedModel", "pays", "(I)J"⟩) ∈ wG := wG_in 1827 (by decide +kernel) (by decide +kernel)
theorem w_82 : (Cond.selects "LinesPromisedModel" ⟨"LinesPromisedModel", "pays", "(I)J"⟩ ⟨"LinesPromisedModel", "pays", "(I)J"⟩) ∈ wG := wG_in 82 (by decide +kernel) (by decide +kernel)
theorem w_1825 : (Cond.methodLink "LinesPromisedModel" 260 ⟨"LinesPromisedModel", "pays", "(I)J"⟩) ∈ wG := wG_in 1825 (by decide +kernel) (by decide +kernel)
theorem w_1817 : (Cond.methodLink "LinesPromisedModel" 257 ⟨"LinesPromisedModel", "settles", "()V"⟩) ∈ wG := wG_in 1817 (by decide +kernel) (by decide +kernel)
theorem w_1816 : (Cond.code ⟨"LinesPromisedModel", "along", "(II)I"⟩ prog_14_method_86_code 3 (some .int)) ∈ wG := wG_in 1816 (by decide +kernel) (by decide +kernel)
theorem w_1814 : (Cond.instanceMethod ⟨"LinesPromisedModel", "along", "(II)I"⟩) ∈ wG := wG_in 1814 (by decide +kernel) (by decide +kernel)
theorem w_1815 : (Cond.selects "LinesPromisedModel" ⟨"LinesPromisedModel", "along", "(II)I"⟩ ⟨"LinesPromisedModel", "along", "(II)I"⟩) ∈ wG := wG_in 1815 (by decide +kernel) (by decide +kernel)
theorem w_1832 : (Cond.code ⟨"LinesPromisedModel", "settle", "()I"⟩ prog_14_method_87_code 6 (some .int)) ∈ wG := wG_in 1832 (by decide +kernel) (by decide +kernel)
theorem w_1830 : (Cond.instanceMethod ⟨"LinesPromisedModel", "settle", "()I"⟩) ∈ wG := wG_in 1830 (by decide +kernel) (by decide +kernel)
theorem w_1831 : (Cond.selects "LinesPromisedModel" ⟨"LinesPromisedModel", "settle", "()I"⟩ ⟨"LinesPromisedModel", "settle", "()I"⟩) ∈ wG := wG_in 1831 (by decide +kernel) (by decide +kernel)
theorem w_1844 : (Cond.code ⟨"LinesPromisedModel", "schemeOf", "(I)I"⟩ prog_14_method_88_code 2 (some .int)) ∈ wG := wG_in 1844 (by decide +kernel) (by decide +kernel)
theorem w_1843 : (Cond.instanceMethod ⟨"LinesPromisedModel", "schemeOf", "(I)I"⟩) ∈ wG := wG_in 1843 (by decide +kernel) (by decide +kernel)
theorem w_84 : (Cond.selects "LinesPromisedModel" ⟨"LinesPromisedModel", "schemeOf", "(I)I"⟩ ⟨"LinesPromisedModel", "schemeOf", "(I)I"⟩) ∈ wG := wG_in 84 (by decide +kernel) (by decide +kernel)
theorem w_1841 : (Cond.methodLink "LinesPromisedModel" 263 ⟨"LinesPromisedModel", "schemeOf", "(I)I"⟩) ∈ wG := wG_in 1841 (by decide +kernel) (by decide +kernel)
theorem w_1840 : (Cond.code ⟨"LinesPromisedModel", "digs", "()V"⟩ prog_14_method_89_code 6 none) ∈ wG := wG_in 1840 (by decide +kernel) (by decide +kernel)
theorem w_1839 : (Cond.instanceMethod ⟨"LinesPromisedModel", "digs", "()V"⟩) ∈ wG := wG_in 1839 (by decide +kernel) (by decide +kernel)
theorem w_83 : (Cond.selects "LinesPromisedModel" ⟨"LinesPromisedModel", "digs", "()V"⟩ ⟨"LinesPromisedModel", "digs", "()V"⟩) ∈ wG := wG_in 83 (by decide +kernel) (by decide +kernel)
theorem w_1837 : (Cond.methodLink "LinesPromisedModel" 266 ⟨"LinesPromisedModel", "digs", "()V"⟩) ∈ wG := wG_in 1837 (by decide +kernel) (by decide +kernel)
theorem w_1836 : (Cond.code ⟨"LinesPromisedModel", "dig", "(I)I"⟩ prog_14_method_90_code 3 (some .int)) ∈ wG := wG_in 1836 (by decide +kernel) (by decide +kernel)
theorem w_1834 : (Cond.instanceMethod ⟨"LinesPromisedModel", "dig", "(I)I"⟩) ∈ wG := wG_in 1834 (by decide +kernel) (by decide +kernel)
theorem w_1835 : (Cond.selects "LinesPromisedModel" ⟨"LinesPromisedModel", "dig", "(I)I"⟩ ⟨"LinesPromisedModel", "dig", "(I)I"⟩) ∈ wG := wG_in 1835 (by decide +kernel) (by decide +kernel)
theorem w_1848 : (Cond.code ⟨"LinesPromisedModel", "last", "(II)I"⟩ prog_14_method_91_code 3 (some .int)) ∈ wG := wG_in 1848 (by decide +kernel) (by decide +kernel)
theorem w_1846 : (Cond.instanceMethod ⟨"LinesPromisedModel", "last", "(II)I"⟩) ∈ wG := wG_in 1846 (by decide +kernel) (by decide +kernel)
theorem w_1847 : (Cond.selects "LinesPromisedModel" ⟨"LinesPromisedModel", "last", "(II)I"⟩ ⟨"LinesPromisedModel", "last", "(II)I"⟩) ∈ wG := wG_in 1847 (by decide +kernel) (by decide +kernel)
/-! LinesPromisedModel.settles()V -/
theorem dX12_settles_0 : decode cX12_settles 0 = .ok (.iconst 0, 1) := by decide +kernel
theorem dX12_settles_1 : decode cX12_settles 1 = .ok (.istore_n 1, 1) := by decide +kernel
theorem dX12_settles_2 : decode cX12_settles 2 = .ok (.iload_n 1, 1) := by decide +kernel
theorem dX12_settles_3 : decode cX12_settles 3 = .ok (.sipush 400, 3) := by decide +kernel
theorem dX12_settles_6 : decode cX12_settles 6 = .ok (.if_icmp .ge 23, 3) := by decide +kernel
theorem dX12_settles_9 : decode cX12_settles 9 = .ok (.aload_n 0, 1) := by decide +kernel
theorem dX12_settles_10 : decode cX12_settles 10 = .ok (.getfield 32, 3) := by decide +kernel
theorem dX12_settles_13 : decode cX12_settles 13 = .ok (.iload_n 1, 1) := by decide +kernel
theorem dX12_settles_14 : decode cX12_settles 14 = .ok (.lconst 0, 1) := by decide +kernel
theorem dX12_settles_15 : decode cX12_settles 15 = .ok (.lastore, 1) := by decide +kernel
theorem dX12_settles_16 : decode cX12_settles 16 = .ok (.aload_n 0, 1) := by decide +kernel
theorem dX12_settles_17 : decode cX12_settles 17 = .ok (.getfield 36, 3) := by decide +kernel
theorem dX12_settles_20 : decode cX12_settles 20 = .ok (.iload_n 1, 1) := by decide +kernel
theorem dX12_settles_21 : decode cX12_settles 21 = .ok (.lconst 0, 1) := by decide +kernel
theorem dX12_settles_22 : decode cX12_settles 22 = .ok (.lastore, 1) := by decide +kernel
theorem dX12_settles_23 : decode cX12_settles 23 = .ok (.iinc 1 1, 3) := by decide +kernel
theorem dX12_settles_26 : decode cX12_settles 26 = .ok (.goto (-24), 3) := by decide +kernel
theorem dX12_settles_29 : decode cX12_settles 29 = .ok (.iconst 0, 1) := by decide +kernel
theorem dX12_settles_30 : decode cX12_settles 30 = .ok (.istore_n 1, 1) := by decide +kernel
theorem dX12_settles_31 : decode cX12_settles 31 = .ok (.iload_n 1, 1) := by decide +kernel
theorem dX12_settles_32 : decode cX12_settles 32 = .ok (.aload_n 0, 1) := by decide +kernel
theorem dX12_settles_33 : decode cX12_settles 33 = .ok (.getfield 8, 3) := by decide +kernel
theorem dX12_settles_36 : decode cX12_settles 36 = .ok (.iconst 2, 1) := by decide +kernel
theorem dX12_settles_37 : decode cX12_settles 37 = .ok (.iaload, 1) := by decide +kernel
theorem dX12_settles_38 : decode cX12_settles 38 = .ok (.if_icmp .ge 186, 3) := by decide +kernel
theorem dX12_settles_41 : decode cX12_settles 41 = .ok (.aload_n 0, 1) := by decide +kernel
theorem dX12_settles_42 : decode cX12_settles 42 = .ok (.getfield 8, 3) := by decide +kernel
theorem dX12_settles_45 : decode cX12_settles 45 = .ok (.sipush 790, 3) := by decide +kernel
theorem dX12_settles_48 : decode cX12_settles 48 = .ok (.iload_n 1, 1) := by decide +kernel
theorem dX12_settles_49 : decode cX12_settles 49 = .ok (.iadd, 1) := by decide +kernel
theorem dX12_settles_50 : decode cX12_settles 50 = .ok (.iaload, 1) := by decide +kernel
theorem dX12_settles_51 : decode cX12_settles 51 = .ok (.ifCond .ne 90, 3) := by decide +kernel
theorem dX12_settles_54 : decode cX12_settles 54 = .ok (.aload_n 0, 1) := by decide +kernel
theorem dX12_settles_55 : decode cX12_settles 55 = .ok (.getfield 8, 3) := by decide +kernel
theorem dX12_settles_58 : decode cX12_settles 58 = .ok (.sipush 370, 3) := by decide +kernel
theorem dX12_settles_61 : decode cX12_settles 61 = .ok (.iload_n 1, 1) := by decide +kernel
theorem dX12_settles_62 : decode cX12_settles 62 = .ok (.iadd, 1) := by decide +kernel
theorem dX12_settles_63 : decode cX12_settles 63 = .ok (.iaload, 1) := by decide +kernel
theorem dX12_settles_64 : decode cX12_settles 64 = .ok (.iconst 4, 1) := by decide +kernel
theorem dX12_settles_65 : decode cX12_settles 65 = .ok (.if_icmp .ne 76, 3) := by decide +kernel
theorem dX12_settles_68 : decode cX12_settles 68 = .ok (.aload_n 0, 1) := by decide +kernel
theorem dX12_settles_69 : decode cX12_settles 69 = .ok (.aload_n 0, 1) := by decide +kernel
theorem dX12_settles_70 : decode cX12_settles 70 = .ok (.getfield 8, 3) := by decide +kernel
theorem dX12_settles_73 : decode cX12_settles 73 = .ok (.sipush 430, 3) := by decide +kernel
theorem dX12_settles_76 : decode cX12_settles 76 = .ok (.iload_n 1, 1) := by decide +kernel
theorem dX12_settles_77 : decode cX12_settles 77 = .ok (.iadd, 1) := by decide +kernel
theorem dX12_settles_78 : decode cX12_settles 78 = .ok (.iaload, 1) := by decide +kernel
theorem dX12_settles_79 : decode cX12_settles 79 = .ok (.invokevirtual 238, 3) := by decide +kernel
theorem dX12_settles_82 : decode cX12_settles 82 = .ok (.istore_n 2, 1) := by decide +kernel
theorem dX12_settles_83 : decode cX12_settles 83 = .ok (.iconst 0, 1) := by decide +kernel
theorem dX12_settles_84 : decode cX12_settles 84 = .ok (.istore_n 3, 1) := by decide +kernel
theorem dX12_settles_85 : decode cX12_settles 85 = .ok (.iload_n 3, 1) := by decide +kernel
theorem dX12_settles_86 : decode cX12_settles 86 = .ok (.bipush 8, 2) := by decide +kernel
theorem dX12_settles_88 : decode cX12_settles 88 = .ok (.if_icmp .ge 53, 3) := by decide +kernel
theorem dX12_settles_91 : decode cX12_settles 91 = .ok (.aload_n 0, 1) := by decide +kernel
theorem dX12_settles_92 : decode cX12_settles 92 = .ok (.getfield 32, 3) := by decide +kernel
theorem dX12_settles_95 : decode cX12_settles 95 = .ok (.bipush 20, 2) := by decide +kernel
theorem dX12_settles_97 : decode cX12_settles 97 = .ok (.iload_n 3, 1) := by decide +kernel
theorem dX12_settles_98 : decode cX12_settles 98 = .ok (.imul, 1) := by decide +kernel
theorem dX12_settles_99 : decode cX12_settles 99 = .ok (.bipush 8, 2) := by decide +kernel
theorem dX12_settles_101 : decode cX12_settles 101 = .ok (.iadd, 1) := by decide +kernel
theorem dX12_settles_102 : decode cX12_settles 102 = .ok (.iload_n 2, 1) := by decide +kernel
theorem dX12_settles_103 : decode cX12_settles 103 = .ok (.iadd, 1) := by decide +kernel
theorem dX12_settles_104 : decode cX12_settles 104 = .ok (.dup2, 1) := by decide +kernel
theorem dX12_settles_105 : decode cX12_settles 105 = .ok (.laload, 1) := by decide +kernel
theorem dX12_settles_106 : decode cX12_settles 106 = .ok (.aload_n 0, 1) := by decide +kernel
theorem dX12_settles_107 : decode cX12_settles 107 = .ok (.getfield 8, 3) := by decide +kernel
theorem dX12_settles_110 : decode cX12_settles 110 = .ok (.sipush 730, 3) := by decide +kernel
theorem dX12_settles_113 : decode cX12_settles 113 = .ok (.iload_n 1, 1) := by decide +kernel
theorem dX12_settles_114 : decode cX12_settles 114 = .ok (.iadd, 1) := by decide +kernel
theorem dX12_settles_115 : decode cX12_settles 115 = .ok (.iaload, 1) := by decide +kernel
theorem dX12_settles_116 : decode cX12_settles 116 = .ok (.aload_n 0, 1) := by decide +kernel
theorem dX12_settles_117 : decode cX12_settles 117 = .ok (.getfield 8, 3) := by decide +kernel
theorem dX12_settles_120 : decode cX12_settles 120 = .ok (.sipush 11530, 3) := by decide +kernel
theorem dX12_settles_123 : decode cX12_settles 123 = .ok (.bipush 9, 2) := by decide +kernel
theorem dX12_settles_125 : decode cX12_settles 125 = .ok (.iload_n 2, 1) := by decide +kernel
theorem dX12_settles_126 : decode cX12_settles 126 = .ok (.imul, 1) := by decide +kernel
theorem dX12_settles_127 : decode cX12_settles 127 = .ok (.iadd, 1) := by decide +kernel
theorem dX12_settles_128 : decode cX12_settles 128 = .ok (.iload_n 3, 1) := by decide +kernel
theorem dX12_settles_129 : decode cX12_settles 129 = .ok (.iadd, 1) := by decide +kernel
theorem dX12_settles_130 : decode cX12_settles 130 = .ok (.iaload, 1) := by decide +kernel
theorem dX12_settles_131 : decode cX12_settles 131 = .ok (.imul, 1) := by decide +kernel
theorem dX12_settles_132 : decode cX12_settles 132 = .ok (.i2l, 1) := by decide +kernel
theorem dX12_settles_133 : decode cX12_settles 133 = .ok (.ladd, 1) := by decide +kernel
theorem dX12_settles_134 : decode cX12_settles 134 = .ok (.lastore, 1) := by decide +kernel
theorem dX12_settles_135 : decode cX12_settles 135 = .ok (.iinc 3 1, 3) := by decide +kernel
theorem dX12_settles_138 : decode cX12_settles 138 = .ok (.goto (-53), 3) := by decide +kernel
theorem dX12_settles_141 : decode cX12_settles 141 = .ok (.aload_n 0, 1) := by decide +kernel
theorem dX12_settles_142 : decode cX12_settles 142 = .ok (.getfield 8, 3) := by decide +kernel
theorem dX12_settles_145 : decode cX12_settles 145 = .ok (.sipush 790, 3) := by decide +kernel
theorem dX12_settles_148 : decode cX12_settles 148 = .ok (.iload_n 1, 1) := by decide +kernel
theorem dX12_settles_149 : decode cX12_settles 149 = .ok (.iadd, 1) := by decide +kernel
theorem dX12_settles_150 : decode cX12_settles 150 = .ok (.iaload, 1) := by decide +kernel
theorem dX12_settles_151 : decode cX12_settles 151 = .ok (.ifCond .ne 67, 3) := by decide +kernel
theorem dX12_settles_154 : decode cX12_settles 154 = .ok (.aload_n 0, 1) := by decide +kernel
theorem dX12_settles_155 : decode cX12_settles 155 = .ok (.getfield 8, 3) := by decide +kernel
theorem dX12_settles_158 : decode cX12_settles 158 = .ok (.sipush 370, 3) := by decide +kernel
theorem dX12_settles_161 : decode cX12_settles 161 = .ok (.iload_n 1, 1) := by decide +kernel
theorem dX12_settles_162 : decode cX12_settles 162 = .ok (.iadd, 1) := by decide +kernel
theorem dX12_settles_163 : decode cX12_settles 163 = .ok (.iaload, 1) := by decide +kernel
theorem dX12_settles_164 : decode cX12_settles 164 = .ok (.iconst 5, 1) := by decide +kernel
theorem dX12_settles_165 : decode cX12_settles 165 = .ok (.if_icmp .ne 53, 3) := by decide +kernel
theorem dX12_settles_168 : decode cX12_settles 168 = .ok (.aload_n 0, 1) := by decide +kernel
theorem dX12_settles_169 : decode cX12_settles 169 = .ok (.getfield 32, 3) := by decide +kernel
theorem dX12_settles_172 : decode cX12_settles 172 = .ok (.bipush 20, 2) := by decide +kernel
theorem dX12_settles_174 : decode cX12_settles 174 = .ok (.bipush 8, 2) := by decide +kernel
theorem dX12_settles_176 : decode cX12_settles 176 = .ok (.aload_n 0, 1) := by decide +kernel
theorem dX12_settles_177 : decode cX12_settles 177 = .ok (.aload_n 0, 1) := by decide +kernel
theorem dX12_settles_178 : decode cX12_settles 178 = .ok (.getfield 8, 3) := by decide +kernel
theorem dX12_settles_181 : decode cX12_settles 181 = .ok (.sipush 430, 3) := by decide +kernel
theorem dX12_settles_184 : decode cX12_settles 184 = .ok (.iload_n 1, 1) := by decide +kernel
theorem dX12_settles_185 : decode cX12_settles 185 = .ok (.iadd, 1) := by decide +kernel
theorem dX12_settles_186 : decode cX12_settles 186 = .ok (.iaload, 1) := by decide +kernel
theorem dX12_settles_187 : decode cX12_settles 187 = .ok (.invokevirtual 238, 3) := by decide +kernel
theorem dX12_settles_190 : decode cX12_settles 190 = .ok (.iadd, 1) := by decide +kernel
theorem dX12_settles_191 : decode cX12_settles 191 = .ok (.imul, 1) := by decide +kernel
theorem dX12_settles_192 : decode cX12_settles 192 = .ok (.aload_n 0, 1) := by decide +kernel
theorem dX12_settles_193 : decode cX12_settles 193 = .ok (.getfield 8, 3) := by decide +kernel
theorem dX12_settles_196 : decode cX12_settles 196 = .ok (.sipush 550, 3) := by decide +kernel
theorem dX12_settles_199 : decode cX12_settles 199 = .ok (.iload_n 1, 1) := by decide +kernel
theorem dX12_settles_200 : decode cX12_settles 200 = .ok (.iadd, 1) := by decide +kernel
theorem dX12_settles_201 : decode cX12_settles 201 = .ok (.iaload, 1) := by decide +kernel
theorem dX12_settles_202 : decode cX12_settles 202 = .ok (.iadd, 1) := by decide +kernel
theorem dX12_settles_203 : decode cX12_settles 203 = .ok (.dup2, 1) := by decide +kernel
theorem dX12_settles_204 : decode cX12_settles 204 = .ok (.laload, 1) := by decide +kernel
theorem dX12_settles_205 : decode cX12_settles 205 = .ok (.aload_n 0, 1) := by decide +kernel
theorem dX12_settles_206 : decode cX12_settles 206 = .ok (.getfield 8, 3) := by decide +kernel
theorem dX12_settles_209 : decode cX12_settles 209 = .ok (.sipush 730, 3) := by decide +kernel
theorem dX12_settles_212 : decode cX12_settles 212 = .ok (.iload_n 1, 1) := by decide +kernel
theorem dX12_settles_213 : decode cX12_settles 213 = .ok (.iadd, 1) := by decide +kernel
theorem dX12_settles_214 : decode cX12_settles 214 = .ok (.iaload, 1) := by decide +kernel
theorem dX12_settles_215 : decode cX12_settles 215 = .ok (.i2l, 1) := by decide +kernel
theorem dX12_settles_216 : decode cX12_settles 216 = .ok (.ladd, 1) := by decide +kernel
theorem dX12_settles_217 : decode cX12_settles 217 = .ok (.lastore, 1) := by decide +kernel
theorem dX12_settles_218 : decode cX12_settles 218 = .ok (.iinc 1 1, 3) := by decide +kernel
theorem dX12_settles_221 : decode cX12_settles 221 = .ok (.goto (-190), 3) := by decide +kernel
theorem dX12_settles_224 : decode cX12_settles 224 = .ok (.iconst 0, 1) := by decide +kernel
theorem dX12_settles_225 : decode cX12_settles 225 = .ok (.istore_n 1, 1) := by decide +kernel
theorem dX12_settles_226 : decode cX12_settles 226 = .ok (.iload_n 1, 1) := by decide +kernel
theorem dX12_settles_227 : decode cX12_settles 227 = .ok (.bipush 20, 2) := by decide +kernel
theorem dX12_settles_229 : decode cX12_settles 229 = .ok (.if_icmp .ge 108, 3) := by decide +kernel
theorem dX12_settles_232 : decode cX12_settles 232 = .ok (.aload_n 0, 1) := by decide +kernel
theorem dX12_settles_233 : decode cX12_settles 233 = .ok (.getfield 42, 3) := by decide +kernel
theorem dX12_settles_236 : decode cX12_settles 236 = .ok (.iload_n 1, 1) := by decide +kernel
theorem dX12_settles_237 : decode cX12_settles 237 = .ok (.iload_n 1, 1) := by decide +kernel
theorem dX12_settles_238 : decode cX12_settles 238 = .ok (.bipush 8, 2) := by decide +kernel
theorem dX12_settles_240 : decode cX12_settles 240 = .ok (.if_icmp .ge 17, 3) := by decide +kernel
theorem dX12_settles_243 : decode cX12_settles 243 = .ok (.aload_n 0, 1) := by decide +kernel
theorem dX12_settles_244 : decode cX12_settles 244 = .ok (.getfield 8, 3) := by decide +kernel
theorem dX12_settles_247 : decode cX12_settles 247 = .ok (.sipush 192, 3) := by decide +kernel
theorem dX12_settles_250 : decode cX12_settles 250 = .ok (.iload_n 1, 1) := by decide +kernel
theorem dX12_settles_251 : decode cX12_settles 251 = .ok (.iadd, 1) := by decide +kernel
theorem dX12_settles_252 : decode cX12_settles 252 = .ok (.iaload, 1) := by decide +kernel
theorem dX12_settles_253 : decode cX12_settles 253 = .ok (.i2l, 1) := by decide +kernel
theorem dX12_settles_254 : decode cX12_settles 254 = .ok (.goto 35, 3) := by decide +kernel
theorem dX12_settles_257 : decode cX12_settles 257 = .ok (.iload_n 1, 1) := by decide +kernel
theorem dX12_settles_258 : decode cX12_settles 258 = .ok (.bipush 8, 2) := by decide +kernel
theorem dX12_settles_260 : decode cX12_settles 260 = .ok (.isub, 1) := by decide +kernel
theorem dX12_settles_261 : decode cX12_settles 261 = .ok (.aload_n 0, 1) := by decide +kernel
theorem dX12_settles_262 : decode cX12_settles 262 = .ok (.getfield 8, 3) := by decide +kernel
theorem dX12_settles_265 : decode cX12_settles 265 = .ok (.bipush 9, 2) := by decide +kernel
theorem dX12_settles_267 : decode cX12_settles 267 = .ok (.iaload, 1) := by decide +kernel
theorem dX12_settles_268 : decode cX12_settles 268 = .ok (.if_icmp .ge 20, 3) := by decide +kernel
theorem dX12_settles_271 : decode cX12_settles 271 = .ok (.aload_n 0, 1) := by decide +kernel
theorem dX12_settles_272 : decode cX12_settles 272 = .ok (.getfield 8, 3) := by decide +kernel
theorem dX12_settles_275 : decode cX12_settles 275 = .ok (.sipush 11502, 3) := by decide +kernel
theorem dX12_settles_278 : decode cX12_settles 278 = .ok (.iload_n 1, 1) := by decide +kernel
theorem dX12_settles_279 : decode cX12_settles 279 = .ok (.iadd, 1) := by decide +kernel
theorem dX12_settles_280 : decode cX12_settles 280 = .ok (.bipush 8, 2) := by decide +kernel
theorem dX12_settles_282 : decode cX12_settles 282 = .ok (.isub, 1) := by decide +kernel
theorem dX12_settles_283 : decode cX12_settles 283 = .ok (.iaload, 1) := by decide +kernel
theorem dX12_settles_284 : decode cX12_settles 284 = .ok (.i2l, 1) := by decide +kernel
theorem dX12_settles_285 : decode cX12_settles 285 = .ok (.goto 4, 3) := by decide +kernel
theorem dX12_settles_288 : decode cX12_settles 288 = .ok (.lconst 0, 1) := by decide +kernel
theorem dX12_settles_289 : decode cX12_settles 289 = .ok (.lastore, 1) := by decide +kernel
theorem dX12_settles_290 : decode cX12_settles 290 = .ok (.aload_n 0, 1) := by decide +kernel
theorem dX12_settles_291 : decode cX12_settles 291 = .ok (.getfield 45, 3) := by decide +kernel
theorem dX12_settles_294 : decode cX12_settles 294 = .ok (.iload_n 1, 1) := by decide +kernel
theorem dX12_settles_295 : decode cX12_settles 295 = .ok (.lconst 0, 1) := by decide +kernel
theorem dX12_settles_296 : decode cX12_settles 296 = .ok (.lastore, 1) := by decide +kernel
theorem dX12_settles_297 : decode cX12_settles 297 = .ok (.iconst 0, 1) := by decide +kernel
theorem dX12_settles_298 : decode cX12_settles 298 = .ok (.istore_n 2, 1) := by decide +kernel
theorem dX12_settles_299 : decode cX12_settles 299 = .ok (.iload_n 2, 1) := by decide +kernel
theorem dX12_settles_300 : decode cX12_settles 300 = .ok (.bipush 20, 2) := by decide +kernel
theorem dX12_settles_302 : decode cX12_settles 302 = .ok (.if_icmp .ge 29, 3) := by decide +kernel
theorem dX12_settles_305 : decode cX12_settles 305 = .ok (.aload_n 0, 1) := by decide +kernel
theorem dX12_settles_306 : decode cX12_settles 306 = .ok (.getfield 45, 3) := by decide +kernel
theorem dX12_settles_309 : decode cX12_settles 309 = .ok (.iload_n 1, 1) := by decide +kernel
theorem dX12_settles_310 : decode cX12_settles 310 = .ok (.dup2, 1) := by decide +kernel
theorem dX12_settles_311 : decode cX12_settles 311 = .ok (.laload, 1) := by decide +kernel
theorem dX12_settles_312 : decode cX12_settles 312 = .ok (.aload_n 0, 1) := by decide +kernel
theorem dX12_settles_313 : decode cX12_settles 313 = .ok (.getfield 32, 3) := by decide +kernel
theorem dX12_settles_316 : decode cX12_settles 316 = .ok (.bipush 20, 2) := by decide +kernel
theorem dX12_settles_318 : decode cX12_settles 318 = .ok (.iload_n 1, 1) := by decide +kernel
theorem dX12_settles_319 : decode cX12_settles 319 = .ok (.imul, 1) := by decide +kernel
theorem dX12_settles_320 : decode cX12_settles 320 = .ok (.iload_n 2, 1) := by decide +kernel
theorem dX12_settles_321 : decode cX12_settles 321 = .ok (.iadd, 1) := by decide +kernel
theorem dX12_settles_322 : decode cX12_settles 322 = .ok (.laload, 1) := by decide +kernel
theorem dX12_settles_323 : decode cX12_settles 323 = .ok (.ladd, 1) := by decide +kernel
theorem dX12_settles_324 : decode cX12_settles 324 = .ok (.lastore, 1) := by decide +kernel
theorem dX12_settles_325 : decode cX12_settles 325 = .ok (.iinc 2 1, 3) := by decide +kernel
theorem dX12_settles_328 : decode cX12_settles 328 = .ok (.goto (-29), 3) := by decide +kernel
theorem dX12_settles_331 : decode cX12_settles 331 = .ok (.iinc 1 1, 3) := by decide +kernel
theorem dX12_settles_334 : decode cX12_settles 334 = .ok (.goto (-108), 3) := by decide +kernel
theorem dX12_settles_337 : decode cX12_settles 337 = .ok (.iconst 1, 1) := by decide +kernel
theorem dX12_settles_338 : decode cX12_settles 338 = .ok (.istore_n 1, 1) := by decide +kernel
theorem dX12_settles_339 : decode cX12_settles 339 = .ok (.iconst 0, 1) := by decide +kernel
theorem dX12_settles_340 : decode cX12_settles 340 = .ok (.istore_n 2, 1) := by decide +kernel
theorem dX12_settles_341 : decode cX12_settles 341 = .ok (.iload_n 2, 1) := by decide +kernel
theorem dX12_settles_342 : decode cX12_settles 342 = .ok (.sipush 300, 3) := by decide +kernel
theorem dX12_settles_345 : decode cX12_settles 345 = .ok (.if_icmp .ge 166, 3) := by decide +kernel
theorem dX12_settles_348 : decode cX12_settles 348 = .ok (.iload_n 1, 1) := by decide +kernel
theorem dX12_settles_349 : decode cX12_settles 349 = .ok (.ifCond .eq 162, 3) := by decide +kernel
theorem dX12_settles_352 : decode cX12_settles 352 = .ok (.iconst 0, 1) := by decide +kernel
theorem dX12_settles_353 : decode cX12_settles 353 = .ok (.istore_n 1, 1) := by decide +kernel
theorem dX12_settles_354 : decode cX12_settles 354 = .ok (.iconst 0, 1) := by decide +kernel
theorem dX12_settles_355 : decode cX12_settles 355 = .ok (.istore_n 3, 1) := by decide +kernel
theorem dX12_settles_356 : decode cX12_settles 356 = .ok (.iload_n 3, 1) := by decide +kernel
theorem dX12_settles_357 : decode cX12_settles 357 = .ok (.bipush 20, 2) := by decide +kernel
theorem dX12_settles_359 : decode cX12_settles 359 = .ok (.if_icmp .ge 119, 3) := by decide +kernel
theorem dX12_settles_362 : decode cX12_settles 362 = .ok (.aload_n 0, 1) := by decide +kernel
theorem dX12_settles_363 : decode cX12_settles 363 = .ok (.iload_n 3, 1) := by decide +kernel
theorem dX12_settles_364 : decode cX12_settles 364 = .ok (.invokevirtual 253, 3) := by decide +kernel
theorem dX12_settles_367 : decode cX12_settles 367 = .ok (.lstore 4, 2) := by decide +kernel
theorem dX12_settles_369 : decode cX12_settles 369 = .ok (.iconst 0, 1) := by decide +kernel
theorem dX12_settles_370 : decode cX12_settles 370 = .ok (.istore 6, 2) := by decide +kernel
theorem dX12_settles_372 : decode cX12_settles 372 = .ok (.iload 6, 2) := by decide +kernel
theorem dX12_settles_374 : decode cX12_settles 374 = .ok (.bipush 20, 2) := by decide +kernel
theorem dX12_settles_376 : decode cX12_settles 376 = .ok (.if_icmp .ge 96, 3) := by decide +kernel
theorem dX12_settles_379 : decode cX12_settles 379 = .ok (.aload_n 0, 1) := by decide +kernel
theorem dX12_settles_380 : decode cX12_settles 380 = .ok (.getfield 39, 3) := by decide +kernel
theorem dX12_settles_383 : decode cX12_settles 383 = .ok (.bipush 20, 2) := by decide +kernel
theorem dX12_settles_385 : decode cX12_settles 385 = .ok (.iload_n 3, 1) := by decide +kernel
theorem dX12_settles_386 : decode cX12_settles 386 = .ok (.imul, 1) := by decide +kernel
theorem dX12_settles_387 : decode cX12_settles 387 = .ok (.iload 6, 2) := by decide +kernel
theorem dX12_settles_389 : decode cX12_settles 389 = .ok (.iadd, 1) := by decide +kernel
theorem dX12_settles_390 : decode cX12_settles 390 = .ok (.aload_n 0, 1) := by decide +kernel
theorem dX12_settles_391 : decode cX12_settles 391 = .ok (.getfield 45, 3) := by decide +kernel
theorem dX12_settles_394 : decode cX12_settles 394 = .ok (.iload_n 3, 1) := by decide +kernel
theorem dX12_settles_395 : decode cX12_settles 395 = .ok (.laload, 1) := by decide +kernel
theorem dX12_settles_396 : decode cX12_settles 396 = .ok (.lconst 0, 1) := by decide +kernel
theorem dX12_settles_397 : decode cX12_settles 397 = .ok (.lcmp, 1) := by decide +kernel
theorem dX12_settles_398 : decode cX12_settles 398 = .ok (.ifCond .ne 7, 3) := by decide +kernel
theorem dX12_settles_401 : decode cX12_settles 401 = .ok (.lconst 0, 1) := by decide +kernel
theorem dX12_settles_402 : decode cX12_settles 402 = .ok (.goto 25, 3) := by decide +kernel
theorem dX12_settles_405 : decode cX12_settles 405 = .ok (.lload 4, 2) := by decide +kernel
theorem dX12_settles_407 : decode cX12_settles 407 = .ok (.aload_n 0, 1) := by decide +kernel
theorem dX12_settles_408 : decode cX12_settles 408 = .ok (.getfield 32, 3) := by decide +kernel
theorem dX12_settles_411 : decode cX12_settles 411 = .ok (.bipush 20, 2) := by decide +kernel
theorem dX12_settles_413 : decode cX12_settles 413 = .ok (.iload_n 3, 1) := by decide +kernel
theorem dX12_settles_414 : decode cX12_settles 414 = .ok (.imul, 1) := by decide +kernel
theorem dX12_settles_415 : decode cX12_settles 415 = .ok (.iload 6, 2) := by decide +kernel
theorem dX12_settles_417 : decode cX12_settles 417 = .ok (.iadd, 1) := by decide +kernel
theorem dX12_settles_418 : decode cX12_settles 418 = .ok (.laload, 1) := by decide +kernel
theorem dX12_settles_419 : decode cX12_settles 419 = .ok (.lmul, 1) := by decide +kernel
theorem dX12_settles_420 : decode cX12_settles 420 = .ok (.aload_n 0, 1) := by decide +kernel
theorem dX12_settles_421 : decode cX12_settles 421 = .ok (.getfield 45, 3) := by decide +kernel
theorem dX12_settles_424 : decode cX12_settles 424 = .ok (.iload_n 3, 1) := by decide +kernel
theorem dX12_settles_425 : decode cX12_settles 425 = .ok (.laload, 1) := by decide +kernel
theorem dX12_settles_426 : decode cX12_settles 426 = .ok (.ldiv, 1) := by decide +kernel
theorem dX12_settles_427 : decode cX12_settles 427 = .ok (.lastore, 1) := by decide +kernel
theorem dX12_settles_428 : decode cX12_settles 428 = .ok (.iload_n 1, 1) := by decide +kernel
theorem dX12_settles_429 : decode cX12_settles 429 = .ok (.ifCond .ne 31, 3) := by decide +kernel
theorem dX12_settles_432 : decode cX12_settles 432 = .ok (.aload_n 0, 1) := by decide +kernel
theorem dX12_settles_433 : decode cX12_settles 433 = .ok (.getfield 39, 3) := by decide +kernel
theorem dX12_settles_436 : decode cX12_settles 436 = .ok (.bipush 20, 2) := by decide +kernel
theorem dX12_settles_438 : decode cX12_settles 438 = .ok (.iload_n 3, 1) := by decide +kernel
theorem dX12_settles_439 : decode cX12_settles 439 = .ok (.imul, 1) := by decide +kernel
theorem dX12_settles_440 : decode cX12_settles 440 = .ok (.iload 6, 2) := by decide +kernel
theorem dX12_settles_442 : decode cX12_settles 442 = .ok (.iadd, 1) := by decide +kernel
theorem dX12_settles_443 : decode cX12_settles 443 = .ok (.laload, 1) := by decide +kernel
theorem dX12_settles_444 : decode cX12_settles 444 = .ok (.aload_n 0, 1) := by decide +kernel
theorem dX12_settles_445 : decode cX12_settles 445 = .ok (.getfield 36, 3) := by decide +kernel
theorem dX12_settles_448 : decode cX12_settles 448 = .ok (.bipush 20, 2) := by decide +kernel
theorem dX12_settles_450 : decode cX12_settles 450 = .ok (.iload_n 3, 1) := by decide +kernel
theorem dX12_settles_451 : decode cX12_settles 451 = .ok (.imul, 1) := by decide +kernel
theorem dX12_settles_452 : decode cX12_settles 452 = .ok (.iload 6, 2) := by decide +kernel
theorem dX12_settles_454 : decode cX12_settles 454 = .ok (.iadd, 1) := by decide +kernel
theorem dX12_settles_455 : decode cX12_settles 455 = .ok (.laload, 1) := by decide +kernel
theorem dX12_settles_456 : decode cX12_settles 456 = .ok (.lcmp, 1) := by decide +kernel
theorem dX12_settles_457 : decode cX12_settles 457 = .ok (.ifCond .eq 7, 3) := by decide +kernel
theorem dX12_settles_460 : decode cX12_settles 460 = .ok (.iconst 1, 1) := by decide +kernel
theorem dX12_settles_461 : decode cX12_settles 461 = .ok (.goto 4, 3) := by decide +kernel
theorem dX12_settles_464 : decode cX12_settles 464 = .ok (.iconst 0, 1) := by decide +kernel
theorem dX12_settles_465 : decode cX12_settles 465 = .ok (.istore_n 1, 1) := by decide +kernel
theorem dX12_settles_466 : decode cX12_settles 466 = .ok (.iinc 6 1, 3) := by decide +kernel
theorem dX12_settles_469 : decode cX12_settles 469 = .ok (.goto (-97), 3) := by decide +kernel
theorem dX12_settles_472 : decode cX12_settles 472 = .ok (.iinc 3 1, 3) := by decide +kernel
theorem dX12_settles_475 : decode cX12_settles 475 = .ok (.goto (-119), 3) := by decide +kernel
theorem dX12_settles_478 : decode cX12_settles 478 = .ok (.iconst 0, 1) := by decide +kernel
theorem dX12_settles_479 : decode cX12_settles 479 = .ok (.istore_n 3, 1) := by decide +kernel
theorem dX12_settles_480 : decode cX12_settles 480 = .ok (.iload_n 3, 1) := by decide +kernel
theorem dX12_settles_481 : decode cX12_settles 481 = .ok (.sipush 400, 3) := by decide +kernel
theorem dX12_settles_484 : decode cX12_settles 484 = .ok (.if_icmp .ge 21, 3) := by decide +kernel
theorem dX12_settles_487 : decode cX12_settles 487 = .ok (.aload_n 0, 1) := by decide +kernel
theorem dX12_settles_488 : decode cX12_settles 488 = .ok (.getfield 36, 3) := by decide +kernel
theorem dX12_settles_491 : decode cX12_settles 491 = .ok (.iload_n 3, 1) := by decide +kernel
theorem dX12_settles_492 : decode cX12_settles 492 = .ok (.aload_n 0, 1) := by decide +kernel
theorem dX12_settles_493 : decode cX12_settles 493 = .ok (.getfield 39, 3) := by decide +kernel
theorem dX12_settles_496 : decode cX12_settles 496 = .ok (.iload_n 3, 1) := by decide +kernel
theorem dX12_settles_497 : decode cX12_settles 497 = .ok (.laload, 1) := by decide +kernel
theorem dX12_settles_498 : decode cX12_settles 498 = .ok (.lastore, 1) := by decide +kernel
theorem dX12_settles_499 : decode cX12_settles 499 = .ok (.iinc 3 1, 3) := by decide +kernel
theorem dX12_settles_502 : decode cX12_settles 502 = .ok (.goto (-22), 3) := by decide +kernel
theorem dX12_settles_505 : decode cX12_settles 505 = .ok (.iinc 2 1, 3) := by decide +kernel
theorem dX12_settles_508 : decode cX12_settles 508 = .ok (.goto (-167), 3) := by decide +kernel
theorem dX12_settles_511 : decode cX12_settles 511 = .ok (.return_, 1) := by decide +kernel
theorem cm_X12_settles : CM yX12_settles cX12_settles 7 none 0 12 := ⟨w_1819, w_80, w_1820, w_97, ⟨by decide +kernel, by decide +kernel, by decide +kernel⟩, ⟨_, _, rfl⟩, by decide⟩
noncomputable def f_X12_settles_511 (n : Nat)  (h : MM) : RR :=
  some (0, h)
noncomputable def f_X12_settles_480b (n : Nat) (rec341 : Int → Int → MM → RR) (rec480 : Int → MM → RR) (v0 v1 v2 v3 : Int) (h : MM) : RR :=
  if 400 ≤ v3 then
    lb (wr (v2 + 1)) fun x2 =>
    rec341 v1 x2 h
  else
  gf h v0 12 15 fun r3 =>
  gf h v0 12 16 fun r4 =>
  rd h r4 101 v3 fun r5 =>
  wt h r3 101 v3 r5 fun h6 =>
  lb (wr (v3 + 1)) fun x7 =>
  rec480 x7 h6
noncomputable def f_X12_settles_480 (n : Nat) (rec341 : Int → Int → MM → RR) (v0 v1 v2 : Int) : Nat → Int → MM → RR
  | 0, _, _ => none
  | k + 1, v3, h => f_X12_settles_480b n rec341 (f_X12_settles_480 n rec341 v0 v1 v2 k) v0 v1 v2 v3 h
noncomputable def f_X12_settles_465 (n : Nat) (rec341 : Int → Int → MM → RR) (rec356 : Int → Int → MM → RR) (rec372 : Int → Int → MM → RR) (v0 v2 v3 v4 v6 s0 : Int) (h : MM) : RR :=
  lb (wr (v6 + 1)) fun x1 =>
  rec372 s0 x1 h
noncomputable def f_X12_settles_460 (n : Nat) (rec341 : Int → Int → MM → RR) (rec356 : Int → Int → MM → RR) (rec372 : Int → Int → MM → RR) (v0 v2 v3 v4 v6 : Int) (h : MM) : RR :=
  f_X12_settles_465 n rec341 rec356 rec372 v0 v2 v3 v4 v6 1 h
noncomputable def f_X12_settles_427 (n : Nat) (rec341 : Int → Int → MM → RR) (rec356 : Int → Int → MM → RR) (rec372 : Int → Int → MM → RR) (v0 v1 v2 v3 v4 v6 s0 s1 s2 : Int) (h : MM) : RR :=
  wt h s0 101 s1 s2 fun h1 =>
  if v1 = 0 then
    gf h1 v0 12 16 fun r3 =>
    rd h1 r3 101 (wr ((wr (20 * v3)) + v6)) fun r4 =>
    gf h1 v0 12 15 fun r5 =>
    rd h1 r5 101 (wr ((wr (20 * v3)) + v6)) fun r6 =>
    if lcm r4 r6 = 0 then
      f_X12_settles_465 n rec341 rec356 rec372 v0 v2 v3 v4 v6 0 h1
    else
    f_X12_settles_460 n rec341 rec356 rec372 v0 v2 v3 v4 v6 h1
  else
  f_X12_settles_460 n rec341 rec356 rec372 v0 v2 v3 v4 v6 h1
noncomputable def f_X12_settles_372b (n : Nat) (rec341 : Int → Int → MM → RR) (rec356 : Int → Int → MM → RR) (rec372 : Int → Int → MM → RR) (v0 v1 v2 v3 v4 v6 : Int) (h : MM) : RR :=
  if 20 ≤ v6 then
    lb (wr (v3 + 1)) fun x2 =>
    rec356 v1 x2 h
  else
  gf h v0 12 16 fun r3 =>
  gf h v0 12 18 fun r4 =>
  rd h r4 101 v3 fun r5 =>
  if lcm r5 0 = 0 then
    f_X12_settles_427 n rec341 rec356 rec372 v0 v1 v2 v3 v4 v6 r3 (wr ((wr (20 * v3)) + v6)) 0 h
  else
  gf h v0 12 14 fun r7 =>
  rd h r7 101 (wr ((wr (20 * v3)) + v6)) fun r8 =>
  gf h v0 12 18 fun r9 =>
  rd h r9 101 v3 fun r10 =>
  dz r10 <|
  f_X12_settles_427 n rec341 rec356 rec372 v0 v1 v2 v3 v4 v6 r3 (wr ((wr (20 * v3)) + v6)) (ldv (wl (v4 * r8)) r10) h
noncomputable def f_X12_settles_372 (n : Nat) (rec341 : Int → Int → MM → RR) (rec356 : Int → Int → MM → RR) (v0 v2 v3 v4 : Int) : Nat → Int → Int → MM → RR
  | 0, _, _, _ => none
  | k + 1, v1, v6, h => f_X12_settles_372b n rec341 rec356 (f_X12_settles_372 n rec341 rec356 v0 v2 v3 v4 k) v0 v1 v2 v3 v4 v6 h
noncomputable def f_X12_settles_356b (n : Nat) (rec341 : Int → Int → MM → RR) (rec356 : Int → Int → MM → RR) (v0 v1 v2 v3 : Int) (h : MM) : RR :=
  if 20 ≤ v3 then
    f_X12_settles_480 n rec341 v0 v1 v2 n 0 h
  else
  gk h v0 12 <|
  bd (f_X12_canPay n v0 v3 h) fun r2 h2 =>
  f_X12_settles_372 n rec341 rec356 v0 v2 v3 r2 n v1 0 h2
noncomputable def f_X12_settles_356 (n : Nat) (rec341 : Int → Int → MM → RR) (v0 v2 : Int) : Nat → Int → Int → MM → RR
  | 0, _, _, _ => none
  | k + 1, v1, v3, h => f_X12_settles_356b n rec341 (f_X12_settles_356 n rec341 v0 v2 k) v0 v1 v2 v3 h
noncomputable def f_X12_settles_341b (n : Nat) (rec341 : Int → Int → MM → RR) (v0 v1 v2 : Int) (h : MM) : RR :=
  if 300 ≤ v2 then
    f_X12_settles_511 n h
  else
  if v1 = 0 then
    f_X12_settles_511 n h
  else
  f_X12_settles_356 n rec341 v0 v2 n 0 0 h
noncomputable def f_X12_settles_341 (n : Nat)  (v0 : Int) : Nat → Int → Int → MM → RR
  | 0, _, _, _ => none
  | k + 1, v1, v2, h => f_X12_settles_341b n  (f_X12_settles_341 n  v0 k) v0 v1 v2 h
noncomputable def f_X12_settles_299b (n : Nat) (rec226 : Int → MM → RR) (rec299 : Int → MM → RR) (v0 v1 v2 : Int) (h : MM) : RR :=
  if 20 ≤ v2 then
    lb (wr (v1 + 1)) fun x2 =>
    rec226 x2 h
  else
  gf h v0 12 18 fun r3 =>
  rd h r3 101 v1 fun r4 =>
  gf h v0 12 14 fun r5 =>
  rd h r5 101 (wr ((wr (20 * v1)) + v2)) fun r6 =>
  wt h r3 101 v1 (wl (r4 + r6)) fun h7 =>
  lb (wr (v2 + 1)) fun x8 =>
  rec299 x8 h7
noncomputable def f_X12_settles_299 (n : Nat) (rec226 : Int → MM → RR) (v0 v1 : Int) : Nat → Int → MM → RR
  | 0, _, _ => none
  | k + 1, v2, h => f_X12_settles_299b n rec226 (f_X12_settles_299 n rec226 v0 v1 k) v0 v1 v2 h
noncomputable def f_X12_settles_289 (n : Nat) (rec226 : Int → MM → RR) (v0 v1 s0 s1 s2 : Int) (h : MM) : RR :=
  wt h s0 101 s1 s2 fun h1 =>
  gf h1 v0 12 18 fun r2 =>
  wt h1 r2 101 v1 0 fun h3 =>
  f_X12_settles_299 n rec226 v0 v1 n 0 h3
noncomputable def f_X12_settles_226b (n : Nat) (rec226 : Int → MM → RR) (v0 v1 : Int) (h : MM) : RR :=
  if 20 ≤ v1 then
    f_X12_settles_341 n v0 n 1 0 h
  else
  gf h v0 12 17 fun r2 =>
  if 8 ≤ v1 then
    gf h v0 12 1 fun r4 =>
    rd h r4 100 9 fun r5 =>
    if r5 ≤ wr (v1 - 8) then
      f_X12_settles_289 n rec226 v0 v1 r2 v1 0 h
    else
    gf h v0 12 1 fun r7 =>
    rd h r7 100 (wr ((wr (11502 + v1)) - 8)) fun r8 =>
    f_X12_settles_289 n rec226 v0 v1 r2 v1 r8 h
  else
  gf h v0 12 1 fun r9 =>
  rd h r9 100 (wr (192 + v1)) fun r10 =>
  f_X12_settles_289 n rec226 v0 v1 r2 v1 r10 h
noncomputable def f_X12_settles_226 (n : Nat)  (v0 : Int) : Nat → Int → MM → RR
  | 0, _, _ => none
  | k + 1, v1, h => f_X12_settles_226b n  (f_X12_settles_226 n  v0 k) v0 v1 h
noncomputable def f_X12_settles_218 (n : Nat) (rec31 : Int → MM → RR) (v0 v1 : Int) (h : MM) : RR :=
  lb (wr (v1 + 1)) fun x1 =>
  rec31 x1 h
noncomputable def f_X12_settles_141 (n : Nat) (rec31 : Int → MM → RR) (v0 v1 : Int) (h : MM) : RR :=
  gf h v0 12 1 fun r1 =>
  rd h r1 100 (wr (790 + v1)) fun r2 =>
  if r2 = 0 then
    gf h v0 12 1 fun r4 =>
    rd h r4 100 (wr (370 + v1)) fun r5 =>
    if r5 = 5 then
      gf h v0 12 14 fun r7 =>
      gf h v0 12 1 fun r8 =>
      rd h r8 100 (wr (430 + v1)) fun r9 =>
      gk h v0 12 <|
      bd (f_X12_indexOf n v0 r9 h) fun r10 h10 =>
      gf h10 v0 12 1 fun r11 =>
      rd h10 r11 100 (wr (550 + v1)) fun r12 =>
      rd h10 r7 101 (wr ((wr (20 * (wr (8 + r10)))) + r12)) fun r13 =>
      gf h10 v0 12 1 fun r14 =>
      rd h10 r14 100 (wr (730 + v1)) fun r15 =>
      wt h10 r7 101 (wr ((wr (20 * (wr (8 + r10)))) + r12)) (wl (r13 + r15)) fun h16 =>
      f_X12_settles_218 n rec31 v0 v1 h16
    else
    f_X12_settles_218 n rec31 v0 v1 h
  else
  f_X12_settles_218 n rec31 v0 v1 h
noncomputable def f_X12_settles_85b (n : Nat) (rec31 : Int → MM → RR) (rec85 : Int → MM → RR) (v0 v1 v2 v3 : Int) (h : MM) : RR :=
  if 8 ≤ v3 then
    f_X12_settles_141 n rec31 v0 v1 h
  else
  gf h v0 12 14 fun r2 =>
  rd h r2 101 (wr ((wr ((wr (20 * v3)) + 8)) + v2)) fun r3 =>
  gf h v0 12 1 fun r4 =>
  rd h r4 100 (wr (730 + v1)) fun r5 =>
  gf h v0 12 1 fun r6 =>
  rd h r6 100 (wr ((wr (11530 + (wr (9 * v2)))) + v3)) fun r7 =>
  wt h r2 101 (wr ((wr ((wr (20 * v3)) + 8)) + v2)) (wl (r3 + (wr (r5 * r7)))) fun h8 =>
  lb (wr (v3 + 1)) fun x9 =>
  rec85 x9 h8
noncomputable def f_X12_settles_85 (n : Nat) (rec31 : Int → MM → RR) (v0 v1 v2 : Int) : Nat → Int → MM → RR
  | 0, _, _ => none
  | k + 1, v3, h => f_X12_settles_85b n rec31 (f_X12_settles_85 n rec31 v0 v1 v2 k) v0 v1 v2 v3 h
noncomputable def f_X12_settles_31b (n : Nat) (rec31 : Int → MM → RR) (v0 v1 : Int) (h : MM) : RR :=
  gf h v0 12 1 fun r1 =>
  rd h r1 100 2 fun r2 =>
  if r2 ≤ v1 then
    f_X12_settles_226 n v0 n 0 h
  else
  gf h v0 12 1 fun r4 =>
  rd h r4 100 (wr (790 + v1)) fun r5 =>
  if r5 = 0 then
    gf h v0 12 1 fun r7 =>
    rd h r7 100 (wr (370 + v1)) fun r8 =>
    if r8 = 4 then
      gf h v0 12 1 fun r10 =>
      rd h r10 100 (wr (430 + v1)) fun r11 =>
      gk h v0 12 <|
      bd (f_X12_indexOf n v0 r11 h) fun r12 h12 =>
      f_X12_settles_85 n rec31 v0 v1 r12 n 0 h12
    else
    f_X12_settles_141 n rec31 v0 v1 h
  else
  f_X12_settles_141 n rec31 v0 v1 h
noncomputable def f_X12_settles_31 (n : Nat)  (v0 : Int) : Nat → Int → MM → RR
  | 0, _, _ => none
  | k + 1, v1, h => f_X12_settles_31b n  (f_X12_settles_31 n  v0 k) v0 v1 h
noncomputable def f_X12_settles_2b (n : Nat) (rec2 : Int → MM → RR) (v0 v1 : Int) (h : MM) : RR :=
  if 400 ≤ v1 then
    f_X12_settles_31 n v0 n 0 h
  else
  gf h v0 12 14 fun r2 =>
  wt h r2 101 v1 0 fun h3 =>
  gf h3 v0 12 15 fun r4 =>
  wt h3 r4 101 v1 0 fun h5 =>
  lb (wr (v1 + 1)) fun x6 =>
  rec2 x6 h5
noncomputable def f_X12_settles_2 (n : Nat)  (v0 : Int) : Nat → Int → MM → RR
  | 0, _, _ => none
  | k + 1, v1, h => f_X12_settles_2b n  (f_X12_settles_2 n  v0 k) v0 v1 h
noncomputable def f_X12_settles (n : Nat) (v0 : Int) (h : MM) : RR :=
  f_X12_settles_2 n v0 n 0 h
set_option maxRecDepth 20000 in
theorem b_X12_settles_511 {g : GT} {Z : Int × MM} {n : Nat} (C : Cx g cX12_settles 7 yX12_settles 1 24) (hr : Rt g none 3 Z)     {h : MM} (hf : f_X12_settles_511 n   h = some Z) : G g 511 [(3, 0), (3, 0), (3, 0), (3, 0), (3, 0), (3, 0), (3, 0)] [] h := by
  unfold f_X12_settles_511 at hf
  cases hf
  exact r_vret C hr dX12_settles_511
set_option maxRecDepth 20000 in
theorem b_X12_settles_480b {g : GT} {Z : Int × MM} {n : Nat} (C : Cx g cX12_settles 7 yX12_settles 1 24) (hr : Rt g none 3 Z) {v0 v1 v2 v3 : Int}  {rec341 : Int → Int → MM → RR} {rec480 : Int → MM → RR} (L341 : ∀ (u1 u2 : Int) (h : MM), in32 u1 → in32 u2 → rec341 u1 u2 h = some Z → G g 341 [(2, v0), (0, u1), (0, u2), (3, 0), (3, 0), (3, 0), (3, 0)] [] h) (L480 : ∀ (u3 : Int) (h : MM), in32 u3 → rec480 u3 h = some Z → G g 480 [(2, v0), (0, v1), (0, v2), (0, u3), (3, 0), (3, 0), (3, 0)] [] h) (cv1 : in32 v1) (cv2 : in32 v2) (cv3 : in32 v3) {h : MM} (hf : f_X12_settles_480b n rec341 rec480 v0 v1 v2 v3 h = some Z) : G g 480 [(2, v0), (0, v1), (0, v2), (0, v3), (3, 0), (3, 0), (3, 0)] [] h := by
  unfold f_X12_settles_480b at hf
  refine r_iload_n C dX12_settles_480 rfl ?_
  refine r_sipush C dX12_settles_481 rfl ?_
  refine r_icmp_ge C dX12_settles_484 (tgt := 505) (by decide) cv3 (in32_of rfl) (fun n1 => ?_) (fun n1 => ?_)
  · have hf := ite_p n1 hf
    obtain ⟨x2, e2, hf⟩ := lb_s hf
    have c2 : in32 x2 := by rw [e2]; exact (in32_t _)
    refine r_iincL C dX12_settles_505 rfl e2 (Nat.le_of_ble_eq_true rfl) rfl ?_
    refine r_goto C dX12_settles_508 (tgt := 341) (by decide) ?_
    exact G.mask [true, true, true, false, false, false, false] rfl rfl (L341 _ _ _ cv1 c2 hf)
  · have hf := ite_n n1 hf
    refine r_aload_n C dX12_settles_487 rfl ?_
    obtain ⟨q3, hf⟩ := gf_s hf
    refine r_gf C ct12 (j := 15) (ji := 15) dX12_settles_488 q3 rfl rfl (by decide) w_1440 rfl (fun c3 => ?_)
    refine r_iload_n C dX12_settles_491 rfl ?_
    refine r_aload_n C dX12_settles_492 rfl ?_
    obtain ⟨q4, hf⟩ := gf_s hf
    refine r_gf C ct12 (j := 16) (ji := 16) dX12_settles_493 q4 rfl rfl (by decide) w_1441 rfl (fun c4 => ?_)
    refine r_iload_n C dX12_settles_496 rfl ?_
    obtain ⟨q5, hf⟩ := rd_s hf
    refine r_lald C dX12_settles_497 q5 rfl (fun c5 => ?_)
    obtain ⟨q6, hf⟩ := wt_s hf
    refine r_last C dX12_settles_498 q6 rfl c5 ?_
    obtain ⟨x7, e7, hf⟩ := lb_s hf
    have c7 : in32 x7 := by rw [e7]; exact (in32_t _)
    refine r_iincL C dX12_settles_499 rfl e7 (Nat.le_of_ble_eq_true rfl) rfl ?_
    refine r_goto C dX12_settles_502 (tgt := 480) (by decide) ?_
    exact G.mask [true, true, true, true, false, false, false] rfl rfl (L480 _ _ c7 hf)
set_option maxRecDepth 20000 in
theorem l_X12_settles_480 {g : GT} {Z : Int × MM} {n : Nat} (C : Cx g cX12_settles 7 yX12_settles 1 24) (hr : Rt g none 3 Z) {v0 v1 v2 : Int} {rec341 : Int → Int → MM → RR} (L341 : ∀ (u1 u2 : Int) (h : MM), in32 u1 → in32 u2 → rec341 u1 u2 h = some Z → G g 341 [(2, v0), (0, u1), (0, u2), (3, 0), (3, 0), (3, 0), (3, 0)] [] h) (cv1 : in32 v1) (cv2 : in32 v2) : ∀ (k : Nat) (v3 : Int) (h : MM), in32 v3 → f_X12_settles_480 n rec341 v0 v1 v2 k v3 h = some Z → G g 480 [(2, v0), (0, v1), (0, v2), (0, v3), (3, 0), (3, 0), (3, 0)] [] h := by
  intro k
  induction k with
  | zero => intro v3 h cv3 hf; exact absurd hf (by intro z; cases z)
  | succ k ih => intro v3 h cv3 hf; exact b_X12_settles_480b C hr (rec480 := f_X12_settles_480 n rec341 v0 v1 v2 k) L341 ih cv1 cv2 cv3 (show f_X12_settles_480b n rec341 (f_X12_settles_480 n rec341 v0 v1 v2 k) v0 v1 v2 v3 h = some Z from hf)
set_option maxRecDepth 20000 in
theorem b_X12_settles_465 {g : GT} {Z : Int × MM} {n : Nat} (C : Cx g cX12_settles 7 yX12_settles 1 24) (hr : Rt g none 3 Z) {v0 v2 v3 v4 v6 s0 : Int}  {rec341 : Int → Int → MM → RR} {rec356 : Int → Int → MM → RR} {rec372 : Int → Int → MM → RR} (L341 : ∀ (u1 u2 : Int) (h : MM), in32 u1 → in32 u2 → rec341 u1 u2 h = some Z → G g 341 [(2, v0), (0, u1), (0, u2), (3, 0), (3, 0), (3, 0), (3, 0)] [] h) (L356 : ∀ (u1 u3 : Int) (h : MM), in32 u1 → in32 u3 → rec356 u1 u3 h = some Z → G g 356 [(2, v0), (0, u1), (0, v2), (0, u3), (3, 0), (3, 0), (3, 0)] [] h) (L372 : ∀ (u1 u6 : Int) (h : MM), in32 u1 → in32 u6 → rec372 u1 u6 h = some Z → G g 372 [(2, v0), (0, u1), (0, v2), (0, v3), (1, v4), (4, 0), (0, u6)] [] h) (cv2 : in32 v2) (cv3 : in32 v3) (cv4 : in64 v4) (cv6 : in32 v6) (cs0 : in32 s0) {h : MM} (hf : f_X12_settles_465 n rec341 rec356 rec372 v0 v2 v3 v4 v6 s0 h = some Z) : G g 465 [(2, v0), (3, 0), (0, v2), (0, v3), (1, v4), (4, 0), (0, v6)] [(0, s0)] h := by
  unfold f_X12_settles_465 at hf
  refine r_istore_n C dX12_settles_465 (Nat.le_of_ble_eq_true rfl) rfl ?_
  obtain ⟨x1, e1, hf⟩ := lb_s hf
  have c1 : in32 x1 := by rw [e1]; exact (in32_t _)
  refine r_iincL C dX12_settles_466 rfl e1 (Nat.le_of_ble_eq_true rfl) rfl ?_
  refine r_goto C dX12_settles_469 (tgt := 372) (by decide) ?_
  exact G.mask [true, true, true, true, true, true, true] rfl rfl (L372 _ _ _ cs0 c1 hf)
set_option maxRecDepth 20000 in
theorem b_X12_settles_460 {g : GT} {Z : Int × MM} {n : Nat} (C : Cx g cX12_settles 7 yX12_settles 1 24) (hr : Rt g none 3 Z) {v0 v2 v3 v4 v6 : Int}  {rec341 : Int → Int → MM → RR} {rec356 : Int → Int → MM → RR} {rec372 : Int → Int → MM → RR} (L341 : ∀ (u1 u2 : Int) (h : MM), in32 u1 → in32 u2 → rec341 u1 u2 h = some Z → G g 341 [(2, v0), (0, u1), (0, u2), (3, 0), (3, 0), (3, 0), (3, 0)] [] h) (L356 : ∀ (u1 u3 : Int) (h : MM), in32 u1 → in32 u3 → rec356 u1 u3 h = some Z → G g 356 [(2, v0), (0, u1), (0, v2), (0, u3), (3, 0), (3, 0), (3, 0)] [] h) (L372 : ∀ (u1 u6 : Int) (h : MM), in32 u1 → in32 u6 → rec372 u1 u6 h = some Z → G g 372 [(2, v0), (0, u1), (0, v2), (0, v3), (1, v4), (4, 0), (0, u6)] [] h) (cv2 : in32 v2) (cv3 : in32 v3) (cv4 : in64 v4) (cv6 : in32 v6) {h : MM} (hf : f_X12_settles_460 n rec341 rec356 rec372 v0 v2 v3 v4 v6 h = some Z) : G g 460 [(2, v0), (3, 0), (0, v2), (0, v3), (1, v4), (4, 0), (0, v6)] [] h := by
  unfold f_X12_settles_460 at hf
  refine r_iconst C dX12_settles_460 ?_
  refine r_goto C dX12_settles_461 (tgt := 465) (by decide) ?_
  exact G.mask [true, false, true, true, true, true, true] rfl rfl (b_X12_settles_465 C hr L341 L356 L372 cv2 cv3 cv4 cv6 (in32_of rfl) hf)
set_option maxRecDepth 20000 in
theorem b_X12_settles_427 {g : GT} {Z : Int × MM} {n : Nat} (C : Cx g cX12_settles 7 yX12_settles 1 24) (hr : Rt g none 3 Z) {v0 v1 v2 v3 v4 v6 s0 s1 s2 : Int}  {rec341 : Int → Int → MM → RR} {rec356 : Int → Int → MM → RR} {rec372 : Int → Int → MM → RR} (L341 : ∀ (u1 u2 : Int) (h : MM), in32 u1 → in32 u2 → rec341 u1 u2 h = some Z → G g 341 [(2, v0), (0, u1), (0, u2), (3, 0), (3, 0), (3, 0), (3, 0)] [] h) (L356 : ∀ (u1 u3 : Int) (h : MM), in32 u1 → in32 u3 → rec356 u1 u3 h = some Z → G g 356 [(2, v0), (0, u1), (0, v2), (0, u3), (3, 0), (3, 0), (3, 0)] [] h) (L372 : ∀ (u1 u6 : Int) (h : MM), in32 u1 → in32 u6 → rec372 u1 u6 h = some Z → G g 372 [(2, v0), (0, u1), (0, v2), (0, v3), (1, v4), (4, 0), (0, u6)] [] h) (cv1 : in32 v1) (cv2 : in32 v2) (cv3 : in32 v3) (cv4 : in64 v4) (cv6 : in32 v6) (cs1 : in32 s1) (cs2 : in64 s2) {h : MM} (hf : f_X12_settles_427 n rec341 rec356 rec372 v0 v1 v2 v3 v4 v6 s0 s1 s2 h = some Z) : G g 427 [(2, v0), (0, v1), (0, v2), (0, v3), (1, v4), (4, 0), (0, v6)] [(1, s2), (0, s1), (2, s0)] h := by
  unfold f_X12_settles_427 at hf
  obtain ⟨q1, hf⟩ := wt_s hf
  refine r_last C dX12_settles_427 q1 rfl cs2 ?_
  refine r_iload_n C dX12_settles_428 rfl ?_
  refine r_if_ne C dX12_settles_429 (tgt := 460) (by decide) cv1 (fun n2 => ?_) (fun n2 => ?_)
  · have hf := ite_n n2 hf
    exact G.mask [true, false, true, true, true, true, true] rfl rfl (b_X12_settles_460 C hr L341 L356 L372 cv2 cv3 cv4 cv6 hf)
  · have hf := ite_p n2 hf
    refine r_aload_n C dX12_settles_432 rfl ?_
    obtain ⟨q3, hf⟩ := gf_s hf
    refine r_gf C ct12 (j := 16) (ji := 16) dX12_settles_433 q3 rfl rfl (by decide) w_1441 rfl (fun c3 => ?_)
    refine r_bipush C dX12_settles_436 rfl ?_
    refine r_iload_n C dX12_settles_438 rfl ?_
    refine r_imul C dX12_settles_439 ?_
    refine r_iload C dX12_settles_440 rfl ?_
    refine r_iadd C dX12_settles_442 ?_
    obtain ⟨q4, hf⟩ := rd_s hf
    refine r_lald C dX12_settles_443 q4 rfl (fun c4 => ?_)
    refine r_aload_n C dX12_settles_444 rfl ?_
    obtain ⟨q5, hf⟩ := gf_s hf
    refine r_gf C ct12 (j := 15) (ji := 15) dX12_settles_445 q5 rfl rfl (by decide) w_1440 rfl (fun c5 => ?_)
    refine r_bipush C dX12_settles_448 rfl ?_
    refine r_iload_n C dX12_settles_450 rfl ?_
    refine r_imul C dX12_settles_451 ?_
    refine r_iload C dX12_settles_452 rfl ?_
    refine r_iadd C dX12_settles_454 ?_
    obtain ⟨q6, hf⟩ := rd_s hf
    refine r_lald C dX12_settles_455 q6 rfl (fun c6 => ?_)
    refine r_lcmp C dX12_settles_456 ?_
    refine r_if_eq C dX12_settles_457 (tgt := 464) (by decide) (in32_t _) (fun n7 => ?_) (fun n7 => ?_)
    · have hf := ite_p n7 hf
      refine r_iconst C dX12_settles_464 ?_
      exact G.mask [true, false, true, true, true, true, true] rfl rfl (b_X12_settles_465 C hr L341 L356 L372 cv2 cv3 cv4 cv6 (in32_of rfl) hf)
    · have hf := ite_n n7 hf
      exact G.mask [true, false, true, true, true, true, true] rfl rfl (b_X12_settles_460 C hr L341 L356 L372 cv2 cv3 cv4 cv6 hf)
set_option maxRecDepth 20000 in
theorem b_X12_settles_372b {g : GT} {Z : Int × MM} {n : Nat} (C : Cx g cX12_settles 7 yX12_settles 1 24) (hr : Rt g none 3 Z) {v0 v1 v2 v3 v4 v6 : Int}  {rec341 : Int → Int → MM → RR} {rec356 : Int → Int → MM → RR} {rec372 : Int → Int → MM → RR} (L341 : ∀ (u1 u2 : Int) (h : MM), in32 u1 → in32 u2 → rec341 u1 u2 h = some Z → G g 341 [(2, v0), (0, u1), (0, u2), (3, 0), (3, 0), (3, 0), (3, 0)] [] h) (L356 : ∀ (u1 u3 : Int) (h : MM), in32 u1 → in32 u3 → rec356 u1 u3 h = some Z → G g 356 [(2, v0), (0, u1), (0, v2), (0, u3), (3, 0), (3, 0), (3, 0)] [] h) (L372 : ∀ (u1 u6 : Int) (h : MM), in32 u1 → in32 u6 → rec372 u1 u6 h = some Z → G g 372 [(2, v0), (0, u1), (0, v2), (0, v3), (1, v4), (4, 0), (0, u6)] [] h) (cv1 : in32 v1) (cv2 : in32 v2) (cv3 : in32 v3) (cv4 : in64 v4) (cv6 : in32 v6) {h : MM} (hf : f_X12_settles_372b n rec341 rec356 rec372 v0 v1 v2 v3 v4 v6 h = some Z) : G g 372 [(2, v0), (0, v1), (0, v2), (0, v3), (1, v4), (4, 0), (0, v6)] [] h := by
  unfold f_X12_settles_372b at hf
  refine r_iload C dX12_settles_372 rfl ?_
  refine r_bipush C dX12_settles_374 rfl ?_
  refine r_icmp_ge C dX12_settles_376 (tgt := 472) (by decide) cv6 (in32_of rfl) (fun n1 => ?_) (fun n1 => ?_)
  · have hf := ite_p n1 hf
    obtain ⟨x2, e2, hf⟩ := lb_s hf
    have c2 : in32 x2 := by rw [e2]; exact (in32_t _)
    refine r_iincL C dX12_settles_472 rfl e2 (Nat.le_of_ble_eq_true rfl) rfl ?_
    refine r_goto C dX12_settles_475 (tgt := 356) (by decide) ?_
    exact G.mask [true, true, true, true, false, false, false] rfl rfl (L356 _ _ _ cv1 c2 hf)
  · have hf := ite_n n1 hf
    refine r_aload_n C dX12_settles_379 rfl ?_
    obtain ⟨q3, hf⟩ := gf_s hf
    refine r_gf C ct12 (j := 16) (ji := 16) dX12_settles_380 q3 rfl rfl (by decide) w_1441 rfl (fun c3 => ?_)
    refine r_bipush C dX12_settles_383 rfl ?_
    refine r_iload_n C dX12_settles_385 rfl ?_
    refine r_imul C dX12_settles_386 ?_
    refine r_iload C dX12_settles_387 rfl ?_
    refine r_iadd C dX12_settles_389 ?_
    refine r_aload_n C dX12_settles_390 rfl ?_
    obtain ⟨q4, hf⟩ := gf_s hf
    refine r_gf C ct12 (j := 18) (ji := 18) dX12_settles_391 q4 rfl rfl (by decide) w_1443 rfl (fun c4 => ?_)
    refine r_iload_n C dX12_settles_394 rfl ?_
    obtain ⟨q5, hf⟩ := rd_s hf
    refine r_lald C dX12_settles_395 q5 rfl (fun c5 => ?_)
    refine r_lconst C (v := 0) dX12_settles_396 rfl ?_
    refine r_lcmp C dX12_settles_397 ?_
    refine r_if_ne C dX12_settles_398 (tgt := 405) (by decide) (in32_t _) (fun n6 => ?_) (fun n6 => ?_)
    · have hf := ite_n n6 hf
      refine r_lload C dX12_settles_405 rfl ?_
      refine r_aload_n C dX12_settles_407 rfl ?_
      obtain ⟨q7, hf⟩ := gf_s hf
      refine r_gf C ct12 (j := 14) (ji := 14) dX12_settles_408 q7 rfl rfl (by decide) w_1439 rfl (fun c7 => ?_)
      refine r_bipush C dX12_settles_411 rfl ?_
      refine r_iload_n C dX12_settles_413 rfl ?_
      refine r_imul C dX12_settles_414 ?_
      refine r_iload C dX12_settles_415 rfl ?_
      refine r_iadd C dX12_settles_417 ?_
      obtain ⟨q8, hf⟩ := rd_s hf
      refine r_lald C dX12_settles_418 q8 rfl (fun c8 => ?_)
      refine r_lmul C dX12_settles_419 ?_
      refine r_aload_n C dX12_settles_420 rfl ?_
      obtain ⟨q9, hf⟩ := gf_s hf
      refine r_gf C ct12 (j := 18) (ji := 18) dX12_settles_421 q9 rfl rfl (by decide) w_1443 rfl (fun c9 => ?_)
      refine r_iload_n C dX12_settles_424 rfl ?_
      obtain ⟨q10, hf⟩ := rd_s hf
      refine r_lald C dX12_settles_425 q10 rfl (fun c10 => ?_)
      obtain ⟨q11, hf⟩ := dz_s hf
      refine r_ldiv C dX12_settles_426 c10 q11 ?_
      exact G.mask [true, true, true, true, true, true, true] rfl rfl (b_X12_settles_427 C hr L341 L356 L372 cv1 cv2 cv3 cv4 cv6 (in32_t _) (in64_t _) hf)
    · have hf := ite_p n6 hf
      refine r_lconst C (v := 0) dX12_settles_401 rfl ?_
      refine r_goto C dX12_settles_402 (tgt := 427) (by decide) ?_
      exact G.mask [true, true, true, true, true, true, true] rfl rfl (b_X12_settles_427 C hr L341 L356 L372 cv1 cv2 cv3 cv4 cv6 (in32_t _) (in64_of rfl) hf)
set_option maxRecDepth 20000 in
theorem l_X12_settles_372 {g : GT} {Z : Int × MM} {n : Nat} (C : Cx g cX12_settles 7 yX12_settles 1 24) (hr : Rt g none 3 Z) {v0 v2 v3 v4 : Int} {rec341 : Int → Int → MM → RR} {rec356 : Int → Int → MM → RR} (L341 : ∀ (u1 u2 : Int) (h : MM), in32 u1 → in32 u2 → rec341 u1 u2 h = some Z → G g 341 [(2, v0), (0, u1), (0, u2), (3, 0), (3, 0), (3, 0), (3, 0)] [] h) (L356 : ∀ (u1 u3 : Int) (h : MM), in32 u1 → in32 u3 → rec356 u1 u3 h = some Z → G g 356 [(2, v0), (0, u1), (0, v2), (0, u3), (3, 0), (3, 0), (3, 0)] [] h) (cv2 : in32 v2) (cv3 : in32 v3) (cv4 : in64 v4) : ∀ (k : Nat) (v1 v6 : Int) (h : MM), in32 v1 → in32 v6 → f_X12_settles_372 n rec341 rec356 v0 v2 v3 v4 k v1 v6 h = some Z → G g 372 [(2, v0), (0, v1), (0, v2), (0, v3), (1, v4), (4, 0), (0, v6)] [] h := by
  intro k
  induction k with
  | zero => intro v1 v6 h cv1 cv6 hf; exact absurd hf (by intro z; cases z)
  | succ k ih => intro v1 v6 h cv1 cv6 hf; exact b_X12_settles_372b C hr (rec372 := f_X12_settles_372 n rec341 rec356 v0 v2 v3 v4 k) L341 L356 ih cv1 cv2 cv3 cv4 cv6 (show f_X12_settles_372b n rec341 rec356 (f_X12_settles_372 n rec341 rec356 v0 v2 v3 v4 k) v0 v1 v2 v3 v4 v6 h = some Z from hf)
set_option maxRecDepth 20000 in
theorem b_X12_settles_356b {g : GT} {Z : Int × MM} {n : Nat} (C : Cx g cX12_settles 7 yX12_settles 1 24) (hr : Rt g none 3 Z) {v0 v1 v2 v3 : Int}  {rec341 : Int → Int → MM → RR} {rec356 : Int → Int → MM → RR} (L341 : ∀ (u1 u2 : Int) (h : MM), in32 u1 → in32 u2 → rec341 u1 u2 h = some Z → G g 341 [(2, v0), (0, u1), (0, u2), (3, 0), (3, 0), (3, 0), (3, 0)] [] h) (L356 : ∀ (u1 u3 : Int) (h : MM), in32 u1 → in32 u3 → rec356 u1 u3 h = some Z → G g 356 [(2, v0), (0, u1), (0, v2), (0, u3), (3, 0), (3, 0), (3, 0)] [] h) (cv1 : in32 v1) (cv2 : in32 v2) (cv3 : in32 v3) {h : MM} (hf : f_X12_settles_356b n rec341 rec356 v0 v1 v2 v3 h = some Z) : G g 356 [(2, v0), (0, v1), (0, v2), (0, v3), (3, 0), (3, 0), (3, 0)] [] h := by
  unfold f_X12_settles_356b at hf
  refine r_iload_n C dX12_settles_356 rfl ?_
  refine r_bipush C dX12_settles_357 rfl ?_
  refine r_icmp_ge C dX12_settles_359 (tgt := 478) (by decide) cv3 (in32_of rfl) (fun n1 => ?_) (fun n1 => ?_)
  · have hf := ite_p n1 hf
    refine r_iconst C dX12_settles_478 ?_
    refine r_istore_n C dX12_settles_479 (Nat.le_of_ble_eq_true rfl) rfl ?_
    exact G.mask [true, true, true, true, false, false, false] rfl rfl (l_X12_settles_480 C hr L341 cv1 cv2 _ _ _ (in32_of rfl) hf)
  · have hf := ite_n n1 hf
    refine r_aload_n C dX12_settles_362 rfl ?_
    refine r_iload_n C dX12_settles_363 rfl ?_
    obtain ⟨p2, hf⟩ := gk_s hf
    obtain ⟨r2, h2, hq2, hf⟩ := bd_s hf
    refine r_cV1 C (am_X12_canPay (gl g) n) cm_X12_canPay w_1821 dX12_settles_364 ⟨Nat.le_of_ble_eq_true rfl, Nat.le_of_ble_eq_true rfl⟩ p2 rfl cv3 rfl (Nat.le_of_ble_eq_true rfl) hq2 (by decide) (fun c2 => ?_)
    have c2 : in64 _ := c2
    refine r_lstore C dX12_settles_367 (Nat.le_of_ble_eq_true rfl) rfl ?_
    refine r_iconst C dX12_settles_369 ?_
    refine r_istore C dX12_settles_370 (Nat.le_of_ble_eq_true rfl) rfl ?_
    exact G.mask [true, true, true, true, true, true, true] rfl rfl (l_X12_settles_372 C hr L341 L356 cv2 cv3 c2 _ _ _ _ cv1 (in32_of rfl) hf)
set_option maxRecDepth 20000 in
theorem l_X12_settles_356 {g : GT} {Z : Int × MM} {n : Nat} (C : Cx g cX12_settles 7 yX12_settles 1 24) (hr : Rt g none 3 Z) {v0 v2 : Int} {rec341 : Int → Int → MM → RR} (L341 : ∀ (u1 u2 : Int) (h : MM), in32 u1 → in32 u2 → rec341 u1 u2 h = some Z → G g 341 [(2, v0), (0, u1), (0, u2), (3, 0), (3, 0), (3, 0), (3, 0)] [] h) (cv2 : in32 v2) : ∀ (k : Nat) (v1 v3 : Int) (h : MM), in32 v1 → in32 v3 → f_X12_settles_356 n rec341 v0 v2 k v1 v3 h = some Z → G g 356 [(2, v0), (0, v1), (0, v2), (0, v3), (3, 0), (3, 0), (3, 0)] [] h := by
  intro k
  induction k with
  | zero => intro v1 v3 h cv1 cv3 hf; exact absurd hf (by intro z; cases z)
  | succ k ih => intro v1 v3 h cv1 cv3 hf; exact b_X12_settles_356b C hr (rec356 := f_X12_settles_356 n rec341 v0 v2 k) L341 ih cv1 cv2 cv3 (show f_X12_settles_356b n rec341 (f_X12_settles_356 n rec341 v0 v2 k) v0 v1 v2 v3 h = some Z from hf)
set_option maxRecDepth 20000 in
theorem b_X12_settles_341b {g : GT} {Z : Int × MM} {n : Nat} (C : Cx g cX12_settles 7 yX12_settles 1 24) (hr : Rt g none 3 Z) {v0 v1 v2 : Int}  {rec341 : Int → Int → MM → RR} (L341 : ∀ (u1 u2 : Int) (h : MM), in32 u1 → in32 u2 → rec341 u1 u2 h = some Z → G g 341 [(2, v0), (0, u1), (0, u2), (3, 0), (3, 0), (3, 0), (3, 0)] [] h) (cv1 : in32 v1) (cv2 : in32 v2) {h : MM} (hf : f_X12_settles_341b n rec341 v0 v1 v2 h = some Z) : G g 341 [(2, v0), (0, v1), (0, v2), (3, 0), (3, 0), (3, 0), (3, 0)] [] h := by
  unfold f_X12_settles_341b at hf
  refine r_iload_n C dX12_settles_341 rfl ?_
  refine r_sipush C dX12_settles_342 rfl ?_
  refine r_icmp_ge C dX12_settles_345 (tgt := 511) (by decide) cv2 (in32_of rfl) (fun n1 => ?_) (fun n1 => ?_)
  · have hf := ite_p n1 hf
    exact G.mask [false, false, false, false, false, false, false] rfl rfl (b_X12_settles_511 C hr   hf)
  · have hf := ite_n n1 hf
    refine r_iload_n C dX12_settles_348 rfl ?_
    refine r_if_eq C dX12_settles_349 (tgt := 511) (by decide) cv1 (fun n2 => ?_) (fun n2 => ?_)
    · have hf := ite_p n2 hf
      exact G.mask [false, false, false, false, false, false, false] rfl rfl (b_X12_settles_511 C hr   hf)
    · have hf := ite_n n2 hf
      refine r_iconst C dX12_settles_352 ?_
      refine r_istore_n C dX12_settles_353 (Nat.le_of_ble_eq_true rfl) rfl ?_
      refine r_iconst C dX12_settles_354 ?_
      refine r_istore_n C dX12_settles_355 (Nat.le_of_ble_eq_true rfl) rfl ?_
      exact G.mask [true, true, true, true, false, false, false] rfl rfl (l_X12_settles_356 C hr L341 cv2 _ _ _ _ (in32_of rfl) (in32_of rfl) hf)
set_option maxRecDepth 20000 in
theorem l_X12_settles_341 {g : GT} {Z : Int × MM} {n : Nat} (C : Cx g cX12_settles 7 yX12_settles 1 24) (hr : Rt g none 3 Z) {v0 : Int}    : ∀ (k : Nat) (v1 v2 : Int) (h : MM), in32 v1 → in32 v2 → f_X12_settles_341 n  v0 k v1 v2 h = some Z → G g 341 [(2, v0), (0, v1), (0, v2), (3, 0), (3, 0), (3, 0), (3, 0)] [] h := by
  intro k
  induction k with
  | zero => intro v1 v2 h cv1 cv2 hf; exact absurd hf (by intro z; cases z)
  | succ k ih => intro v1 v2 h cv1 cv2 hf; exact b_X12_settles_341b C hr (rec341 := f_X12_settles_341 n  v0 k)  ih cv1 cv2 (show f_X12_settles_341b n  (f_X12_settles_341 n  v0 k) v0 v1 v2 h = some Z from hf)
set_option maxRecDepth 20000 in
theorem b_X12_settles_299b {g : GT} {Z : Int × MM} {n : Nat} (C : Cx g cX12_settles 7 yX12_settles 1 24) (hr : Rt g none 3 Z) {v0 v1 v2 : Int}  {rec226 : Int → MM → RR} {rec299 : Int → MM → RR} (L226 : ∀ (u1 : Int) (h : MM), in32 u1 → rec226 u1 h = some Z → G g 226 [(2, v0), (0, u1), (3, 0), (3, 0), (3, 0), (3, 0), (3, 0)] [] h) (L299 : ∀ (u2 : Int) (h : MM), in32 u2 → rec299 u2 h = some Z → G g 299 [(2, v0), (0, v1), (0, u2), (3, 0), (3, 0), (3, 0), (3, 0)] [] h) (cv1 : in32 v1) (cv2 : in32 v2) {h : MM} (hf : f_X12_settles_299b n rec226 rec299 v0 v1 v2 h = some Z) : G g 299 [(2, v0), (0, v1), (0, v2), (3, 0), (3, 0), (3, 0), (3, 0)] [] h := by
  unfold f_X12_settles_299b at hf
  refine r_iload_n C dX12_settles_299 rfl ?_
  refine r_bipush C dX12_settles_300 rfl ?_
  refine r_icmp_ge C dX12_settles_302 (tgt := 331) (by decide) cv2 (in32_of rfl) (fun n1 => ?_) (fun n1 => ?_)
  · have hf := ite_p n1 hf
    obtain ⟨x2, e2, hf⟩ := lb_s hf
    have c2 : in32 x2 := by rw [e2]; exact (in32_t _)
    refine r_iincL C dX12_settles_331 rfl e2 (Nat.le_of_ble_eq_true rfl) rfl ?_
    refine r_goto C dX12_settles_334 (tgt := 226) (by decide) ?_
    exact G.mask [true, true, false, false, false, false, false] rfl rfl (L226 _ _ c2 hf)
  · have hf := ite_n n1 hf
    refine r_aload_n C dX12_settles_305 rfl ?_
    obtain ⟨q3, hf⟩ := gf_s hf
    refine r_gf C ct12 (j := 18) (ji := 18) dX12_settles_306 q3 rfl rfl (by decide) w_1443 rfl (fun c3 => ?_)
    refine r_iload_n C dX12_settles_309 rfl ?_
    refine r_dup2 C dX12_settles_310 (by decide) (by decide) ?_
    obtain ⟨q4, hf⟩ := rd_s hf
    refine r_lald C dX12_settles_311 q4 rfl (fun c4 => ?_)
    refine r_aload_n C dX12_settles_312 rfl ?_
    obtain ⟨q5, hf⟩ := gf_s hf
    refine r_gf C ct12 (j := 14) (ji := 14) dX12_settles_313 q5 rfl rfl (by decide) w_1439 rfl (fun c5 => ?_)
    refine r_bipush C dX12_settles_316 rfl ?_
    refine r_iload_n C dX12_settles_318 rfl ?_
    refine r_imul C dX12_settles_319 ?_
    refine r_iload_n C dX12_settles_320 rfl ?_
    refine r_iadd C dX12_settles_321 ?_
    obtain ⟨q6, hf⟩ := rd_s hf
    refine r_lald C dX12_settles_322 q6 rfl (fun c6 => ?_)
    refine r_ladd C dX12_settles_323 ?_
    obtain ⟨q7, hf⟩ := wt_s hf
    refine r_last C dX12_settles_324 q7 rfl (in64_t _) ?_
    obtain ⟨x8, e8, hf⟩ := lb_s hf
    have c8 : in32 x8 := by rw [e8]; exact (in32_t _)
    refine r_iincL C dX12_settles_325 rfl e8 (Nat.le_of_ble_eq_true rfl) rfl ?_
    refine r_goto C dX12_settles_328 (tgt := 299) (by decide) ?_
    exact G.mask [true, true, true, false, false, false, false] rfl rfl (L299 _ _ c8 hf)
set_option maxRecDepth 20000 in
theorem l_X12_settles_299 {g : GT} {Z : Int × MM} {n : Nat} (C : Cx g cX12_settles 7 yX12_settles 1 24) (hr : Rt g none 3 Z) {v0 v1 : Int} {rec226 : Int → MM → RR} (L226 : ∀ (u1 : Int) (h : MM), in32 u1 → rec226 u1 h = some Z → G g 226 [(2, v0), (0, u1), (3, 0), (3, 0), (3, 0), (3, 0), (3, 0)] [] h) (cv1 : in32 v1) : ∀ (k : Nat) (v2 : Int) (h : MM), in32 v2 → f_X12_settles_299 n rec226 v0 v1 k v2 h = some Z → G g 299 [(2, v0), (0, v1), (0, v2), (3, 0), (3, 0), (3, 0), (3, 0)] [] h := by
  intro k
  induction k with
  | zero => intro v2 h cv2 hf; exact absurd hf (by intro z; cases z)
  | succ k ih => intro v2 h cv2 hf; exact b_X12_settles_299b C hr (rec299 := f_X12_settles_299 n rec226 v0 v1 k) L226 ih cv1 cv2 (show f_X12_settles_299b n rec226 (f_X12_settles_299 n rec226 v0 v1 k) v0 v1 v2 h = some Z from hf)
set_option maxRecDepth 20000 in
theorem b_X12_settles_289 {g : GT} {Z : Int × MM} {n : Nat} (C : Cx g cX12_settles 7 yX12_settles 1 24) (hr : Rt g none 3 Z) {v0 v1 s0 s1 s2 : Int}  {rec226 : Int → MM → RR} (L226 : ∀ (u1 : Int) (h : MM), in32 u1 → rec226 u1 h = some Z → G g 226 [(2, v0), (0, u1), (3, 0), (3, 0), (3, 0), (3, 0), (3, 0)] [] h) (cv1 : in32 v1) (cs1 : in32 s1) (cs2 : in64 s2) {h : MM} (hf : f_X12_settles_289 n rec226 v0 v1 s0 s1 s2 h = some Z) : G g 289 [(2, v0), (0, v1), (3, 0), (3, 0), (3, 0), (3, 0), (3, 0)] [(1, s2), (0, s1), (2, s0)] h := by
  unfold f_X12_settles_289 at hf
  obtain ⟨q1, hf⟩ := wt_s hf
  refine r_last C dX12_settles_289 q1 rfl cs2 ?_
  refine r_aload_n C dX12_settles_290 rfl ?_
  obtain ⟨q2, hf⟩ := gf_s hf
  refine r_gf C ct12 (j := 18) (ji := 18) dX12_settles_291 q2 rfl rfl (by decide) w_1443 rfl (fun c2 => ?_)
  refine r_iload_n C dX12_settles_294 rfl ?_
  refine r_lconst C (v := 0) dX12_settles_295 rfl ?_
  obtain ⟨q3, hf⟩ := wt_s hf
  refine r_last C dX12_settles_296 q3 rfl (in64_of rfl) ?_
  refine r_iconst C dX12_settles_297 ?_
  refine r_istore_n C dX12_settles_298 (Nat.le_of_ble_eq_true rfl) rfl ?_
  exact G.mask [true, true, true, false, false, false, false] rfl rfl (l_X12_settles_299 C hr L226 cv1 _ _ _ (in32_of rfl) hf)
set_option maxRecDepth 20000 in
theorem b_X12_settles_226b {g : GT} {Z : Int × MM} {n : Nat} (C : Cx g cX12_settles 7 yX12_settles 1 24) (hr : Rt g none 3 Z) {v0 v1 : Int}  {rec226 : Int → MM → RR} (L226 : ∀ (u1 : Int) (h : MM), in32 u1 → rec226 u1 h = some Z → G g 226 [(2, v0), (0, u1), (3, 0), (3, 0), (3, 0), (3, 0), (3, 0)] [] h) (cv1 : in32 v1) {h : MM} (hf : f_X12_settles_226b n rec226 v0 v1 h = some Z) : G g 226 [(2, v0), (0, v1), (3, 0), (3, 0), (3, 0), (3, 0), (3, 0)] [] h := by
  unfold f_X12_settles_226b at hf
  refine r_iload_n C dX12_settles_226 rfl ?_
  refine r_bipush C dX12_settles_227 rfl ?_
  refine r_icmp_ge C dX12_settles_229 (tgt := 337) (by decide) cv1 (in32_of rfl) (fun n1 => ?_) (fun n1 => ?_)
  · have hf := ite_p n1 hf
    refine r_iconst C dX12_settles_337 ?_
    refine r_istore_n C dX12_settles_338 (Nat.le_of_ble_eq_true rfl) rfl ?_
    refine r_iconst C dX12_settles_339 ?_
    refine r_istore_n C dX12_settles_340 (Nat.le_of_ble_eq_true rfl) rfl ?_
    exact G.mask [true, true, true, false, false, false, false] rfl rfl (l_X12_settles_341 C hr   _ _ _ _ (in32_of rfl) (in32_of rfl) hf)
  · have hf := ite_n n1 hf
    refine r_aload_n C dX12_settles_232 rfl ?_
    obtain ⟨q2, hf⟩ := gf_s hf
    refine r_gf C ct12 (j := 17) (ji := 17) dX12_settles_233 q2 rfl rfl (by decide) w_1442 rfl (fun c2 => ?_)
    refine r_iload_n C dX12_settles_236 rfl ?_
    refine r_iload_n C dX12_settles_237 rfl ?_
    refine r_bipush C dX12_settles_238 rfl ?_
    refine r_icmp_ge C dX12_settles_240 (tgt := 257) (by decide) cv1 (in32_of rfl) (fun n3 => ?_) (fun n3 => ?_)
    · have hf := ite_p n3 hf
      refine r_iload_n C dX12_settles_257 rfl ?_
      refine r_bipush C dX12_settles_258 rfl ?_
      refine r_isub C dX12_settles_260 ?_
      refine r_aload_n C dX12_settles_261 rfl ?_
      obtain ⟨q4, hf⟩ := gf_s hf
      refine r_gf C ct12 (j := 1) (ji := 1) dX12_settles_262 q4 rfl rfl (by decide) w_1426 rfl (fun c4 => ?_)
      refine r_bipush C dX12_settles_265 rfl ?_
      obtain ⟨q5, hf⟩ := rd_s hf
      refine r_iald C dX12_settles_267 q5 rfl (fun c5 => ?_)
      refine r_icmp_ge C dX12_settles_268 (tgt := 288) (by decide) (in32_t _) c5 (fun n6 => ?_) (fun n6 => ?_)
      · have hf := ite_p n6 hf
        refine r_lconst C (v := 0) dX12_settles_288 rfl ?_
        exact G.mask [true, true, false, false, false, false, false] rfl rfl (b_X12_settles_289 C hr L226 cv1 cv1 (in64_of rfl) hf)
      · have hf := ite_n n6 hf
        refine r_aload_n C dX12_settles_271 rfl ?_
        obtain ⟨q7, hf⟩ := gf_s hf
        refine r_gf C ct12 (j := 1) (ji := 1) dX12_settles_272 q7 rfl rfl (by decide) w_1426 rfl (fun c7 => ?_)
        refine r_sipush C dX12_settles_275 rfl ?_
        refine r_iload_n C dX12_settles_278 rfl ?_
        refine r_iadd C dX12_settles_279 ?_
        refine r_bipush C dX12_settles_280 rfl ?_
        refine r_isub C dX12_settles_282 ?_
        obtain ⟨q8, hf⟩ := rd_s hf
        refine r_iald C dX12_settles_283 q8 rfl (fun c8 => ?_)
        refine r_i2l C dX12_settles_284 c8 ?_
        refine r_goto C dX12_settles_285 (tgt := 289) (by decide) ?_
        exact G.mask [true, true, false, false, false, false, false] rfl rfl (b_X12_settles_289 C hr L226 cv1 cv1 (in64_i c8) hf)
    · have hf := ite_n n3 hf
      refine r_aload_n C dX12_settles_243 rfl ?_
      obtain ⟨q9, hf⟩ := gf_s hf
      refine r_gf C ct12 (j := 1) (ji := 1) dX12_settles_244 q9 rfl rfl (by decide) w_1426 rfl (fun c9 => ?_)
      refine r_sipush C dX12_settles_247 rfl ?_
      refine r_iload_n C dX12_settles_250 rfl ?_
      refine r_iadd C dX12_settles_251 ?_
      obtain ⟨q10, hf⟩ := rd_s hf
      refine r_iald C dX12_settles_252 q10 rfl (fun c10 => ?_)
      refine r_i2l C dX12_settles_253 c10 ?_
      refine r_goto C dX12_settles_254 (tgt := 289) (by decide) ?_
      exact G.mask [true, true, false, false, false, false, false] rfl rfl (b_X12_settles_289 C hr L226 cv1 cv1 (in64_i c10) hf)
set_option maxRecDepth 20000 in
theorem l_X12_settles_226 {g : GT} {Z : Int × MM} {n : Nat} (C : Cx g cX12_settles 7 yX12_settles 1 24) (hr : Rt g none 3 Z) {v0 : Int}    : ∀ (k : Nat) (v1 : Int) (h : MM), in32 v1 → f_X12_settles_226 n  v0 k v1 h = some Z → G g 226 [(2, v0), (0, v1), (3, 0), (3, 0), (3, 0), (3, 0), (3, 0)] [] h := by
  intro k
  induction k with
  | zero => intro v1 h cv1 hf; exact absurd hf (by intro z; cases z)
  | succ k ih => intro v1 h cv1 hf; exact b_X12_settles_226b C hr (rec226 := f_X12_settles_226 n  v0 k)  ih cv1 (show f_X12_settles_226b n  (f_X12_settles_226 n  v0 k) v0 v1 h = some Z from hf)
set_option maxRecDepth 20000 in
theorem b_X12_settles_218 {g : GT} {Z : Int × MM} {n : Nat} (C : Cx g cX12_settles 7 yX12_settles 1 24) (hr : Rt g none 3 Z) {v0 v1 : Int}  {rec31 : Int → MM → RR} (L31 : ∀ (u1 : Int) (h : MM), in32 u1 → rec31 u1 h = some Z → G g 31 [(2, v0), (0, u1), (3, 0), (3, 0), (3, 0), (3, 0), (3, 0)] [] h) (cv1 : in32 v1) {h : MM} (hf : f_X12_settles_218 n rec31 v0 v1 h = some Z) : G g 218 [(2, v0), (0, v1), (3, 0), (3, 0), (3, 0), (3, 0), (3, 0)] [] h := by
  unfold f_X12_settles_218 at hf
  obtain ⟨x1, e1, hf⟩ := lb_s hf
  have c1 : in32 x1 := by rw [e1]; exact (in32_t _)
  refine r_iincL C dX12_settles_218 rfl e1 (Nat.le_of_ble_eq_true rfl) rfl ?_
  refine r_goto C dX12_settles_221 (tgt := 31) (by decide) ?_
  exact G.mask [true, true, false, false, false, false, false] rfl rfl (L31 _ _ c1 hf)
set_option maxRecDepth 20000 in
theorem b_X12_settles_141 {g : GT} {Z : Int × MM} {n : Nat} (C : Cx g cX12_settles 7 yX12_settles 1 24) (hr : Rt g none 3 Z) {v0 v1 : Int}  {rec31 : Int → MM → RR} (L31 : ∀ (u1 : Int) (h : MM), in32 u1 → rec31 u1 h = some Z → G g 31 [(2, v0), (0, u1), (3, 0), (3, 0), (3, 0), (3, 0), (3, 0)] [] h) (cv1 : in32 v1) {h : MM} (hf : f_X12_settles_141 n rec31 v0 v1 h = some Z) : G g 141 [(2, v0), (0, v1), (3, 0), (3, 0), (3, 0), (3, 0), (3, 0)] [] h := by
  unfold f_X12_settles_141 at hf
  refine r_aload_n C dX12_settles_141 rfl ?_
  obtain ⟨q1, hf⟩ := gf_s hf
  refine r_gf C ct12 (j := 1) (ji := 1) dX12_settles_142 q1 rfl rfl (by decide) w_1426 rfl (fun c1 => ?_)
  refine r_sipush C dX12_settles_145 rfl ?_
  refine r_iload_n C dX12_settles_148 rfl ?_
  refine r_iadd C dX12_settles_149 ?_
  obtain ⟨q2, hf⟩ := rd_s hf
  refine r_iald C dX12_settles_150 q2 rfl (fun c2 => ?_)
  refine r_if_ne C dX12_settles_151 (tgt := 218) (by decide) c2 (fun n3 => ?_) (fun n3 => ?_)
  · have hf := ite_n n3 hf
    exact G.mask [true, true, false, false, false, false, false] rfl rfl (b_X12_settles_218 C hr L31 cv1 hf)
  · have hf := ite_p n3 hf
    refine r_aload_n C dX12_settles_154 rfl ?_
    obtain ⟨q4, hf⟩ := gf_s hf
    refine r_gf C ct12 (j := 1) (ji := 1) dX12_settles_155 q4 rfl rfl (by decide) w_1426 rfl (fun c4 => ?_)
    refine r_sipush C dX12_settles_158 rfl ?_
    refine r_iload_n C dX12_settles_161 rfl ?_
    refine r_iadd C dX12_settles_162 ?_
    obtain ⟨q5, hf⟩ := rd_s hf
    refine r_iald C dX12_settles_163 q5 rfl (fun c5 => ?_)
    refine r_iconst C dX12_settles_164 ?_
    refine r_icmp_ne C dX12_settles_165 (tgt := 218) (by decide) c5 (in32_of rfl) (fun n6 => ?_) (fun n6 => ?_)
    · have hf := ite_n n6 hf
      exact G.mask [true, true, false, false, false, false, false] rfl rfl (b_X12_settles_218 C hr L31 cv1 hf)
    · have hf := ite_p n6 hf
      refine r_aload_n C dX12_settles_168 rfl ?_
      obtain ⟨q7, hf⟩ := gf_s hf
      refine r_gf C ct12 (j := 14) (ji := 14) dX12_settles_169 q7 rfl rfl (by decide) w_1439 rfl (fun c7 => ?_)
      refine r_bipush C dX12_settles_172 rfl ?_
      refine r_bipush C dX12_settles_174 rfl ?_
      refine r_aload_n C dX12_settles_176 rfl ?_
      refine r_aload_n C dX12_settles_177 rfl ?_
      obtain ⟨q8, hf⟩ := gf_s hf
      refine r_gf C ct12 (j := 1) (ji := 1) dX12_settles_178 q8 rfl rfl (by decide) w_1426 rfl (fun c8 => ?_)
      refine r_sipush C dX12_settles_181 rfl ?_
      refine r_iload_n C dX12_settles_184 rfl ?_
      refine r_iadd C dX12_settles_185 ?_
      obtain ⟨q9, hf⟩ := rd_s hf
      refine r_iald C dX12_settles_186 q9 rfl (fun c9 => ?_)
      obtain ⟨p10, hf⟩ := gk_s hf
      obtain ⟨r10, h10, hq10, hf⟩ := bd_s hf
      refine r_cV1 C (am_X12_indexOf (gl g) n) cm_X12_indexOf w_1777 dX12_settles_187 ⟨Nat.le_of_ble_eq_true rfl, Nat.le_of_ble_eq_true rfl⟩ p10 rfl c9 rfl (Nat.le_of_ble_eq_true rfl) hq10 (by decide) (fun c10 => ?_)
      have c10 : in32 _ := c10
      refine r_iadd C dX12_settles_190 ?_
      refine r_imul C dX12_settles_191 ?_
      refine r_aload_n C dX12_settles_192 rfl ?_
      obtain ⟨q11, hf⟩ := gf_s hf
      refine r_gf C ct12 (j := 1) (ji := 1) dX12_settles_193 q11 rfl rfl (by decide) w_1426 rfl (fun c11 => ?_)
      refine r_sipush C dX12_settles_196 rfl ?_
      refine r_iload_n C dX12_settles_199 rfl ?_
      refine r_iadd C dX12_settles_200 ?_
      obtain ⟨q12, hf⟩ := rd_s hf
      refine r_iald C dX12_settles_201 q12 rfl (fun c12 => ?_)
      refine r_iadd C dX12_settles_202 ?_
      refine r_dup2 C dX12_settles_203 (by decide) (by decide) ?_
      obtain ⟨q13, hf⟩ := rd_s hf
      refine r_lald C dX12_settles_204 q13 rfl (fun c13 => ?_)
      refine r_aload_n C dX12_settles_205 rfl ?_
      obtain ⟨q14, hf⟩ := gf_s hf
      refine r_gf C ct12 (j := 1) (ji := 1) dX12_settles_206 q14 rfl rfl (by decide) w_1426 rfl (fun c14 => ?_)
      refine r_sipush C dX12_settles_209 rfl ?_
      refine r_iload_n C dX12_settles_212 rfl ?_
      refine r_iadd C dX12_settles_213 ?_
      obtain ⟨q15, hf⟩ := rd_s hf
      refine r_iald C dX12_settles_214 q15 rfl (fun c15 => ?_)
      refine r_i2l C dX12_settles_215 c15 ?_
      refine r_ladd C dX12_settles_216 ?_
      obtain ⟨q16, hf⟩ := wt_s hf
      refine r_last C dX12_settles_217 q16 rfl (in64_t _) ?_
      exact G.mask [true, true, false, false, false, false, false] rfl rfl (b_X12_settles_218 C hr L31 cv1 hf)
set_option maxRecDepth 20000 in
theorem b_X12_settles_85b {g : GT} {Z : Int × MM} {n : Nat} (C : Cx g cX12_settles 7 yX12_settles 1 24) (hr : Rt g none 3 Z) {v0 v1 v2 v3 : Int}  {rec31 : Int → MM → RR} {rec85 : Int → MM → RR} (L31 : ∀ (u1 : Int) (h : MM), in32 u1 → rec31 u1 h = some Z → G g 31 [(2, v0), (0, u1), (3, 0), (3, 0), (3, 0), (3, 0), (3, 0)] [] h) (L85 : ∀ (u3 : Int) (h : MM), in32 u3 → rec85 u3 h = some Z → G g 85 [(2, v0), (0, v1), (0, v2), (0, u3), (3, 0), (3, 0), (3, 0)] [] h) (cv1 : in32 v1) (cv2 : in32 v2) (cv3 : in32 v3) {h : MM} (hf : f_X12_settles_85b n rec31 rec85 v0 v1 v2 v3 h = some Z) : G g 85 [(2, v0), (0, v1), (0, v2), (0, v3), (3, 0), (3, 0), (3, 0)] [] h := by
  unfold f_X12_settles_85b at hf
  refine r_iload_n C dX12_settles_85 rfl ?_
  refine r_bipush C dX12_settles_86 rfl ?_
  refine r_icmp_ge C dX12_settles_88 (tgt := 141) (by decide) cv3 (in32_of rfl) (fun n1 => ?_) (fun n1 => ?_)
  · have hf := ite_p n1 hf
    exact G.mask [true, true, false, false, false, false, false] rfl rfl (b_X12_settles_141 C hr L31 cv1 hf)
  · have hf := ite_n n1 hf
    refine r_aload_n C dX12_settles_91 rfl ?_
    obtain ⟨q2, hf⟩ := gf_s hf
    refine r_gf C ct12 (j := 14) (ji := 14) dX12_settles_92 q2 rfl rfl (by decide) w_1439 rfl (fun c2 => ?_)
    refine r_bipush C dX12_settles_95 rfl ?_
    refine r_iload_n C dX12_settles_97 rfl ?_
    refine r_imul C dX12_settles_98 ?_
    refine r_bipush C dX12_settles_99 rfl ?_
    refine r_iadd C dX12_settles_101 ?_
    refine r_iload_n C dX12_settles_102 rfl ?_
    refine r_iadd C dX12_settles_103 ?_
    refine r_dup2 C dX12_settles_104 (by decide) (by decide) ?_
    obtain ⟨q3, hf⟩ := rd_s hf
    refine r_lald C dX12_settles_105 q3 rfl (fun c3 => ?_)
    refine r_aload_n C dX12_settles_106 rfl ?_
    obtain ⟨q4, hf⟩ := gf_s hf
    refine r_gf C ct12 (j := 1) (ji := 1) dX12_settles_107 q4 rfl rfl (by decide) w_1426 rfl (fun c4 => ?_)
    refine r_sipush C dX12_settles_110 rfl ?_
    refine r_iload_n C dX12_settles_113 rfl ?_
    refine r_iadd C dX12_settles_114 ?_
    obtain ⟨q5, hf⟩ := rd_s hf
    refine r_iald C dX12_settles_115 q5 rfl (fun c5 => ?_)
    refine r_aload_n C dX12_settles_116 rfl ?_
    obtain ⟨q6, hf⟩ := gf_s hf
    refine r_gf C ct12 (j := 1) (ji := 1) dX12_settles_117 q6 rfl rfl (by decide) w_1426 rfl (fun c6 => ?_)
    refine r_sipush C dX12_settles_120 rfl ?_
    refine r_bipush C dX12_settles_123 rfl ?_
    refine r_iload_n C dX12_settles_125 rfl ?_
    refine r_imul C dX12_settles_126 ?_
    refine r_iadd C dX12_settles_127 ?_
    refine r_iload_n C dX12_settles_128 rfl ?_
    refine r_iadd C dX12_settles_129 ?_
    obtain ⟨q7, hf⟩ := rd_s hf
    refine r_iald C dX12_settles_130 q7 rfl (fun c7 => ?_)
    refine r_imul C dX12_settles_131 ?_
    refine r_i2l C dX12_settles_132 (in32_t _) ?_
    refine r_ladd C dX12_settles_133 ?_
    obtain ⟨q8, hf⟩ := wt_s hf
    refine r_last C dX12_settles_134 q8 rfl (in64_t _) ?_
    obtain ⟨x9, e9, hf⟩ := lb_s hf
    have c9 : in32 x9 := by rw [e9]; exact (in32_t _)
    refine r_iincL C dX12_settles_135 rfl e9 (Nat.le_of_ble_eq_true rfl) rfl ?_
    refine r_goto C dX12_settles_138 (tgt := 85) (by decide) ?_
    exact G.mask [true, true, true, true, false, false, false] rfl rfl (L85 _ _ c9 hf)
set_option maxRecDepth 20000 in
theorem l_X12_settles_85 {g : GT} {Z : Int × MM} {n : Nat} (C : Cx g cX12_settles 7 yX12_settles 1 24) (hr : Rt g none 3 Z) {v0 v1 v2 : Int} {rec31 : Int → MM → RR} (L31 : ∀ (u1 : Int) (h : MM), in32 u1 → rec31 u1 h = some Z → G g 31 [(2, v0), (0, u1), (3, 0), (3, 0), (3, 0), (3, 0), (3, 0)] [] h) (cv1 : in32 v1) (cv2 : in32 v2) : ∀ (k : Nat) (v3 : Int) (h : MM), in32 v3 → f_X12_settles_85 n rec31 v0 v1 v2 k v3 h = some Z → G g 85 [(2, v0), (0, v1), (0, v2), (0, v3), (3, 0), (3, 0), (3, 0)] [] h := by
  intro k
  induction k with
  | zero => intro v3 h cv3 hf; exact absurd hf (by intro z; cases z)
  | succ k ih => intro v3 h cv3 hf; exact b_X12_settles_85b C hr (rec85 := f_X12_settles_85 n rec31 v0 v1 v2 k) L31 ih cv1 cv2 cv3 (show f_X12_settles_85b n rec31 (f_X12_settles_85 n rec31 v0 v1 v2 k) v0 v1 v2 v3 h = some Z from hf)
set_option maxRecDepth 20000 in
theorem b_X12_settles_31b {g : GT} {Z : Int × MM} {n : Nat} (C : Cx g cX12_settles 7 yX12_settles 1 24) (hr : Rt g none 3 Z) {v0 v1 : Int}  {rec31 : Int → MM → RR} (L31 : ∀ (u1 : Int) (h : MM), in32 u1 → rec31 u1 h = some Z → G g 31 [(2, v0), (0, u1), (3, 0), (3, 0), (3, 0), (3, 0), (3, 0)] [] h) (cv1 : in32 v1) {h : MM} (hf : f_X12_settles_31b n rec31 v0 v1 h = some Z) : G g 31 [(2, v0), (0, v1), (3, 0), (3, 0), (3, 0), (3, 0), (3, 0)] [] h := by
  unfold f_X12_settles_31b at hf
  refine r_iload_n C dX12_settles_31 rfl ?_
  refine r_aload_n C dX12_settles_32 rfl ?_
  obtain ⟨q1, hf⟩ := gf_s hf
  refine r_gf C ct12 (j := 1) (ji := 1) dX12_settles_33 q1 rfl rfl (by decide) w_1426 rfl (fun c1 => ?_)
  refine r_iconst C dX12_settles_36 ?_
  obtain ⟨q2, hf⟩ := rd_s hf
  refine r_iald C dX12_settles_37 q2 rfl (fun c2 => ?_)
  refine r_icmp_ge C dX12_settles_38 (tgt := 224) (by decide) cv1 c2 (fun n3 => ?_) (fun n3 => ?_)
  · have hf := ite_p n3 hf
    refine r_iconst C dX12_settles_224 ?_
    refine r_istore_n C dX12_settles_225 (Nat.le_of_ble_eq_true rfl) rfl ?_
    exact G.mask [true, true, false, false, false, false, false] rfl rfl (l_X12_settles_226 C hr   _ _ _ (in32_of rfl) hf)
  · have hf := ite_n n3 hf
    refine r_aload_n C dX12_settles_41 rfl ?_
    obtain ⟨q4, hf⟩ := gf_s hf
    refine r_gf C ct12 (j := 1) (ji := 1) dX12_settles_42 q4 rfl rfl (by decide) w_1426 rfl (fun c4 => ?_)
    refine r_sipush C dX12_settles_45 rfl ?_
    refine r_iload_n C dX12_settles_48 rfl ?_
    refine r_iadd C dX12_settles_49 ?_
    obtain ⟨q5, hf⟩ := rd_s hf
    refine r_iald C dX12_settles_50 q5 rfl (fun c5 => ?_)
    refine r_if_ne C dX12_settles_51 (tgt := 141) (by decide) c5 (fun n6 => ?_) (fun n6 => ?_)
    · have hf := ite_n n6 hf
      exact G.mask [true, true, false, false, false, false, false] rfl rfl (b_X12_settles_141 C hr L31 cv1 hf)
    · have hf := ite_p n6 hf
      refine r_aload_n C dX12_settles_54 rfl ?_
      obtain ⟨q7, hf⟩ := gf_s hf
      refine r_gf C ct12 (j := 1) (ji := 1) dX12_settles_55 q7 rfl rfl (by decide) w_1426 rfl (fun c7 => ?_)
      refine r_sipush C dX12_settles_58 rfl ?_
      refine r_iload_n C dX12_settles_61 rfl ?_
      refine r_iadd C dX12_settles_62 ?_
      obtain ⟨q8, hf⟩ := rd_s hf
      refine r_iald C dX12_settles_63 q8 rfl (fun c8 => ?_)
      refine r_iconst C dX12_settles_64 ?_
      refine r_icmp_ne C dX12_settles_65 (tgt := 141) (by decide) c8 (in32_of rfl) (fun n9 => ?_) (fun n9 => ?_)
      · have hf := ite_n n9 hf
        exact G.mask [true, true, false, false, false, false, false] rfl rfl (b_X12_settles_141 C hr L31 cv1 hf)
      · have hf := ite_p n9 hf
        refine r_aload_n C dX12_settles_68 rfl ?_
        refine r_aload_n C dX12_settles_69 rfl ?_
        obtain ⟨q10, hf⟩ := gf_s hf
        refine r_gf C ct12 (j := 1) (ji := 1) dX12_settles_70 q10 rfl rfl (by decide) w_1426 rfl (fun c10 => ?_)
        refine r_sipush C dX12_settles_73 rfl ?_
        refine r_iload_n C dX12_settles_76 rfl ?_
        refine r_iadd C dX12_settles_77 ?_
        obtain ⟨q11, hf⟩ := rd_s hf
        refine r_iald C dX12_settles_78 q11 rfl (fun c11 => ?_)
        obtain ⟨p12, hf⟩ := gk_s hf
        obtain ⟨r12, h12, hq12, hf⟩ := bd_s hf
        refine r_cV1 C (am_X12_indexOf (gl g) n) cm_X12_indexOf w_1777 dX12_settles_79 ⟨Nat.le_of_ble_eq_true rfl, Nat.le_of_ble_eq_true rfl⟩ p12 rfl c11 rfl (Nat.le_of_ble_eq_true rfl) hq12 (by decide) (fun c12 => ?_)
        have c12 : in32 _ := c12
        refine r_istore_n C dX12_settles_82 (Nat.le_of_ble_eq_true rfl) rfl ?_
        refine r_iconst C dX12_settles_83 ?_
        refine r_istore_n C dX12_settles_84 (Nat.le_of_ble_eq_true rfl) rfl ?_
        exact G.mask [true, true, true, true, false, false, false] rfl rfl (l_X12_settles_85 C hr L31 cv1 c12 _ _ _ (in32_of rfl) hf)
set_option maxRecDepth 20000 in
theorem l_X12_settles_31 {g : GT} {Z : Int × MM} {n : Nat} (C : Cx g cX12_settles 7 yX12_settles 1 24) (hr : Rt g none 3 Z) {v0 : Int}    : ∀ (k : Nat) (v1 : Int) (h : MM), in32 v1 → f_X12_settles_31 n  v0 k v1 h = some Z → G g 31 [(2, v0), (0, v1), (3, 0), (3, 0), (3, 0), (3, 0), (3, 0)] [] h := by
  intro k
  induction k with
  | zero => intro v1 h cv1 hf; exact absurd hf (by intro z; cases z)
  | succ k ih => intro v1 h cv1 hf; exact b_X12_settles_31b C hr (rec31 := f_X12_settles_31 n  v0 k)  ih cv1 (show f_X12_settles_31b n  (f_X12_settles_31 n  v0 k) v0 v1 h = some Z from hf)
set_option maxRecDepth 20000 in
theorem b_X12_settles_2b {g : GT} {Z : Int × MM} {n : Nat} (C : Cx g cX12_settles 7 yX12_settles 1 24) (hr : Rt g none 3 Z) {v0 v1 : Int}  {rec2 : Int → MM → RR} (L2 : ∀ (u1 : Int) (h : MM), in32 u1 → rec2 u1 h = some Z → G g 2 [(2, v0), (0, u1), (3, 0), (3, 0), (3, 0), (3, 0), (3, 0)] [] h) (cv1 : in32 v1) {h : MM} (hf : f_X12_settles_2b n rec2 v0 v1 h = some Z) : G g 2 [(2, v0), (0, v1), (3, 0), (3, 0), (3, 0), (3, 0), (3, 0)] [] h := by
  unfold f_X12_settles_2b at hf
  refine r_iload_n C dX12_settles_2 rfl ?_
  refine r_sipush C dX12_settles_3 rfl ?_
  refine r_icmp_ge C dX12_settles_6 (tgt := 29) (by decide) cv1 (in32_of rfl) (fun n1 => ?_) (fun n1 => ?_)
  · have hf := ite_p n1 hf
    refine r_iconst C dX12_settles_29 ?_
    refine r_istore_n C dX12_settles_30 (Nat.le_of_ble_eq_true rfl) rfl ?_
    exact G.mask [true, true, false, false, false, false, false] rfl rfl (l_X12_settles_31 C hr   _ _ _ (in32_of rfl) hf)
  · have hf := ite_n n1 hf
    refine r_aload_n C dX12_settles_9 rfl ?_
    obtain ⟨q2, hf⟩ := gf_s hf
    refine r_gf C ct12 (j := 14) (ji := 14) dX12_settles_10 q2 rfl rfl (by decide) w_1439 rfl (fun c2 => ?_)
    refine r_iload_n C dX12_settles_13 rfl ?_
    refine r_lconst C (v := 0) dX12_settles_14 rfl ?_
    obtain ⟨q3, hf⟩ := wt_s hf
    refine r_last C dX12_settles_15 q3 rfl (in64_of rfl) ?_
    refine r_aload_n C dX12_settles_16 rfl ?_
    obtain ⟨q4, hf⟩ := gf_s hf
    refine r_gf C ct12 (j := 15) (ji := 15) dX12_settles_17 q4 rfl rfl (by decide) w_1440 rfl (fun c4 => ?_)
    refine r_iload_n C dX12_settles_20 rfl ?_
    refine r_lconst C (v := 0) dX12_settles_21 rfl ?_
    obtain ⟨q5, hf⟩ := wt_s hf
    refine r_last C dX12_settles_22 q5 rfl (in64_of rfl) ?_
    obtain ⟨x6, e6, hf⟩ := lb_s hf
    have c6 : in32 x6 := by rw [e6]; exact (in32_t _)
    refine r_iincL C dX12_settles_23 rfl e6 (Nat.le_of_ble_eq_true rfl) rfl ?_
    refine r_goto C dX12_settles_26 (tgt := 2) (by decide) ?_
    exact G.mask [true, true, false, false, false, false, false] rfl rfl (L2 _ _ c6 hf)
set_option maxRecDepth 20000 in
theorem l_X12_settles_2 {g : GT} {Z : Int × MM} {n : Nat} (C : Cx g cX12_settles 7 yX12_settles 1 24) (hr : Rt g none 3 Z) {v0 : Int}    : ∀ (k : Nat) (v1 : Int) (h : MM), in32 v1 → f_X12_settles_2 n  v0 k v1 h = some Z → G g 2 [(2, v0), (0, v1), (3, 0), (3, 0), (3, 0), (3, 0), (3, 0)] [] h := by
  intro k
  induction k with
  | zero => intro v1 h cv1 hf; exact absurd hf (by intro z; cases z)
  | succ k ih => intro v1 h cv1 hf; exact b_X12_settles_2b C hr (rec2 := f_X12_settles_2 n  v0 k)  ih cv1 (show f_X12_settles_2b n  (f_X12_settles_2 n  v0 k) v0 v1 h = some Z from hf)
set_option maxRecDepth 20000 in
theorem e_X12_settles {g : GT} {Z : Int × MM} {n : Nat} (C : Cx g cX12_settles 7 yX12_settles 1 24) (hr : Rt g none 3 Z) {v0 : Int} (cv0 : cK 2 v0) {h : MM} (hf : f_X12_settles n v0 h = some Z) : G g 0 [(2, v0), (3, 0), (3, 0), (3, 0), (3, 0), (3, 0), (3, 0)] [] h := by
  unfold f_X12_settles at hf
  refine r_iconst C dX12_settles_0 ?_
  refine r_istore_n C dX12_settles_1 (Nat.le_of_ble_eq_true rfl) rfl ?_
  exact G.mask [true, true, false, false, false, false, false] rfl rfl (l_X12_settles_2 C hr   _ _ _ (in32_of rfl) hf)
set_option maxRecDepth 20000 in
theorem am_X12_settles (l : Launch) (n : Nat) : AM l yX12_settles cX12_settles 7 none 1 24 [2] 3 (un1 (f_X12_settles n)) := by
  refine AM.intro (by decide) (fun xs hx => ?_) (fun g xs h Z hl C hr hx hf => ?_)
  · obtain ⟨a0, rfl, c0⟩ := canL_1 hx
    exact Nat.le_of_ble_eq_true rfl
  · obtain ⟨a0, rfl, c0⟩ := canL_1 hx
    have hf := (un1_e _ a0 _).symm.trans hf
    exact e_X12_settles (n := n) C hr c0 hf
/-! LinesPromisedModel.pays(I)J -/
theorem dX12_pays_0 : decode cX12_pays 0 = .ok (.lconst 0, 1) := by decide +kernel
theorem dX12_pays_1 : decode cX12_pays 1 = .ok (.lstore_n 2, 1) := by decide +kernel
theorem dX12_pays_2 : decode cX12_pays 2 = .ok (.iconst 0, 1) := by decide +kernel
theorem dX12_pays_3 : decode cX12_pays 3 = .ok (.istore 4, 2) := by decide +kernel
theorem dX12_pays_5 : decode cX12_pays 5 = .ok (.iload 4, 2) := by decide +kernel
theorem dX12_pays_7 : decode cX12_pays 7 = .ok (.bipush 20, 2) := by decide +kernel
theorem dX12_pays_9 : decode cX12_pays 9 = .ok (.if_icmp .ge 24, 3) := by decide +kernel
theorem dX12_pays_12 : decode cX12_pays 12 = .ok (.lload_n 2, 1) := by decide +kernel
theorem dX12_pays_13 : decode cX12_pays 13 = .ok (.aload_n 0, 1) := by decide +kernel
theorem dX12_pays_14 : decode cX12_pays 14 = .ok (.getfield 36, 3) := by decide +kernel
theorem dX12_pays_17 : decode cX12_pays 17 = .ok (.bipush 20, 2) := by decide +kernel
theorem dX12_pays_19 : decode cX12_pays 19 = .ok (.iload_n 1, 1) := by decide +kernel
theorem dX12_pays_20 : decode cX12_pays 20 = .ok (.imul, 1) := by decide +kernel
theorem dX12_pays_21 : decode cX12_pays 21 = .ok (.iload 4, 2) := by decide +kernel
theorem dX12_pays_23 : decode cX12_pays 23 = .ok (.iadd, 1) := by decide +kernel
theorem dX12_pays_24 : decode cX12_pays 24 = .ok (.laload, 1) := by decide +kernel
theorem dX12_pays_25 : decode cX12_pays 25 = .ok (.ladd, 1) := by decide +kernel
theorem dX12_pays_26 : decode cX12_pays 26 = .ok (.lstore_n 2, 1) := by decide +kernel
theorem dX12_pays_27 : decode cX12_pays 27 = .ok (.iinc 4 1, 3) := by decide +kernel
theorem dX12_pays_30 : decode cX12_pays 30 = .ok (.goto (-25), 3) := by decide +kernel
theorem dX12_pays_33 : decode cX12_pays 33 = .ok (.lload_n 2, 1) := by decide +kernel
theorem dX12_pays_34 : decode cX12_pays 34 = .ok (.lreturn, 1) := by decide +kernel
theorem cm_X12_pays : CM yX12_pays cX12_pays 5 (some .long) 1 12 := ⟨w_1827, w_82, w_1828, w_97, ⟨by decide +kernel, by decide +kernel, by decide +kernel⟩, ⟨_, _, rfl⟩, by decide⟩
noncomputable def f_X12_pays_5b (n : Nat) (rec5 : Int → Int → MM → RR) (v0 v1 v2 v4 : Int) (h : MM) : RR :=
  if 20 ≤ v4 then
    some (v2, h)
  else
  gf h v0 12 15 fun r2 =>
  rd h r2 101 (wr ((wr (20 * v1)) + v4)) fun r3 =>
  lb (wl (v2 + r3)) fun x4 =>
  lb (wr (v4 + 1)) fun x5 =>
  rec5 x4 x5 h
noncomputable def f_X12_pays_5 (n : Nat)  (v0 v1 : Int) : Nat → Int → Int → MM → RR
  | 0, _, _, _ => none
  | k + 1, v2, v4, h => f_X12_pays_5b n  (f_X12_pays_5 n  v0 v1 k) v0 v1 v2 v4 h
noncomputable def f_X12_pays (n : Nat) (v0 v1 : Int) (h : MM) : RR :=
  f_X12_pays_5 n v0 v1 n 0 0 h
set_option maxRecDepth 20000 in
theorem b_X12_pays_5b {g : GT} {Z : Int × MM} {n : Nat} (C : Cx g cX12_pays 5 yX12_pays 0 0) (hr : Rt g (some .long) 1 Z) {v0 v1 v2 v4 : Int}  {rec5 : Int → Int → MM → RR} (L5 : ∀ (u2 u4 : Int) (h : MM), in64 u2 → in32 u4 → rec5 u2 u4 h = some Z → G g 5 [(2, v0), (0, v1), (1, u2), (4, 0), (0, u4)] [] h) (cv1 : in32 v1) (cv2 : in64 v2) (cv4 : in32 v4) {h : MM} (hf : f_X12_pays_5b n rec5 v0 v1 v2 v4 h = some Z) : G g 5 [(2, v0), (0, v1), (1, v2), (4, 0), (0, v4)] [] h := by
  unfold f_X12_pays_5b at hf
  refine r_iload C dX12_pays_5 rfl ?_
  refine r_bipush C dX12_pays_7 rfl ?_
  refine r_icmp_ge C dX12_pays_9 (tgt := 33) (by decide) cv4 (in32_of rfl) (fun n1 => ?_) (fun n1 => ?_)
  · have hf := ite_p n1 hf
    refine r_lload_n C dX12_pays_33 rfl ?_
    cases hf
    exact r_lret C hr dX12_pays_34 cv2
  · have hf := ite_n n1 hf
    refine r_lload_n C dX12_pays_12 rfl ?_
    refine r_aload_n C dX12_pays_13 rfl ?_
    obtain ⟨q2, hf⟩ := gf_s hf
    refine r_gf C ct12 (j := 15) (ji := 15) dX12_pays_14 q2 rfl rfl (by decide) w_1440 rfl (fun c2 => ?_)
    refine r_bipush C dX12_pays_17 rfl ?_
    refine r_iload_n C dX12_pays_19 rfl ?_
    refine r_imul C dX12_pays_20 ?_
    refine r_iload C dX12_pays_21 rfl ?_
    refine r_iadd C dX12_pays_23 ?_
    obtain ⟨q3, hf⟩ := rd_s hf
    refine r_lald C dX12_pays_24 q3 rfl (fun c3 => ?_)
    refine r_ladd C dX12_pays_25 ?_
    obtain ⟨x4, e4, hf⟩ := lb_s hf
    have c4 : in64 x4 := by rw [e4]; exact (in64_t _)
    refine r_lstore_nL C dX12_pays_26 e4 (Nat.le_of_ble_eq_true rfl) rfl ?_
    obtain ⟨x5, e5, hf⟩ := lb_s hf
    have c5 : in32 x5 := by rw [e5]; exact (in32_t _)
    refine r_iincL C dX12_pays_27 rfl e5 (Nat.le_of_ble_eq_true rfl) rfl ?_
    refine r_goto C dX12_pays_30 (tgt := 5) (by decide) ?_
    exact G.mask [true, true, true, true, true] rfl rfl (L5 _ _ _ c4 c5 hf)
set_option maxRecDepth 20000 in
theorem l_X12_pays_5 {g : GT} {Z : Int × MM} {n : Nat} (C : Cx g cX12_pays 5 yX12_pays 0 0) (hr : Rt g (some .long) 1 Z) {v0 v1 : Int}   (cv1 : in32 v1) : ∀ (k : Nat) (v2 v4 : Int) (h : MM), in64 v2 → in32 v4 → f_X12_pays_5 n  v0 v1 k v2 v4 h = some Z → G g 5 [(2, v0), (0, v1), (1, v2), (4, 0), (0, v4)] [] h := by
  intro k
  induction k with
  | zero => intro v2 v4 h cv2 cv4 hf; exact absurd hf (by intro z; cases z)
  | succ k ih => intro v2 v4 h cv2 cv4 hf; exact b_X12_pays_5b C hr (rec5 := f_X12_pays_5 n  v0 v1 k)  ih cv1 cv2 cv4 (show f_X12_pays_5b n  (f_X12_pays_5 n  v0 v1 k) v0 v1 v2 v4 h = some Z from hf)
set_option maxRecDepth 20000 in
theorem e_X12_pays {g : GT} {Z : Int × MM} {n : Nat} (C : Cx g cX12_pays 5 yX12_pays 0 0) (hr : Rt g (some .long) 1 Z) {v0 v1 : Int} (cv0 : cK 2 v0) (cv1 : cK 0 v1) {h : MM} (hf : f_X12_pays n v0 v1 h = some Z) : G g 0 [(2, v0), (0, v1), (3, 0), (3, 0), (3, 0)] [] h := by
  have cv1 : in32 v1 := cv1
  unfold f_X12_pays at hf
  refine r_lconst C (v := 0) dX12_pays_0 rfl ?_
  refine r_lstore_n C dX12_pays_1 (Nat.le_of_ble_eq_true rfl) rfl ?_
  refine r_iconst C dX12_pays_2 ?_
  refine r_istore C dX12_pays_3 (Nat.le_of_ble_eq_true rfl) rfl ?_
  exact G.mask [true, true, true, true, true] rfl rfl (l_X12_pays_5 C hr  cv1 _ _ _ _ (in64_of rfl) (in32_of rfl) hf)
set_option maxRecDepth 20000 in
theorem am_X12_pays (l : Launch) (n : Nat) : AM l yX12_pays cX12_pays 5 (some .long) 0 0 [2, 0] 1 (un2 (f_X12_pays n)) := by
  refine AM.intro (by decide) (fun xs hx => ?_) (fun g xs h Z hl C hr hx hf => ?_)
  · obtain ⟨a0, a1, rfl, c0, c1⟩ := canL_2 hx
    exact Nat.le_of_ble_eq_true rfl
  · obtain ⟨a0, a1, rfl, c0, c1⟩ := canL_2 hx
    have hf := (un2_e _ a0 a1 _).symm.trans hf
    exact e_X12_pays (n := n) C hr c0 c1 hf
/-! LinesPromisedModel.along(II)I -/
theorem dX12_along_0 : decode cX12_along 0 = .ok (.iload_n 1, 1) := by decide +kernel
theorem dX12_along_1 : decode cX12_along 1 = .ok (.iconst 0, 1) := by decide +kernel
theorem dX12_along_2 : decode cX12_along 2 = .ok (.iconst 1, 1) := by decide +kernel
theorem dX12_along_3 : decode cX12_along 3 = .ok (.invokestatic 58, 3) := by decide +kernel
theorem dX12_along_6 : decode cX12_along 6 = .ok (.ifCond .eq 25, 3) := by decide +kernel
theorem dX12_along_9 : decode cX12_along 9 = .ok (.iload_n 1, 1) := by decide +kernel
theorem dX12_along_10 : decode cX12_along 10 = .ok (.ifCond .ne 13, 3) := by decide +kernel
theorem dX12_along_13 : decode cX12_along 13 = .ok (.iload_n 2, 1) := by decide +kernel
theorem dX12_along_14 : decode cX12_along 14 = .ok (.invokestatic 69, 3) := by decide +kernel
theorem dX12_along_17 : decode cX12_along 17 = .ok (.ifCond .ne 16, 3) := by decide +kernel
theorem dX12_along_20 : decode cX12_along 20 = .ok (.goto 11, 3) := by decide +kernel
theorem dX12_along_23 : decode cX12_along 23 = .ok (.aload_n 0, 1) := by decide +kernel
theorem dX12_along_24 : decode cX12_along 24 = .ok (.iload_n 2, 1) := by decide +kernel
theorem dX12_along_25 : decode cX12_along 25 = .ok (.invokevirtual 241, 3) := by decide +kernel
theorem dX12_along_28 : decode cX12_along 28 = .ok (.ifCond .ne 5, 3) := by decide +kernel
theorem dX12_along_31 : decode cX12_along 31 = .ok (.iconst (-1), 1) := by decide +kernel
theorem dX12_along_32 : decode cX12_along 32 = .ok (.ireturn, 1) := by decide +kernel
theorem dX12_along_33 : decode cX12_along 33 = .ok (.aload_n 0, 1) := by decide +kernel
theorem dX12_along_34 : decode cX12_along 34 = .ok (.invokevirtual 257, 3) := by decide +kernel
theorem dX12_along_37 : decode cX12_along 37 = .ok (.aload_n 0, 1) := by decide +kernel
theorem dX12_along_38 : decode cX12_along 38 = .ok (.iload_n 1, 1) := by decide +kernel
theorem dX12_along_39 : decode cX12_along 39 = .ok (.ifCond .ne 7, 3) := by decide +kernel
theorem dX12_along_42 : decode cX12_along 42 = .ok (.iload_n 2, 1) := by decide +kernel
theorem dX12_along_43 : decode cX12_along 43 = .ok (.goto 11, 3) := by decide +kernel
theorem dX12_along_46 : decode cX12_along 46 = .ok (.bipush 8, 2) := by decide +kernel
theorem dX12_along_48 : decode cX12_along 48 = .ok (.aload_n 0, 1) := by decide +kernel
theorem dX12_along_49 : decode cX12_along 49 = .ok (.iload_n 2, 1) := by decide +kernel
theorem dX12_along_50 : decode cX12_along 50 = .ok (.invokevirtual 238, 3) := by decide +kernel
theorem dX12_along_53 : decode cX12_along 53 = .ok (.iadd, 1) := by decide +kernel
theorem dX12_along_54 : decode cX12_along 54 = .ok (.invokevirtual 260, 3) := by decide +kernel
theorem dX12_along_57 : decode cX12_along 57 = .ok (.l2i, 1) := by decide +kernel
theorem dX12_along_58 : decode cX12_along 58 = .ok (.ireturn, 1) := by decide +kernel
theorem cm_X12_along : CM yX12_along cX12_along 3 (some .int) 2 12 := ⟨w_1814, w_1815, w_1816, w_97, ⟨by decide +kernel, by decide +kernel, by decide +kernel⟩, ⟨_, _, rfl⟩, by decide⟩
noncomputable def f_X12_along_31 (n : Nat)  (h : MM) : RR :=
  some ((-1), h)
noncomputable def f_X12_along_54 (n : Nat)  (s0 s1 : Int) (h : MM) : RR :=
  gk h s0 12 <|
  bd (f_X12_pays n s0 s1 h) fun r1 h1 =>
  some (wr r1, h1)
noncomputable def f_X12_along_33 (n : Nat)  (v0 v1 v2 : Int) (h : MM) : RR :=
  gk h v0 12 <|
  bd (f_X12_settles n v0 h) fun r1 h1 =>
  if v1 = 0 then
    f_X12_along_54 n v0 v2 h1
  else
  gk h1 v0 12 <|
  bd (f_X12_indexOf n v0 v2 h1) fun r3 h3 =>
  f_X12_along_54 n v0 (wr (8 + r3)) h3
noncomputable def f_X12_along (n : Nat) (v0 v1 v2 : Int) (h : MM) : RR :=
  bd (f_X12_in n v1 0 1 h) fun r1 h1 =>
  if r1 = 0 then
    f_X12_along_31 n h1
  else
  if v1 = 0 then
    bd (f_X12_isHolder n v2 h1) fun r6 h6 =>
    if r6 = 0 then
      f_X12_along_31 n h6
    else
    f_X12_along_33 n v0 v1 v2 h6
  else
  gk h1 v0 12 <|
  bd (f_X12_isScheme n v0 v2 h1) fun r4 h4 =>
  if r4 = 0 then
    f_X12_along_31 n h4
  else
  f_X12_along_33 n v0 v1 v2 h4
set_option maxRecDepth 20000 in
theorem b_X12_along_31 {g : GT} {Z : Int × MM} {n : Nat} (C : Cx g cX12_along 3 yX12_along 4 86) (hr : Rt g (some .int) 0 Z)     {h : MM} (hf : f_X12_along_31 n   h = some Z) : G g 31 [(3, 0), (3, 0), (3, 0)] [] h := by
  unfold f_X12_along_31 at hf
  refine r_iconst C dX12_along_31 ?_
  cases hf
  exact r_jret C hr dX12_along_32 (in32_of rfl)
set_option maxRecDepth 20000 in
theorem b_X12_along_54 {g : GT} {Z : Int × MM} {n : Nat} (C : Cx g cX12_along 3 yX12_along 4 86) (hr : Rt g (some .int) 0 Z) {s0 s1 : Int}    (cs1 : in32 s1) {h : MM} (hf : f_X12_along_54 n  s0 s1 h = some Z) : G g 54 [(3, 0), (3, 0), (3, 0)] [(0, s1), (2, s0)] h := by
  unfold f_X12_along_54 at hf
  obtain ⟨p1, hf⟩ := gk_s hf
  obtain ⟨r1, h1, hq1, hf⟩ := bd_s hf
  refine r_cV1 C (am_X12_pays (gl g) n) cm_X12_pays w_1825 dX12_along_54 ⟨Nat.le_of_ble_eq_true rfl, Nat.le_of_ble_eq_true rfl⟩ p1 rfl cs1 rfl (Nat.le_of_ble_eq_true rfl) hq1 (by decide) (fun c1 => ?_)
  have c1 : in64 _ := c1
  refine r_l2i C dX12_along_57 ?_
  cases hf
  exact r_jret C hr dX12_along_58 (in32_t _)
set_option maxRecDepth 20000 in
theorem b_X12_along_33 {g : GT} {Z : Int × MM} {n : Nat} (C : Cx g cX12_along 3 yX12_along 4 86) (hr : Rt g (some .int) 0 Z) {v0 v1 v2 : Int}    (cv1 : in32 v1) (cv2 : in32 v2) {h : MM} (hf : f_X12_along_33 n  v0 v1 v2 h = some Z) : G g 33 [(2, v0), (0, v1), (0, v2)] [] h := by
  unfold f_X12_along_33 at hf
  refine r_aload_n C dX12_along_33 rfl ?_
  obtain ⟨p1, hf⟩ := gk_s hf
  obtain ⟨r1, h1, hq1, hf⟩ := bd_s hf
  refine r_cV0v C (am_X12_settles (gl g) n) cm_X12_settles w_1817 dX12_along_34 ⟨Nat.le_of_ble_eq_true rfl, Nat.le_of_ble_eq_true rfl⟩ p1 rfl  rfl (Nat.le_of_ble_eq_true rfl) hq1 ?_
  refine r_aload_n C dX12_along_37 rfl ?_
  refine r_iload_n C dX12_along_38 rfl ?_
  refine r_if_ne C dX12_along_39 (tgt := 46) (by decide) cv1 (fun n2 => ?_) (fun n2 => ?_)
  · have hf := ite_n n2 hf
    refine r_bipush C dX12_along_46 rfl ?_
    refine r_aload_n C dX12_along_48 rfl ?_
    refine r_iload_n C dX12_along_49 rfl ?_
    obtain ⟨p3, hf⟩ := gk_s hf
    obtain ⟨r3, h3, hq3, hf⟩ := bd_s hf
    refine r_cV1 C (am_X12_indexOf (gl g) n) cm_X12_indexOf w_1777 dX12_along_50 ⟨Nat.le_of_ble_eq_true rfl, Nat.le_of_ble_eq_true rfl⟩ p3 rfl cv2 rfl (Nat.le_of_ble_eq_true rfl) hq3 (by decide) (fun c3 => ?_)
    have c3 : in32 _ := c3
    refine r_iadd C dX12_along_53 ?_
    exact G.mask [false, false, false] rfl rfl (b_X12_along_54 C hr  (in32_t _) hf)
  · have hf := ite_p n2 hf
    refine r_iload_n C dX12_along_42 rfl ?_
    refine r_goto C dX12_along_43 (tgt := 54) (by decide) ?_
    exact G.mask [false, false, false] rfl rfl (b_X12_along_54 C hr  cv2 hf)
set_option maxRecDepth 20000 in
theorem e_X12_along {g : GT} {Z : Int × MM} {n : Nat} (C : Cx g cX12_along 3 yX12_along 4 86) (hr : Rt g (some .int) 0 Z) {v0 v1 v2 : Int} (cv0 : cK 2 v0) (cv1 : cK 0 v1) (cv2 : cK 0 v2) {h : MM} (hf : f_X12_along n v0 v1 v2 h = some Z) : G g 0 [(2, v0), (0, v1), (0, v2)] [] h := by
  have cv1 : in32 v1 := cv1
  have cv2 : in32 v2 := cv2
  unfold f_X12_along at hf
  refine r_iload_n C dX12_along_0 rfl ?_
  refine r_iconst C dX12_along_1 ?_
  refine r_iconst C dX12_along_2 ?_
  obtain ⟨r1, h1, hq1, hf⟩ := bd_s hf
  refine r_cS3 C (am_X12_in (gl g) n) cm_X12_in w_1496 dX12_along_3 ⟨Nat.le_of_ble_eq_true rfl, Nat.le_of_ble_eq_true rfl⟩ cv1 (in32_of rfl) (in32_of rfl) rfl (Nat.le_of_ble_eq_true rfl) hq1 (by decide) (fun c1 => ?_)
  have c1 : in32 _ := c1
  refine r_if_eq C dX12_along_6 (tgt := 31) (by decide) c1 (fun n2 => ?_) (fun n2 => ?_)
  · have hf := ite_p n2 hf
    exact G.mask [false, false, false] rfl rfl (b_X12_along_31 C hr   hf)
  · have hf := ite_n n2 hf
    refine r_iload_n C dX12_along_9 rfl ?_
    refine r_if_ne C dX12_along_10 (tgt := 23) (by decide) cv1 (fun n3 => ?_) (fun n3 => ?_)
    · have hf := ite_n n3 hf
      refine r_aload_n C dX12_along_23 rfl ?_
      refine r_iload_n C dX12_along_24 rfl ?_
      obtain ⟨p4, hf⟩ := gk_s hf
      obtain ⟨r4, h4, hq4, hf⟩ := bd_s hf
      refine r_cV1 C (am_X12_isScheme (gl g) n) cm_X12_isScheme w_1765 dX12_along_25 ⟨Nat.le_of_ble_eq_true rfl, Nat.le_of_ble_eq_true rfl⟩ p4 rfl cv2 rfl (Nat.le_of_ble_eq_true rfl) hq4 (by decide) (fun c4 => ?_)
      have c4 : in32 _ := c4
      refine r_if_ne C dX12_along_28 (tgt := 33) (by decide) c4 (fun n5 => ?_) (fun n5 => ?_)
      · have hf := ite_n n5 hf
        exact G.mask [true, true, true] rfl rfl (b_X12_along_33 C hr  cv1 cv2 hf)
      · have hf := ite_p n5 hf
        exact G.mask [false, false, false] rfl rfl (b_X12_along_31 C hr   hf)
    · have hf := ite_p n3 hf
      refine r_iload_n C dX12_along_13 rfl ?_
      obtain ⟨r6, h6, hq6, hf⟩ := bd_s hf
      refine r_cS1 C (am_X12_isHolder (gl g) n) cm_X12_isHolder w_1507 dX12_along_14 ⟨Nat.le_of_ble_eq_true rfl, Nat.le_of_ble_eq_true rfl⟩ cv2 rfl (Nat.le_of_ble_eq_true rfl) hq6 (by decide) (fun c6 => ?_)
      have c6 : in32 _ := c6
      refine r_if_ne C dX12_along_17 (tgt := 33) (by decide) c6 (fun n7 => ?_) (fun n7 => ?_)
      · have hf := ite_n n7 hf
        exact G.mask [true, true, true] rfl rfl (b_X12_along_33 C hr  cv1 cv2 hf)
      · have hf := ite_p n7 hf
        refine r_goto C dX12_along_20 (tgt := 31) (by decide) ?_
        exact G.mask [false, false, false] rfl rfl (b_X12_along_31 C hr   hf)
set_option maxRecDepth 20000 in
theorem am_X12_along (l : Launch) (n : Nat) : AM l yX12_along cX12_along 3 (some .int) 4 86 [2, 0, 0] 0 (un3 (f_X12_along n)) := by
  refine AM.intro (by decide) (fun xs hx => ?_) (fun g xs h Z hl C hr hx hf => ?_)
  · obtain ⟨a0, a1, a2, rfl, c0, c1, c2⟩ := canL_3 hx
    exact Nat.le_of_ble_eq_true rfl
  · obtain ⟨a0, a1, a2, rfl, c0, c1, c2⟩ := canL_3 hx
    have hf := (un3_e _ a0 a1 a2 _).symm.trans hf
    exact e_X12_along (n := n) C hr c0 c1 c2 hf
/-! LinesPromisedModel.settle()I -/
theorem dX12_settle_0 : decode cX12_settle 0 = .ok (.aload_n 0, 1) := by decide +kernel
theorem dX12_settle_1 : decode cX12_settle 1 = .ok (.invokevirtual 257, 3) := by decide +kernel
theorem dX12_settle_4 : decode cX12_settle 4 = .ok (.iconst 0, 1) := by decide +kernel
theorem dX12_settle_5 : decode cX12_settle 5 = .ok (.istore_n 1, 1) := by decide +kernel
theorem dX12_settle_6 : decode cX12_settle 6 = .ok (.iconst 0, 1) := by decide +kernel
theorem dX12_settle_7 : decode cX12_settle 7 = .ok (.istore_n 2, 1) := by decide +kernel
theorem dX12_settle_8 : decode cX12_settle 8 = .ok (.iload_n 2, 1) := by decide +kernel
theorem dX12_settle_9 : decode cX12_settle 9 = .ok (.bipush 20, 2) := by decide +kernel
theorem dX12_settle_11 : decode cX12_settle 11 = .ok (.if_icmp .ge 34, 3) := by decide +kernel
theorem dX12_settle_14 : decode cX12_settle 14 = .ok (.iload_n 1, 1) := by decide +kernel
theorem dX12_settle_15 : decode cX12_settle 15 = .ok (.aload_n 0, 1) := by decide +kernel
theorem dX12_settle_16 : decode cX12_settle 16 = .ok (.iload_n 2, 1) := by decide +kernel
theorem dX12_settle_17 : decode cX12_settle 17 = .ok (.invokevirtual 260, 3) := by decide +kernel
theorem dX12_settle_20 : decode cX12_settle 20 = .ok (.aload_n 0, 1) := by decide +kernel
theorem dX12_settle_21 : decode cX12_settle 21 = .ok (.getfield 45, 3) := by decide +kernel
theorem dX12_settle_24 : decode cX12_settle 24 = .ok (.iload_n 2, 1) := by decide +kernel
theorem dX12_settle_25 : decode cX12_settle 25 = .ok (.laload, 1) := by decide +kernel
theorem dX12_settle_26 : decode cX12_settle 26 = .ok (.lcmp, 1) := by decide +kernel
theorem dX12_settle_27 : decode cX12_settle 27 = .ok (.ifCond .ge 9, 3) := by decide +kernel
theorem dX12_settle_30 : decode cX12_settle 30 = .ok (.iconst 1, 1) := by decide +kernel
theorem dX12_settle_31 : decode cX12_settle 31 = .ok (.iload_n 2, 1) := by decide +kernel
theorem dX12_settle_32 : decode cX12_settle 32 = .ok (.ishl, 1) := by decide +kernel
theorem dX12_settle_33 : decode cX12_settle 33 = .ok (.goto 4, 3) := by decide +kernel
theorem dX12_settle_36 : decode cX12_settle 36 = .ok (.iconst 0, 1) := by decide +kernel
theorem dX12_settle_37 : decode cX12_settle 37 = .ok (.ior, 1) := by decide +kernel
theorem dX12_settle_38 : decode cX12_settle 38 = .ok (.istore_n 1, 1) := by decide +kernel
theorem dX12_settle_39 : decode cX12_settle 39 = .ok (.iinc 2 1, 3) := by decide +kernel
theorem dX12_settle_42 : decode cX12_settle 42 = .ok (.goto (-34), 3) := by decide +kernel
theorem dX12_settle_45 : decode cX12_settle 45 = .ok (.iconst 0, 1) := by decide +kernel
theorem dX12_settle_46 : decode cX12_settle 46 = .ok (.istore_n 2, 1) := by decide +kernel
theorem dX12_settle_47 : decode cX12_settle 47 = .ok (.iload_n 2, 1) := by decide +kernel
theorem dX12_settle_48 : decode cX12_settle 48 = .ok (.bipush 20, 2) := by decide +kernel
theorem dX12_settle_50 : decode cX12_settle 50 = .ok (.if_icmp .ge 103, 3) := by decide +kernel
theorem dX12_settle_53 : decode cX12_settle 53 = .ok (.aload_n 0, 1) := by decide +kernel
theorem dX12_settle_54 : decode cX12_settle 54 = .ok (.getfield 42, 3) := by decide +kernel
theorem dX12_settle_57 : decode cX12_settle 57 = .ok (.iload_n 2, 1) := by decide +kernel
theorem dX12_settle_58 : decode cX12_settle 58 = .ok (.laload, 1) := by decide +kernel
theorem dX12_settle_59 : decode cX12_settle 59 = .ok (.aload_n 0, 1) := by decide +kernel
theorem dX12_settle_60 : decode cX12_settle 60 = .ok (.iload_n 2, 1) := by decide +kernel
theorem dX12_settle_61 : decode cX12_settle 61 = .ok (.invokevirtual 260, 3) := by decide +kernel
theorem dX12_settle_64 : decode cX12_settle 64 = .ok (.lsub, 1) := by decide +kernel
theorem dX12_settle_65 : decode cX12_settle 65 = .ok (.lstore_n 3, 1) := by decide +kernel
theorem dX12_settle_66 : decode cX12_settle 66 = .ok (.iconst 0, 1) := by decide +kernel
theorem dX12_settle_67 : decode cX12_settle 67 = .ok (.istore 5, 2) := by decide +kernel
theorem dX12_settle_69 : decode cX12_settle 69 = .ok (.iload 5, 2) := by decide +kernel
theorem dX12_settle_71 : decode cX12_settle 71 = .ok (.bipush 20, 2) := by decide +kernel
theorem dX12_settle_73 : decode cX12_settle 73 = .ok (.if_icmp .ge 24, 3) := by decide +kernel
theorem dX12_settle_76 : decode cX12_settle 76 = .ok (.lload_n 3, 1) := by decide +kernel
theorem dX12_settle_77 : decode cX12_settle 77 = .ok (.aload_n 0, 1) := by decide +kernel
theorem dX12_settle_78 : decode cX12_settle 78 = .ok (.getfield 36, 3) := by decide +kernel
theorem dX12_settle_81 : decode cX12_settle 81 = .ok (.bipush 20, 2) := by decide +kernel
theorem dX12_settle_83 : decode cX12_settle 83 = .ok (.iload 5, 2) := by decide +kernel
theorem dX12_settle_85 : decode cX12_settle 85 = .ok (.imul, 1) := by decide +kernel
theorem dX12_settle_86 : decode cX12_settle 86 = .ok (.iload_n 2, 1) := by decide +kernel
theorem dX12_settle_87 : decode cX12_settle 87 = .ok (.iadd, 1) := by decide +kernel
theorem dX12_settle_88 : decode cX12_settle 88 = .ok (.laload, 1) := by decide +kernel
theorem dX12_settle_89 : decode cX12_settle 89 = .ok (.ladd, 1) := by decide +kernel
theorem dX12_settle_90 : decode cX12_settle 90 = .ok (.lstore_n 3, 1) := by decide +kernel
theorem dX12_settle_91 : decode cX12_settle 91 = .ok (.iinc 5 1, 3) := by decide +kernel
theorem dX12_settle_94 : decode cX12_settle 94 = .ok (.goto (-25), 3) := by decide +kernel
theorem dX12_settle_97 : decode cX12_settle 97 = .ok (.iload_n 2, 1) := by decide +kernel
theorem dX12_settle_98 : decode cX12_settle 98 = .ok (.bipush 8, 2) := by decide +kernel
theorem dX12_settle_100 : decode cX12_settle 100 = .ok (.if_icmp .ge 18, 3) := by decide +kernel
theorem dX12_settle_103 : decode cX12_settle 103 = .ok (.aload_n 0, 1) := by decide +kernel
theorem dX12_settle_104 : decode cX12_settle 104 = .ok (.getfield 8, 3) := by decide +kernel
theorem dX12_settle_107 : decode cX12_settle 107 = .ok (.sipush 192, 3) := by decide +kernel
theorem dX12_settle_110 : decode cX12_settle 110 = .ok (.iload_n 2, 1) := by decide +kernel
theorem dX12_settle_111 : decode cX12_settle 111 = .ok (.iadd, 1) := by decide +kernel
theorem dX12_settle_112 : decode cX12_settle 112 = .ok (.lload_n 3, 1) := by decide +kernel
theorem dX12_settle_113 : decode cX12_settle 113 = .ok (.l2i, 1) := by decide +kernel
theorem dX12_settle_114 : decode cX12_settle 114 = .ok (.iastore, 1) := by decide +kernel
theorem dX12_settle_115 : decode cX12_settle 115 = .ok (.goto 32, 3) := by decide +kernel
theorem dX12_settle_118 : decode cX12_settle 118 = .ok (.iload_n 2, 1) := by decide +kernel
theorem dX12_settle_119 : decode cX12_settle 119 = .ok (.bipush 8, 2) := by decide +kernel
theorem dX12_settle_121 : decode cX12_settle 121 = .ok (.isub, 1) := by decide +kernel
theorem dX12_settle_122 : decode cX12_settle 122 = .ok (.aload_n 0, 1) := by decide +kernel
theorem dX12_settle_123 : decode cX12_settle 123 = .ok (.getfield 8, 3) := by decide +kernel
theorem dX12_settle_126 : decode cX12_settle 126 = .ok (.bipush 9, 2) := by decide +kernel
theorem dX12_settle_128 : decode cX12_settle 128 = .ok (.iaload, 1) := by decide +kernel
theorem dX12_settle_129 : decode cX12_settle 129 = .ok (.if_icmp .ge 18, 3) := by decide +kernel
theorem dX12_settle_132 : decode cX12_settle 132 = .ok (.aload_n 0, 1) := by decide +kernel
theorem dX12_settle_133 : decode cX12_settle 133 = .ok (.getfield 8, 3) := by decide +kernel
theorem dX12_settle_136 : decode cX12_settle 136 = .ok (.sipush 11502, 3) := by decide +kernel
theorem dX12_settle_139 : decode cX12_settle 139 = .ok (.iload_n 2, 1) := by decide +kernel
theorem dX12_settle_140 : decode cX12_settle 140 = .ok (.iadd, 1) := by decide +kernel
theorem dX12_settle_141 : decode cX12_settle 141 = .ok (.bipush 8, 2) := by decide +kernel
theorem dX12_settle_143 : decode cX12_settle 143 = .ok (.isub, 1) := by decide +kernel
theorem dX12_settle_144 : decode cX12_settle 144 = .ok (.lload_n 3, 1) := by decide +kernel
theorem dX12_settle_145 : decode cX12_settle 145 = .ok (.l2i, 1) := by decide +kernel
theorem dX12_settle_146 : decode cX12_settle 146 = .ok (.iastore, 1) := by decide +kernel
theorem dX12_settle_147 : decode cX12_settle 147 = .ok (.iinc 2 1, 3) := by decide +kernel
theorem dX12_settle_150 : decode cX12_settle 150 = .ok (.goto (-103), 3) := by decide +kernel
theorem dX12_settle_153 : decode cX12_settle 153 = .ok (.iconst 0, 1) := by decide +kernel
theorem dX12_settle_154 : decode cX12_settle 154 = .ok (.istore_n 2, 1) := by decide +kernel
theorem dX12_settle_155 : decode cX12_settle 155 = .ok (.iload_n 2, 1) := by decide +kernel
theorem dX12_settle_156 : decode cX12_settle 156 = .ok (.aload_n 0, 1) := by decide +kernel
theorem dX12_settle_157 : decode cX12_settle 157 = .ok (.getfield 8, 3) := by decide +kernel
theorem dX12_settle_160 : decode cX12_settle 160 = .ok (.iconst 2, 1) := by decide +kernel
theorem dX12_settle_161 : decode cX12_settle 161 = .ok (.iaload, 1) := by decide +kernel
theorem dX12_settle_162 : decode cX12_settle 162 = .ok (.if_icmp .ge 71, 3) := by decide +kernel
theorem dX12_settle_165 : decode cX12_settle 165 = .ok (.aload_n 0, 1) := by decide +kernel
theorem dX12_settle_166 : decode cX12_settle 166 = .ok (.getfield 8, 3) := by decide +kernel
theorem dX12_settle_169 : decode cX12_settle 169 = .ok (.sipush 370, 3) := by decide +kernel
theorem dX12_settle_172 : decode cX12_settle 172 = .ok (.iload_n 2, 1) := by decide +kernel
theorem dX12_settle_173 : decode cX12_settle 173 = .ok (.iadd, 1) := by decide +kernel
theorem dX12_settle_174 : decode cX12_settle 174 = .ok (.iaload, 1) := by decide +kernel
theorem dX12_settle_175 : decode cX12_settle 175 = .ok (.iconst 4, 1) := by decide +kernel
theorem dX12_settle_176 : decode cX12_settle 176 = .ok (.if_icmp .eq 17, 3) := by decide +kernel
theorem dX12_settle_179 : decode cX12_settle 179 = .ok (.aload_n 0, 1) := by decide +kernel
theorem dX12_settle_180 : decode cX12_settle 180 = .ok (.getfield 8, 3) := by decide +kernel
theorem dX12_settle_183 : decode cX12_settle 183 = .ok (.sipush 370, 3) := by decide +kernel
theorem dX12_settle_186 : decode cX12_settle 186 = .ok (.iload_n 2, 1) := by decide +kernel
theorem dX12_settle_187 : decode cX12_settle 187 = .ok (.iadd, 1) := by decide +kernel
theorem dX12_settle_188 : decode cX12_settle 188 = .ok (.iaload, 1) := by decide +kernel
theorem dX12_settle_189 : decode cX12_settle 189 = .ok (.iconst 5, 1) := by decide +kernel
theorem dX12_settle_190 : decode cX12_settle 190 = .ok (.if_icmp .ne 7, 3) := by decide +kernel
theorem dX12_settle_193 : decode cX12_settle 193 = .ok (.iconst 1, 1) := by decide +kernel
theorem dX12_settle_194 : decode cX12_settle 194 = .ok (.goto 4, 3) := by decide +kernel
theorem dX12_settle_197 : decode cX12_settle 197 = .ok (.iconst 0, 1) := by decide +kernel
theorem dX12_settle_198 : decode cX12_settle 198 = .ok (.istore_n 3, 1) := by decide +kernel
theorem dX12_settle_199 : decode cX12_settle 199 = .ok (.aload_n 0, 1) := by decide +kernel
theorem dX12_settle_200 : decode cX12_settle 200 = .ok (.getfield 8, 3) := by decide +kernel
theorem dX12_settle_203 : decode cX12_settle 203 = .ok (.sipush 790, 3) := by decide +kernel
theorem dX12_settle_206 : decode cX12_settle 206 = .ok (.iload_n 2, 1) := by decide +kernel
theorem dX12_settle_207 : decode cX12_settle 207 = .ok (.iadd, 1) := by decide +kernel
theorem dX12_settle_208 : decode cX12_settle 208 = .ok (.iload_n 3, 1) := by decide +kernel
theorem dX12_settle_209 : decode cX12_settle 209 = .ok (.ifCond .eq 7, 3) := by decide +kernel
theorem dX12_settle_212 : decode cX12_settle 212 = .ok (.iconst 1, 1) := by decide +kernel
theorem dX12_settle_213 : decode cX12_settle 213 = .ok (.goto 13, 3) := by decide +kernel
theorem dX12_settle_216 : decode cX12_settle 216 = .ok (.aload_n 0, 1) := by decide +kernel
theorem dX12_settle_217 : decode cX12_settle 217 = .ok (.getfield 8, 3) := by decide +kernel
theorem dX12_settle_220 : decode cX12_settle 220 = .ok (.sipush 790, 3) := by decide +kernel
theorem dX12_settle_223 : decode cX12_settle 223 = .ok (.iload_n 2, 1) := by decide +kernel
theorem dX12_settle_224 : decode cX12_settle 224 = .ok (.iadd, 1) := by decide +kernel
theorem dX12_settle_225 : decode cX12_settle 225 = .ok (.iaload, 1) := by decide +kernel
theorem dX12_settle_226 : decode cX12_settle 226 = .ok (.iastore, 1) := by decide +kernel
theorem dX12_settle_227 : decode cX12_settle 227 = .ok (.iinc 2 1, 3) := by decide +kernel
theorem dX12_settle_230 : decode cX12_settle 230 = .ok (.goto (-75), 3) := by decide +kernel
theorem dX12_settle_233 : decode cX12_settle 233 = .ok (.iconst 0, 1) := by decide +kernel
theorem dX12_settle_234 : decode cX12_settle 234 = .ok (.istore_n 2, 1) := by decide +kernel
theorem dX12_settle_235 : decode cX12_settle 235 = .ok (.iload_n 2, 1) := by decide +kernel
theorem dX12_settle_236 : decode cX12_settle 236 = .ok (.aload_n 0, 1) := by decide +kernel
theorem dX12_settle_237 : decode cX12_settle 237 = .ok (.getfield 8, 3) := by decide +kernel
theorem dX12_settle_240 : decode cX12_settle 240 = .ok (.bipush 9, 2) := by decide +kernel
theorem dX12_settle_242 : decode cX12_settle 242 = .ok (.iaload, 1) := by decide +kernel
theorem dX12_settle_243 : decode cX12_settle 243 = .ok (.if_icmp .ge 133, 3) := by decide +kernel
theorem dX12_settle_246 : decode cX12_settle 246 = .ok (.iconst 0, 1) := by decide +kernel
theorem dX12_settle_247 : decode cX12_settle 247 = .ok (.istore_n 3, 1) := by decide +kernel
theorem dX12_settle_248 : decode cX12_settle 248 = .ok (.iload_n 3, 1) := by decide +kernel
theorem dX12_settle_249 : decode cX12_settle 249 = .ok (.bipush 8, 2) := by decide +kernel
theorem dX12_settle_251 : decode cX12_settle 251 = .ok (.if_icmp .ge 87, 3) := by decide +kernel
theorem dX12_settle_254 : decode cX12_settle 254 = .ok (.iload_n 1, 1) := by decide +kernel
theorem dX12_settle_255 : decode cX12_settle 255 = .ok (.iload_n 3, 1) := by decide +kernel
theorem dX12_settle_256 : decode cX12_settle 256 = .ok (.ishr, 1) := by decide +kernel
theorem dX12_settle_257 : decode cX12_settle 257 = .ok (.iconst 1, 1) := by decide +kernel
theorem dX12_settle_258 : decode cX12_settle 258 = .ok (.iand, 1) := by decide +kernel
theorem dX12_settle_259 : decode cX12_settle 259 = .ok (.iconst 1, 1) := by decide +kernel
theorem dX12_settle_260 : decode cX12_settle 260 = .ok (.if_icmp .ne 72, 3) := by decide +kernel
theorem dX12_settle_263 : decode cX12_settle 263 = .ok (.aload_n 0, 1) := by decide +kernel
theorem dX12_settle_264 : decode cX12_settle 264 = .ok (.getfield 32, 3) := by decide +kernel
theorem dX12_settle_267 : decode cX12_settle 267 = .ok (.bipush 20, 2) := by decide +kernel
theorem dX12_settle_269 : decode cX12_settle 269 = .ok (.iload_n 3, 1) := by decide +kernel
theorem dX12_settle_270 : decode cX12_settle 270 = .ok (.imul, 1) := by decide +kernel
theorem dX12_settle_271 : decode cX12_settle 271 = .ok (.bipush 8, 2) := by decide +kernel
theorem dX12_settle_273 : decode cX12_settle 273 = .ok (.iadd, 1) := by decide +kernel
theorem dX12_settle_274 : decode cX12_settle 274 = .ok (.iload_n 2, 1) := by decide +kernel
theorem dX12_settle_275 : decode cX12_settle 275 = .ok (.iadd, 1) := by decide +kernel
theorem dX12_settle_276 : decode cX12_settle 276 = .ok (.laload, 1) := by decide +kernel
theorem dX12_settle_277 : decode cX12_settle 277 = .ok (.lconst 0, 1) := by decide +kernel
theorem dX12_settle_278 : decode cX12_settle 278 = .ok (.lcmp, 1) := by decide +kernel
theorem dX12_settle_279 : decode cX12_settle 279 = .ok (.ifCond .le 53, 3) := by decide +kernel
theorem dX12_settle_282 : decode cX12_settle 282 = .ok (.aload_n 0, 1) := by decide +kernel
theorem dX12_settle_283 : decode cX12_settle 283 = .ok (.getfield 8, 3) := by decide +kernel
theorem dX12_settle_286 : decode cX12_settle 286 = .ok (.sipush 11530, 3) := by decide +kernel
theorem dX12_settle_289 : decode cX12_settle 289 = .ok (.bipush 9, 2) := by decide +kernel
theorem dX12_settle_291 : decode cX12_settle 291 = .ok (.iload_n 2, 1) := by decide +kernel
theorem dX12_settle_292 : decode cX12_settle 292 = .ok (.imul, 1) := by decide +kernel
theorem dX12_settle_293 : decode cX12_settle 293 = .ok (.iadd, 1) := by decide +kernel
theorem dX12_settle_294 : decode cX12_settle 294 = .ok (.bipush 8, 2) := by decide +kernel
theorem dX12_settle_296 : decode cX12_settle 296 = .ok (.iadd, 1) := by decide +kernel
theorem dX12_settle_297 : decode cX12_settle 297 = .ok (.dup2, 1) := by decide +kernel
theorem dX12_settle_298 : decode cX12_settle 298 = .ok (.iaload, 1) := by decide +kernel
theorem dX12_settle_299 : decode cX12_settle 299 = .ok (.aload_n 0, 1) := by decide +kernel
theorem dX12_settle_300 : decode cX12_settle 300 = .ok (.getfield 8, 3) := by decide +kernel
theorem dX12_settle_303 : decode cX12_settle 303 = .ok (.sipush 11530, 3) := by decide +kernel
theorem dX12_settle_306 : decode cX12_settle 306 = .ok (.bipush 9, 2) := by decide +kernel
theorem dX12_settle_308 : decode cX12_settle 308 = .ok (.iload_n 2, 1) := by decide +kernel
theorem dX12_settle_309 : decode cX12_settle 309 = .ok (.imul, 1) := by decide +kernel
theorem dX12_settle_310 : decode cX12_settle 310 = .ok (.iadd, 1) := by decide +kernel
theorem dX12_settle_311 : decode cX12_settle 311 = .ok (.iload_n 3, 1) := by decide +kernel
theorem dX12_settle_312 : decode cX12_settle 312 = .ok (.iadd, 1) := by decide +kernel
theorem dX12_settle_313 : decode cX12_settle 313 = .ok (.iaload, 1) := by decide +kernel
theorem dX12_settle_314 : decode cX12_settle 314 = .ok (.iadd, 1) := by decide +kernel
theorem dX12_settle_315 : decode cX12_settle 315 = .ok (.iastore, 1) := by decide +kernel
theorem dX12_settle_316 : decode cX12_settle 316 = .ok (.aload_n 0, 1) := by decide +kernel
theorem dX12_settle_317 : decode cX12_settle 317 = .ok (.getfield 8, 3) := by decide +kernel
theorem dX12_settle_320 : decode cX12_settle 320 = .ok (.sipush 11530, 3) := by decide +kernel
theorem dX12_settle_323 : decode cX12_settle 323 = .ok (.bipush 9, 2) := by decide +kernel
theorem dX12_settle_325 : decode cX12_settle 325 = .ok (.iload_n 2, 1) := by decide +kernel
theorem dX12_settle_326 : decode cX12_settle 326 = .ok (.imul, 1) := by decide +kernel
theorem dX12_settle_327 : decode cX12_settle 327 = .ok (.iadd, 1) := by decide +kernel
theorem dX12_settle_328 : decode cX12_settle 328 = .ok (.iload_n 3, 1) := by decide +kernel
theorem dX12_settle_329 : decode cX12_settle 329 = .ok (.iadd, 1) := by decide +kernel
theorem dX12_settle_330 : decode cX12_settle 330 = .ok (.iconst 0, 1) := by decide +kernel
theorem dX12_settle_331 : decode cX12_settle 331 = .ok (.iastore, 1) := by decide +kernel
theorem dX12_settle_332 : decode cX12_settle 332 = .ok (.iinc 3 1, 3) := by decide +kernel
theorem dX12_settle_335 : decode cX12_settle 335 = .ok (.goto (-87), 3) := by decide +kernel
theorem dX12_settle_338 : decode cX12_settle 338 = .ok (.iload_n 1, 1) := by decide +kernel
theorem dX12_settle_339 : decode cX12_settle 339 = .ok (.bipush 8, 2) := by decide +kernel
theorem dX12_settle_341 : decode cX12_settle 341 = .ok (.iload_n 2, 1) := by decide +kernel
theorem dX12_settle_342 : decode cX12_settle 342 = .ok (.iadd, 1) := by decide +kernel
theorem dX12_settle_343 : decode cX12_settle 343 = .ok (.ishr, 1) := by decide +kernel
theorem dX12_settle_344 : decode cX12_settle 344 = .ok (.iconst 1, 1) := by decide +kernel
theorem dX12_settle_345 : decode cX12_settle 345 = .ok (.iand, 1) := by decide +kernel
theorem dX12_settle_346 : decode cX12_settle 346 = .ok (.iconst 1, 1) := by decide +kernel
theorem dX12_settle_347 : decode cX12_settle 347 = .ok (.if_icmp .ne 23, 3) := by decide +kernel
theorem dX12_settle_350 : decode cX12_settle 350 = .ok (.aload_n 0, 1) := by decide +kernel
theorem dX12_settle_351 : decode cX12_settle 351 = .ok (.getfield 8, 3) := by decide +kernel
theorem dX12_settle_354 : decode cX12_settle 354 = .ok (.sipush 790, 3) := by decide +kernel
theorem dX12_settle_357 : decode cX12_settle 357 = .ok (.aload_n 0, 1) := by decide +kernel
theorem dX12_settle_358 : decode cX12_settle 358 = .ok (.getfield 8, 3) := by decide +kernel
theorem dX12_settle_361 : decode cX12_settle 361 = .ok (.sipush 11490, 3) := by decide +kernel
theorem dX12_settle_364 : decode cX12_settle 364 = .ok (.iload_n 2, 1) := by decide +kernel
theorem dX12_settle_365 : decode cX12_settle 365 = .ok (.iadd, 1) := by decide +kernel
theorem dX12_settle_366 : decode cX12_settle 366 = .ok (.iaload, 1) := by decide +kernel
theorem dX12_settle_367 : decode cX12_settle 367 = .ok (.iadd, 1) := by decide +kernel
theorem dX12_settle_368 : decode cX12_settle 368 = .ok (.iconst 1, 1) := by decide +kernel
theorem dX12_settle_369 : decode cX12_settle 369 = .ok (.iastore, 1) := by decide +kernel
theorem dX12_settle_370 : decode cX12_settle 370 = .ok (.iinc 2 1, 3) := by decide +kernel
theorem dX12_settle_373 : decode cX12_settle 373 = .ok (.goto (-138), 3) := by decide +kernel
theorem dX12_settle_376 : decode cX12_settle 376 = .ok (.iload_n 1, 1) := by decide +kernel
theorem dX12_settle_377 : decode cX12_settle 377 = .ok (.ireturn, 1) := by decide +kernel
theorem cm_X12_settle : CM yX12_settle cX12_settle 6 (some .int) 0 12 := ⟨w_1830, w_1831, w_1832, w_97, ⟨by decide +kernel, by decide +kernel, by decide +kernel⟩, ⟨_, _, rfl⟩, by decide⟩
noncomputable def f_X12_settle_370 (n : Nat) (rec235 : Int → MM → RR) (v0 v1 v2 : Int) (h : MM) : RR :=
  lb (wr (v2 + 1)) fun x1 =>
  rec235 x1 h
noncomputable def f_X12_settle_332 (n : Nat) (rec235 : Int → MM → RR) (rec248 : Int → MM → RR) (v0 v1 v2 v3 : Int) (h : MM) : RR :=
  lb (wr (v3 + 1)) fun x1 =>
  rec248 x1 h
noncomputable def f_X12_settle_248b (n : Nat) (rec235 : Int → MM → RR) (rec248 : Int → MM → RR) (v0 v1 v2 v3 : Int) (h : MM) : RR :=
  if 8 ≤ v3 then
    if ban (shr v1 (wr (8 + v2))) 1 = 1 then
      gf h v0 12 1 fun r3 =>
      gf h v0 12 1 fun r4 =>
      rd h r4 100 (wr (11490 + v2)) fun r5 =>
      wt h r3 100 (wr (790 + r5)) 1 fun h6 =>
      f_X12_settle_370 n rec235 v0 v1 v2 h6
    else
    f_X12_settle_370 n rec235 v0 v1 v2 h
  else
  if ban (shr v1 v3) 1 = 1 then
    gf h v0 12 14 fun r8 =>
    rd h r8 101 (wr ((wr ((wr (20 * v3)) + 8)) + v2)) fun r9 =>
    if lcm r9 0 ≤ 0 then
      f_X12_settle_332 n rec235 rec248 v0 v1 v2 v3 h
    else
    gf h v0 12 1 fun r11 =>
    rd h r11 100 (wr ((wr (11530 + (wr (9 * v2)))) + 8)) fun r12 =>
    gf h v0 12 1 fun r13 =>
    rd h r13 100 (wr ((wr (11530 + (wr (9 * v2)))) + v3)) fun r14 =>
    wt h r11 100 (wr ((wr (11530 + (wr (9 * v2)))) + 8)) (wr (r12 + r14)) fun h15 =>
    gf h15 v0 12 1 fun r16 =>
    wt h15 r16 100 (wr ((wr (11530 + (wr (9 * v2)))) + v3)) 0 fun h17 =>
    f_X12_settle_332 n rec235 rec248 v0 v1 v2 v3 h17
  else
  f_X12_settle_332 n rec235 rec248 v0 v1 v2 v3 h
noncomputable def f_X12_settle_248 (n : Nat) (rec235 : Int → MM → RR) (v0 v1 v2 : Int) : Nat → Int → MM → RR
  | 0, _, _ => none
  | k + 1, v3, h => f_X12_settle_248b n rec235 (f_X12_settle_248 n rec235 v0 v1 v2 k) v0 v1 v2 v3 h
noncomputable def f_X12_settle_235b (n : Nat) (rec235 : Int → MM → RR) (v0 v1 v2 : Int) (h : MM) : RR :=
  gf h v0 12 1 fun r1 =>
  rd h r1 100 9 fun r2 =>
  if r2 ≤ v2 then
    some (v1, h)
  else
  f_X12_settle_248 n rec235 v0 v1 v2 n 0 h
noncomputable def f_X12_settle_235 (n : Nat)  (v0 v1 : Int) : Nat → Int → MM → RR
  | 0, _, _ => none
  | k + 1, v2, h => f_X12_settle_235b n  (f_X12_settle_235 n  v0 v1 k) v0 v1 v2 h
noncomputable def f_X12_settle_226 (n : Nat) (rec155 : Int → MM → RR) (v0 v1 v2 s0 s1 s2 : Int) (h : MM) : RR :=
  wt h s0 100 s1 s2 fun h1 =>
  lb (wr (v2 + 1)) fun x2 =>
  rec155 x2 h1
noncomputable def f_X12_settle_198 (n : Nat) (rec155 : Int → MM → RR) (v0 v1 v2 s0 : Int) (h : MM) : RR :=
  gf h v0 12 1 fun r1 =>
  if s0 = 0 then
    gf h v0 12 1 fun r3 =>
    rd h r3 100 (wr (790 + v2)) fun r4 =>
    f_X12_settle_226 n rec155 v0 v1 v2 r1 (wr (790 + v2)) r4 h
  else
  f_X12_settle_226 n rec155 v0 v1 v2 r1 (wr (790 + v2)) 1 h
noncomputable def f_X12_settle_193 (n : Nat) (rec155 : Int → MM → RR) (v0 v1 v2 : Int) (h : MM) : RR :=
  f_X12_settle_198 n rec155 v0 v1 v2 1 h
noncomputable def f_X12_settle_155b (n : Nat) (rec155 : Int → MM → RR) (v0 v1 v2 : Int) (h : MM) : RR :=
  gf h v0 12 1 fun r1 =>
  rd h r1 100 2 fun r2 =>
  if r2 ≤ v2 then
    f_X12_settle_235 n v0 v1 n 0 h
  else
  gf h v0 12 1 fun r4 =>
  rd h r4 100 (wr (370 + v2)) fun r5 =>
  if r5 = 4 then
    f_X12_settle_193 n rec155 v0 v1 v2 h
  else
  gf h v0 12 1 fun r7 =>
  rd h r7 100 (wr (370 + v2)) fun r8 =>
  if r8 = 5 then
    f_X12_settle_193 n rec155 v0 v1 v2 h
  else
  f_X12_settle_198 n rec155 v0 v1 v2 0 h
noncomputable def f_X12_settle_155 (n : Nat)  (v0 v1 : Int) : Nat → Int → MM → RR
  | 0, _, _ => none
  | k + 1, v2, h => f_X12_settle_155b n  (f_X12_settle_155 n  v0 v1 k) v0 v1 v2 h
noncomputable def f_X12_settle_147 (n : Nat) (rec47 : Int → MM → RR) (v0 v1 v2 : Int) (h : MM) : RR :=
  lb (wr (v2 + 1)) fun x1 =>
  rec47 x1 h
noncomputable def f_X12_settle_69b (n : Nat) (rec47 : Int → MM → RR) (rec69 : Int → Int → MM → RR) (v0 v1 v2 v3 v5 : Int) (h : MM) : RR :=
  if 20 ≤ v5 then
    if 8 ≤ v2 then
      gf h v0 12 1 fun r3 =>
      rd h r3 100 9 fun r4 =>
      if r4 ≤ wr (v2 - 8) then
        f_X12_settle_147 n rec47 v0 v1 v2 h
      else
      gf h v0 12 1 fun r6 =>
      wt h r6 100 (wr ((wr (11502 + v2)) - 8)) (wr v3) fun h7 =>
      f_X12_settle_147 n rec47 v0 v1 v2 h7
    else
    gf h v0 12 1 fun r8 =>
    wt h r8 100 (wr (192 + v2)) (wr v3) fun h9 =>
    f_X12_settle_147 n rec47 v0 v1 v2 h9
  else
  gf h v0 12 15 fun r10 =>
  rd h r10 101 (wr ((wr (20 * v5)) + v2)) fun r11 =>
  lb (wl (v3 + r11)) fun x12 =>
  lb (wr (v5 + 1)) fun x13 =>
  rec69 x12 x13 h
noncomputable def f_X12_settle_69 (n : Nat) (rec47 : Int → MM → RR) (v0 v1 v2 : Int) : Nat → Int → Int → MM → RR
  | 0, _, _, _ => none
  | k + 1, v3, v5, h => f_X12_settle_69b n rec47 (f_X12_settle_69 n rec47 v0 v1 v2 k) v0 v1 v2 v3 v5 h
noncomputable def f_X12_settle_47b (n : Nat) (rec47 : Int → MM → RR) (v0 v1 v2 : Int) (h : MM) : RR :=
  if 20 ≤ v2 then
    f_X12_settle_155 n v0 v1 n 0 h
  else
  gf h v0 12 17 fun r2 =>
  rd h r2 101 v2 fun r3 =>
  gk h v0 12 <|
  bd (f_X12_pays n v0 v2 h) fun r4 h4 =>
  lb (wl (r3 - r4)) fun x5 =>
  f_X12_settle_69 n rec47 v0 v1 v2 n x5 0 h4
noncomputable def f_X12_settle_47 (n : Nat)  (v0 v1 : Int) : Nat → Int → MM → RR
  | 0, _, _ => none
  | k + 1, v2, h => f_X12_settle_47b n  (f_X12_settle_47 n  v0 v1 k) v0 v1 v2 h
noncomputable def f_X12_settle_37 (n : Nat) (rec8 : Int → Int → MM → RR) (v0 v2 s0 s1 : Int) (h : MM) : RR :=
  lb (bor s0 s1) fun x1 =>
  lb (wr (v2 + 1)) fun x2 =>
  rec8 x1 x2 h
noncomputable def f_X12_settle_8b (n : Nat) (rec8 : Int → Int → MM → RR) (v0 v1 v2 : Int) (h : MM) : RR :=
  if 20 ≤ v2 then
    f_X12_settle_47 n v0 v1 n 0 h
  else
  gk h v0 12 <|
  bd (f_X12_pays n v0 v2 h) fun r2 h2 =>
  gf h2 v0 12 18 fun r3 =>
  rd h2 r3 101 v2 fun r4 =>
  if 0 ≤ lcm r2 r4 then
    f_X12_settle_37 n rec8 v0 v2 v1 0 h2
  else
  f_X12_settle_37 n rec8 v0 v2 v1 (shl 1 v2) h2
noncomputable def f_X12_settle_8 (n : Nat)  (v0 : Int) : Nat → Int → Int → MM → RR
  | 0, _, _, _ => none
  | k + 1, v1, v2, h => f_X12_settle_8b n  (f_X12_settle_8 n  v0 k) v0 v1 v2 h
noncomputable def f_X12_settle (n : Nat) (v0 : Int) (h : MM) : RR :=
  gk h v0 12 <|
  bd (f_X12_settles n v0 h) fun r1 h1 =>
  f_X12_settle_8 n v0 n 0 0 h1
set_option maxRecDepth 20000 in
theorem b_X12_settle_370 {g : GT} {Z : Int × MM} {n : Nat} (C : Cx g cX12_settle 6 yX12_settle 2 50) (hr : Rt g (some .int) 0 Z) {v0 v1 v2 : Int}  {rec235 : Int → MM → RR} (L235 : ∀ (u2 : Int) (h : MM), in32 u2 → rec235 u2 h = some Z → G g 235 [(2, v0), (0, v1), (0, u2), (3, 0), (3, 0), (3, 0)] [] h) (cv1 : in32 v1) (cv2 : in32 v2) {h : MM} (hf : f_X12_settle_370 n rec235 v0 v1 v2 h = some Z) : G g 370 [(2, v0), (0, v1), (0, v2), (3, 0), (3, 0), (3, 0)] [] h := by
  unfold f_X12_settle_370 at hf
  obtain ⟨x1, e1, hf⟩ := lb_s hf
  have c1 : in32 x1 := by rw [e1]; exact (in32_t _)
  refine r_iincL C dX12_settle_370 rfl e1 (Nat.le_of_ble_eq_true rfl) rfl ?_
  refine r_goto C dX12_settle_373 (tgt := 235) (by decide) ?_
  exact G.mask [true, true, true, false, false, false] rfl rfl (L235 _ _ c1 hf)
set_option maxRecDepth 20000 in
theorem b_X12_settle_332 {g : GT} {Z : Int × MM} {n : Nat} (C : Cx g cX12_settle 6 yX12_settle 2 50) (hr : Rt g (some .int) 0 Z) {v0 v1 v2 v3 : Int}  {rec235 : Int → MM → RR} {rec248 : Int → MM → RR} (L235 : ∀ (u2 : Int) (h : MM), in32 u2 → rec235 u2 h = some Z → G g 235 [(2, v0), (0, v1), (0, u2), (3, 0), (3, 0), (3, 0)] [] h) (L248 : ∀ (u3 : Int) (h : MM), in32 u3 → rec248 u3 h = some Z → G g 248 [(2, v0), (0, v1), (0, v2), (0, u3), (3, 0), (3, 0)] [] h) (cv1 : in32 v1) (cv2 : in32 v2) (cv3 : in32 v3) {h : MM} (hf : f_X12_settle_332 n rec235 rec248 v0 v1 v2 v3 h = some Z) : G g 332 [(2, v0), (0, v1), (0, v2), (0, v3), (3, 0), (3, 0)] [] h := by
  unfold f_X12_settle_332 at hf
  obtain ⟨x1, e1, hf⟩ := lb_s hf
  have c1 : in32 x1 := by rw [e1]; exact (in32_t _)
  refine r_iincL C dX12_settle_332 rfl e1 (Nat.le_of_ble_eq_true rfl) rfl ?_
  refine r_goto C dX12_settle_335 (tgt := 248) (by decide) ?_
  exact G.mask [true, true, true, true, false, false] rfl rfl (L248 _ _ c1 hf)
set_option maxRecDepth 20000 in
theorem b_X12_settle_248b {g : GT} {Z : Int × MM} {n : Nat} (C : Cx g cX12_settle 6 yX12_settle 2 50) (hr : Rt g (some .int) 0 Z) {v0 v1 v2 v3 : Int}  {rec235 : Int → MM → RR} {rec248 : Int → MM → RR} (L235 : ∀ (u2 : Int) (h : MM), in32 u2 → rec235 u2 h = some Z → G g 235 [(2, v0), (0, v1), (0, u2), (3, 0), (3, 0), (3, 0)] [] h) (L248 : ∀ (u3 : Int) (h : MM), in32 u3 → rec248 u3 h = some Z → G g 248 [(2, v0), (0, v1), (0, v2), (0, u3), (3, 0), (3, 0)] [] h) (cv1 : in32 v1) (cv2 : in32 v2) (cv3 : in32 v3) {h : MM} (hf : f_X12_settle_248b n rec235 rec248 v0 v1 v2 v3 h = some Z) : G g 248 [(2, v0), (0, v1), (0, v2), (0, v3), (3, 0), (3, 0)] [] h := by
  unfold f_X12_settle_248b at hf
  refine r_iload_n C dX12_settle_248 rfl ?_
  refine r_bipush C dX12_settle_249 rfl ?_
  refine r_icmp_ge C dX12_settle_251 (tgt := 338) (by decide) cv3 (in32_of rfl) (fun n1 => ?_) (fun n1 => ?_)
  · have hf := ite_p n1 hf
    refine r_iload_n C dX12_settle_338 rfl ?_
    refine r_bipush C dX12_settle_339 rfl ?_
    refine r_iload_n C dX12_settle_341 rfl ?_
    refine r_iadd C dX12_settle_342 ?_
    refine r_ishr C dX12_settle_343 ?_
    refine r_iconst C dX12_settle_344 ?_
    refine r_iand C dX12_settle_345 ?_
    refine r_iconst C dX12_settle_346 ?_
    refine r_icmp_ne C dX12_settle_347 (tgt := 370) (by decide) (in32_t _) (in32_of rfl) (fun n2 => ?_) (fun n2 => ?_)
    · have hf := ite_n n2 hf
      exact G.mask [true, true, true, false, false, false] rfl rfl (b_X12_settle_370 C hr L235 cv1 cv2 hf)
    · have hf := ite_p n2 hf
      refine r_aload_n C dX12_settle_350 rfl ?_
      obtain ⟨q3, hf⟩ := gf_s hf
      refine r_gf C ct12 (j := 1) (ji := 1) dX12_settle_351 q3 rfl rfl (by decide) w_1426 rfl (fun c3 => ?_)
      refine r_sipush C dX12_settle_354 rfl ?_
      refine r_aload_n C dX12_settle_357 rfl ?_
      obtain ⟨q4, hf⟩ := gf_s hf
      refine r_gf C ct12 (j := 1) (ji := 1) dX12_settle_358 q4 rfl rfl (by decide) w_1426 rfl (fun c4 => ?_)
      refine r_sipush C dX12_settle_361 rfl ?_
      refine r_iload_n C dX12_settle_364 rfl ?_
      refine r_iadd C dX12_settle_365 ?_
      obtain ⟨q5, hf⟩ := rd_s hf
      refine r_iald C dX12_settle_366 q5 rfl (fun c5 => ?_)
      refine r_iadd C dX12_settle_367 ?_
      refine r_iconst C dX12_settle_368 ?_
      obtain ⟨q6, hf⟩ := wt_s hf
      refine r_iast C dX12_settle_369 q6 rfl (in32_of rfl) ?_
      exact G.mask [true, true, true, false, false, false] rfl rfl (b_X12_settle_370 C hr L235 cv1 cv2 hf)
  · have hf := ite_n n1 hf
    refine r_iload_n C dX12_settle_254 rfl ?_
    refine r_iload_n C dX12_settle_255 rfl ?_
    refine r_ishr C dX12_settle_256 ?_
    refine r_iconst C dX12_settle_257 ?_
    refine r_iand C dX12_settle_258 ?_
    refine r_iconst C dX12_settle_259 ?_
    refine r_icmp_ne C dX12_settle_260 (tgt := 332) (by decide) (in32_t _) (in32_of rfl) (fun n7 => ?_) (fun n7 => ?_)
    · have hf := ite_n n7 hf
      exact G.mask [true, true, true, true, false, false] rfl rfl (b_X12_settle_332 C hr L235 L248 cv1 cv2 cv3 hf)
    · have hf := ite_p n7 hf
      refine r_aload_n C dX12_settle_263 rfl ?_
      obtain ⟨q8, hf⟩ := gf_s hf
      refine r_gf C ct12 (j := 14) (ji := 14) dX12_settle_264 q8 rfl rfl (by decide) w_1439 rfl (fun c8 => ?_)
      refine r_bipush C dX12_settle_267 rfl ?_
      refine r_iload_n C dX12_settle_269 rfl ?_
      refine r_imul C dX12_settle_270 ?_
      refine r_bipush C dX12_settle_271 rfl ?_
      refine r_iadd C dX12_settle_273 ?_
      refine r_iload_n C dX12_settle_274 rfl ?_
      refine r_iadd C dX12_settle_275 ?_
      obtain ⟨q9, hf⟩ := rd_s hf
      refine r_lald C dX12_settle_276 q9 rfl (fun c9 => ?_)
      refine r_lconst C (v := 0) dX12_settle_277 rfl ?_
      refine r_lcmp C dX12_settle_278 ?_
      refine r_if_le C dX12_settle_279 (tgt := 332) (by decide) (in32_t _) (fun n10 => ?_) (fun n10 => ?_)
      · have hf := ite_p n10 hf
        exact G.mask [true, true, true, true, false, false] rfl rfl (b_X12_settle_332 C hr L235 L248 cv1 cv2 cv3 hf)
      · have hf := ite_n n10 hf
        refine r_aload_n C dX12_settle_282 rfl ?_
        obtain ⟨q11, hf⟩ := gf_s hf
        refine r_gf C ct12 (j := 1) (ji := 1) dX12_settle_283 q11 rfl rfl (by decide) w_1426 rfl (fun c11 => ?_)
        refine r_sipush C dX12_settle_286 rfl ?_
        refine r_bipush C dX12_settle_289 rfl ?_
        refine r_iload_n C dX12_settle_291 rfl ?_
        refine r_imul C dX12_settle_292 ?_
        refine r_iadd C dX12_settle_293 ?_
        refine r_bipush C dX12_settle_294 rfl ?_
        refine r_iadd C dX12_settle_296 ?_
        refine r_dup2 C dX12_settle_297 (by decide) (by decide) ?_
        obtain ⟨q12, hf⟩ := rd_s hf
        refine r_iald C dX12_settle_298 q12 rfl (fun c12 => ?_)
        refine r_aload_n C dX12_settle_299 rfl ?_
        obtain ⟨q13, hf⟩ := gf_s hf
        refine r_gf C ct12 (j := 1) (ji := 1) dX12_settle_300 q13 rfl rfl (by decide) w_1426 rfl (fun c13 => ?_)
        refine r_sipush C dX12_settle_303 rfl ?_
        refine r_bipush C dX12_settle_306 rfl ?_
        refine r_iload_n C dX12_settle_308 rfl ?_
        refine r_imul C dX12_settle_309 ?_
        refine r_iadd C dX12_settle_310 ?_
        refine r_iload_n C dX12_settle_311 rfl ?_
        refine r_iadd C dX12_settle_312 ?_
        obtain ⟨q14, hf⟩ := rd_s hf
        refine r_iald C dX12_settle_313 q14 rfl (fun c14 => ?_)
        refine r_iadd C dX12_settle_314 ?_
        obtain ⟨q15, hf⟩ := wt_s hf
        refine r_iast C dX12_settle_315 q15 rfl (in32_t _) ?_
        refine r_aload_n C dX12_settle_316 rfl ?_
        obtain ⟨q16, hf⟩ := gf_s hf
        refine r_gf C ct12 (j := 1) (ji := 1) dX12_settle_317 q16 rfl rfl (by decide) w_1426 rfl (fun c16 => ?_)
        refine r_sipush C dX12_settle_320 rfl ?_
        refine r_bipush C dX12_settle_323 rfl ?_
        refine r_iload_n C dX12_settle_325 rfl ?_
        refine r_imul C dX12_settle_326 ?_
        refine r_iadd C dX12_settle_327 ?_
        refine r_iload_n C dX12_settle_328 rfl ?_
        refine r_iadd C dX12_settle_329 ?_
        refine r_iconst C dX12_settle_330 ?_
        obtain ⟨q17, hf⟩ := wt_s hf
        refine r_iast C dX12_settle_331 q17 rfl (in32_of rfl) ?_
        exact G.mask [true, true, true, true, false, false] rfl rfl (b_X12_settle_332 C hr L235 L248 cv1 cv2 cv3 hf)
set_option maxRecDepth 20000 in
theorem l_X12_settle_248 {g : GT} {Z : Int × MM} {n : Nat} (C : Cx g cX12_settle 6 yX12_settle 2 50) (hr : Rt g (some .int) 0 Z) {v0 v1 v2 : Int} {rec235 : Int → MM → RR} (L235 : ∀ (u2 : Int) (h : MM), in32 u2 → rec235 u2 h = some Z → G g 235 [(2, v0), (0, v1), (0, u2), (3, 0), (3, 0), (3, 0)] [] h) (cv1 : in32 v1) (cv2 : in32 v2) : ∀ (k : Nat) (v3 : Int) (h : MM), in32 v3 → f_X12_settle_248 n rec235 v0 v1 v2 k v3 h = some Z → G g 248 [(2, v0), (0, v1), (0, v2), (0, v3), (3, 0), (3, 0)] [] h := by
  intro k
  induction k with
  | zero => intro v3 h cv3 hf; exact absurd hf (by intro z; cases z)
  | succ k ih => intro v3 h cv3 hf; exact b_X12_settle_248b C hr (rec248 := f_X12_settle_248 n rec235 v0 v1 v2 k) L235 ih cv1 cv2 cv3 (show f_X12_settle_248b n rec235 (f_X12_settle_248 n rec235 v0 v1 v2 k) v0 v1 v2 v3 h = some Z from hf)
set_option maxRecDepth 20000 in
theorem b_X12_settle_235b {g : GT} {Z : Int × MM} {n : Nat} (C : Cx g cX12_settle 6 yX12_settle 2 50) (hr : Rt g (some .int) 0 Z) {v0 v1 v2 : Int}  {rec235 : Int → MM → RR} (L235 : ∀ (u2 : Int) (h : MM), in32 u2 → rec235 u2 h = some Z → G g 235 [(2, v0), (0, v1), (0, u2), (3, 0), (3, 0), (3, 0)] [] h) (cv1 : in32 v1) (cv2 : in32 v2) {h : MM} (hf : f_X12_settle_235b n rec235 v0 v1 v2 h = some Z) : G g 235 [(2, v0), (0, v1), (0, v2), (3, 0), (3, 0), (3, 0)] [] h := by
  unfold f_X12_settle_235b at hf
  refine r_iload_n C dX12_settle_235 rfl ?_
  refine r_aload_n C dX12_settle_236 rfl ?_
  obtain ⟨q1, hf⟩ := gf_s hf
  refine r_gf C ct12 (j := 1) (ji := 1) dX12_settle_237 q1 rfl rfl (by decide) w_1426 rfl (fun c1 => ?_)
  refine r_bipush C dX12_settle_240 rfl ?_
  obtain ⟨q2, hf⟩ := rd_s hf
  refine r_iald C dX12_settle_242 q2 rfl (fun c2 => ?_)
  refine r_icmp_ge C dX12_settle_243 (tgt := 376) (by decide) cv2 c2 (fun n3 => ?_) (fun n3 => ?_)
  · have hf := ite_p n3 hf
    refine r_iload_n C dX12_settle_376 rfl ?_
    cases hf
    exact r_jret C hr dX12_settle_377 cv1
  · have hf := ite_n n3 hf
    refine r_iconst C dX12_settle_246 ?_
    refine r_istore_n C dX12_settle_247 (Nat.le_of_ble_eq_true rfl) rfl ?_
    exact G.mask [true, true, true, true, false, false] rfl rfl (l_X12_settle_248 C hr L235 cv1 cv2 _ _ _ (in32_of rfl) hf)
set_option maxRecDepth 20000 in
theorem l_X12_settle_235 {g : GT} {Z : Int × MM} {n : Nat} (C : Cx g cX12_settle 6 yX12_settle 2 50) (hr : Rt g (some .int) 0 Z) {v0 v1 : Int}   (cv1 : in32 v1) : ∀ (k : Nat) (v2 : Int) (h : MM), in32 v2 → f_X12_settle_235 n  v0 v1 k v2 h = some Z → G g 235 [(2, v0), (0, v1), (0, v2), (3, 0), (3, 0), (3, 0)] [] h := by
  intro k
  induction k with
  | zero => intro v2 h cv2 hf; exact absurd hf (by intro z; cases z)
  | succ k ih => intro v2 h cv2 hf; exact b_X12_settle_235b C hr (rec235 := f_X12_settle_235 n  v0 v1 k)  ih cv1 cv2 (show f_X12_settle_235b n  (f_X12_settle_235 n  v0 v1 k) v0 v1 v2 h = some Z from hf)
set_option maxRecDepth 20000 in
theorem b_X12_settle_226 {g : GT} {Z : Int × MM} {n : Nat} (C : Cx g cX12_settle 6 yX12_settle 2 50) (hr : Rt g (some .int) 0 Z) {v0 v1 v2 s0 s1 s2 : Int}  {rec155 : Int → MM → RR} (L155 : ∀ (u2 : Int) (h : MM), in32 u2 → rec155 u2 h = some Z → G g 155 [(2, v0), (0, v1), (0, u2), (3, 0), (3, 0), (3, 0)] [] h) (cv1 : in32 v1) (cv2 : in32 v2) (cs1 : in32 s1) (cs2 : in32 s2) {h : MM} (hf : f_X12_settle_226 n rec155 v0 v1 v2 s0 s1 s2 h = some Z) : G g 226 [(2, v0), (0, v1), (0, v2), (3, 0), (3, 0), (3, 0)] [(0, s2), (0, s1), (2, s0)] h := by
  unfold f_X12_settle_226 at hf
  obtain ⟨q1, hf⟩ := wt_s hf
  refine r_iast C dX12_settle_226 q1 rfl cs2 ?_
  obtain ⟨x2, e2, hf⟩ := lb_s hf
  have c2 : in32 x2 := by rw [e2]; exact (in32_t _)
  refine r_iincL C dX12_settle_227 rfl e2 (Nat.le_of_ble_eq_true rfl) rfl ?_
  refine r_goto C dX12_settle_230 (tgt := 155) (by decide) ?_
  exact G.mask [true, true, true, false, false, false] rfl rfl (L155 _ _ c2 hf)
set_option maxRecDepth 20000 in
theorem b_X12_settle_198 {g : GT} {Z : Int × MM} {n : Nat} (C : Cx g cX12_settle 6 yX12_settle 2 50) (hr : Rt g (some .int) 0 Z) {v0 v1 v2 s0 : Int}  {rec155 : Int → MM → RR} (L155 : ∀ (u2 : Int) (h : MM), in32 u2 → rec155 u2 h = some Z → G g 155 [(2, v0), (0, v1), (0, u2), (3, 0), (3, 0), (3, 0)] [] h) (cv1 : in32 v1) (cv2 : in32 v2) (cs0 : in32 s0) {h : MM} (hf : f_X12_settle_198 n rec155 v0 v1 v2 s0 h = some Z) : G g 198 [(2, v0), (0, v1), (0, v2), (3, 0), (3, 0), (3, 0)] [(0, s0)] h := by
  unfold f_X12_settle_198 at hf
  refine r_istore_n C dX12_settle_198 (Nat.le_of_ble_eq_true rfl) rfl ?_
  refine r_aload_n C dX12_settle_199 rfl ?_
  obtain ⟨q1, hf⟩ := gf_s hf
  refine r_gf C ct12 (j := 1) (ji := 1) dX12_settle_200 q1 rfl rfl (by decide) w_1426 rfl (fun c1 => ?_)
  refine r_sipush C dX12_settle_203 rfl ?_
  refine r_iload_n C dX12_settle_206 rfl ?_
  refine r_iadd C dX12_settle_207 ?_
  refine r_iload_n C dX12_settle_208 rfl ?_
  refine r_if_eq C dX12_settle_209 (tgt := 216) (by decide) cs0 (fun n2 => ?_) (fun n2 => ?_)
  · have hf := ite_p n2 hf
    refine r_aload_n C dX12_settle_216 rfl ?_
    obtain ⟨q3, hf⟩ := gf_s hf
    refine r_gf C ct12 (j := 1) (ji := 1) dX12_settle_217 q3 rfl rfl (by decide) w_1426 rfl (fun c3 => ?_)
    refine r_sipush C dX12_settle_220 rfl ?_
    refine r_iload_n C dX12_settle_223 rfl ?_
    refine r_iadd C dX12_settle_224 ?_
    obtain ⟨q4, hf⟩ := rd_s hf
    refine r_iald C dX12_settle_225 q4 rfl (fun c4 => ?_)
    exact G.mask [true, true, true, false, false, false] rfl rfl (b_X12_settle_226 C hr L155 cv1 cv2 (in32_t _) c4 hf)
  · have hf := ite_n n2 hf
    refine r_iconst C dX12_settle_212 ?_
    refine r_goto C dX12_settle_213 (tgt := 226) (by decide) ?_
    exact G.mask [true, true, true, false, false, false] rfl rfl (b_X12_settle_226 C hr L155 cv1 cv2 (in32_t _) (in32_of rfl) hf)
set_option maxRecDepth 20000 in
theorem b_X12_settle_193 {g : GT} {Z : Int × MM} {n : Nat} (C : Cx g cX12_settle 6 yX12_settle 2 50) (hr : Rt g (some .int) 0 Z) {v0 v1 v2 : Int}  {rec155 : Int → MM → RR} (L155 : ∀ (u2 : Int) (h : MM), in32 u2 → rec155 u2 h = some Z → G g 155 [(2, v0), (0, v1), (0, u2), (3, 0), (3, 0), (3, 0)] [] h) (cv1 : in32 v1) (cv2 : in32 v2) {h : MM} (hf : f_X12_settle_193 n rec155 v0 v1 v2 h = some Z) : G g 193 [(2, v0), (0, v1), (0, v2), (3, 0), (3, 0), (3, 0)] [] h := by
  unfold f_X12_settle_193 at hf
  refine r_iconst C dX12_settle_193 ?_
  refine r_goto C dX12_settle_194 (tgt := 198) (by decide) ?_
  exact G.mask [true, true, true, false, false, false] rfl rfl (b_X12_settle_198 C hr L155 cv1 cv2 (in32_of rfl) hf)
set_option maxRecDepth 20000 in
theorem b_X12_settle_155b {g : GT} {Z : Int × MM} {n : Nat} (C : Cx g cX12_settle 6 yX12_settle 2 50) (hr : Rt g (some .int) 0 Z) {v0 v1 v2 : Int}  {rec155 : Int → MM → RR} (L155 : ∀ (u2 : Int) (h : MM), in32 u2 → rec155 u2 h = some Z → G g 155 [(2, v0), (0, v1), (0, u2), (3, 0), (3, 0), (3, 0)] [] h) (cv1 : in32 v1) (cv2 : in32 v2) {h : MM} (hf : f_X12_settle_155b n rec155 v0 v1 v2 h = some Z) : G g 155 [(2, v0), (0, v1), (0, v2), (3, 0), (3, 0), (3, 0)] [] h := by
  unfold f_X12_settle_155b at hf
  refine r_iload_n C dX12_settle_155 rfl ?_
  refine r_aload_n C dX12_settle_156 rfl ?_
  obtain ⟨q1, hf⟩ := gf_s hf
  refine r_gf C ct12 (j := 1) (ji := 1) dX12_settle_157 q1 rfl rfl (by decide) w_1426 rfl (fun c1 => ?_)
  refine r_iconst C dX12_settle_160 ?_
  obtain ⟨q2, hf⟩ := rd_s hf
  refine r_iald C dX12_settle_161 q2 rfl (fun c2 => ?_)
  refine r_icmp_ge C dX12_settle_162 (tgt := 233) (by decide) cv2 c2 (fun n3 => ?_) (fun n3 => ?_)
  · have hf := ite_p n3 hf
    refine r_iconst C dX12_settle_233 ?_
    refine r_istore_n C dX12_settle_234 (Nat.le_of_ble_eq_true rfl) rfl ?_
    exact G.mask [true, true, true, false, false, false] rfl rfl (l_X12_settle_235 C hr  cv1 _ _ _ (in32_of rfl) hf)
  · have hf := ite_n n3 hf
    refine r_aload_n C dX12_settle_165 rfl ?_
    obtain ⟨q4, hf⟩ := gf_s hf
    refine r_gf C ct12 (j := 1) (ji := 1) dX12_settle_166 q4 rfl rfl (by decide) w_1426 rfl (fun c4 => ?_)
    refine r_sipush C dX12_settle_169 rfl ?_
    refine r_iload_n C dX12_settle_172 rfl ?_
    refine r_iadd C dX12_settle_173 ?_
    obtain ⟨q5, hf⟩ := rd_s hf
    refine r_iald C dX12_settle_174 q5 rfl (fun c5 => ?_)
    refine r_iconst C dX12_settle_175 ?_
    refine r_icmp_eq C dX12_settle_176 (tgt := 193) (by decide) c5 (in32_of rfl) (fun n6 => ?_) (fun n6 => ?_)
    · have hf := ite_p n6 hf
      exact G.mask [true, true, true, false, false, false] rfl rfl (b_X12_settle_193 C hr L155 cv1 cv2 hf)
    · have hf := ite_n n6 hf
      refine r_aload_n C dX12_settle_179 rfl ?_
      obtain ⟨q7, hf⟩ := gf_s hf
      refine r_gf C ct12 (j := 1) (ji := 1) dX12_settle_180 q7 rfl rfl (by decide) w_1426 rfl (fun c7 => ?_)
      refine r_sipush C dX12_settle_183 rfl ?_
      refine r_iload_n C dX12_settle_186 rfl ?_
      refine r_iadd C dX12_settle_187 ?_
      obtain ⟨q8, hf⟩ := rd_s hf
      refine r_iald C dX12_settle_188 q8 rfl (fun c8 => ?_)
      refine r_iconst C dX12_settle_189 ?_
      refine r_icmp_ne C dX12_settle_190 (tgt := 197) (by decide) c8 (in32_of rfl) (fun n9 => ?_) (fun n9 => ?_)
      · have hf := ite_n n9 hf
        refine r_iconst C dX12_settle_197 ?_
        exact G.mask [true, true, true, false, false, false] rfl rfl (b_X12_settle_198 C hr L155 cv1 cv2 (in32_of rfl) hf)
      · have hf := ite_p n9 hf
        exact G.mask [true, true, true, false, false, false] rfl rfl (b_X12_settle_193 C hr L155 cv1 cv2 hf)
set_option maxRecDepth 20000 in
theorem l_X12_settle_155 {g : GT} {Z : Int × MM} {n : Nat} (C : Cx g cX12_settle 6 yX12_settle 2 50) (hr : Rt g (some .int) 0 Z) {v0 v1 : Int}   (cv1 : in32 v1) : ∀ (k : Nat) (v2 : Int) (h : MM), in32 v2 → f_X12_settle_155 n  v0 v1 k v2 h = some Z → G g 155 [(2, v0), (0, v1), (0, v2), (3, 0), (3, 0), (3, 0)] [] h := by
  intro k
  induction k with
  | zero => intro v2 h cv2 hf; exact absurd hf (by intro z; cases z)
  | succ k ih => intro v2 h cv2 hf; exact b_X12_settle_155b C hr (rec155 := f_X12_settle_155 n  v0 v1 k)  ih cv1 cv2 (show f_X12_settle_155b n  (f_X12_settle_155 n  v0 v1 k) v0 v1 v2 h = some Z from hf)
set_option maxRecDepth 20000 in
theorem b_X12_settle_147 {g : GT} {Z : Int × MM} {n : Nat} (C : Cx g cX12_settle 6 yX12_settle 2 50) (hr : Rt g (some .int) 0 Z) {v0 v1 v2 : Int}  {rec47 : Int → MM → RR} (L47 : ∀ (u2 : Int) (h : MM), in32 u2 → rec47 u2 h = some Z → G g 47 [(2, v0), (0, v1), (0, u2), (3, 0), (3, 0), (3, 0)] [] h) (cv1 : in32 v1) (cv2 : in32 v2) {h : MM} (hf : f_X12_settle_147 n rec47 v0 v1 v2 h = some Z) : G g 147 [(2, v0), (0, v1), (0, v2), (3, 0), (3, 0), (3, 0)] [] h := by
  unfold f_X12_settle_147 at hf
  obtain ⟨x1, e1, hf⟩ := lb_s hf
  have c1 : in32 x1 := by rw [e1]; exact (in32_t _)
  refine r_iincL C dX12_settle_147 rfl e1 (Nat.le_of_ble_eq_true rfl) rfl ?_
  refine r_goto C dX12_settle_150 (tgt := 47) (by decide) ?_
  exact G.mask [true, true, true, false, false, false] rfl rfl (L47 _ _ c1 hf)
set_option maxRecDepth 20000 in
theorem b_X12_settle_69b {g : GT} {Z : Int × MM} {n : Nat} (C : Cx g cX12_settle 6 yX12_settle 2 50) (hr : Rt g (some .int) 0 Z) {v0 v1 v2 v3 v5 : Int}  {rec47 : Int → MM → RR} {rec69 : Int → Int → MM → RR} (L47 : ∀ (u2 : Int) (h : MM), in32 u2 → rec47 u2 h = some Z → G g 47 [(2, v0), (0, v1), (0, u2), (3, 0), (3, 0), (3, 0)] [] h) (L69 : ∀ (u3 u5 : Int) (h : MM), in64 u3 → in32 u5 → rec69 u3 u5 h = some Z → G g 69 [(2, v0), (0, v1), (0, v2), (1, u3), (4, 0), (0, u5)] [] h) (cv1 : in32 v1) (cv2 : in32 v2) (cv3 : in64 v3) (cv5 : in32 v5) {h : MM} (hf : f_X12_settle_69b n rec47 rec69 v0 v1 v2 v3 v5 h = some Z) : G g 69 [(2, v0), (0, v1), (0, v2), (1, v3), (4, 0), (0, v5)] [] h := by
  unfold f_X12_settle_69b at hf
  refine r_iload C dX12_settle_69 rfl ?_
  refine r_bipush C dX12_settle_71 rfl ?_
  refine r_icmp_ge C dX12_settle_73 (tgt := 97) (by decide) cv5 (in32_of rfl) (fun n1 => ?_) (fun n1 => ?_)
  · have hf := ite_p n1 hf
    refine r_iload_n C dX12_settle_97 rfl ?_
    refine r_bipush C dX12_settle_98 rfl ?_
    refine r_icmp_ge C dX12_settle_100 (tgt := 118) (by decide) cv2 (in32_of rfl) (fun n2 => ?_) (fun n2 => ?_)
    · have hf := ite_p n2 hf
      refine r_iload_n C dX12_settle_118 rfl ?_
      refine r_bipush C dX12_settle_119 rfl ?_
      refine r_isub C dX12_settle_121 ?_
      refine r_aload_n C dX12_settle_122 rfl ?_
      obtain ⟨q3, hf⟩ := gf_s hf
      refine r_gf C ct12 (j := 1) (ji := 1) dX12_settle_123 q3 rfl rfl (by decide) w_1426 rfl (fun c3 => ?_)
      refine r_bipush C dX12_settle_126 rfl ?_
      obtain ⟨q4, hf⟩ := rd_s hf
      refine r_iald C dX12_settle_128 q4 rfl (fun c4 => ?_)
      refine r_icmp_ge C dX12_settle_129 (tgt := 147) (by decide) (in32_t _) c4 (fun n5 => ?_) (fun n5 => ?_)
      · have hf := ite_p n5 hf
        exact G.mask [true, true, true, false, false, false] rfl rfl (b_X12_settle_147 C hr L47 cv1 cv2 hf)
      · have hf := ite_n n5 hf
        refine r_aload_n C dX12_settle_132 rfl ?_
        obtain ⟨q6, hf⟩ := gf_s hf
        refine r_gf C ct12 (j := 1) (ji := 1) dX12_settle_133 q6 rfl rfl (by decide) w_1426 rfl (fun c6 => ?_)
        refine r_sipush C dX12_settle_136 rfl ?_
        refine r_iload_n C dX12_settle_139 rfl ?_
        refine r_iadd C dX12_settle_140 ?_
        refine r_bipush C dX12_settle_141 rfl ?_
        refine r_isub C dX12_settle_143 ?_
        refine r_lload_n C dX12_settle_144 rfl ?_
        refine r_l2i C dX12_settle_145 ?_
        obtain ⟨q7, hf⟩ := wt_s hf
        refine r_iast C dX12_settle_146 q7 rfl (in32_t _) ?_
        exact G.mask [true, true, true, false, false, false] rfl rfl (b_X12_settle_147 C hr L47 cv1 cv2 hf)
    · have hf := ite_n n2 hf
      refine r_aload_n C dX12_settle_103 rfl ?_
      obtain ⟨q8, hf⟩ := gf_s hf
      refine r_gf C ct12 (j := 1) (ji := 1) dX12_settle_104 q8 rfl rfl (by decide) w_1426 rfl (fun c8 => ?_)
      refine r_sipush C dX12_settle_107 rfl ?_
      refine r_iload_n C dX12_settle_110 rfl ?_
      refine r_iadd C dX12_settle_111 ?_
      refine r_lload_n C dX12_settle_112 rfl ?_
      refine r_l2i C dX12_settle_113 ?_
      obtain ⟨q9, hf⟩ := wt_s hf
      refine r_iast C dX12_settle_114 q9 rfl (in32_t _) ?_
      refine r_goto C dX12_settle_115 (tgt := 147) (by decide) ?_
      exact G.mask [true, true, true, false, false, false] rfl rfl (b_X12_settle_147 C hr L47 cv1 cv2 hf)
  · have hf := ite_n n1 hf
    refine r_lload_n C dX12_settle_76 rfl ?_
    refine r_aload_n C dX12_settle_77 rfl ?_
    obtain ⟨q10, hf⟩ := gf_s hf
    refine r_gf C ct12 (j := 15) (ji := 15) dX12_settle_78 q10 rfl rfl (by decide) w_1440 rfl (fun c10 => ?_)
    refine r_bipush C dX12_settle_81 rfl ?_
    refine r_iload C dX12_settle_83 rfl ?_
    refine r_imul C dX12_settle_85 ?_
    refine r_iload_n C dX12_settle_86 rfl ?_
    refine r_iadd C dX12_settle_87 ?_
    obtain ⟨q11, hf⟩ := rd_s hf
    refine r_lald C dX12_settle_88 q11 rfl (fun c11 => ?_)
    refine r_ladd C dX12_settle_89 ?_
    obtain ⟨x12, e12, hf⟩ := lb_s hf
    have c12 : in64 x12 := by rw [e12]; exact (in64_t _)
    refine r_lstore_nL C dX12_settle_90 e12 (Nat.le_of_ble_eq_true rfl) rfl ?_
    obtain ⟨x13, e13, hf⟩ := lb_s hf
    have c13 : in32 x13 := by rw [e13]; exact (in32_t _)
    refine r_iincL C dX12_settle_91 rfl e13 (Nat.le_of_ble_eq_true rfl) rfl ?_
    refine r_goto C dX12_settle_94 (tgt := 69) (by decide) ?_
    exact G.mask [true, true, true, true, true, true] rfl rfl (L69 _ _ _ c12 c13 hf)
set_option maxRecDepth 20000 in
theorem l_X12_settle_69 {g : GT} {Z : Int × MM} {n : Nat} (C : Cx g cX12_settle 6 yX12_settle 2 50) (hr : Rt g (some .int) 0 Z) {v0 v1 v2 : Int} {rec47 : Int → MM → RR} (L47 : ∀ (u2 : Int) (h : MM), in32 u2 → rec47 u2 h = some Z → G g 47 [(2, v0), (0, v1), (0, u2), (3, 0), (3, 0), (3, 0)] [] h) (cv1 : in32 v1) (cv2 : in32 v2) : ∀ (k : Nat) (v3 v5 : Int) (h : MM), in64 v3 → in32 v5 → f_X12_settle_69 n rec47 v0 v1 v2 k v3 v5 h = some Z → G g 69 [(2, v0), (0, v1), (0, v2), (1, v3), (4, 0), (0, v5)] [] h := by
  intro k
  induction k with
  | zero => intro v3 v5 h cv3 cv5 hf; exact absurd hf (by intro z; cases z)
  | succ k ih => intro v3 v5 h cv3 cv5 hf; exact b_X12_settle_69b C hr (rec69 := f_X12_settle_69 n rec47 v0 v1 v2 k) L47 ih cv1 cv2 cv3 cv5 (show f_X12_settle_69b n rec47 (f_X12_settle_69 n rec47 v0 v1 v2 k) v0 v1 v2 v3 v5 h = some Z from hf)
set_option maxRecDepth 20000 in
theorem b_X12_settle_47b {g : GT} {Z : Int × MM} {n : Nat} (C : Cx g cX12_settle 6 yX12_settle 2 50) (hr : Rt g (some .int) 0 Z) {v0 v1 v2 : Int}  {rec47 : Int → MM → RR} (L47 : ∀ (u2 : Int) (h : MM), in32 u2 → rec47 u2 h = some Z → G g 47 [(2, v0), (0, v1), (0, u2), (3, 0), (3, 0), (3, 0)] [] h) (cv1 : in32 v1) (cv2 : in32 v2) {h : MM} (hf : f_X12_settle_47b n rec47 v0 v1 v2 h = some Z) : G g 47 [(2, v0), (0, v1), (0, v2), (3, 0), (3, 0), (3, 0)] [] h := by
  unfold f_X12_settle_47b at hf
  refine r_iload_n C dX12_settle_47 rfl ?_
  refine r_bipush C dX12_settle_48 rfl ?_
  refine r_icmp_ge C dX12_settle_50 (tgt := 153) (by decide) cv2 (in32_of rfl) (fun n1 => ?_) (fun n1 => ?_)
  · have hf := ite_p n1 hf
    refine r_iconst C dX12_settle_153 ?_
    refine r_istore_n C dX12_settle_154 (Nat.le_of_ble_eq_true rfl) rfl ?_
    exact G.mask [true, true, true, false, false, false] rfl rfl (l_X12_settle_155 C hr  cv1 _ _ _ (in32_of rfl) hf)
  · have hf := ite_n n1 hf
    refine r_aload_n C dX12_settle_53 rfl ?_
    obtain ⟨q2, hf⟩ := gf_s hf
    refine r_gf C ct12 (j := 17) (ji := 17) dX12_settle_54 q2 rfl rfl (by decide) w_1442 rfl (fun c2 => ?_)
    refine r_iload_n C dX12_settle_57 rfl ?_
    obtain ⟨q3, hf⟩ := rd_s hf
    refine r_lald C dX12_settle_58 q3 rfl (fun c3 => ?_)
    refine r_aload_n C dX12_settle_59 rfl ?_
    refine r_iload_n C dX12_settle_60 rfl ?_
    obtain ⟨p4, hf⟩ := gk_s hf
    obtain ⟨r4, h4, hq4, hf⟩ := bd_s hf
    refine r_cV1 C (am_X12_pays (gl g) n) cm_X12_pays w_1825 dX12_settle_61 ⟨Nat.le_of_ble_eq_true rfl, Nat.le_of_ble_eq_true rfl⟩ p4 rfl cv2 rfl (Nat.le_of_ble_eq_true rfl) hq4 (by decide) (fun c4 => ?_)
    have c4 : in64 _ := c4
    refine r_lsub C dX12_settle_64 ?_
    obtain ⟨x5, e5, hf⟩ := lb_s hf
    have c5 : in64 x5 := by rw [e5]; exact (in64_t _)
    refine r_lstore_nL C dX12_settle_65 e5 (Nat.le_of_ble_eq_true rfl) rfl ?_
    refine r_iconst C dX12_settle_66 ?_
    refine r_istore C dX12_settle_67 (Nat.le_of_ble_eq_true rfl) rfl ?_
    exact G.mask [true, true, true, true, true, true] rfl rfl (l_X12_settle_69 C hr L47 cv1 cv2 _ _ _ _ c5 (in32_of rfl) hf)
set_option maxRecDepth 20000 in
theorem l_X12_settle_47 {g : GT} {Z : Int × MM} {n : Nat} (C : Cx g cX12_settle 6 yX12_settle 2 50) (hr : Rt g (some .int) 0 Z) {v0 v1 : Int}   (cv1 : in32 v1) : ∀ (k : Nat) (v2 : Int) (h : MM), in32 v2 → f_X12_settle_47 n  v0 v1 k v2 h = some Z → G g 47 [(2, v0), (0, v1), (0, v2), (3, 0), (3, 0), (3, 0)] [] h := by
  intro k
  induction k with
  | zero => intro v2 h cv2 hf; exact absurd hf (by intro z; cases z)
  | succ k ih => intro v2 h cv2 hf; exact b_X12_settle_47b C hr (rec47 := f_X12_settle_47 n  v0 v1 k)  ih cv1 cv2 (show f_X12_settle_47b n  (f_X12_settle_47 n  v0 v1 k) v0 v1 v2 h = some Z from hf)
set_option maxRecDepth 20000 in
theorem b_X12_settle_37 {g : GT} {Z : Int × MM} {n : Nat} (C : Cx g cX12_settle 6 yX12_settle 2 50) (hr : Rt g (some .int) 0 Z) {v0 v2 s0 s1 : Int}  {rec8 : Int → Int → MM → RR} (L8 : ∀ (u1 u2 : Int) (h : MM), in32 u1 → in32 u2 → rec8 u1 u2 h = some Z → G g 8 [(2, v0), (0, u1), (0, u2), (3, 0), (3, 0), (3, 0)] [] h) (cv2 : in32 v2) (cs0 : in32 s0) (cs1 : in32 s1) {h : MM} (hf : f_X12_settle_37 n rec8 v0 v2 s0 s1 h = some Z) : G g 37 [(2, v0), (3, 0), (0, v2), (3, 0), (3, 0), (3, 0)] [(0, s1), (0, s0)] h := by
  unfold f_X12_settle_37 at hf
  refine r_ior C dX12_settle_37 ?_
  obtain ⟨x1, e1, hf⟩ := lb_s hf
  have c1 : in32 x1 := by rw [e1]; exact (in32_t _)
  refine r_istore_nL C dX12_settle_38 e1 (Nat.le_of_ble_eq_true rfl) rfl ?_
  obtain ⟨x2, e2, hf⟩ := lb_s hf
  have c2 : in32 x2 := by rw [e2]; exact (in32_t _)
  refine r_iincL C dX12_settle_39 rfl e2 (Nat.le_of_ble_eq_true rfl) rfl ?_
  refine r_goto C dX12_settle_42 (tgt := 8) (by decide) ?_
  exact G.mask [true, true, true, false, false, false] rfl rfl (L8 _ _ _ c1 c2 hf)
set_option maxRecDepth 20000 in
theorem b_X12_settle_8b {g : GT} {Z : Int × MM} {n : Nat} (C : Cx g cX12_settle 6 yX12_settle 2 50) (hr : Rt g (some .int) 0 Z) {v0 v1 v2 : Int}  {rec8 : Int → Int → MM → RR} (L8 : ∀ (u1 u2 : Int) (h : MM), in32 u1 → in32 u2 → rec8 u1 u2 h = some Z → G g 8 [(2, v0), (0, u1), (0, u2), (3, 0), (3, 0), (3, 0)] [] h) (cv1 : in32 v1) (cv2 : in32 v2) {h : MM} (hf : f_X12_settle_8b n rec8 v0 v1 v2 h = some Z) : G g 8 [(2, v0), (0, v1), (0, v2), (3, 0), (3, 0), (3, 0)] [] h := by
  unfold f_X12_settle_8b at hf
  refine r_iload_n C dX12_settle_8 rfl ?_
  refine r_bipush C dX12_settle_9 rfl ?_
  refine r_icmp_ge C dX12_settle_11 (tgt := 45) (by decide) cv2 (in32_of rfl) (fun n1 => ?_) (fun n1 => ?_)
  · have hf := ite_p n1 hf
    refine r_iconst C dX12_settle_45 ?_
    refine r_istore_n C dX12_settle_46 (Nat.le_of_ble_eq_true rfl) rfl ?_
    exact G.mask [true, true, true, false, false, false] rfl rfl (l_X12_settle_47 C hr  cv1 _ _ _ (in32_of rfl) hf)
  · have hf := ite_n n1 hf
    refine r_iload_n C dX12_settle_14 rfl ?_
    refine r_aload_n C dX12_settle_15 rfl ?_
    refine r_iload_n C dX12_settle_16 rfl ?_
    obtain ⟨p2, hf⟩ := gk_s hf
    obtain ⟨r2, h2, hq2, hf⟩ := bd_s hf
    refine r_cV1 C (am_X12_pays (gl g) n) cm_X12_pays w_1825 dX12_settle_17 ⟨Nat.le_of_ble_eq_true rfl, Nat.le_of_ble_eq_true rfl⟩ p2 rfl cv2 rfl (Nat.le_of_ble_eq_true rfl) hq2 (by decide) (fun c2 => ?_)
    have c2 : in64 _ := c2
    refine r_aload_n C dX12_settle_20 rfl ?_
    obtain ⟨q3, hf⟩ := gf_s hf
    refine r_gf C ct12 (j := 18) (ji := 18) dX12_settle_21 q3 rfl rfl (by decide) w_1443 rfl (fun c3 => ?_)
    refine r_iload_n C dX12_settle_24 rfl ?_
    obtain ⟨q4, hf⟩ := rd_s hf
    refine r_lald C dX12_settle_25 q4 rfl (fun c4 => ?_)
    refine r_lcmp C dX12_settle_26 ?_
    refine r_if_ge C dX12_settle_27 (tgt := 36) (by decide) (in32_t _) (fun n5 => ?_) (fun n5 => ?_)
    · have hf := ite_p n5 hf
      refine r_iconst C dX12_settle_36 ?_
      exact G.mask [true, false, true, false, false, false] rfl rfl (b_X12_settle_37 C hr L8 cv2 cv1 (in32_of rfl) hf)
    · have hf := ite_n n5 hf
      refine r_iconst C dX12_settle_30 ?_
      refine r_iload_n C dX12_settle_31 rfl ?_
      refine r_ishl C dX12_settle_32 ?_
      refine r_goto C dX12_settle_33 (tgt := 37) (by decide) ?_
      exact G.mask [true, false, true, false, false, false] rfl rfl (b_X12_settle_37 C hr L8 cv2 cv1 (in32_t _) hf)
set_option maxRecDepth 20000 in
theorem l_X12_settle_8 {g : GT} {Z : Int × MM} {n : Nat} (C : Cx g cX12_settle 6 yX12_settle 2 50) (hr : Rt g (some .int) 0 Z) {v0 : Int}    : ∀ (k : Nat) (v1 v2 : Int) (h : MM), in32 v1 → in32 v2 → f_X12_settle_8 n  v0 k v1 v2 h = some Z → G g 8 [(2, v0), (0, v1), (0, v2), (3, 0), (3, 0), (3, 0)] [] h := by
  intro k
  induction k with
  | zero => intro v1 v2 h cv1 cv2 hf; exact absurd hf (by intro z; cases z)
  | succ k ih => intro v1 v2 h cv1 cv2 hf; exact b_X12_settle_8b C hr (rec8 := f_X12_settle_8 n  v0 k)  ih cv1 cv2 (show f_X12_settle_8b n  (f_X12_settle_8 n  v0 k) v0 v1 v2 h = some Z from hf)
set_option maxRecDepth 20000 in
theorem e_X12_settle {g : GT} {Z : Int × MM} {n : Nat} (C : Cx g cX12_settle 6 yX12_settle 2 50) (hr : Rt g (some .int) 0 Z) {v0 : Int} (cv0 : cK 2 v0) {h : MM} (hf : f_X12_settle n v0 h = some Z) : G g 0 [(2, v0), (3, 0), (3, 0), (3, 0), (3, 0), (3, 0)] [] h := by
  unfold f_X12_settle at hf
  refine r_aload_n C dX12_settle_0 rfl ?_
  obtain ⟨p1, hf⟩ := gk_s hf
  obtain ⟨r1, h1, hq1, hf⟩ := bd_s hf
  refine r_cV0v C (am_X12_settles (gl g) n) cm_X12_settles w_1817 dX12_settle_1 ⟨Nat.le_of_ble_eq_true rfl, Nat.le_of_ble_eq_true rfl⟩ p1 rfl  rfl (Nat.le_of_ble_eq_true rfl) hq1 ?_
  refine r_iconst C dX12_settle_4 ?_
  refine r_istore_n C dX12_settle_5 (Nat.le_of_ble_eq_true rfl) rfl ?_
  refine r_iconst C dX12_settle_6 ?_
  refine r_istore_n C dX12_settle_7 (Nat.le_of_ble_eq_true rfl) rfl ?_
  exact G.mask [true, true, true, false, false, false] rfl rfl (l_X12_settle_8 C hr   _ _ _ _ (in32_of rfl) (in32_of rfl) hf)
set_option maxRecDepth 20000 in
theorem am_X12_settle (l : Launch) (n : Nat) : AM l yX12_settle cX12_settle 6 (some .int) 2 50 [2] 0 (un1 (f_X12_settle n)) := by
  refine AM.intro (by decide) (fun xs hx => ?_) (fun g xs h Z hl C hr hx hf => ?_)
  · obtain ⟨a0, rfl, c0⟩ := canL_1 hx
    exact Nat.le_of_ble_eq_true rfl
  · obtain ⟨a0, rfl, c0⟩ := canL_1 hx
    have hf := (un1_e _ a0 _).symm.trans hf
    exact e_X12_settle (n := n) C hr c0 hf
/-! LinesPromisedModel.schemeOf(I)I -/
theorem dX12_schemeOf_0 : decode cX12_schemeOf 0 = .ok (.aload_n 0, 1) := by decide +kernel
theorem dX12_schemeOf_1 : decode cX12_schemeOf 1 = .ok (.getfield 8, 3) := by decide +kernel
theorem dX12_schemeOf_4 : decode cX12_schemeOf 4 = .ok (.sipush 430, 3) := by decide +kernel
theorem dX12_schemeOf_7 : decode cX12_schemeOf 7 = .ok (.aload_n 0, 1) := by decide +kernel
theorem dX12_schemeOf_8 : decode cX12_schemeOf 8 = .ok (.getfield 8, 3) := by decide +kernel
theorem dX12_schemeOf_11 : decode cX12_schemeOf 11 = .ok (.sipush 430, 3) := by decide +kernel
theorem dX12_schemeOf_14 : decode cX12_schemeOf 14 = .ok (.iload_n 1, 1) := by decide +kernel
theorem dX12_schemeOf_15 : decode cX12_schemeOf 15 = .ok (.iadd, 1) := by decide +kernel
theorem dX12_schemeOf_16 : decode cX12_schemeOf 16 = .ok (.iaload, 1) := by decide +kernel
theorem dX12_schemeOf_17 : decode cX12_schemeOf 17 = .ok (.iadd, 1) := by decide +kernel
theorem dX12_schemeOf_18 : decode cX12_schemeOf 18 = .ok (.iaload, 1) := by decide +kernel
theorem dX12_schemeOf_19 : decode cX12_schemeOf 19 = .ok (.ireturn, 1) := by decide +kernel
theorem cm_X12_schemeOf : CM yX12_schemeOf cX12_schemeOf 2 (some .int) 1 12 := ⟨w_1843, w_84, w_1844, w_97, ⟨by decide +kernel, by decide +kernel, by decide +kernel⟩, ⟨_, _, rfl⟩, by decide⟩
noncomputable def f_X12_schemeOf (n : Nat) (v0 v1 : Int) (h : MM) : RR :=
  gf h v0 12 1 fun r1 =>
  gf h v0 12 1 fun r2 =>
  rd h r2 100 (wr (430 + v1)) fun r3 =>
  rd h r1 100 (wr (430 + r3)) fun r4 =>
  some (r4, h)
set_option maxRecDepth 20000 in
theorem e_X12_schemeOf {g : GT} {Z : Int × MM} {n : Nat} (C : Cx g cX12_schemeOf 2 yX12_schemeOf 0 0) (hr : Rt g (some .int) 0 Z) {v0 v1 : Int} (cv0 : cK 2 v0) (cv1 : cK 0 v1) {h : MM} (hf : f_X12_schemeOf n v0 v1 h = some Z) : G g 0 [(2, v0), (0, v1)] [] h := by
  have cv1 : in32 v1 := cv1
  unfold f_X12_schemeOf at hf
  refine r_aload_n C dX12_schemeOf_0 rfl ?_
  obtain ⟨q1, hf⟩ := gf_s hf
  refine r_gf C ct12 (j := 1) (ji := 1) dX12_schemeOf_1 q1 rfl rfl (by decide) w_1426 rfl (fun c1 => ?_)
  refine r_sipush C dX12_schemeOf_4 rfl ?_
  refine r_aload_n C dX12_schemeOf_7 rfl ?_
  obtain ⟨q2, hf⟩ := gf_s hf
  refine r_gf C ct12 (j := 1) (ji := 1) dX12_schemeOf_8 q2 rfl rfl (by decide) w_1426 rfl (fun c2 => ?_)
  refine r_sipush C dX12_schemeOf_11 rfl ?_
  refine r_iload_n C dX12_schemeOf_14 rfl ?_
  refine r_iadd C dX12_schemeOf_15 ?_
  obtain ⟨q3, hf⟩ := rd_s hf
  refine r_iald C dX12_schemeOf_16 q3 rfl (fun c3 => ?_)
  refine r_iadd C dX12_schemeOf_17 ?_
  obtain ⟨q4, hf⟩ := rd_s hf
  refine r_iald C dX12_schemeOf_18 q4 rfl (fun c4 => ?_)
  cases hf
  exact r_jret C hr dX12_schemeOf_19 c4
set_option maxRecDepth 20000 in
theorem am_X12_schemeOf (l : Launch) (n : Nat) : AM l yX12_schemeOf cX12_schemeOf 2 (some .int) 0 0 [2, 0] 0 (un2 (f_X12_schemeOf n)) := by
  refine AM.intro (by decide) (fun xs hx => ?_) (fun g xs h Z hl C hr hx hf => ?_)
  · obtain ⟨a0, a1, rfl, c0, c1⟩ := canL_2 hx
    exact Nat.le_of_ble_eq_true rfl
  · obtain ⟨a0, a1, rfl, c0, c1⟩ := canL_2 hx
    have hf := (un2_e _ a0 a1 _).symm.trans hf
    exact e_X12_schemeOf (n := n) C hr c0 c1 hf
/-! LinesPromisedModel.digs()V -/
theorem dX12_digs_0 : decode cX12_digs 0 = .ok (.aload_n 0, 1) := by decide +kernel
theorem dX12_digs_1 : decode cX12_digs 1 = .ok (.getfield 8, 3) := by decide +kernel
theorem dX12_digs_4 : decode cX12_digs 4 = .ok (.iconst 0, 1) := by decide +kernel
theorem dX12_digs_5 : decode cX12_digs 5 = .ok (.iaload, 1) := by decide +kernel
theorem dX12_digs_6 : decode cX12_digs 6 = .ok (.istore_n 1, 1) := by decide +kernel
theorem dX12_digs_7 : decode cX12_digs 7 = .ok (.iconst 3, 1) := by decide +kernel
theorem dX12_digs_8 : decode cX12_digs 8 = .ok (.aload_n 0, 1) := by decide +kernel
theorem dX12_digs_9 : decode cX12_digs 9 = .ok (.getfield 8, 3) := by decide +kernel
theorem dX12_digs_12 : decode cX12_digs 12 = .ok (.iconst 5, 1) := by decide +kernel
theorem dX12_digs_13 : decode cX12_digs 13 = .ok (.iaload, 1) := by decide +kernel
theorem dX12_digs_14 : decode cX12_digs 14 = .ok (.imul, 1) := by decide +kernel
theorem dX12_digs_15 : decode cX12_digs 15 = .ok (.istore_n 2, 1) := by decide +kernel
theorem dX12_digs_16 : decode cX12_digs 16 = .ok (.iconst 0, 1) := by decide +kernel
theorem dX12_digs_17 : decode cX12_digs 17 = .ok (.istore_n 3, 1) := by decide +kernel
theorem dX12_digs_18 : decode cX12_digs 18 = .ok (.iload_n 3, 1) := by decide +kernel
theorem dX12_digs_19 : decode cX12_digs 19 = .ok (.aload_n 0, 1) := by decide +kernel
theorem dX12_digs_20 : decode cX12_digs 20 = .ok (.getfield 8, 3) := by decide +kernel
theorem dX12_digs_23 : decode cX12_digs 23 = .ok (.iconst 2, 1) := by decide +kernel
theorem dX12_digs_24 : decode cX12_digs 24 = .ok (.iaload, 1) := by decide +kernel
theorem dX12_digs_25 : decode cX12_digs 25 = .ok (.if_icmp .ge 188, 3) := by decide +kernel
theorem dX12_digs_28 : decode cX12_digs 28 = .ok (.aload_n 0, 1) := by decide +kernel
theorem dX12_digs_29 : decode cX12_digs 29 = .ok (.iload_n 3, 1) := by decide +kernel
theorem dX12_digs_30 : decode cX12_digs 30 = .ok (.invokevirtual 219, 3) := by decide +kernel
theorem dX12_digs_33 : decode cX12_digs 33 = .ok (.ifCond .eq 174, 3) := by decide +kernel
theorem dX12_digs_36 : decode cX12_digs 36 = .ok (.aload_n 0, 1) := by decide +kernel
theorem dX12_digs_37 : decode cX12_digs 37 = .ok (.getfield 8, 3) := by decide +kernel
theorem dX12_digs_40 : decode cX12_digs 40 = .ok (.sipush 970, 3) := by decide +kernel
theorem dX12_digs_43 : decode cX12_digs 43 = .ok (.iload_n 3, 1) := by decide +kernel
theorem dX12_digs_44 : decode cX12_digs 44 = .ok (.iadd, 1) := by decide +kernel
theorem dX12_digs_45 : decode cX12_digs 45 = .ok (.iaload, 1) := by decide +kernel
theorem dX12_digs_46 : decode cX12_digs 46 = .ok (.ifCond .le 161, 3) := by decide +kernel
theorem dX12_digs_49 : decode cX12_digs 49 = .ok (.aload_n 0, 1) := by decide +kernel
theorem dX12_digs_50 : decode cX12_digs 50 = .ok (.aload_n 0, 1) := by decide +kernel
theorem dX12_digs_51 : decode cX12_digs 51 = .ok (.iload_n 3, 1) := by decide +kernel
theorem dX12_digs_52 : decode cX12_digs 52 = .ok (.invokevirtual 263, 3) := by decide +kernel
theorem dX12_digs_55 : decode cX12_digs 55 = .ok (.invokevirtual 244, 3) := by decide +kernel
theorem dX12_digs_58 : decode cX12_digs 58 = .ok (.ifCond .ne 149, 3) := by decide +kernel
theorem dX12_digs_61 : decode cX12_digs 61 = .ok (.sipush 11502, 3) := by decide +kernel
theorem dX12_digs_64 : decode cX12_digs 64 = .ok (.aload_n 0, 1) := by decide +kernel
theorem dX12_digs_65 : decode cX12_digs 65 = .ok (.aload_n 0, 1) := by decide +kernel
theorem dX12_digs_66 : decode cX12_digs 66 = .ok (.iload_n 3, 1) := by decide +kernel
theorem dX12_digs_67 : decode cX12_digs 67 = .ok (.invokevirtual 263, 3) := by decide +kernel
theorem dX12_digs_70 : decode cX12_digs 70 = .ok (.invokevirtual 238, 3) := by decide +kernel
theorem dX12_digs_73 : decode cX12_digs 73 = .ok (.iadd, 1) := by decide +kernel
theorem dX12_digs_74 : decode cX12_digs 74 = .ok (.istore 4, 2) := by decide +kernel
theorem dX12_digs_76 : decode cX12_digs 76 = .ok (.aload_n 0, 1) := by decide +kernel
theorem dX12_digs_77 : decode cX12_digs 77 = .ok (.getfield 8, 3) := by decide +kernel
theorem dX12_digs_80 : decode cX12_digs 80 = .ok (.sipush 970, 3) := by decide +kernel
theorem dX12_digs_83 : decode cX12_digs 83 = .ok (.iload_n 3, 1) := by decide +kernel
theorem dX12_digs_84 : decode cX12_digs 84 = .ok (.iadd, 1) := by decide +kernel
theorem dX12_digs_85 : decode cX12_digs 85 = .ok (.iaload, 1) := by decide +kernel
theorem dX12_digs_86 : decode cX12_digs 86 = .ok (.iload_n 2, 1) := by decide +kernel
theorem dX12_digs_87 : decode cX12_digs 87 = .ok (.if_icmp .ge 16, 3) := by decide +kernel
theorem dX12_digs_90 : decode cX12_digs 90 = .ok (.aload_n 0, 1) := by decide +kernel
theorem dX12_digs_91 : decode cX12_digs 91 = .ok (.getfield 8, 3) := by decide +kernel
theorem dX12_digs_94 : decode cX12_digs 94 = .ok (.sipush 970, 3) := by decide +kernel
theorem dX12_digs_97 : decode cX12_digs 97 = .ok (.iload_n 3, 1) := by decide +kernel
theorem dX12_digs_98 : decode cX12_digs 98 = .ok (.iadd, 1) := by decide +kernel
theorem dX12_digs_99 : decode cX12_digs 99 = .ok (.iaload, 1) := by decide +kernel
theorem dX12_digs_100 : decode cX12_digs 100 = .ok (.goto 4, 3) := by decide +kernel
theorem dX12_digs_103 : decode cX12_digs 103 = .ok (.iload_n 2, 1) := by decide +kernel
theorem dX12_digs_104 : decode cX12_digs 104 = .ok (.istore 5, 2) := by decide +kernel
theorem dX12_digs_106 : decode cX12_digs 106 = .ok (.aload_n 0, 1) := by decide +kernel
theorem dX12_digs_107 : decode cX12_digs 107 = .ok (.getfield 8, 3) := by decide +kernel
theorem dX12_digs_110 : decode cX12_digs 110 = .ok (.iload 4, 2) := by decide +kernel
theorem dX12_digs_112 : decode cX12_digs 112 = .ok (.iaload, 1) := by decide +kernel
theorem dX12_digs_113 : decode cX12_digs 113 = .ok (.iconst 2, 1) := by decide +kernel
theorem dX12_digs_114 : decode cX12_digs 114 = .ok (.idiv, 1) := by decide +kernel
theorem dX12_digs_115 : decode cX12_digs 115 = .ok (.iload 5, 2) := by decide +kernel
theorem dX12_digs_117 : decode cX12_digs 117 = .ok (.if_icmp .ge 15, 3) := by decide +kernel
theorem dX12_digs_120 : decode cX12_digs 120 = .ok (.aload_n 0, 1) := by decide +kernel
theorem dX12_digs_121 : decode cX12_digs 121 = .ok (.getfield 8, 3) := by decide +kernel
theorem dX12_digs_124 : decode cX12_digs 124 = .ok (.iload 4, 2) := by decide +kernel
theorem dX12_digs_126 : decode cX12_digs 126 = .ok (.iaload, 1) := by decide +kernel
theorem dX12_digs_127 : decode cX12_digs 127 = .ok (.iconst 2, 1) := by decide +kernel
theorem dX12_digs_128 : decode cX12_digs 128 = .ok (.idiv, 1) := by decide +kernel
theorem dX12_digs_129 : decode cX12_digs 129 = .ok (.goto 5, 3) := by decide +kernel
theorem dX12_digs_132 : decode cX12_digs 132 = .ok (.iload 5, 2) := by decide +kernel
theorem dX12_digs_134 : decode cX12_digs 134 = .ok (.istore 5, 2) := by decide +kernel
theorem dX12_digs_136 : decode cX12_digs 136 = .ok (.iload_n 2, 1) := by decide +kernel
theorem dX12_digs_137 : decode cX12_digs 137 = .ok (.iload 5, 2) := by decide +kernel
theorem dX12_digs_139 : decode cX12_digs 139 = .ok (.isub, 1) := by decide +kernel
theorem dX12_digs_140 : decode cX12_digs 140 = .ok (.istore_n 2, 1) := by decide +kernel
theorem dX12_digs_141 : decode cX12_digs 141 = .ok (.aload_n 0, 1) := by decide +kernel
theorem dX12_digs_142 : decode cX12_digs 142 = .ok (.getfield 8, 3) := by decide +kernel
theorem dX12_digs_145 : decode cX12_digs 145 = .ok (.iload 4, 2) := by decide +kernel
theorem dX12_digs_147 : decode cX12_digs 147 = .ok (.dup2, 1) := by decide +kernel
theorem dX12_digs_148 : decode cX12_digs 148 = .ok (.iaload, 1) := by decide +kernel
theorem dX12_digs_149 : decode cX12_digs 149 = .ok (.iconst 2, 1) := by decide +kernel
theorem dX12_digs_150 : decode cX12_digs 150 = .ok (.iload 5, 2) := by decide +kernel
theorem dX12_digs_152 : decode cX12_digs 152 = .ok (.imul, 1) := by decide +kernel
theorem dX12_digs_153 : decode cX12_digs 153 = .ok (.isub, 1) := by decide +kernel
theorem dX12_digs_154 : decode cX12_digs 154 = .ok (.iastore, 1) := by decide +kernel
theorem dX12_digs_155 : decode cX12_digs 155 = .ok (.aload_n 0, 1) := by decide +kernel
theorem dX12_digs_156 : decode cX12_digs 156 = .ok (.getfield 8, 3) := by decide +kernel
theorem dX12_digs_159 : decode cX12_digs 159 = .ok (.sipush 970, 3) := by decide +kernel
theorem dX12_digs_162 : decode cX12_digs 162 = .ok (.iload_n 3, 1) := by decide +kernel
theorem dX12_digs_163 : decode cX12_digs 163 = .ok (.iadd, 1) := by decide +kernel
theorem dX12_digs_164 : decode cX12_digs 164 = .ok (.dup2, 1) := by decide +kernel
theorem dX12_digs_165 : decode cX12_digs 165 = .ok (.iaload, 1) := by decide +kernel
theorem dX12_digs_166 : decode cX12_digs 166 = .ok (.iload 5, 2) := by decide +kernel
theorem dX12_digs_168 : decode cX12_digs 168 = .ok (.isub, 1) := by decide +kernel
theorem dX12_digs_169 : decode cX12_digs 169 = .ok (.iastore, 1) := by decide +kernel
theorem dX12_digs_170 : decode cX12_digs 170 = .ok (.aload_n 0, 1) := by decide +kernel
theorem dX12_digs_171 : decode cX12_digs 171 = .ok (.getfield 8, 3) := by decide +kernel
theorem dX12_digs_174 : decode cX12_digs 174 = .ok (.sipush 1030, 3) := by decide +kernel
theorem dX12_digs_177 : decode cX12_digs 177 = .ok (.iload_n 3, 1) := by decide +kernel
theorem dX12_digs_178 : decode cX12_digs 178 = .ok (.iadd, 1) := by decide +kernel
theorem dX12_digs_179 : decode cX12_digs 179 = .ok (.aload_n 0, 1) := by decide +kernel
theorem dX12_digs_180 : decode cX12_digs 180 = .ok (.getfield 8, 3) := by decide +kernel
theorem dX12_digs_183 : decode cX12_digs 183 = .ok (.sipush 970, 3) := by decide +kernel
theorem dX12_digs_186 : decode cX12_digs 186 = .ok (.iload_n 3, 1) := by decide +kernel
theorem dX12_digs_187 : decode cX12_digs 187 = .ok (.iadd, 1) := by decide +kernel
theorem dX12_digs_188 : decode cX12_digs 188 = .ok (.iaload, 1) := by decide +kernel
theorem dX12_digs_189 : decode cX12_digs 189 = .ok (.ifCond .ne 7, 3) := by decide +kernel
theorem dX12_digs_192 : decode cX12_digs 192 = .ok (.iload_n 1, 1) := by decide +kernel
theorem dX12_digs_193 : decode cX12_digs 193 = .ok (.goto 13, 3) := by decide +kernel
theorem dX12_digs_196 : decode cX12_digs 196 = .ok (.aload_n 0, 1) := by decide +kernel
theorem dX12_digs_197 : decode cX12_digs 197 = .ok (.getfield 8, 3) := by decide +kernel
theorem dX12_digs_200 : decode cX12_digs 200 = .ok (.sipush 1030, 3) := by decide +kernel
theorem dX12_digs_203 : decode cX12_digs 203 = .ok (.iload_n 3, 1) := by decide +kernel
theorem dX12_digs_204 : decode cX12_digs 204 = .ok (.iadd, 1) := by decide +kernel
theorem dX12_digs_205 : decode cX12_digs 205 = .ok (.iaload, 1) := by decide +kernel
theorem dX12_digs_206 : decode cX12_digs 206 = .ok (.iastore, 1) := by decide +kernel
theorem dX12_digs_207 : decode cX12_digs 207 = .ok (.iinc 3 1, 3) := by decide +kernel
theorem dX12_digs_210 : decode cX12_digs 210 = .ok (.goto (-192), 3) := by decide +kernel
theorem dX12_digs_213 : decode cX12_digs 213 = .ok (.iconst 0, 1) := by decide +kernel
theorem dX12_digs_214 : decode cX12_digs 214 = .ok (.istore_n 3, 1) := by decide +kernel
theorem dX12_digs_215 : decode cX12_digs 215 = .ok (.iload_n 3, 1) := by decide +kernel
theorem dX12_digs_216 : decode cX12_digs 216 = .ok (.bipush 12, 2) := by decide +kernel
theorem dX12_digs_218 : decode cX12_digs 218 = .ok (.if_icmp .ge 50, 3) := by decide +kernel
theorem dX12_digs_221 : decode cX12_digs 221 = .ok (.aload_n 0, 1) := by decide +kernel
theorem dX12_digs_222 : decode cX12_digs 222 = .ok (.getfield 8, 3) := by decide +kernel
theorem dX12_digs_225 : decode cX12_digs 225 = .ok (.sipush 11840, 3) := by decide +kernel
theorem dX12_digs_228 : decode cX12_digs 228 = .ok (.sipush 1000, 3) := by decide +kernel
theorem dX12_digs_231 : decode cX12_digs 231 = .ok (.iload_n 3, 1) := by decide +kernel
theorem dX12_digs_232 : decode cX12_digs 232 = .ok (.imul, 1) := by decide +kernel
theorem dX12_digs_233 : decode cX12_digs 233 = .ok (.iadd, 1) := by decide +kernel
theorem dX12_digs_234 : decode cX12_digs 234 = .ok (.iload_n 1, 1) := by decide +kernel
theorem dX12_digs_235 : decode cX12_digs 235 = .ok (.iadd, 1) := by decide +kernel
theorem dX12_digs_236 : decode cX12_digs 236 = .ok (.iload_n 3, 1) := by decide +kernel
theorem dX12_digs_237 : decode cX12_digs 237 = .ok (.aload_n 0, 1) := by decide +kernel
theorem dX12_digs_238 : decode cX12_digs 238 = .ok (.getfield 8, 3) := by decide +kernel
theorem dX12_digs_241 : decode cX12_digs 241 = .ok (.bipush 9, 2) := by decide +kernel
theorem dX12_digs_243 : decode cX12_digs 243 = .ok (.iaload, 1) := by decide +kernel
theorem dX12_digs_244 : decode cX12_digs 244 = .ok (.if_icmp .ge 16, 3) := by decide +kernel
theorem dX12_digs_247 : decode cX12_digs 247 = .ok (.aload_n 0, 1) := by decide +kernel
theorem dX12_digs_248 : decode cX12_digs 248 = .ok (.getfield 8, 3) := by decide +kernel
theorem dX12_digs_251 : decode cX12_digs 251 = .ok (.sipush 11502, 3) := by decide +kernel
theorem dX12_digs_254 : decode cX12_digs 254 = .ok (.iload_n 3, 1) := by decide +kernel
theorem dX12_digs_255 : decode cX12_digs 255 = .ok (.iadd, 1) := by decide +kernel
theorem dX12_digs_256 : decode cX12_digs 256 = .ok (.iaload, 1) := by decide +kernel
theorem dX12_digs_257 : decode cX12_digs 257 = .ok (.goto 4, 3) := by decide +kernel
theorem dX12_digs_260 : decode cX12_digs 260 = .ok (.iconst (-1), 1) := by decide +kernel
theorem dX12_digs_261 : decode cX12_digs 261 = .ok (.iastore, 1) := by decide +kernel
theorem dX12_digs_262 : decode cX12_digs 262 = .ok (.iinc 3 1, 3) := by decide +kernel
theorem dX12_digs_265 : decode cX12_digs 265 = .ok (.goto (-50), 3) := by decide +kernel
theorem dX12_digs_268 : decode cX12_digs 268 = .ok (.iconst 0, 1) := by decide +kernel
theorem dX12_digs_269 : decode cX12_digs 269 = .ok (.istore_n 3, 1) := by decide +kernel
theorem dX12_digs_270 : decode cX12_digs 270 = .ok (.iload_n 3, 1) := by decide +kernel
theorem dX12_digs_271 : decode cX12_digs 271 = .ok (.bipush 60, 2) := by decide +kernel
theorem dX12_digs_273 : decode cX12_digs 273 = .ok (.if_icmp .ge 57, 3) := by decide +kernel
theorem dX12_digs_276 : decode cX12_digs 276 = .ok (.aload_n 0, 1) := by decide +kernel
theorem dX12_digs_277 : decode cX12_digs 277 = .ok (.getfield 8, 3) := by decide +kernel
theorem dX12_digs_280 : decode cX12_digs 280 = .ok (.sipush 23840, 3) := by decide +kernel
theorem dX12_digs_283 : decode cX12_digs 283 = .ok (.sipush 1000, 3) := by decide +kernel
theorem dX12_digs_286 : decode cX12_digs 286 = .ok (.iload_n 3, 1) := by decide +kernel
theorem dX12_digs_287 : decode cX12_digs 287 = .ok (.imul, 1) := by decide +kernel
theorem dX12_digs_288 : decode cX12_digs 288 = .ok (.iadd, 1) := by decide +kernel
theorem dX12_digs_289 : decode cX12_digs 289 = .ok (.iload_n 1, 1) := by decide +kernel
theorem dX12_digs_290 : decode cX12_digs 290 = .ok (.iadd, 1) := by decide +kernel
theorem dX12_digs_291 : decode cX12_digs 291 = .ok (.iload_n 3, 1) := by decide +kernel
theorem dX12_digs_292 : decode cX12_digs 292 = .ok (.aload_n 0, 1) := by decide +kernel
theorem dX12_digs_293 : decode cX12_digs 293 = .ok (.getfield 8, 3) := by decide +kernel
theorem dX12_digs_296 : decode cX12_digs 296 = .ok (.iconst 2, 1) := by decide +kernel
theorem dX12_digs_297 : decode cX12_digs 297 = .ok (.iaload, 1) := by decide +kernel
theorem dX12_digs_298 : decode cX12_digs 298 = .ok (.if_icmp .ge 24, 3) := by decide +kernel
theorem dX12_digs_301 : decode cX12_digs 301 = .ok (.aload_n 0, 1) := by decide +kernel
theorem dX12_digs_302 : decode cX12_digs 302 = .ok (.iload_n 3, 1) := by decide +kernel
theorem dX12_digs_303 : decode cX12_digs 303 = .ok (.invokevirtual 219, 3) := by decide +kernel
theorem dX12_digs_306 : decode cX12_digs 306 = .ok (.ifCond .eq 16, 3) := by decide +kernel
theorem dX12_digs_309 : decode cX12_digs 309 = .ok (.aload_n 0, 1) := by decide +kernel
theorem dX12_digs_310 : decode cX12_digs 310 = .ok (.getfield 8, 3) := by decide +kernel
theorem dX12_digs_313 : decode cX12_digs 313 = .ok (.sipush 970, 3) := by decide +kernel
theorem dX12_digs_316 : decode cX12_digs 316 = .ok (.iload_n 3, 1) := by decide +kernel
theorem dX12_digs_317 : decode cX12_digs 317 = .ok (.iadd, 1) := by decide +kernel
theorem dX12_digs_318 : decode cX12_digs 318 = .ok (.iaload, 1) := by decide +kernel
theorem dX12_digs_319 : decode cX12_digs 319 = .ok (.goto 4, 3) := by decide +kernel
theorem dX12_digs_322 : decode cX12_digs 322 = .ok (.iconst (-1), 1) := by decide +kernel
theorem dX12_digs_323 : decode cX12_digs 323 = .ok (.iastore, 1) := by decide +kernel
theorem dX12_digs_324 : decode cX12_digs 324 = .ok (.iinc 3 1, 3) := by decide +kernel
theorem dX12_digs_327 : decode cX12_digs 327 = .ok (.goto (-57), 3) := by decide +kernel
theorem dX12_digs_330 : decode cX12_digs 330 = .ok (.aload_n 0, 1) := by decide +kernel
theorem dX12_digs_331 : decode cX12_digs 331 = .ok (.getfield 8, 3) := by decide +kernel
theorem dX12_digs_334 : decode cX12_digs 334 = .ok (.iconst 0, 1) := by decide +kernel
theorem dX12_digs_335 : decode cX12_digs 335 = .ok (.dup2, 1) := by decide +kernel
theorem dX12_digs_336 : decode cX12_digs 336 = .ok (.iaload, 1) := by decide +kernel
theorem dX12_digs_337 : decode cX12_digs 337 = .ok (.iconst 1, 1) := by decide +kernel
theorem dX12_digs_338 : decode cX12_digs 338 = .ok (.iadd, 1) := by decide +kernel
theorem dX12_digs_339 : decode cX12_digs 339 = .ok (.iastore, 1) := by decide +kernel
theorem dX12_digs_340 : decode cX12_digs 340 = .ok (.return_, 1) := by decide +kernel
theorem cm_X12_digs : CM yX12_digs cX12_digs 6 none 0 12 := ⟨w_1839, w_83, w_1840, w_97, ⟨by decide +kernel, by decide +kernel, by decide +kernel⟩, ⟨_, _, rfl⟩, by decide⟩
noncomputable def f_X12_digs_323 (n : Nat) (rec270 : Int → MM → RR) (v0 v1 v3 s0 s1 s2 : Int) (h : MM) : RR :=
  wt h s0 100 s1 s2 fun h1 =>
  lb (wr (v3 + 1)) fun x2 =>
  rec270 x2 h1
noncomputable def f_X12_digs_322 (n : Nat) (rec270 : Int → MM → RR) (v0 v1 v3 s0 s1 : Int) (h : MM) : RR :=
  f_X12_digs_323 n rec270 v0 v1 v3 s0 s1 ((-1)) h
noncomputable def f_X12_digs_270b (n : Nat) (rec270 : Int → MM → RR) (v0 v1 v3 : Int) (h : MM) : RR :=
  if 60 ≤ v3 then
    gf h v0 12 1 fun r2 =>
    rd h r2 100 0 fun r3 =>
    wt h r2 100 0 (wr (r3 + 1)) fun h4 =>
    some (0, h4)
  else
  gf h v0 12 1 fun r5 =>
  gf h v0 12 1 fun r6 =>
  rd h r6 100 2 fun r7 =>
  if r7 ≤ v3 then
    f_X12_digs_322 n rec270 v0 v1 v3 r5 (wr ((wr (23840 + (wr (1000 * v3)))) + v1)) h
  else
  gk h v0 12 <|
  bd (f_X12_isGranted n v0 v3 h) fun r9 h9 =>
  if r9 = 0 then
    f_X12_digs_322 n rec270 v0 v1 v3 r5 (wr ((wr (23840 + (wr (1000 * v3)))) + v1)) h9
  else
  gf h9 v0 12 1 fun r11 =>
  rd h9 r11 100 (wr (970 + v3)) fun r12 =>
  f_X12_digs_323 n rec270 v0 v1 v3 r5 (wr ((wr (23840 + (wr (1000 * v3)))) + v1)) r12 h9
noncomputable def f_X12_digs_270 (n : Nat)  (v0 v1 : Int) : Nat → Int → MM → RR
  | 0, _, _ => none
  | k + 1, v3, h => f_X12_digs_270b n  (f_X12_digs_270 n  v0 v1 k) v0 v1 v3 h
noncomputable def f_X12_digs_261 (n : Nat) (rec215 : Int → MM → RR) (v0 v1 v3 s0 s1 s2 : Int) (h : MM) : RR :=
  wt h s0 100 s1 s2 fun h1 =>
  lb (wr (v3 + 1)) fun x2 =>
  rec215 x2 h1
noncomputable def f_X12_digs_215b (n : Nat) (rec215 : Int → MM → RR) (v0 v1 v3 : Int) (h : MM) : RR :=
  if 12 ≤ v3 then
    f_X12_digs_270 n v0 v1 n 0 h
  else
  gf h v0 12 1 fun r2 =>
  gf h v0 12 1 fun r3 =>
  rd h r3 100 9 fun r4 =>
  if r4 ≤ v3 then
    f_X12_digs_261 n rec215 v0 v1 v3 r2 (wr ((wr (11840 + (wr (1000 * v3)))) + v1)) ((-1)) h
  else
  gf h v0 12 1 fun r6 =>
  rd h r6 100 (wr (11502 + v3)) fun r7 =>
  f_X12_digs_261 n rec215 v0 v1 v3 r2 (wr ((wr (11840 + (wr (1000 * v3)))) + v1)) r7 h
noncomputable def f_X12_digs_215 (n : Nat)  (v0 v1 : Int) : Nat → Int → MM → RR
  | 0, _, _ => none
  | k + 1, v3, h => f_X12_digs_215b n  (f_X12_digs_215 n  v0 v1 k) v0 v1 v3 h
noncomputable def f_X12_digs_207 (n : Nat) (rec18 : Int → Int → MM → RR) (v0 v1 v2 v3 : Int) (h : MM) : RR :=
  lb (wr (v3 + 1)) fun x1 =>
  rec18 v2 x1 h
noncomputable def f_X12_digs_206 (n : Nat) (rec18 : Int → Int → MM → RR) (v0 v1 v2 v3 s0 s1 s2 : Int) (h : MM) : RR :=
  wt h s0 100 s1 s2 fun h1 =>
  f_X12_digs_207 n rec18 v0 v1 v2 v3 h1
noncomputable def f_X12_digs_134 (n : Nat) (rec18 : Int → Int → MM → RR) (v0 v1 v2 v3 v4 s0 : Int) (h : MM) : RR :=
  lb (wr (v2 - s0)) fun x1 =>
  gf h v0 12 1 fun r2 =>
  rd h r2 100 v4 fun r3 =>
  wt h r2 100 v4 (wr (r3 - (wr (2 * s0)))) fun h4 =>
  gf h4 v0 12 1 fun r5 =>
  rd h4 r5 100 (wr (970 + v3)) fun r6 =>
  wt h4 r5 100 (wr (970 + v3)) (wr (r6 - s0)) fun h7 =>
  gf h7 v0 12 1 fun r8 =>
  gf h7 v0 12 1 fun r9 =>
  rd h7 r9 100 (wr (970 + v3)) fun r10 =>
  if r10 = 0 then
    f_X12_digs_206 n rec18 v0 v1 x1 v3 r8 (wr (1030 + v3)) v1 h7
  else
  gf h7 v0 12 1 fun r12 =>
  rd h7 r12 100 (wr (1030 + v3)) fun r13 =>
  f_X12_digs_206 n rec18 v0 v1 x1 v3 r8 (wr (1030 + v3)) r13 h7
noncomputable def f_X12_digs_104 (n : Nat) (rec18 : Int → Int → MM → RR) (v0 v1 v2 v3 v4 s0 : Int) (h : MM) : RR :=
  gf h v0 12 1 fun r1 =>
  rd h r1 100 v4 fun r2 =>
  if s0 ≤ idv r2 2 then
    f_X12_digs_134 n rec18 v0 v1 v2 v3 v4 s0 h
  else
  gf h v0 12 1 fun r4 =>
  rd h r4 100 v4 fun r5 =>
  f_X12_digs_134 n rec18 v0 v1 v2 v3 v4 (idv r5 2) h
noncomputable def f_X12_digs_18b (n : Nat) (rec18 : Int → Int → MM → RR) (v0 v1 v2 v3 : Int) (h : MM) : RR :=
  gf h v0 12 1 fun r1 =>
  rd h r1 100 2 fun r2 =>
  if r2 ≤ v3 then
    f_X12_digs_215 n v0 v1 n 0 h
  else
  gk h v0 12 <|
  bd (f_X12_isGranted n v0 v3 h) fun r4 h4 =>
  if r4 = 0 then
    f_X12_digs_207 n rec18 v0 v1 v2 v3 h4
  else
  gf h4 v0 12 1 fun r6 =>
  rd h4 r6 100 (wr (970 + v3)) fun r7 =>
  if r7 ≤ 0 then
    f_X12_digs_207 n rec18 v0 v1 v2 v3 h4
  else
  gk h4 v0 12 <|
  bd (f_X12_schemeOf n v0 v3 h4) fun r9 h9 =>
  gk h9 v0 12 <|
  bd (f_X12_isFallen n v0 r9 h9) fun r10 h10 =>
  if r10 = 0 then
    gk h10 v0 12 <|
    bd (f_X12_schemeOf n v0 v3 h10) fun r12 h12 =>
    gk h12 v0 12 <|
    bd (f_X12_indexOf n v0 r12 h12) fun r13 h13 =>
    lb (wr (11502 + r13)) fun x14 =>
    gf h13 v0 12 1 fun r15 =>
    rd h13 r15 100 (wr (970 + v3)) fun r16 =>
    if v2 ≤ r16 then
      f_X12_digs_104 n rec18 v0 v1 v2 v3 x14 v2 h13
    else
    gf h13 v0 12 1 fun r18 =>
    rd h13 r18 100 (wr (970 + v3)) fun r19 =>
    f_X12_digs_104 n rec18 v0 v1 v2 v3 x14 r19 h13
  else
  f_X12_digs_207 n rec18 v0 v1 v2 v3 h10
noncomputable def f_X12_digs_18 (n : Nat)  (v0 v1 : Int) : Nat → Int → Int → MM → RR
  | 0, _, _, _ => none
  | k + 1, v2, v3, h => f_X12_digs_18b n  (f_X12_digs_18 n  v0 v1 k) v0 v1 v2 v3 h
noncomputable def f_X12_digs (n : Nat) (v0 : Int) (h : MM) : RR :=
  gf h v0 12 1 fun r1 =>
  rd h r1 100 0 fun r2 =>
  gf h v0 12 1 fun r3 =>
  rd h r3 100 5 fun r4 =>
  lb (wr (3 * r4)) fun x5 =>
  f_X12_digs_18 n v0 r2 n x5 0 h
set_option maxRecDepth 20000 in
theorem b_X12_digs_323 {g : GT} {Z : Int × MM} {n : Nat} (C : Cx g cX12_digs 6 yX12_digs 1 22) (hr : Rt g none 3 Z) {v0 v1 v3 s0 s1 s2 : Int}  {rec270 : Int → MM → RR} (L270 : ∀ (u3 : Int) (h : MM), in32 u3 → rec270 u3 h = some Z → G g 270 [(2, v0), (0, v1), (3, 0), (0, u3), (3, 0), (3, 0)] [] h) (cv1 : in32 v1) (cv3 : in32 v3) (cs1 : in32 s1) (cs2 : in32 s2) {h : MM} (hf : f_X12_digs_323 n rec270 v0 v1 v3 s0 s1 s2 h = some Z) : G g 323 [(2, v0), (0, v1), (3, 0), (0, v3), (3, 0), (3, 0)] [(0, s2), (0, s1), (2, s0)] h := by
  unfold f_X12_digs_323 at hf
  obtain ⟨q1, hf⟩ := wt_s hf
  refine r_iast C dX12_digs_323 q1 rfl cs2 ?_
  obtain ⟨x2, e2, hf⟩ := lb_s hf
  have c2 : in32 x2 := by rw [e2]; exact (in32_t _)
  refine r_iincL C dX12_digs_324 rfl e2 (Nat.le_of_ble_eq_true rfl) rfl ?_
  refine r_goto C dX12_digs_327 (tgt := 270) (by decide) ?_
  exact G.mask [true, true, false, true, false, false] rfl rfl (L270 _ _ c2 hf)
set_option maxRecDepth 20000 in
theorem b_X12_digs_322 {g : GT} {Z : Int × MM} {n : Nat} (C : Cx g cX12_digs 6 yX12_digs 1 22) (hr : Rt g none 3 Z) {v0 v1 v3 s0 s1 : Int}  {rec270 : Int → MM → RR} (L270 : ∀ (u3 : Int) (h : MM), in32 u3 → rec270 u3 h = some Z → G g 270 [(2, v0), (0, v1), (3, 0), (0, u3), (3, 0), (3, 0)] [] h) (cv1 : in32 v1) (cv3 : in32 v3) (cs1 : in32 s1) {h : MM} (hf : f_X12_digs_322 n rec270 v0 v1 v3 s0 s1 h = some Z) : G g 322 [(2, v0), (0, v1), (3, 0), (0, v3), (3, 0), (3, 0)] [(0, s1), (2, s0)] h := by
  unfold f_X12_digs_322 at hf
  refine r_iconst C dX12_digs_322 ?_
  exact G.mask [true, true, false, true, false, false] rfl rfl (b_X12_digs_323 C hr L270 cv1 cv3 cs1 (in32_of rfl) hf)
set_option maxRecDepth 20000 in
theorem b_X12_digs_270b {g : GT} {Z : Int × MM} {n : Nat} (C : Cx g cX12_digs 6 yX12_digs 1 22) (hr : Rt g none 3 Z) {v0 v1 v3 : Int}  {rec270 : Int → MM → RR} (L270 : ∀ (u3 : Int) (h : MM), in32 u3 → rec270 u3 h = some Z → G g 270 [(2, v0), (0, v1), (3, 0), (0, u3), (3, 0), (3, 0)] [] h) (cv1 : in32 v1) (cv3 : in32 v3) {h : MM} (hf : f_X12_digs_270b n rec270 v0 v1 v3 h = some Z) : G g 270 [(2, v0), (0, v1), (3, 0), (0, v3), (3, 0), (3, 0)] [] h := by
  unfold f_X12_digs_270b at hf
  refine r_iload_n C dX12_digs_270 rfl ?_
  refine r_bipush C dX12_digs_271 rfl ?_
  refine r_icmp_ge C dX12_digs_273 (tgt := 330) (by decide) cv3 (in32_of rfl) (fun n1 => ?_) (fun n1 => ?_)
  · have hf := ite_p n1 hf
    refine r_aload_n C dX12_digs_330 rfl ?_
    obtain ⟨q2, hf⟩ := gf_s hf
    refine r_gf C ct12 (j := 1) (ji := 1) dX12_digs_331 q2 rfl rfl (by decide) w_1426 rfl (fun c2 => ?_)
    refine r_iconst C dX12_digs_334 ?_
    refine r_dup2 C dX12_digs_335 (by decide) (by decide) ?_
    obtain ⟨q3, hf⟩ := rd_s hf
    refine r_iald C dX12_digs_336 q3 rfl (fun c3 => ?_)
    refine r_iconst C dX12_digs_337 ?_
    refine r_iadd C dX12_digs_338 ?_
    obtain ⟨q4, hf⟩ := wt_s hf
    refine r_iast C dX12_digs_339 q4 rfl (in32_t _) ?_
    cases hf
    exact r_vret C hr dX12_digs_340
  · have hf := ite_n n1 hf
    refine r_aload_n C dX12_digs_276 rfl ?_
    obtain ⟨q5, hf⟩ := gf_s hf
    refine r_gf C ct12 (j := 1) (ji := 1) dX12_digs_277 q5 rfl rfl (by decide) w_1426 rfl (fun c5 => ?_)
    refine r_sipush C dX12_digs_280 rfl ?_
    refine r_sipush C dX12_digs_283 rfl ?_
    refine r_iload_n C dX12_digs_286 rfl ?_
    refine r_imul C dX12_digs_287 ?_
    refine r_iadd C dX12_digs_288 ?_
    refine r_iload_n C dX12_digs_289 rfl ?_
    refine r_iadd C dX12_digs_290 ?_
    refine r_iload_n C dX12_digs_291 rfl ?_
    refine r_aload_n C dX12_digs_292 rfl ?_
    obtain ⟨q6, hf⟩ := gf_s hf
    refine r_gf C ct12 (j := 1) (ji := 1) dX12_digs_293 q6 rfl rfl (by decide) w_1426 rfl (fun c6 => ?_)
    refine r_iconst C dX12_digs_296 ?_
    obtain ⟨q7, hf⟩ := rd_s hf
    refine r_iald C dX12_digs_297 q7 rfl (fun c7 => ?_)
    refine r_icmp_ge C dX12_digs_298 (tgt := 322) (by decide) cv3 c7 (fun n8 => ?_) (fun n8 => ?_)
    · have hf := ite_p n8 hf
      exact G.mask [true, true, false, true, false, false] rfl rfl (b_X12_digs_322 C hr L270 cv1 cv3 (in32_t _) hf)
    · have hf := ite_n n8 hf
      refine r_aload_n C dX12_digs_301 rfl ?_
      refine r_iload_n C dX12_digs_302 rfl ?_
      obtain ⟨p9, hf⟩ := gk_s hf
      obtain ⟨r9, h9, hq9, hf⟩ := bd_s hf
      refine r_cV1 C (am_X12_isGranted (gl g) n) cm_X12_isGranted w_1718 dX12_digs_303 ⟨Nat.le_of_ble_eq_true rfl, Nat.le_of_ble_eq_true rfl⟩ p9 rfl cv3 rfl (Nat.le_of_ble_eq_true rfl) hq9 (by decide) (fun c9 => ?_)
      have c9 : in32 _ := c9
      refine r_if_eq C dX12_digs_306 (tgt := 322) (by decide) c9 (fun n10 => ?_) (fun n10 => ?_)
      · have hf := ite_p n10 hf
        exact G.mask [true, true, false, true, false, false] rfl rfl (b_X12_digs_322 C hr L270 cv1 cv3 (in32_t _) hf)
      · have hf := ite_n n10 hf
        refine r_aload_n C dX12_digs_309 rfl ?_
        obtain ⟨q11, hf⟩ := gf_s hf
        refine r_gf C ct12 (j := 1) (ji := 1) dX12_digs_310 q11 rfl rfl (by decide) w_1426 rfl (fun c11 => ?_)
        refine r_sipush C dX12_digs_313 rfl ?_
        refine r_iload_n C dX12_digs_316 rfl ?_
        refine r_iadd C dX12_digs_317 ?_
        obtain ⟨q12, hf⟩ := rd_s hf
        refine r_iald C dX12_digs_318 q12 rfl (fun c12 => ?_)
        refine r_goto C dX12_digs_319 (tgt := 323) (by decide) ?_
        exact G.mask [true, true, false, true, false, false] rfl rfl (b_X12_digs_323 C hr L270 cv1 cv3 (in32_t _) c12 hf)
set_option maxRecDepth 20000 in
theorem l_X12_digs_270 {g : GT} {Z : Int × MM} {n : Nat} (C : Cx g cX12_digs 6 yX12_digs 1 22) (hr : Rt g none 3 Z) {v0 v1 : Int}   (cv1 : in32 v1) : ∀ (k : Nat) (v3 : Int) (h : MM), in32 v3 → f_X12_digs_270 n  v0 v1 k v3 h = some Z → G g 270 [(2, v0), (0, v1), (3, 0), (0, v3), (3, 0), (3, 0)] [] h := by
  intro k
  induction k with
  | zero => intro v3 h cv3 hf; exact absurd hf (by intro z; cases z)
  | succ k ih => intro v3 h cv3 hf; exact b_X12_digs_270b C hr (rec270 := f_X12_digs_270 n  v0 v1 k)  ih cv1 cv3 (show f_X12_digs_270b n  (f_X12_digs_270 n  v0 v1 k) v0 v1 v3 h = some Z from hf)
set_option maxRecDepth 20000 in
theorem b_X12_digs_261 {g : GT} {Z : Int × MM} {n : Nat} (C : Cx g cX12_digs 6 yX12_digs 1 22) (hr : Rt g none 3 Z) {v0 v1 v3 s0 s1 s2 : Int}  {rec215 : Int → MM → RR} (L215 : ∀ (u3 : Int) (h : MM), in32 u3 → rec215 u3 h = some Z → G g 215 [(2, v0), (0, v1), (3, 0), (0, u3), (3, 0), (3, 0)] [] h) (cv1 : in32 v1) (cv3 : in32 v3) (cs1 : in32 s1) (cs2 : in32 s2) {h : MM} (hf : f_X12_digs_261 n rec215 v0 v1 v3 s0 s1 s2 h = some Z) : G g 261 [(2, v0), (0, v1), (3, 0), (0, v3), (3, 0), (3, 0)] [(0, s2), (0, s1), (2, s0)] h := by
  unfold f_X12_digs_261 at hf
  obtain ⟨q1, hf⟩ := wt_s hf
  refine r_iast C dX12_digs_261 q1 rfl cs2 ?_
  obtain ⟨x2, e2, hf⟩ := lb_s hf
  have c2 : in32 x2 := by rw [e2]; exact (in32_t _)
  refine r_iincL C dX12_digs_262 rfl e2 (Nat.le_of_ble_eq_true rfl) rfl ?_
  refine r_goto C dX12_digs_265 (tgt := 215) (by decide) ?_
  exact G.mask [true, true, false, true, false, false] rfl rfl (L215 _ _ c2 hf)
set_option maxRecDepth 20000 in
theorem b_X12_digs_215b {g : GT} {Z : Int × MM} {n : Nat} (C : Cx g cX12_digs 6 yX12_digs 1 22) (hr : Rt g none 3 Z) {v0 v1 v3 : Int}  {rec215 : Int → MM → RR} (L215 : ∀ (u3 : Int) (h : MM), in32 u3 → rec215 u3 h = some Z → G g 215 [(2, v0), (0, v1), (3, 0), (0, u3), (3, 0), (3, 0)] [] h) (cv1 : in32 v1) (cv3 : in32 v3) {h : MM} (hf : f_X12_digs_215b n rec215 v0 v1 v3 h = some Z) : G g 215 [(2, v0), (0, v1), (3, 0), (0, v3), (3, 0), (3, 0)] [] h := by
  unfold f_X12_digs_215b at hf
  refine r_iload_n C dX12_digs_215 rfl ?_
  refine r_bipush C dX12_digs_216 rfl ?_
  refine r_icmp_ge C dX12_digs_218 (tgt := 268) (by decide) cv3 (in32_of rfl) (fun n1 => ?_) (fun n1 => ?_)
  · have hf := ite_p n1 hf
    refine r_iconst C dX12_digs_268 ?_
    refine r_istore_n C dX12_digs_269 (Nat.le_of_ble_eq_true rfl) rfl ?_
    exact G.mask [true, true, false, true, false, false] rfl rfl (l_X12_digs_270 C hr  cv1 _ _ _ (in32_of rfl) hf)
  · have hf := ite_n n1 hf
    refine r_aload_n C dX12_digs_221 rfl ?_
    obtain ⟨q2, hf⟩ := gf_s hf
    refine r_gf C ct12 (j := 1) (ji := 1) dX12_digs_222 q2 rfl rfl (by decide) w_1426 rfl (fun c2 => ?_)
    refine r_sipush C dX12_digs_225 rfl ?_
    refine r_sipush C dX12_digs_228 rfl ?_
    refine r_iload_n C dX12_digs_231 rfl ?_
    refine r_imul C dX12_digs_232 ?_
    refine r_iadd C dX12_digs_233 ?_
    refine r_iload_n C dX12_digs_234 rfl ?_
    refine r_iadd C dX12_digs_235 ?_
    refine r_iload_n C dX12_digs_236 rfl ?_
    refine r_aload_n C dX12_digs_237 rfl ?_
    obtain ⟨q3, hf⟩ := gf_s hf
    refine r_gf C ct12 (j := 1) (ji := 1) dX12_digs_238 q3 rfl rfl (by decide) w_1426 rfl (fun c3 => ?_)
    refine r_bipush C dX12_digs_241 rfl ?_
    obtain ⟨q4, hf⟩ := rd_s hf
    refine r_iald C dX12_digs_243 q4 rfl (fun c4 => ?_)
    refine r_icmp_ge C dX12_digs_244 (tgt := 260) (by decide) cv3 c4 (fun n5 => ?_) (fun n5 => ?_)
    · have hf := ite_p n5 hf
      refine r_iconst C dX12_digs_260 ?_
      exact G.mask [true, true, false, true, false, false] rfl rfl (b_X12_digs_261 C hr L215 cv1 cv3 (in32_t _) (in32_of rfl) hf)
    · have hf := ite_n n5 hf
      refine r_aload_n C dX12_digs_247 rfl ?_
      obtain ⟨q6, hf⟩ := gf_s hf
      refine r_gf C ct12 (j := 1) (ji := 1) dX12_digs_248 q6 rfl rfl (by decide) w_1426 rfl (fun c6 => ?_)
      refine r_sipush C dX12_digs_251 rfl ?_
      refine r_iload_n C dX12_digs_254 rfl ?_
      refine r_iadd C dX12_digs_255 ?_
      obtain ⟨q7, hf⟩ := rd_s hf
      refine r_iald C dX12_digs_256 q7 rfl (fun c7 => ?_)
      refine r_goto C dX12_digs_257 (tgt := 261) (by decide) ?_
      exact G.mask [true, true, false, true, false, false] rfl rfl (b_X12_digs_261 C hr L215 cv1 cv3 (in32_t _) c7 hf)
set_option maxRecDepth 20000 in
theorem l_X12_digs_215 {g : GT} {Z : Int × MM} {n : Nat} (C : Cx g cX12_digs 6 yX12_digs 1 22) (hr : Rt g none 3 Z) {v0 v1 : Int}   (cv1 : in32 v1) : ∀ (k : Nat) (v3 : Int) (h : MM), in32 v3 → f_X12_digs_215 n  v0 v1 k v3 h = some Z → G g 215 [(2, v0), (0, v1), (3, 0), (0, v3), (3, 0), (3, 0)] [] h := by
  intro k
  induction k with
  | zero => intro v3 h cv3 hf; exact absurd hf (by intro z; cases z)
  | succ k ih => intro v3 h cv3 hf; exact b_X12_digs_215b C hr (rec215 := f_X12_digs_215 n  v0 v1 k)  ih cv1 cv3 (show f_X12_digs_215b n  (f_X12_digs_215 n  v0 v1 k) v0 v1 v3 h = some Z from hf)
set_option maxRecDepth 20000 in
theorem b_X12_digs_207 {g : GT} {Z : Int × MM} {n : Nat} (C : Cx g cX12_digs 6 yX12_digs 1 22) (hr : Rt g none 3 Z) {v0 v1 v2 v3 : Int}  {rec18 : Int → Int → MM → RR} (L18 : ∀ (u2 u3 : Int) (h : MM), in32 u2 → in32 u3 → rec18 u2 u3 h = some Z → G g 18 [(2, v0), (0, v1), (0, u2), (0, u3), (3, 0), (3, 0)] [] h) (cv1 : in32 v1) (cv2 : in32 v2) (cv3 : in32 v3) {h : MM} (hf : f_X12_digs_207 n rec18 v0 v1 v2 v3 h = some Z) : G g 207 [(2, v0), (0, v1), (0, v2), (0, v3), (3, 0), (3, 0)] [] h := by
  unfold f_X12_digs_207 at hf
  obtain ⟨x1, e1, hf⟩ := lb_s hf
  have c1 : in32 x1 := by rw [e1]; exact (in32_t _)
  refine r_iincL C dX12_digs_207 rfl e1 (Nat.le_of_ble_eq_true rfl) rfl ?_
  refine r_goto C dX12_digs_210 (tgt := 18) (by decide) ?_
  exact G.mask [true, true, true, true, false, false] rfl rfl (L18 _ _ _ cv2 c1 hf)
set_option maxRecDepth 20000 in
theorem b_X12_digs_206 {g : GT} {Z : Int × MM} {n : Nat} (C : Cx g cX12_digs 6 yX12_digs 1 22) (hr : Rt g none 3 Z) {v0 v1 v2 v3 s0 s1 s2 : Int}  {rec18 : Int → Int → MM → RR} (L18 : ∀ (u2 u3 : Int) (h : MM), in32 u2 → in32 u3 → rec18 u2 u3 h = some Z → G g 18 [(2, v0), (0, v1), (0, u2), (0, u3), (3, 0), (3, 0)] [] h) (cv1 : in32 v1) (cv2 : in32 v2) (cv3 : in32 v3) (cs1 : in32 s1) (cs2 : in32 s2) {h : MM} (hf : f_X12_digs_206 n rec18 v0 v1 v2 v3 s0 s1 s2 h = some Z) : G g 206 [(2, v0), (0, v1), (0, v2), (0, v3), (3, 0), (3, 0)] [(0, s2), (0, s1), (2, s0)] h := by
  unfold f_X12_digs_206 at hf
  obtain ⟨q1, hf⟩ := wt_s hf
  refine r_iast C dX12_digs_206 q1 rfl cs2 ?_
  exact G.mask [true, true, true, true, false, false] rfl rfl (b_X12_digs_207 C hr L18 cv1 cv2 cv3 hf)
set_option maxRecDepth 20000 in
theorem b_X12_digs_134 {g : GT} {Z : Int × MM} {n : Nat} (C : Cx g cX12_digs 6 yX12_digs 1 22) (hr : Rt g none 3 Z) {v0 v1 v2 v3 v4 s0 : Int}  {rec18 : Int → Int → MM → RR} (L18 : ∀ (u2 u3 : Int) (h : MM), in32 u2 → in32 u3 → rec18 u2 u3 h = some Z → G g 18 [(2, v0), (0, v1), (0, u2), (0, u3), (3, 0), (3, 0)] [] h) (cv1 : in32 v1) (cv2 : in32 v2) (cv3 : in32 v3) (cv4 : in32 v4) (cs0 : in32 s0) {h : MM} (hf : f_X12_digs_134 n rec18 v0 v1 v2 v3 v4 s0 h = some Z) : G g 134 [(2, v0), (0, v1), (0, v2), (0, v3), (0, v4), (3, 0)] [(0, s0)] h := by
  unfold f_X12_digs_134 at hf
  refine r_istore C dX12_digs_134 (Nat.le_of_ble_eq_true rfl) rfl ?_
  refine r_iload_n C dX12_digs_136 rfl ?_
  refine r_iload C dX12_digs_137 rfl ?_
  refine r_isub C dX12_digs_139 ?_
  obtain ⟨x1, e1, hf⟩ := lb_s hf
  have c1 : in32 x1 := by rw [e1]; exact (in32_t _)
  refine r_istore_nL C dX12_digs_140 e1 (Nat.le_of_ble_eq_true rfl) rfl ?_
  refine r_aload_n C dX12_digs_141 rfl ?_
  obtain ⟨q2, hf⟩ := gf_s hf
  refine r_gf C ct12 (j := 1) (ji := 1) dX12_digs_142 q2 rfl rfl (by decide) w_1426 rfl (fun c2 => ?_)
  refine r_iload C dX12_digs_145 rfl ?_
  refine r_dup2 C dX12_digs_147 (by decide) (by decide) ?_
  obtain ⟨q3, hf⟩ := rd_s hf
  refine r_iald C dX12_digs_148 q3 rfl (fun c3 => ?_)
  refine r_iconst C dX12_digs_149 ?_
  refine r_iload C dX12_digs_150 rfl ?_
  refine r_imul C dX12_digs_152 ?_
  refine r_isub C dX12_digs_153 ?_
  obtain ⟨q4, hf⟩ := wt_s hf
  refine r_iast C dX12_digs_154 q4 rfl (in32_t _) ?_
  refine r_aload_n C dX12_digs_155 rfl ?_
  obtain ⟨q5, hf⟩ := gf_s hf
  refine r_gf C ct12 (j := 1) (ji := 1) dX12_digs_156 q5 rfl rfl (by decide) w_1426 rfl (fun c5 => ?_)
  refine r_sipush C dX12_digs_159 rfl ?_
  refine r_iload_n C dX12_digs_162 rfl ?_
  refine r_iadd C dX12_digs_163 ?_
  refine r_dup2 C dX12_digs_164 (by decide) (by decide) ?_
  obtain ⟨q6, hf⟩ := rd_s hf
  refine r_iald C dX12_digs_165 q6 rfl (fun c6 => ?_)
  refine r_iload C dX12_digs_166 rfl ?_
  refine r_isub C dX12_digs_168 ?_
  obtain ⟨q7, hf⟩ := wt_s hf
  refine r_iast C dX12_digs_169 q7 rfl (in32_t _) ?_
  refine r_aload_n C dX12_digs_170 rfl ?_
  obtain ⟨q8, hf⟩ := gf_s hf
  refine r_gf C ct12 (j := 1) (ji := 1) dX12_digs_171 q8 rfl rfl (by decide) w_1426 rfl (fun c8 => ?_)
  refine r_sipush C dX12_digs_174 rfl ?_
  refine r_iload_n C dX12_digs_177 rfl ?_
  refine r_iadd C dX12_digs_178 ?_
  refine r_aload_n C dX12_digs_179 rfl ?_
  obtain ⟨q9, hf⟩ := gf_s hf
  refine r_gf C ct12 (j := 1) (ji := 1) dX12_digs_180 q9 rfl rfl (by decide) w_1426 rfl (fun c9 => ?_)
  refine r_sipush C dX12_digs_183 rfl ?_
  refine r_iload_n C dX12_digs_186 rfl ?_
  refine r_iadd C dX12_digs_187 ?_
  obtain ⟨q10, hf⟩ := rd_s hf
  refine r_iald C dX12_digs_188 q10 rfl (fun c10 => ?_)
  refine r_if_ne C dX12_digs_189 (tgt := 196) (by decide) c10 (fun n11 => ?_) (fun n11 => ?_)
  · have hf := ite_n n11 hf
    refine r_aload_n C dX12_digs_196 rfl ?_
    obtain ⟨q12, hf⟩ := gf_s hf
    refine r_gf C ct12 (j := 1) (ji := 1) dX12_digs_197 q12 rfl rfl (by decide) w_1426 rfl (fun c12 => ?_)
    refine r_sipush C dX12_digs_200 rfl ?_
    refine r_iload_n C dX12_digs_203 rfl ?_
    refine r_iadd C dX12_digs_204 ?_
    obtain ⟨q13, hf⟩ := rd_s hf
    refine r_iald C dX12_digs_205 q13 rfl (fun c13 => ?_)
    exact G.mask [true, true, true, true, false, false] rfl rfl (b_X12_digs_206 C hr L18 cv1 c1 cv3 (in32_t _) c13 hf)
  · have hf := ite_p n11 hf
    refine r_iload_n C dX12_digs_192 rfl ?_
    refine r_goto C dX12_digs_193 (tgt := 206) (by decide) ?_
    exact G.mask [true, true, true, true, false, false] rfl rfl (b_X12_digs_206 C hr L18 cv1 c1 cv3 (in32_t _) cv1 hf)
set_option maxRecDepth 20000 in
theorem b_X12_digs_104 {g : GT} {Z : Int × MM} {n : Nat} (C : Cx g cX12_digs 6 yX12_digs 1 22) (hr : Rt g none 3 Z) {v0 v1 v2 v3 v4 s0 : Int}  {rec18 : Int → Int → MM → RR} (L18 : ∀ (u2 u3 : Int) (h : MM), in32 u2 → in32 u3 → rec18 u2 u3 h = some Z → G g 18 [(2, v0), (0, v1), (0, u2), (0, u3), (3, 0), (3, 0)] [] h) (cv1 : in32 v1) (cv2 : in32 v2) (cv3 : in32 v3) (cv4 : in32 v4) (cs0 : in32 s0) {h : MM} (hf : f_X12_digs_104 n rec18 v0 v1 v2 v3 v4 s0 h = some Z) : G g 104 [(2, v0), (0, v1), (0, v2), (0, v3), (0, v4), (3, 0)] [(0, s0)] h := by
  unfold f_X12_digs_104 at hf
  refine r_istore C dX12_digs_104 (Nat.le_of_ble_eq_true rfl) rfl ?_
  refine r_aload_n C dX12_digs_106 rfl ?_
  obtain ⟨q1, hf⟩ := gf_s hf
  refine r_gf C ct12 (j := 1) (ji := 1) dX12_digs_107 q1 rfl rfl (by decide) w_1426 rfl (fun c1 => ?_)
  refine r_iload C dX12_digs_110 rfl ?_
  obtain ⟨q2, hf⟩ := rd_s hf
  refine r_iald C dX12_digs_112 q2 rfl (fun c2 => ?_)
  refine r_iconst C dX12_digs_113 ?_
  refine r_idiv C dX12_digs_114 (in32_of rfl) (by decide) ?_
  refine r_iload C dX12_digs_115 rfl ?_
  refine r_icmp_ge C dX12_digs_117 (tgt := 132) (by decide) (in32_t _) cs0 (fun n3 => ?_) (fun n3 => ?_)
  · have hf := ite_p n3 hf
    refine r_iload C dX12_digs_132 rfl ?_
    exact G.mask [true, true, true, true, true, false] rfl rfl (b_X12_digs_134 C hr L18 cv1 cv2 cv3 cv4 cs0 hf)
  · have hf := ite_n n3 hf
    refine r_aload_n C dX12_digs_120 rfl ?_
    obtain ⟨q4, hf⟩ := gf_s hf
    refine r_gf C ct12 (j := 1) (ji := 1) dX12_digs_121 q4 rfl rfl (by decide) w_1426 rfl (fun c4 => ?_)
    refine r_iload C dX12_digs_124 rfl ?_
    obtain ⟨q5, hf⟩ := rd_s hf
    refine r_iald C dX12_digs_126 q5 rfl (fun c5 => ?_)
    refine r_iconst C dX12_digs_127 ?_
    refine r_idiv C dX12_digs_128 (in32_of rfl) (by decide) ?_
    refine r_goto C dX12_digs_129 (tgt := 134) (by decide) ?_
    exact G.mask [true, true, true, true, true, false] rfl rfl (b_X12_digs_134 C hr L18 cv1 cv2 cv3 cv4 (in32_t _) hf)
set_option maxRecDepth 20000 in
theorem b_X12_digs_18b {g : GT} {Z : Int × MM} {n : Nat} (C : Cx g cX12_digs 6 yX12_digs 1 22) (hr : Rt g none 3 Z) {v0 v1 v2 v3 : Int}  {rec18 : Int → Int → MM → RR} (L18 : ∀ (u2 u3 : Int) (h : MM), in32 u2 → in32 u3 → rec18 u2 u3 h = some Z → G g 18 [(2, v0), (0, v1), (0, u2), (0, u3), (3, 0), (3, 0)] [] h) (cv1 : in32 v1) (cv2 : in32 v2) (cv3 : in32 v3) {h : MM} (hf : f_X12_digs_18b n rec18 v0 v1 v2 v3 h = some Z) : G g 18 [(2, v0), (0, v1), (0, v2), (0, v3), (3, 0), (3, 0)] [] h := by
  unfold f_X12_digs_18b at hf
  refine r_iload_n C dX12_digs_18 rfl ?_
  refine r_aload_n C dX12_digs_19 rfl ?_
  obtain ⟨q1, hf⟩ := gf_s hf
  refine r_gf C ct12 (j := 1) (ji := 1) dX12_digs_20 q1 rfl rfl (by decide) w_1426 rfl (fun c1 => ?_)
  refine r_iconst C dX12_digs_23 ?_
  obtain ⟨q2, hf⟩ := rd_s hf
  refine r_iald C dX12_digs_24 q2 rfl (fun c2 => ?_)
  refine r_icmp_ge C dX12_digs_25 (tgt := 213) (by decide) cv3 c2 (fun n3 => ?_) (fun n3 => ?_)
  · have hf := ite_p n3 hf
    refine r_iconst C dX12_digs_213 ?_
    refine r_istore_n C dX12_digs_214 (Nat.le_of_ble_eq_true rfl) rfl ?_
    exact G.mask [true, true, false, true, false, false] rfl rfl (l_X12_digs_215 C hr  cv1 _ _ _ (in32_of rfl) hf)
  · have hf := ite_n n3 hf
    refine r_aload_n C dX12_digs_28 rfl ?_
    refine r_iload_n C dX12_digs_29 rfl ?_
    obtain ⟨p4, hf⟩ := gk_s hf
    obtain ⟨r4, h4, hq4, hf⟩ := bd_s hf
    refine r_cV1 C (am_X12_isGranted (gl g) n) cm_X12_isGranted w_1718 dX12_digs_30 ⟨Nat.le_of_ble_eq_true rfl, Nat.le_of_ble_eq_true rfl⟩ p4 rfl cv3 rfl (Nat.le_of_ble_eq_true rfl) hq4 (by decide) (fun c4 => ?_)
    have c4 : in32 _ := c4
    refine r_if_eq C dX12_digs_33 (tgt := 207) (by decide) c4 (fun n5 => ?_) (fun n5 => ?_)
    · have hf := ite_p n5 hf
      exact G.mask [true, true, true, true, false, false] rfl rfl (b_X12_digs_207 C hr L18 cv1 cv2 cv3 hf)
    · have hf := ite_n n5 hf
      refine r_aload_n C dX12_digs_36 rfl ?_
      obtain ⟨q6, hf⟩ := gf_s hf
      refine r_gf C ct12 (j := 1) (ji := 1) dX12_digs_37 q6 rfl rfl (by decide) w_1426 rfl (fun c6 => ?_)
      refine r_sipush C dX12_digs_40 rfl ?_
      refine r_iload_n C dX12_digs_43 rfl ?_
      refine r_iadd C dX12_digs_44 ?_
      obtain ⟨q7, hf⟩ := rd_s hf
      refine r_iald C dX12_digs_45 q7 rfl (fun c7 => ?_)
      refine r_if_le C dX12_digs_46 (tgt := 207) (by decide) c7 (fun n8 => ?_) (fun n8 => ?_)
      · have hf := ite_p n8 hf
        exact G.mask [true, true, true, true, false, false] rfl rfl (b_X12_digs_207 C hr L18 cv1 cv2 cv3 hf)
      · have hf := ite_n n8 hf
        refine r_aload_n C dX12_digs_49 rfl ?_
        refine r_aload_n C dX12_digs_50 rfl ?_
        refine r_iload_n C dX12_digs_51 rfl ?_
        obtain ⟨p9, hf⟩ := gk_s hf
        obtain ⟨r9, h9, hq9, hf⟩ := bd_s hf
        refine r_cV1 C (am_X12_schemeOf (gl g) n) cm_X12_schemeOf w_1841 dX12_digs_52 ⟨Nat.le_of_ble_eq_true rfl, Nat.le_of_ble_eq_true rfl⟩ p9 rfl cv3 rfl (Nat.le_of_ble_eq_true rfl) hq9 (by decide) (fun c9 => ?_)
        have c9 : in32 _ := c9
        obtain ⟨p10, hf⟩ := gk_s hf
        obtain ⟨r10, h10, hq10, hf⟩ := bd_s hf
        refine r_cV1 C (am_X12_isFallen (gl g) n) cm_X12_isFallen w_1769 dX12_digs_55 ⟨Nat.le_of_ble_eq_true rfl, Nat.le_of_ble_eq_true rfl⟩ p10 rfl c9 rfl (Nat.le_of_ble_eq_true rfl) hq10 (by decide) (fun c10 => ?_)
        have c10 : in32 _ := c10
        refine r_if_ne C dX12_digs_58 (tgt := 207) (by decide) c10 (fun n11 => ?_) (fun n11 => ?_)
        · have hf := ite_n n11 hf
          exact G.mask [true, true, true, true, false, false] rfl rfl (b_X12_digs_207 C hr L18 cv1 cv2 cv3 hf)
        · have hf := ite_p n11 hf
          refine r_sipush C dX12_digs_61 rfl ?_
          refine r_aload_n C dX12_digs_64 rfl ?_
          refine r_aload_n C dX12_digs_65 rfl ?_
          refine r_iload_n C dX12_digs_66 rfl ?_
          obtain ⟨p12, hf⟩ := gk_s hf
          obtain ⟨r12, h12, hq12, hf⟩ := bd_s hf
          refine r_cV1 C (am_X12_schemeOf (gl g) n) cm_X12_schemeOf w_1841 dX12_digs_67 ⟨Nat.le_of_ble_eq_true rfl, Nat.le_of_ble_eq_true rfl⟩ p12 rfl cv3 rfl (Nat.le_of_ble_eq_true rfl) hq12 (by decide) (fun c12 => ?_)
          have c12 : in32 _ := c12
          obtain ⟨p13, hf⟩ := gk_s hf
          obtain ⟨r13, h13, hq13, hf⟩ := bd_s hf
          refine r_cV1 C (am_X12_indexOf (gl g) n) cm_X12_indexOf w_1777 dX12_digs_70 ⟨Nat.le_of_ble_eq_true rfl, Nat.le_of_ble_eq_true rfl⟩ p13 rfl c12 rfl (Nat.le_of_ble_eq_true rfl) hq13 (by decide) (fun c13 => ?_)
          have c13 : in32 _ := c13
          refine r_iadd C dX12_digs_73 ?_
          obtain ⟨x14, e14, hf⟩ := lb_s hf
          have c14 : in32 x14 := by rw [e14]; exact (in32_t _)
          refine r_istoreL C dX12_digs_74 e14 (Nat.le_of_ble_eq_true rfl) rfl ?_
          refine r_aload_n C dX12_digs_76 rfl ?_
          obtain ⟨q15, hf⟩ := gf_s hf
          refine r_gf C ct12 (j := 1) (ji := 1) dX12_digs_77 q15 rfl rfl (by decide) w_1426 rfl (fun c15 => ?_)
          refine r_sipush C dX12_digs_80 rfl ?_
          refine r_iload_n C dX12_digs_83 rfl ?_
          refine r_iadd C dX12_digs_84 ?_
          obtain ⟨q16, hf⟩ := rd_s hf
          refine r_iald C dX12_digs_85 q16 rfl (fun c16 => ?_)
          refine r_iload_n C dX12_digs_86 rfl ?_
          refine r_icmp_ge C dX12_digs_87 (tgt := 103) (by decide) c16 cv2 (fun n17 => ?_) (fun n17 => ?_)
          · have hf := ite_p n17 hf
            refine r_iload_n C dX12_digs_103 rfl ?_
            exact G.mask [true, true, true, true, true, false] rfl rfl (b_X12_digs_104 C hr L18 cv1 cv2 cv3 c14 cv2 hf)
          · have hf := ite_n n17 hf
            refine r_aload_n C dX12_digs_90 rfl ?_
            obtain ⟨q18, hf⟩ := gf_s hf
            refine r_gf C ct12 (j := 1) (ji := 1) dX12_digs_91 q18 rfl rfl (by decide) w_1426 rfl (fun c18 => ?_)
            refine r_sipush C dX12_digs_94 rfl ?_
            refine r_iload_n C dX12_digs_97 rfl ?_
            refine r_iadd C dX12_digs_98 ?_
            obtain ⟨q19, hf⟩ := rd_s hf
            refine r_iald C dX12_digs_99 q19 rfl (fun c19 => ?_)
            refine r_goto C dX12_digs_100 (tgt := 104) (by decide) ?_
            exact G.mask [true, true, true, true, true, false] rfl rfl (b_X12_digs_104 C hr L18 cv1 cv2 cv3 c14 c19 hf)
set_option maxRecDepth 20000 in
theorem l_X12_digs_18 {g : GT} {Z : Int × MM} {n : Nat} (C : Cx g cX12_digs 6 yX12_digs 1 22) (hr : Rt g none 3 Z) {v0 v1 : Int}   (cv1 : in32 v1) : ∀ (k : Nat) (v2 v3 : Int) (h : MM), in32 v2 → in32 v3 → f_X12_digs_18 n  v0 v1 k v2 v3 h = some Z → G g 18 [(2, v0), (0, v1), (0, v2), (0, v3), (3, 0), (3, 0)] [] h := by
  intro k
  induction k with
  | zero => intro v2 v3 h cv2 cv3 hf; exact absurd hf (by intro z; cases z)
  | succ k ih => intro v2 v3 h cv2 cv3 hf; exact b_X12_digs_18b C hr (rec18 := f_X12_digs_18 n  v0 v1 k)  ih cv1 cv2 cv3 (show f_X12_digs_18b n  (f_X12_digs_18 n  v0 v1 k) v0 v1 v2 v3 h = some Z from hf)
set_option maxRecDepth 20000 in
theorem e_X12_digs {g : GT} {Z : Int × MM} {n : Nat} (C : Cx g cX12_digs 6 yX12_digs 1 22) (hr : Rt g none 3 Z) {v0 : Int} (cv0 : cK 2 v0) {h : MM} (hf : f_X12_digs n v0 h = some Z) : G g 0 [(2, v0), (3, 0), (3, 0), (3, 0), (3, 0), (3, 0)] [] h := by
  unfold f_X12_digs at hf
  refine r_aload_n C dX12_digs_0 rfl ?_
  obtain ⟨q1, hf⟩ := gf_s hf
  refine r_gf C ct12 (j := 1) (ji := 1) dX12_digs_1 q1 rfl rfl (by decide) w_1426 rfl (fun c1 => ?_)
  refine r_iconst C dX12_digs_4 ?_
  obtain ⟨q2, hf⟩ := rd_s hf
  refine r_iald C dX12_digs_5 q2 rfl (fun c2 => ?_)
  refine r_istore_n C dX12_digs_6 (Nat.le_of_ble_eq_true rfl) rfl ?_
  refine r_iconst C dX12_digs_7 ?_
  refine r_aload_n C dX12_digs_8 rfl ?_
  obtain ⟨q3, hf⟩ := gf_s hf
  refine r_gf C ct12 (j := 1) (ji := 1) dX12_digs_9 q3 rfl rfl (by decide) w_1426 rfl (fun c3 => ?_)
  refine r_iconst C dX12_digs_12 ?_
  obtain ⟨q4, hf⟩ := rd_s hf
  refine r_iald C dX12_digs_13 q4 rfl (fun c4 => ?_)
  refine r_imul C dX12_digs_14 ?_
  obtain ⟨x5, e5, hf⟩ := lb_s hf
  have c5 : in32 x5 := by rw [e5]; exact (in32_t _)
  refine r_istore_nL C dX12_digs_15 e5 (Nat.le_of_ble_eq_true rfl) rfl ?_
  refine r_iconst C dX12_digs_16 ?_
  refine r_istore_n C dX12_digs_17 (Nat.le_of_ble_eq_true rfl) rfl ?_
  exact G.mask [true, true, true, true, false, false] rfl rfl (l_X12_digs_18 C hr  c2 _ _ _ _ c5 (in32_of rfl) hf)
set_option maxRecDepth 20000 in
theorem am_X12_digs (l : Launch) (n : Nat) : AM l yX12_digs cX12_digs 6 none 1 22 [2] 3 (un1 (f_X12_digs n)) := by
  refine AM.intro (by decide) (fun xs hx => ?_) (fun g xs h Z hl C hr hx hf => ?_)
  · obtain ⟨a0, rfl, c0⟩ := canL_1 hx
    exact Nat.le_of_ble_eq_true rfl
  · obtain ⟨a0, rfl, c0⟩ := canL_1 hx
    have hf := (un1_e _ a0 _).symm.trans hf
    exact e_X12_digs (n := n) C hr c0 hf
/-! LinesPromisedModel.dig(I)I -/
theorem dX12_dig_0 : decode cX12_dig 0 = .ok (.iload_n 1, 1) := by decide +kernel
theorem dX12_dig_1 : decode cX12_dig 1 = .ok (.iconst 1, 1) := by decide +kernel
theorem dX12_dig_2 : decode cX12_dig 2 = .ok (.bipush 50, 2) := by decide +kernel
theorem dX12_dig_4 : decode cX12_dig 4 = .ok (.invokestatic 58, 3) := by decide +kernel
theorem dX12_dig_7 : decode cX12_dig 7 = .ok (.ifCond .eq 17, 3) := by decide +kernel
theorem dX12_dig_10 : decode cX12_dig 10 = .ok (.aload_n 0, 1) := by decide +kernel
theorem dX12_dig_11 : decode cX12_dig 11 = .ok (.getfield 8, 3) := by decide +kernel
theorem dX12_dig_14 : decode cX12_dig 14 = .ok (.iconst 0, 1) := by decide +kernel
theorem dX12_dig_15 : decode cX12_dig 15 = .ok (.iaload, 1) := by decide +kernel
theorem dX12_dig_16 : decode cX12_dig 16 = .ok (.iload_n 1, 1) := by decide +kernel
theorem dX12_dig_17 : decode cX12_dig 17 = .ok (.iadd, 1) := by decide +kernel
theorem dX12_dig_18 : decode cX12_dig 18 = .ok (.sipush 999, 3) := by decide +kernel
theorem dX12_dig_21 : decode cX12_dig 21 = .ok (.if_icmp .le 6, 3) := by decide +kernel
theorem dX12_dig_24 : decode cX12_dig 24 = .ok (.bipush (-2), 2) := by decide +kernel
theorem dX12_dig_26 : decode cX12_dig 26 = .ok (.ireturn, 1) := by decide +kernel
theorem dX12_dig_27 : decode cX12_dig 27 = .ok (.iconst 0, 1) := by decide +kernel
theorem dX12_dig_28 : decode cX12_dig 28 = .ok (.istore_n 2, 1) := by decide +kernel
theorem dX12_dig_29 : decode cX12_dig 29 = .ok (.iload_n 2, 1) := by decide +kernel
theorem dX12_dig_30 : decode cX12_dig 30 = .ok (.iload_n 1, 1) := by decide +kernel
theorem dX12_dig_31 : decode cX12_dig 31 = .ok (.if_icmp .ge 13, 3) := by decide +kernel
theorem dX12_dig_34 : decode cX12_dig 34 = .ok (.aload_n 0, 1) := by decide +kernel
theorem dX12_dig_35 : decode cX12_dig 35 = .ok (.invokevirtual 266, 3) := by decide +kernel
theorem dX12_dig_38 : decode cX12_dig 38 = .ok (.iinc 2 1, 3) := by decide +kernel
theorem dX12_dig_41 : decode cX12_dig 41 = .ok (.goto (-12), 3) := by decide +kernel
theorem dX12_dig_44 : decode cX12_dig 44 = .ok (.aload_n 0, 1) := by decide +kernel
theorem dX12_dig_45 : decode cX12_dig 45 = .ok (.getfield 8, 3) := by decide +kernel
theorem dX12_dig_48 : decode cX12_dig 48 = .ok (.iconst 0, 1) := by decide +kernel
theorem dX12_dig_49 : decode cX12_dig 49 = .ok (.iaload, 1) := by decide +kernel
theorem dX12_dig_50 : decode cX12_dig 50 = .ok (.ireturn, 1) := by decide +kernel
theorem cm_X12_dig : CM yX12_dig cX12_dig 3 (some .int) 1 12 := ⟨w_1834, w_1835, w_1836, w_97, ⟨by decide +kernel, by decide +kernel, by decide +kernel⟩, ⟨_, _, rfl⟩, by decide⟩
noncomputable def f_X12_dig_24 (n : Nat)  (h : MM) : RR :=
  some ((-2), h)
noncomputable def f_X12_dig_29b (n : Nat) (rec29 : Int → MM → RR) (v0 v1 v2 : Int) (h : MM) : RR :=
  if v1 ≤ v2 then
    gf h v0 12 1 fun r2 =>
    rd h r2 100 0 fun r3 =>
    some (r3, h)
  else
  gk h v0 12 <|
  bd (f_X12_digs n v0 h) fun r4 h4 =>
  lb (wr (v2 + 1)) fun x5 =>
  rec29 x5 h4
noncomputable def f_X12_dig_29 (n : Nat)  (v0 v1 : Int) : Nat → Int → MM → RR
  | 0, _, _ => none
  | k + 1, v2, h => f_X12_dig_29b n  (f_X12_dig_29 n  v0 v1 k) v0 v1 v2 h
noncomputable def f_X12_dig (n : Nat) (v0 v1 : Int) (h : MM) : RR :=
  bd (f_X12_in n v1 1 50 h) fun r1 h1 =>
  if r1 = 0 then
    f_X12_dig_24 n h1
  else
  gf h1 v0 12 1 fun r3 =>
  rd h1 r3 100 0 fun r4 =>
  if wr (r4 + v1) ≤ 999 then
    f_X12_dig_29 n v0 v1 n 0 h1
  else
  f_X12_dig_24 n h1
set_option maxRecDepth 20000 in
theorem b_X12_dig_24 {g : GT} {Z : Int × MM} {n : Nat} (C : Cx g cX12_dig 3 yX12_dig 2 47) (hr : Rt g (some .int) 0 Z)     {h : MM} (hf : f_X12_dig_24 n   h = some Z) : G g 24 [(3, 0), (3, 0), (3, 0)] [] h := by
  unfold f_X12_dig_24 at hf
  refine r_bipush C dX12_dig_24 rfl ?_
  cases hf
  exact r_jret C hr dX12_dig_26 (in32_of rfl)
set_option maxRecDepth 20000 in
theorem b_X12_dig_29b {g : GT} {Z : Int × MM} {n : Nat} (C : Cx g cX12_dig 3 yX12_dig 2 47) (hr : Rt g (some .int) 0 Z) {v0 v1 v2 : Int}  {rec29 : Int → MM → RR} (L29 : ∀ (u2 : Int) (h : MM), in32 u2 → rec29 u2 h = some Z → G g 29 [(2, v0), (0, v1), (0, u2)] [] h) (cv1 : in32 v1) (cv2 : in32 v2) {h : MM} (hf : f_X12_dig_29b n rec29 v0 v1 v2 h = some Z) : G g 29 [(2, v0), (0, v1), (0, v2)] [] h := by
  unfold f_X12_dig_29b at hf
  refine r_iload_n C dX12_dig_29 rfl ?_
  refine r_iload_n C dX12_dig_30 rfl ?_
  refine r_icmp_ge C dX12_dig_31 (tgt := 44) (by decide) cv2 cv1 (fun n1 => ?_) (fun n1 => ?_)
  · have hf := ite_p n1 hf
    refine r_aload_n C dX12_dig_44 rfl ?_
    obtain ⟨q2, hf⟩ := gf_s hf
    refine r_gf C ct12 (j := 1) (ji := 1) dX12_dig_45 q2 rfl rfl (by decide) w_1426 rfl (fun c2 => ?_)
    refine r_iconst C dX12_dig_48 ?_
    obtain ⟨q3, hf⟩ := rd_s hf
    refine r_iald C dX12_dig_49 q3 rfl (fun c3 => ?_)
    cases hf
    exact r_jret C hr dX12_dig_50 c3
  · have hf := ite_n n1 hf
    refine r_aload_n C dX12_dig_34 rfl ?_
    obtain ⟨p4, hf⟩ := gk_s hf
    obtain ⟨r4, h4, hq4, hf⟩ := bd_s hf
    refine r_cV0v C (am_X12_digs (gl g) n) cm_X12_digs w_1837 dX12_dig_35 ⟨Nat.le_of_ble_eq_true rfl, Nat.le_of_ble_eq_true rfl⟩ p4 rfl  rfl (Nat.le_of_ble_eq_true rfl) hq4 ?_
    obtain ⟨x5, e5, hf⟩ := lb_s hf
    have c5 : in32 x5 := by rw [e5]; exact (in32_t _)
    refine r_iincL C dX12_dig_38 rfl e5 (Nat.le_of_ble_eq_true rfl) rfl ?_
    refine r_goto C dX12_dig_41 (tgt := 29) (by decide) ?_
    exact G.mask [true, true, true] rfl rfl (L29 _ _ c5 hf)
set_option maxRecDepth 20000 in
theorem l_X12_dig_29 {g : GT} {Z : Int × MM} {n : Nat} (C : Cx g cX12_dig 3 yX12_dig 2 47) (hr : Rt g (some .int) 0 Z) {v0 v1 : Int}   (cv1 : in32 v1) : ∀ (k : Nat) (v2 : Int) (h : MM), in32 v2 → f_X12_dig_29 n  v0 v1 k v2 h = some Z → G g 29 [(2, v0), (0, v1), (0, v2)] [] h := by
  intro k
  induction k with
  | zero => intro v2 h cv2 hf; exact absurd hf (by intro z; cases z)
  | succ k ih => intro v2 h cv2 hf; exact b_X12_dig_29b C hr (rec29 := f_X12_dig_29 n  v0 v1 k)  ih cv1 cv2 (show f_X12_dig_29b n  (f_X12_dig_29 n  v0 v1 k) v0 v1 v2 h = some Z from hf)
set_option maxRecDepth 20000 in
theorem e_X12_dig {g : GT} {Z : Int × MM} {n : Nat} (C : Cx g cX12_dig 3 yX12_dig 2 47) (hr : Rt g (some .int) 0 Z) {v0 v1 : Int} (cv0 : cK 2 v0) (cv1 : cK 0 v1) {h : MM} (hf : f_X12_dig n v0 v1 h = some Z) : G g 0 [(2, v0), (0, v1), (3, 0)] [] h := by
  have cv1 : in32 v1 := cv1
  unfold f_X12_dig at hf
  refine r_iload_n C dX12_dig_0 rfl ?_
  refine r_iconst C dX12_dig_1 ?_
  refine r_bipush C dX12_dig_2 rfl ?_
  obtain ⟨r1, h1, hq1, hf⟩ := bd_s hf
  refine r_cS3 C (am_X12_in (gl g) n) cm_X12_in w_1496 dX12_dig_4 ⟨Nat.le_of_ble_eq_true rfl, Nat.le_of_ble_eq_true rfl⟩ cv1 (in32_of rfl) (in32_of rfl) rfl (Nat.le_of_ble_eq_true rfl) hq1 (by decide) (fun c1 => ?_)
  have c1 : in32 _ := c1
  refine r_if_eq C dX12_dig_7 (tgt := 24) (by decide) c1 (fun n2 => ?_) (fun n2 => ?_)
  · have hf := ite_p n2 hf
    exact G.mask [false, false, false] rfl rfl (b_X12_dig_24 C hr   hf)
  · have hf := ite_n n2 hf
    refine r_aload_n C dX12_dig_10 rfl ?_
    obtain ⟨q3, hf⟩ := gf_s hf
    refine r_gf C ct12 (j := 1) (ji := 1) dX12_dig_11 q3 rfl rfl (by decide) w_1426 rfl (fun c3 => ?_)
    refine r_iconst C dX12_dig_14 ?_
    obtain ⟨q4, hf⟩ := rd_s hf
    refine r_iald C dX12_dig_15 q4 rfl (fun c4 => ?_)
    refine r_iload_n C dX12_dig_16 rfl ?_
    refine r_iadd C dX12_dig_17 ?_
    refine r_sipush C dX12_dig_18 rfl ?_
    refine r_icmp_le C dX12_dig_21 (tgt := 27) (by decide) (in32_t _) (in32_of rfl) (fun n5 => ?_) (fun n5 => ?_)
    · have hf := ite_p n5 hf
      refine r_iconst C dX12_dig_27 ?_
      refine r_istore_n C dX12_dig_28 (Nat.le_of_ble_eq_true rfl) rfl ?_
      exact G.mask [true, true, true] rfl rfl (l_X12_dig_29 C hr  cv1 _ _ _ (in32_of rfl) hf)
    · have hf := ite_n n5 hf
      exact G.mask [false, false, false] rfl rfl (b_X12_dig_24 C hr   hf)
set_option maxRecDepth 20000 in
theorem am_X12_dig (l : Launch) (n : Nat) : AM l yX12_dig cX12_dig 3 (some .int) 2 47 [2, 0] 0 (un2 (f_X12_dig n)) := by
  refine AM.intro (by decide) (fun xs hx => ?_) (fun g xs h Z hl C hr hx hf => ?_)
  · obtain ⟨a0, a1, rfl, c0, c1⟩ := canL_2 hx
    exact Nat.le_of_ble_eq_true rfl
  · obtain ⟨a0, a1, rfl, c0, c1⟩ := canL_2 hx
    have hf := (un2_e _ a0 a1 _).symm.trans hf
    exact e_X12_dig (n := n) C hr c0 c1 hf
/-! LinesPromisedModel.last(II)I -/
theorem dX12_last_0 : decode cX12_last 0 = .ok (.aload_n 0, 1) := by decide +kernel
theorem dX12_last_1 : decode cX12_last 1 = .ok (.iload_n 1, 1) := by decide +kernel
theorem dX12_last_2 : decode cX12_last 2 = .ok (.iconst 3, 1) := by decide +kernel
theorem dX12_last_3 : decode cX12_last 3 = .ok (.invokevirtual 165, 3) := by decide +kernel
theorem dX12_last_6 : decode cX12_last 6 = .ok (.ifCond .eq 12, 3) := by decide +kernel
theorem dX12_last_9 : decode cX12_last 9 = .ok (.iload_n 2, 1) := by decide +kernel
theorem dX12_last_10 : decode cX12_last 10 = .ok (.iconst 0, 1) := by decide +kernel
theorem dX12_last_11 : decode cX12_last 11 = .ok (.iconst 1, 1) := by decide +kernel
theorem dX12_last_12 : decode cX12_last 12 = .ok (.invokestatic 58, 3) := by decide +kernel
theorem dX12_last_15 : decode cX12_last 15 = .ok (.ifCond .ne 5, 3) := by decide +kernel
theorem dX12_last_18 : decode cX12_last 18 = .ok (.iconst (-1), 1) := by decide +kernel
theorem dX12_last_19 : decode cX12_last 19 = .ok (.ireturn, 1) := by decide +kernel
theorem dX12_last_20 : decode cX12_last 20 = .ok (.aload_n 0, 1) := by decide +kernel
theorem dX12_last_21 : decode cX12_last 21 = .ok (.iload_n 1, 1) := by decide +kernel
theorem dX12_last_22 : decode cX12_last 22 = .ok (.invokevirtual 219, 3) := by decide +kernel
theorem dX12_last_25 : decode cX12_last 25 = .ok (.ifCond .ne 8, 3) := by decide +kernel
theorem dX12_last_28 : decode cX12_last 28 = .ok (.bipush (-3), 2) := by decide +kernel
theorem dX12_last_30 : decode cX12_last 30 = .ok (.goto 30, 3) := by decide +kernel
theorem dX12_last_33 : decode cX12_last 33 = .ok (.iload_n 2, 1) := by decide +kernel
theorem dX12_last_34 : decode cX12_last 34 = .ok (.ifCond .ne 16, 3) := by decide +kernel
theorem dX12_last_37 : decode cX12_last 37 = .ok (.aload_n 0, 1) := by decide +kernel
theorem dX12_last_38 : decode cX12_last 38 = .ok (.getfield 8, 3) := by decide +kernel
theorem dX12_last_41 : decode cX12_last 41 = .ok (.sipush 970, 3) := by decide +kernel
theorem dX12_last_44 : decode cX12_last 44 = .ok (.iload_n 1, 1) := by decide +kernel
theorem dX12_last_45 : decode cX12_last 45 = .ok (.iadd, 1) := by decide +kernel
theorem dX12_last_46 : decode cX12_last 46 = .ok (.iaload, 1) := by decide +kernel
theorem dX12_last_47 : decode cX12_last 47 = .ok (.goto 13, 3) := by decide +kernel
theorem dX12_last_50 : decode cX12_last 50 = .ok (.aload_n 0, 1) := by decide +kernel
theorem dX12_last_51 : decode cX12_last 51 = .ok (.getfield 8, 3) := by decide +kernel
theorem dX12_last_54 : decode cX12_last 54 = .ok (.sipush 1030, 3) := by decide +kernel
theorem dX12_last_57 : decode cX12_last 57 = .ok (.iload_n 1, 1) := by decide +kernel
theorem dX12_last_58 : decode cX12_last 58 = .ok (.iadd, 1) := by decide +kernel
theorem dX12_last_59 : decode cX12_last 59 = .ok (.iaload, 1) := by decide +kernel
theorem dX12_last_60 : decode cX12_last 60 = .ok (.ireturn, 1) := by decide +kernel
theorem cm_X12_last : CM yX12_last cX12_last 3 (some .int) 2 12 := ⟨w_1846, w_1847, w_1848, w_97, ⟨by decide +kernel, by decide +kernel, by decide +kernel⟩, ⟨_, _, rfl⟩, by decide⟩
noncomputable def f_X12_last_18 (n : Nat)  (h : MM) : RR :=
  some ((-1), h)
noncomputable def f_X12_last_60 (n : Nat)  (s0 : Int) (h : MM) : RR :=
  some (s0, h)
noncomputable def f_X12_last (n : Nat) (v0 v1 v2 : Int) (h : MM) : RR :=
  gk h v0 12 <|
  bd (f_X12_isOf n v0 v1 3 h) fun r1 h1 =>
  if r1 = 0 then
    f_X12_last_18 n h1
  else
  bd (f_X12_in n v2 0 1 h1) fun r3 h3 =>
  if r3 = 0 then
    f_X12_last_18 n h3
  else
  gk h3 v0 12 <|
  bd (f_X12_isGranted n v0 v1 h3) fun r5 h5 =>
  if r5 = 0 then
    f_X12_last_60 n ((-3)) h5
  else
  if v2 = 0 then
    gf h5 v0 12 1 fun r10 =>
    rd h5 r10 100 (wr (970 + v1)) fun r11 =>
    f_X12_last_60 n r11 h5
  else
  gf h5 v0 12 1 fun r8 =>
  rd h5 r8 100 (wr (1030 + v1)) fun r9 =>
  f_X12_last_60 n r9 h5
set_option maxRecDepth 20000 in
theorem b_X12_last_18 {g : GT} {Z : Int × MM} {n : Nat} (C : Cx g cX12_last 3 yX12_last 3 65) (hr : Rt g (some .int) 0 Z)     {h : MM} (hf : f_X12_last_18 n   h = some Z) : G g 18 [(3, 0), (3, 0), (3, 0)] [] h := by
  unfold f_X12_last_18 at hf
  refine r_iconst C dX12_last_18 ?_
  cases hf
  exact r_jret C hr dX12_last_19 (in32_of rfl)
set_option maxRecDepth 20000 in
theorem b_X12_last_60 {g : GT} {Z : Int × MM} {n : Nat} (C : Cx g cX12_last 3 yX12_last 3 65) (hr : Rt g (some .int) 0 Z) {s0 : Int}    (cs0 : in32 s0) {h : MM} (hf : f_X12_last_60 n  s0 h = some Z) : G g 60 [(3, 0), (3, 0), (3, 0)] [(0, s0)] h := by
  unfold f_X12_last_60 at hf
  cases hf
  exact r_jret C hr dX12_last_60 cs0
set_option maxRecDepth 20000 in
theorem e_X12_last {g : GT} {Z : Int × MM} {n : Nat} (C : Cx g cX12_last 3 yX12_last 3 65) (hr : Rt g (some .int) 0 Z) {v0 v1 v2 : Int} (cv0 : cK 2 v0) (cv1 : cK 0 v1) (cv2 : cK 0 v2) {h : MM} (hf : f_X12_last n v0 v1 v2 h = some Z) : G g 0 [(2, v0), (0, v1), (0, v2)] [] h := by
  have cv1 : in32 v1 := cv1
  have cv2 : in32 v2 := cv2
  unfold f_X12_last at hf
  refine r_aload_n C dX12_last_0 rfl ?_
  refine r_iload_n C dX12_last_1 rfl ?_
  refine r_iconst C dX12_last_2 ?_
  obtain ⟨p1, hf⟩ := gk_s hf
  obtain ⟨r1, h1, hq1, hf⟩ := bd_s hf
  refine r_cV2 C (am_X12_isOf (gl g) n) cm_X12_isOf w_1607 dX12_last_3 ⟨Nat.le_of_ble_eq_true rfl, Nat.le_of_ble_eq_true rfl⟩ p1 rfl cv1 (in32_of rfl) rfl (Nat.le_of_ble_eq_true rfl) hq1 (by decide) (fun c1 => ?_)
  have c1 : in32 _ := c1
  refine r_if_eq C dX12_last_6 (tgt := 18) (by decide) c1 (fun n2 => ?_) (fun n2 => ?_)
  · have hf := ite_p n2 hf
    exact G.mask [false, false, false] rfl rfl (b_X12_last_18 C hr   hf)
  · have hf := ite_n n2 hf
    refine r_iload_n C dX12_last_9 rfl ?_
    refine r_iconst C dX12_last_10 ?_
    refine r_iconst C dX12_last_11 ?_
    obtain ⟨r3, h3, hq3, hf⟩ := bd_s hf
    refine r_cS3 C (am_X12_in (gl g) n) cm_X12_in w_1496 dX12_last_12 ⟨Nat.le_of_ble_eq_true rfl, Nat.le_of_ble_eq_true rfl⟩ cv2 (in32_of rfl) (in32_of rfl) rfl (Nat.le_of_ble_eq_true rfl) hq3 (by decide) (fun c3 => ?_)
    have c3 : in32 _ := c3
    refine r_if_ne C dX12_last_15 (tgt := 20) (by decide) c3 (fun n4 => ?_) (fun n4 => ?_)
    · have hf := ite_n n4 hf
      refine r_aload_n C dX12_last_20 rfl ?_
      refine r_iload_n C dX12_last_21 rfl ?_
      obtain ⟨p5, hf⟩ := gk_s hf
      obtain ⟨r5, h5, hq5, hf⟩ := bd_s hf
      refine r_cV1 C (am_X12_isGranted (gl g) n) cm_X12_isGranted w_1718 dX12_last_22 ⟨Nat.le_of_ble_eq_true rfl, Nat.le_of_ble_eq_true rfl⟩ p5 rfl cv1 rfl (Nat.le_of_ble_eq_true rfl) hq5 (by decide) (fun c5 => ?_)
      have c5 : in32 _ := c5
      refine r_if_ne C dX12_last_25 (tgt := 33) (by decide) c5 (fun n6 => ?_) (fun n6 => ?_)
      · have hf := ite_n n6 hf
        refine r_iload_n C dX12_last_33 rfl ?_
        refine r_if_ne C dX12_last_34 (tgt := 50) (by decide) cv2 (fun n7 => ?_) (fun n7 => ?_)
        · have hf := ite_n n7 hf
          refine r_aload_n C dX12_last_50 rfl ?_
          obtain ⟨q8, hf⟩ := gf_s hf
          refine r_gf C ct12 (j := 1) (ji := 1) dX12_last_51 q8 rfl rfl (by decide) w_1426 rfl (fun c8 => ?_)
          refine r_sipush C dX12_last_54 rfl ?_
          refine r_iload_n C dX12_last_57 rfl ?_
          refine r_iadd C dX12_last_58 ?_
          obtain ⟨q9, hf⟩ := rd_s hf
          refine r_iald C dX12_last_59 q9 rfl (fun c9 => ?_)
          exact G.mask [false, false, false] rfl rfl (b_X12_last_60 C hr  c9 hf)
        · have hf := ite_p n7 hf
          refine r_aload_n C dX12_last_37 rfl ?_
          obtain ⟨q10, hf⟩ := gf_s hf
          refine r_gf C ct12 (j := 1) (ji := 1) dX12_last_38 q10 rfl rfl (by decide) w_1426 rfl (fun c10 => ?_)
          refine r_sipush C dX12_last_41 rfl ?_
          refine r_iload_n C dX12_last_44 rfl ?_
          refine r_iadd C dX12_last_45 ?_
          obtain ⟨q11, hf⟩ := rd_s hf
          refine r_iald C dX12_last_46 q11 rfl (fun c11 => ?_)
          refine r_goto C dX12_last_47 (tgt := 60) (by decide) ?_
          exact G.mask [false, false, false] rfl rfl (b_X12_last_60 C hr  c11 hf)
      · have hf := ite_p n6 hf
        refine r_bipush C dX12_last_28 rfl ?_
        refine r_goto C dX12_last_30 (tgt := 60) (by decide) ?_
        exact G.mask [false, false, false] rfl rfl (b_X12_last_60 C hr  (in32_of rfl) hf)
    · have hf := ite_p n4 hf
      exact G.mask [false, false, false] rfl rfl (b_X12_last_18 C hr   hf)
set_option maxRecDepth 20000 in
theorem am_X12_last (l : Launch) (n : Nat) : AM l yX12_last cX12_last 3 (some .int) 3 65 [2, 0, 0] 0 (un3 (f_X12_last n)) := by
  refine AM.intro (by decide) (fun xs hx => ?_) (fun g xs h Z hl C hr hx hf => ?_)
  · obtain ⟨a0, a1, a2, rfl, c0, c1, c2⟩ := canL_3 hx
    exact Nat.le_of_ble_eq_true rfl
  · obtain ⟨a0, a1, a2, rfl, c0, c1, c2⟩ := canL_3 hx
    have hf := (un3_e _ a0 a1 a2 _).symm.trans hf
    exact e_X12_last (n := n) C hr c0 c1 c2 hf
