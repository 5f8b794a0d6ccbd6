/-! THE TABLES HOLD: every instruction is the machine's, every callee has its words. -/
theorem xc_0 : xcok xtab 239 xm_0 = true := by decide +kernel
theorem xo_0 : xmok xm_0 = true := by decide +kernel
theorem xc_1 : xcok xtab 239 xm_1 = true := by decide +kernel
theorem xo_1 : xmok xm_1 = true := by decide +kernel
theorem xc_2 : xcok xtab 239 xm_2 = true := by decide +kernel
theorem xo_2 : xmok xm_2 = true := by decide +kernel
theorem xc_3 : xcok xtab 239 xm_3 = true := by decide +kernel
theorem xo_3 : xmok xm_3 = true := by decide +kernel
theorem xc_4 : xcok xtab 239 xm_4 = true := by decide +kernel
theorem xo_4 : xmok xm_4 = true := by decide +kernel
theorem xc_5 : xcok xtab 239 xm_5 = true := by decide +kernel
theorem xo_5 : xmok xm_5 = true := by decide +kernel
theorem xc_6 : xcok xtab 239 xm_6 = true := by decide +kernel
theorem xo_6 : xmok xm_6 = true := by decide +kernel
theorem xc_7 : xcok xtab 239 xm_7 = true := by decide +kernel
theorem xo_7 : xmok xm_7 = true := by decide +kernel
theorem xc_8 : xcok xtab 239 xm_8 = true := by decide +kernel
theorem xo_8 : xmok xm_8 = true := by decide +kernel
theorem xc_9 : xcok xtab 239 xm_9 = true := by decide +kernel
theorem xo_9 : xmok xm_9 = true := by decide +kernel
theorem xc_10 : xcok xtab 239 xm_10 = true := by decide +kernel
theorem xo_10 : xmok xm_10 = true := by decide +kernel
theorem xc_11 : xcok xtab 239 xm_11 = true := by decide +kernel
theorem xo_11 : xmok xm_11 = true := by decide +kernel
theorem xc_12 : xcok xtab 239 xm_12 = true := by decide +kernel
theorem xo_12 : xmok xm_12 = true := by decide +kernel
theorem xc_13 : xcok xtab 239 xm_13 = true := by decide +kernel
theorem xo_13 : xmok xm_13 = true := by decide +kernel
theorem xc_14 : xcok xtab 239 xm_14 = true := by decide +kernel
theorem xo_14 : xmok xm_14 = true := by decide +kernel
theorem xc_15 : xcok xtab 239 xm_15 = true := by decide +kernel
theorem xo_15 : xmok xm_15 = true := by decide +kernel
theorem xc_16 : xcok xtab 239 xm_16 = true := by decide +kernel
theorem xo_16 : xmok xm_16 = true := by decide +kernel
theorem xc_17 : xcok xtab 239 xm_17 = true := by decide +kernel
theorem xo_17 : xmok xm_17 = true := by decide +kernel
theorem xc_18 : xcok xtab 239 xm_18 = true := by decide +kernel
theorem xo_18 : xmok xm_18 = true := by decide +kernel
theorem xc_19 : xcok xtab 239 xm_19 = true := by decide +kernel
theorem xo_19 : xmok xm_19 = true := by decide +kernel
theorem xc_20 : xcok xtab 239 xm_20 = true := by decide +kernel
theorem xo_20 : xmok xm_20 = true := by decide +kernel
theorem xc_21 : xcok xtab 239 xm_21 = true := by decide +kernel
theorem xo_21 : xmok xm_21 = true := by decide +kernel
theorem xc_22 : xcok xtab 239 xm_22 = true := by decide +kernel
theorem xo_22 : xmok xm_22 = true := by decide +kernel
theorem xc_23 : xcok xtab 239 xm_23 = true := by decide +kernel
theorem xo_23 : xmok xm_23 = true := by decide +kernel
theorem xc_24 : xcok xtab 239 xm_24 = true := by decide +kernel
theorem xo_24 : xmok xm_24 = true := by decide +kernel
theorem xc_25 : xcok xtab 239 xm_25 = true := by decide +kernel
theorem xo_25 : xmok xm_25 = true := by decide +kernel
theorem xc_26 : xcok xtab 239 xm_26 = true := by decide +kernel
theorem xo_26 : xmok xm_26 = true := by decide +kernel
theorem xc_27 : xcok xtab 239 xm_27 = true := by decide +kernel
theorem xo_27 : xmok xm_27 = true := by decide +kernel
theorem xc_28 : xcok xtab 239 xm_28 = true := by decide +kernel
theorem xo_28 : xmok xm_28 = true := by decide +kernel
theorem xc_29 : xcok xtab 239 xm_29 = true := by decide +kernel
theorem xo_29 : xmok xm_29 = true := by decide +kernel
theorem xc_30 : xcok xtab 239 xm_30 = true := by decide +kernel
theorem xo_30 : xmok xm_30 = true := by decide +kernel
theorem xc_31 : xcok xtab 239 xm_31 = true := by decide +kernel
theorem xo_31 : xmok xm_31 = true := by decide +kernel
theorem xc_32 : xcok xtab 239 xm_32 = true := by decide +kernel
theorem xo_32 : xmok xm_32 = true := by decide +kernel
theorem xc_33 : xcok xtab 239 xm_33 = true := by decide +kernel
theorem xo_33 : xmok xm_33 = true := by decide +kernel
theorem xc_34 : xcok xtab 239 xm_34 = true := by decide +kernel
theorem xo_34 : xmok xm_34 = true := by decide +kernel
theorem xc_35 : xcok xtab 239 xm_35 = true := by decide +kernel
theorem xo_35 : xmok xm_35 = true := by decide +kernel
theorem xc_36 : xcok xtab 239 xm_36 = true := by decide +kernel
theorem xo_36 : xmok xm_36 = true := by decide +kernel
theorem xc_37 : xcok xtab 239 xm_37 = true := by decide +kernel
theorem xo_37 : xmok xm_37 = true := by decide +kernel
theorem xc_38 : xcok xtab 239 xm_38 = true := by decide +kernel
theorem xo_38 : xmok xm_38 = true := by decide +kernel
theorem xc_39 : xcok xtab 239 xm_39 = true := by decide +kernel
theorem xo_39 : xmok xm_39 = true := by decide +kernel
theorem xc_40 : xcok xtab 239 xm_40 = true := by decide +kernel
theorem xo_40 : xmok xm_40 = true := by decide +kernel
theorem xc_41 : xcok xtab 239 xm_41 = true := by decide +kernel
theorem xo_41 : xmok xm_41 = true := by decide +kernel
theorem xc_42 : xcok xtab 239 xm_42 = true := by decide +kernel
theorem xo_42 : xmok xm_42 = true := by decide +kernel
theorem xc_43 : xcok xtab 239 xm_43 = true := by decide +kernel
theorem xo_43 : xmok xm_43 = true := by decide +kernel
theorem xc_44 : xcok xtab 239 xm_44 = true := by decide +kernel
theorem xo_44 : xmok xm_44 = true := by decide +kernel
theorem xc_45 : xcok xtab 239 xm_45 = true := by decide +kernel
theorem xo_45 : xmok xm_45 = true := by decide +kernel
theorem xc_46 : xcok xtab 239 xm_46 = true := by decide +kernel
theorem xo_46 : xmok xm_46 = true := by decide +kernel
theorem xc_47 : xcok xtab 239 xm_47 = true := by decide +kernel
theorem xo_47 : xmok xm_47 = true := by decide +kernel
theorem xc_48 : xcok xtab 239 xm_48 = true := by decide +kernel
theorem xo_48 : xmok xm_48 = true := by decide +kernel
theorem xc_49 : xcok xtab 239 xm_49 = true := by decide +kernel
theorem xo_49 : xmok xm_49 = true := by decide +kernel
theorem xc_50 : xcok xtab 239 xm_50 = true := by decide +kernel
theorem xo_50 : xmok xm_50 = true := by decide +kernel
theorem xc_51 : xcok xtab 239 xm_51 = true := by decide +kernel
theorem xo_51 : xmok xm_51 = true := by decide +kernel
theorem xc_52 : xcok xtab 239 xm_52 = true := by decide +kernel
theorem xo_52 : xmok xm_52 = true := by decide +kernel
theorem xc_53 : xcok xtab 239 xm_53 = true := by decide +kernel
theorem xo_53 : xmok xm_53 = true := by decide +kernel
theorem xc_54 : xcok xtab 239 xm_54 = true := by decide +kernel
theorem xo_54 : xmok xm_54 = true := by decide +kernel
theorem xc_55 : xcok xtab 239 xm_55 = true := by decide +kernel
theorem xo_55 : xmok xm_55 = true := by decide +kernel
theorem xc_56 : xcok xtab 239 xm_56 = true := by decide +kernel
theorem xo_56 : xmok xm_56 = true := by decide +kernel
theorem xc_57 : xcok xtab 239 xm_57 = true := by decide +kernel
theorem xo_57 : xmok xm_57 = true := by decide +kernel
theorem xc_58 : xcok xtab 239 xm_58 = true := by decide +kernel
theorem xo_58 : xmok xm_58 = true := by decide +kernel
theorem xc_59 : xcok xtab 239 xm_59 = true := by decide +kernel
theorem xo_59 : xmok xm_59 = true := by decide +kernel
theorem xc_60 : xcok xtab 239 xm_60 = true := by decide +kernel
theorem xo_60 : xmok xm_60 = true := by decide +kernel
theorem xc_61 : xcok xtab 239 xm_61 = true := by decide +kernel
theorem xo_61 : xmok xm_61 = true := by decide +kernel
theorem xc_62 : xcok xtab 239 xm_62 = true := by decide +kernel
theorem xo_62 : xmok xm_62 = true := by decide +kernel
theorem xc_63 : xcok xtab 239 xm_63 = true := by decide +kernel
theorem xo_63 : xmok xm_63 = true := by decide +kernel
theorem xc_64 : xcok xtab 239 xm_64 = true := by decide +kernel
theorem xo_64 : xmok xm_64 = true := by decide +kernel
theorem xc_65 : xcok xtab 239 xm_65 = true := by decide +kernel
theorem xo_65 : xmok xm_65 = true := by decide +kernel
theorem xc_66 : xcok xtab 239 xm_66 = true := by decide +kernel
theorem xo_66 : xmok xm_66 = true := by decide +kernel
theorem xc_67 : xcok xtab 239 xm_67 = true := by decide +kernel
theorem xo_67 : xmok xm_67 = true := by decide +kernel
theorem xc_68 : xcok xtab 239 xm_68 = true := by decide +kernel
theorem xo_68 : xmok xm_68 = true := by decide +kernel
theorem xc_69 : xcok xtab 239 xm_69 = true := by decide +kernel
theorem xo_69 : xmok xm_69 = true := by decide +kernel
theorem xc_70 : xcok xtab 239 xm_70 = true := by decide +kernel
theorem xo_70 : xmok xm_70 = true := by decide +kernel
theorem xc_71 : xcok xtab 239 xm_71 = true := by decide +kernel
theorem xo_71 : xmok xm_71 = true := by decide +kernel
theorem xc_72 : xcok xtab 239 xm_72 = true := by decide +kernel
theorem xo_72 : xmok xm_72 = true := by decide +kernel
theorem xc_73 : xcok xtab 239 xm_73 = true := by decide +kernel
theorem xo_73 : xmok xm_73 = true := by decide +kernel
theorem xc_74 : xcok xtab 239 xm_74 = true := by decide +kernel
theorem xo_74 : xmok xm_74 = true := by decide +kernel
theorem xc_75 : xcok xtab 239 xm_75 = true := by decide +kernel
theorem xo_75 : xmok xm_75 = true := by decide +kernel
theorem xc_76 : xcok xtab 239 xm_76 = true := by decide +kernel
theorem xo_76 : xmok xm_76 = true := by decide +kernel
theorem xc_77 : xcok xtab 239 xm_77 = true := by decide +kernel
theorem xo_77 : xmok xm_77 = true := by decide +kernel
theorem xc_78 : xcok xtab 239 xm_78 = true := by decide +kernel
theorem xo_78 : xmok xm_78 = true := by decide +kernel
theorem xc_79 : xcok xtab 239 xm_79 = true := by decide +kernel
theorem xo_79 : xmok xm_79 = true := by decide +kernel
theorem xc_80 : xcok xtab 239 xm_80 = true := by decide +kernel
theorem xo_80 : xmok xm_80 = true := by decide +kernel
theorem xc_81 : xcok xtab 239 xm_81 = true := by decide +kernel
theorem xo_81 : xmok xm_81 = true := by decide +kernel
theorem xc_82 : xcok xtab 239 xm_82 = true := by decide +kernel
theorem xo_82 : xmok xm_82 = true := by decide +kernel
theorem xc_83 : xcok xtab 239 xm_83 = true := by decide +kernel
theorem xo_83 : xmok xm_83 = true := by decide +kernel
theorem xc_84 : xcok xtab 239 xm_84 = true := by decide +kernel
theorem xo_84 : xmok xm_84 = true := by decide +kernel
theorem xc_85 : xcok xtab 239 xm_85 = true := by decide +kernel
theorem xo_85 : xmok xm_85 = true := by decide +kernel
theorem xc_86 : xcok xtab 239 xm_86 = true := by decide +kernel
theorem xo_86 : xmok xm_86 = true := by decide +kernel
theorem xc_87 : xcok xtab 239 xm_87 = true := by decide +kernel
theorem xo_87 : xmok xm_87 = true := by decide +kernel
theorem xc_88 : xcok xtab 239 xm_88 = true := by decide +kernel
theorem xo_88 : xmok xm_88 = true := by decide +kernel
theorem xc_89 : xcok xtab 239 xm_89 = true := by decide +kernel
theorem xo_89 : xmok xm_89 = true := by decide +kernel
theorem xc_90 : xcok xtab 239 xm_90 = true := by decide +kernel
theorem xo_90 : xmok xm_90 = true := by decide +kernel
theorem xc_91 : xcok xtab 239 xm_91 = true := by decide +kernel
theorem xo_91 : xmok xm_91 = true := by decide +kernel
theorem xc_92 : xcok xtab 239 xm_92 = true := by decide +kernel
theorem xo_92 : xmok xm_92 = true := by decide +kernel
theorem xc_93 : xcok xtab 239 xm_93 = true := by decide +kernel
theorem xo_93 : xmok xm_93 = true := by decide +kernel
theorem xc_94 : xcok xtab 239 xm_94 = true := by decide +kernel
theorem xo_94 : xmok xm_94 = true := by decide +kernel
theorem xc_95 : xcok xtab 239 xm_95 = true := by decide +kernel
theorem xo_95 : xmok xm_95 = true := by decide +kernel
theorem xc_96 : xcok xtab 239 xm_96 = true := by decide +kernel
theorem xo_96 : xmok xm_96 = true := by decide +kernel
theorem xc_97 : xcok xtab 239 xm_97 = true := by decide +kernel
theorem xo_97 : xmok xm_97 = true := by decide +kernel
theorem xc_98 : xcok xtab 239 xm_98 = true := by decide +kernel
theorem xo_98 : xmok xm_98 = true := by decide +kernel
theorem xc_99 : xcok xtab 239 xm_99 = true := by decide +kernel
theorem xo_99 : xmok xm_99 = true := by decide +kernel
theorem xc_100 : xcok xtab 239 xm_100 = true := by decide +kernel
theorem xo_100 : xmok xm_100 = true := by decide +kernel
theorem xc_101 : xcok xtab 239 xm_101 = true := by decide +kernel
theorem xo_101 : xmok xm_101 = true := by decide +kernel
theorem xc_102 : xcok xtab 239 xm_102 = true := by decide +kernel
theorem xo_102 : xmok xm_102 = true := by decide +kernel
theorem xc_103 : xcok xtab 239 xm_103 = true := by decide +kernel
theorem xo_103 : xmok xm_103 = true := by decide +kernel
theorem xc_104 : xcok xtab 239 xm_104 = true := by decide +kernel
theorem xo_104 : xmok xm_104 = true := by decide +kernel
theorem xc_105 : xcok xtab 239 xm_105 = true := by decide +kernel
theorem xo_105 : xmok xm_105 = true := by decide +kernel
theorem xc_106 : xcok xtab 239 xm_106 = true := by decide +kernel
theorem xo_106 : xmok xm_106 = true := by decide +kernel
theorem xc_107 : xcok xtab 239 xm_107 = true := by decide +kernel
theorem xo_107 : xmok xm_107 = true := by decide +kernel
theorem xc_108 : xcok xtab 239 xm_108 = true := by decide +kernel
theorem xo_108 : xmok xm_108 = true := by decide +kernel
theorem xc_109 : xcok xtab 239 xm_109 = true := by decide +kernel
theorem xo_109 : xmok xm_109 = true := by decide +kernel
theorem xc_110 : xcok xtab 239 xm_110 = true := by decide +kernel
theorem xo_110 : xmok xm_110 = true := by decide +kernel
theorem xc_111 : xcok xtab 239 xm_111 = true := by decide +kernel
theorem xo_111 : xmok xm_111 = true := by decide +kernel
theorem xc_112 : xcok xtab 239 xm_112 = true := by decide +kernel
theorem xo_112 : xmok xm_112 = true := by decide +kernel
theorem xc_113 : xcok xtab 239 xm_113 = true := by decide +kernel
theorem xo_113 : xmok xm_113 = true := by decide +kernel
theorem xc_114 : xcok xtab 239 xm_114 = true := by decide +kernel
theorem xo_114 : xmok xm_114 = true := by decide +kernel
theorem xc_115 : xcok xtab 239 xm_115 = true := by decide +kernel
theorem xo_115 : xmok xm_115 = true := by decide +kernel
theorem xc_116 : xcok xtab 239 xm_116 = true := by decide +kernel
theorem xo_116 : xmok xm_116 = true := by decide +kernel
theorem xc_117 : xcok xtab 239 xm_117 = true := by decide +kernel
theorem xo_117 : xmok xm_117 = true := by decide +kernel
theorem xc_118 : xcok xtab 239 xm_118 = true := by decide +kernel
theorem xo_118 : xmok xm_118 = true := by decide +kernel
theorem xc_119 : xcok xtab 239 xm_119 = true := by decide +kernel
theorem xo_119 : xmok xm_119 = true := by decide +kernel
theorem xc_120 : xcok xtab 239 xm_120 = true := by decide +kernel
theorem xo_120 : xmok xm_120 = true := by decide +kernel
theorem xc_121 : xcok xtab 239 xm_121 = true := by decide +kernel
theorem xo_121 : xmok xm_121 = true := by decide +kernel
theorem xc_122 : xcok xtab 239 xm_122 = true := by decide +kernel
theorem xo_122 : xmok xm_122 = true := by decide +kernel
theorem xc_123 : xcok xtab 239 xm_123 = true := by decide +kernel
theorem xo_123 : xmok xm_123 = true := by decide +kernel
theorem xc_124 : xcok xtab 239 xm_124 = true := by decide +kernel
theorem xo_124 : xmok xm_124 = true := by decide +kernel
theorem xc_125 : xcok xtab 239 xm_125 = true := by decide +kernel
theorem xo_125 : xmok xm_125 = true := by decide +kernel
theorem xc_126 : xcok xtab 239 xm_126 = true := by decide +kernel
theorem xo_126 : xmok xm_126 = true := by decide +kernel
theorem xc_127 : xcok xtab 239 xm_127 = true := by decide +kernel
theorem xo_127 : xmok xm_127 = true := by decide +kernel
theorem xc_128 : xcok xtab 239 xm_128 = true := by decide +kernel
theorem xo_128 : xmok xm_128 = true := by decide +kernel
theorem xc_129 : xcok xtab 239 xm_129 = true := by decide +kernel
theorem xo_129 : xmok xm_129 = true := by decide +kernel
theorem xc_130 : xcok xtab 239 xm_130 = true := by decide +kernel
theorem xo_130 : xmok xm_130 = true := by decide +kernel
theorem xc_131 : xcok xtab 239 xm_131 = true := by decide +kernel
theorem xo_131 : xmok xm_131 = true := by decide +kernel
theorem xc_132 : xcok xtab 239 xm_132 = true := by decide +kernel
theorem xo_132 : xmok xm_132 = true := by decide +kernel
theorem xc_133 : xcok xtab 239 xm_133 = true := by decide +kernel
theorem xo_133 : xmok xm_133 = true := by decide +kernel
theorem xc_134 : xcok xtab 239 xm_134 = true := by decide +kernel
theorem xo_134 : xmok xm_134 = true := by decide +kernel
theorem xc_135 : xcok xtab 239 xm_135 = true := by decide +kernel
theorem xo_135 : xmok xm_135 = true := by decide +kernel
theorem xc_136 : xcok xtab 239 xm_136 = true := by decide +kernel
theorem xo_136 : xmok xm_136 = true := by decide +kernel
theorem xc_137 : xcok xtab 239 xm_137 = true := by decide +kernel
theorem xo_137 : xmok xm_137 = true := by decide +kernel
theorem xc_138 : xcok xtab 239 xm_138 = true := by decide +kernel
theorem xo_138 : xmok xm_138 = true := by decide +kernel
theorem xc_139 : xcok xtab 239 xm_139 = true := by decide +kernel
theorem xo_139 : xmok xm_139 = true := by decide +kernel
theorem xc_140 : xcok xtab 239 xm_140 = true := by decide +kernel
theorem xo_140 : xmok xm_140 = true := by decide +kernel
theorem xc_141 : xcok xtab 239 xm_141 = true := by decide +kernel
theorem xo_141 : xmok xm_141 = true := by decide +kernel
theorem xc_142 : xcok xtab 239 xm_142 = true := by decide +kernel
theorem xo_142 : xmok xm_142 = true := by decide +kernel
theorem xc_143 : xcok xtab 239 xm_143 = true := by decide +kernel
theorem xo_143 : xmok xm_143 = true := by decide +kernel
theorem xc_144 : xcok xtab 239 xm_144 = true := by decide +kernel
theorem xo_144 : xmok xm_144 = true := by decide +kernel
theorem xc_145 : xcok xtab 239 xm_145 = true := by decide +kernel
theorem xo_145 : xmok xm_145 = true := by decide +kernel
theorem xc_146 : xcok xtab 239 xm_146 = true := by decide +kernel
theorem xo_146 : xmok xm_146 = true := by decide +kernel
theorem xc_147 : xcok xtab 239 xm_147 = true := by decide +kernel
theorem xo_147 : xmok xm_147 = true := by decide +kernel
theorem xc_148 : xcok xtab 239 xm_148 = true := by decide +kernel
theorem xo_148 : xmok xm_148 = true := by decide +kernel
theorem xc_149 : xcok xtab 239 xm_149 = true := by decide +kernel
theorem xo_149 : xmok xm_149 = true := by decide +kernel
theorem xc_150 : xcok xtab 239 xm_150 = true := by decide +kernel
theorem xo_150 : xmok xm_150 = true := by decide +kernel
theorem xc_151 : xcok xtab 239 xm_151 = true := by decide +kernel
theorem xo_151 : xmok xm_151 = true := by decide +kernel
theorem xc_152 : xcok xtab 239 xm_152 = true := by decide +kernel
theorem xo_152 : xmok xm_152 = true := by decide +kernel
theorem xc_153 : xcok xtab 239 xm_153 = true := by decide +kernel
theorem xo_153 : xmok xm_153 = true := by decide +kernel
theorem xc_154 : xcok xtab 239 xm_154 = true := by decide +kernel
theorem xo_154 : xmok xm_154 = true := by decide +kernel
theorem xc_155 : xcok xtab 239 xm_155 = true := by decide +kernel
theorem xo_155 : xmok xm_155 = true := by decide +kernel
theorem xc_156 : xcok xtab 239 xm_156 = true := by decide +kernel
theorem xo_156 : xmok xm_156 = true := by decide +kernel
theorem xc_157 : xcok xtab 239 xm_157 = true := by decide +kernel
theorem xo_157 : xmok xm_157 = true := by decide +kernel
theorem xc_158 : xcok xtab 239 xm_158 = true := by decide +kernel
theorem xo_158 : xmok xm_158 = true := by decide +kernel
theorem xc_159 : xcok xtab 239 xm_159 = true := by decide +kernel
theorem xo_159 : xmok xm_159 = true := by decide +kernel
theorem xc_160 : xcok xtab 239 xm_160 = true := by decide +kernel
theorem xo_160 : xmok xm_160 = true := by decide +kernel
theorem xc_161 : xcok xtab 239 xm_161 = true := by decide +kernel
theorem xo_161 : xmok xm_161 = true := by decide +kernel
theorem xc_162 : xcok xtab 239 xm_162 = true := by decide +kernel
theorem xo_162 : xmok xm_162 = true := by decide +kernel
theorem xc_163 : xcok xtab 239 xm_163 = true := by decide +kernel
theorem xo_163 : xmok xm_163 = true := by decide +kernel
theorem xc_164 : xcok xtab 239 xm_164 = true := by decide +kernel
theorem xo_164 : xmok xm_164 = true := by decide +kernel
theorem xc_165 : xcok xtab 239 xm_165 = true := by decide +kernel
theorem xo_165 : xmok xm_165 = true := by decide +kernel
theorem xc_166 : xcok xtab 239 xm_166 = true := by decide +kernel
theorem xo_166 : xmok xm_166 = true := by decide +kernel
theorem xc_167 : xcok xtab 239 xm_167 = true := by decide +kernel
theorem xo_167 : xmok xm_167 = true := by decide +kernel
theorem xc_168 : xcok xtab 239 xm_168 = true := by decide +kernel
theorem xo_168 : xmok xm_168 = true := by decide +kernel
theorem xc_169 : xcok xtab 239 xm_169 = true := by decide +kernel
theorem xo_169 : xmok xm_169 = true := by decide +kernel
theorem xc_170 : xcok xtab 239 xm_170 = true := by decide +kernel
theorem xo_170 : xmok xm_170 = true := by decide +kernel
theorem xc_171 : xcok xtab 239 xm_171 = true := by decide +kernel
theorem xo_171 : xmok xm_171 = true := by decide +kernel
theorem xc_172 : xcok xtab 239 xm_172 = true := by decide +kernel
theorem xo_172 : xmok xm_172 = true := by decide +kernel
theorem xc_173 : xcok xtab 239 xm_173 = true := by decide +kernel
theorem xo_173 : xmok xm_173 = true := by decide +kernel
theorem xc_174 : xcok xtab 239 xm_174 = true := by decide +kernel
theorem xo_174 : xmok xm_174 = true := by decide +kernel
theorem xc_175 : xcok xtab 239 xm_175 = true := by decide +kernel
theorem xo_175 : xmok xm_175 = true := by decide +kernel
theorem xc_176 : xcok xtab 239 xm_176 = true := by decide +kernel
theorem xo_176 : xmok xm_176 = true := by decide +kernel
theorem xc_177 : xcok xtab 239 xm_177 = true := by decide +kernel
theorem xo_177 : xmok xm_177 = true := by decide +kernel
theorem xc_178 : xcok xtab 239 xm_178 = true := by decide +kernel
theorem xo_178 : xmok xm_178 = true := by decide +kernel
theorem xc_179 : xcok xtab 239 xm_179 = true := by decide +kernel
theorem xo_179 : xmok xm_179 = true := by decide +kernel
theorem xc_180 : xcok xtab 239 xm_180 = true := by decide +kernel
theorem xo_180 : xmok xm_180 = true := by decide +kernel
theorem xc_181 : xcok xtab 239 xm_181 = true := by decide +kernel
theorem xo_181 : xmok xm_181 = true := by decide +kernel
theorem xc_182 : xcok xtab 239 xm_182 = true := by decide +kernel
theorem xo_182 : xmok xm_182 = true := by decide +kernel
theorem xc_183 : xcok xtab 239 xm_183 = true := by decide +kernel
theorem xo_183 : xmok xm_183 = true := by decide +kernel
theorem xc_184 : xcok xtab 239 xm_184 = true := by decide +kernel
theorem xo_184 : xmok xm_184 = true := by decide +kernel
theorem xc_185 : xcok xtab 239 xm_185 = true := by decide +kernel
theorem xo_185 : xmok xm_185 = true := by decide +kernel
theorem xc_186 : xcok xtab 239 xm_186 = true := by decide +kernel
theorem xo_186 : xmok xm_186 = true := by decide +kernel
theorem xc_187 : xcok xtab 239 xm_187 = true := by decide +kernel
theorem xo_187 : xmok xm_187 = true := by decide +kernel
theorem xc_188 : xcok xtab 239 xm_188 = true := by decide +kernel
theorem xo_188 : xmok xm_188 = true := by decide +kernel
theorem xc_189 : xcok xtab 239 xm_189 = true := by decide +kernel
theorem xo_189 : xmok xm_189 = true := by decide +kernel
theorem xc_190 : xcok xtab 239 xm_190 = true := by decide +kernel
theorem xo_190 : xmok xm_190 = true := by decide +kernel
theorem xc_191 : xcok xtab 239 xm_191 = true := by decide +kernel
theorem xo_191 : xmok xm_191 = true := by decide +kernel
theorem xc_192 : xcok xtab 239 xm_192 = true := by decide +kernel
theorem xo_192 : xmok xm_192 = true := by decide +kernel
theorem xc_193 : xcok xtab 239 xm_193 = true := by decide +kernel
theorem xo_193 : xmok xm_193 = true := by decide +kernel
theorem xc_194 : xcok xtab 239 xm_194 = true := by decide +kernel
theorem xo_194 : xmok xm_194 = true := by decide +kernel
theorem xc_195 : xcok xtab 239 xm_195 = true := by decide +kernel
theorem xo_195 : xmok xm_195 = true := by decide +kernel
theorem xc_196 : xcok xtab 239 xm_196 = true := by decide +kernel
theorem xo_196 : xmok xm_196 = true := by decide +kernel
theorem xc_197 : xcok xtab 239 xm_197 = true := by decide +kernel
theorem xo_197 : xmok xm_197 = true := by decide +kernel
theorem xc_198 : xcok xtab 239 xm_198 = true := by decide +kernel
theorem xo_198 : xmok xm_198 = true := by decide +kernel
theorem xc_199 : xcok xtab 239 xm_199 = true := by decide +kernel
theorem xo_199 : xmok xm_199 = true := by decide +kernel
theorem xc_200 : xcok xtab 239 xm_200 = true := by decide +kernel
theorem xo_200 : xmok xm_200 = true := by decide +kernel
theorem xc_201 : xcok xtab 239 xm_201 = true := by decide +kernel
theorem xo_201 : xmok xm_201 = true := by decide +kernel
theorem xc_202 : xcok xtab 239 xm_202 = true := by decide +kernel
theorem xo_202 : xmok xm_202 = true := by decide +kernel
theorem xc_203 : xcok xtab 239 xm_203 = true := by decide +kernel
theorem xo_203 : xmok xm_203 = true := by decide +kernel
theorem xc_204 : xcok xtab 239 xm_204 = true := by decide +kernel
theorem xo_204 : xmok xm_204 = true := by decide +kernel
theorem xc_205 : xcok xtab 239 xm_205 = true := by decide +kernel
theorem xo_205 : xmok xm_205 = true := by decide +kernel
theorem xc_206 : xcok xtab 239 xm_206 = true := by decide +kernel
theorem xo_206 : xmok xm_206 = true := by decide +kernel
theorem xc_207 : xcok xtab 239 xm_207 = true := by decide +kernel
theorem xo_207 : xmok xm_207 = true := by decide +kernel
theorem xc_208 : xcok xtab 239 xm_208 = true := by decide +kernel
theorem xo_208 : xmok xm_208 = true := by decide +kernel
theorem xc_209 : xcok xtab 239 xm_209 = true := by decide +kernel
theorem xo_209 : xmok xm_209 = true := by decide +kernel
theorem xc_210 : xcok xtab 239 xm_210 = true := by decide +kernel
theorem xo_210 : xmok xm_210 = true := by decide +kernel
theorem xc_211 : xcok xtab 239 xm_211 = true := by decide +kernel
theorem xo_211 : xmok xm_211 = true := by decide +kernel
theorem xc_212 : xcok xtab 239 xm_212 = true := by decide +kernel
theorem xo_212 : xmok xm_212 = true := by decide +kernel
theorem xc_213 : xcok xtab 239 xm_213 = true := by decide +kernel
theorem xo_213 : xmok xm_213 = true := by decide +kernel
theorem xc_214 : xcok xtab 239 xm_214 = true := by decide +kernel
theorem xo_214 : xmok xm_214 = true := by decide +kernel
theorem xc_215 : xcok xtab 239 xm_215 = true := by decide +kernel
theorem xo_215 : xmok xm_215 = true := by decide +kernel
theorem xc_216 : xcok xtab 239 xm_216 = true := by decide +kernel
theorem xo_216 : xmok xm_216 = true := by decide +kernel
theorem xc_217 : xcok xtab 239 xm_217 = true := by decide +kernel
theorem xo_217 : xmok xm_217 = true := by decide +kernel
theorem xc_218 : xcok xtab 239 xm_218 = true := by decide +kernel
theorem xo_218 : xmok xm_218 = true := by decide +kernel
theorem xc_219 : xcok xtab 239 xm_219 = true := by decide +kernel
theorem xo_219 : xmok xm_219 = true := by decide +kernel
theorem xc_220 : xcok xtab 239 xm_220 = true := by decide +kernel
theorem xo_220 : xmok xm_220 = true := by decide +kernel
theorem xc_221 : xcok xtab 239 xm_221 = true := by decide +kernel
theorem xo_221 : xmok xm_221 = true := by decide +kernel
theorem xc_222 : xcok xtab 239 xm_222 = true := by decide +kernel
theorem xo_222 : xmok xm_222 = true := by decide +kernel
theorem xc_223 : xcok xtab 239 xm_223 = true := by decide +kernel
theorem xo_223 : xmok xm_223 = true := by decide +kernel
theorem xc_224 : xcok xtab 239 xm_224 = true := by decide +kernel
theorem xo_224 : xmok xm_224 = true := by decide +kernel
theorem xc_225 : xcok xtab 239 xm_225 = true := by decide +kernel
theorem xo_225 : xmok xm_225 = true := by decide +kernel
theorem xc_226 : xcok xtab 239 xm_226 = true := by decide +kernel
theorem xo_226 : xmok xm_226 = true := by decide +kernel
theorem xc_227 : xcok xtab 239 xm_227 = true := by decide +kernel
theorem xo_227 : xmok xm_227 = true := by decide +kernel
theorem xc_228 : xcok xtab 239 xm_228 = true := by decide +kernel
theorem xo_228 : xmok xm_228 = true := by decide +kernel
theorem xc_229 : xcok xtab 239 xm_229 = true := by decide +kernel
theorem xo_229 : xmok xm_229 = true := by decide +kernel
theorem xc_230 : xcok xtab 239 xm_230 = true := by decide +kernel
theorem xo_230 : xmok xm_230 = true := by decide +kernel
theorem xc_231 : xcok xtab 239 xm_231 = true := by decide +kernel
theorem xo_231 : xmok xm_231 = true := by decide +kernel
theorem xc_232 : xcok xtab 239 xm_232 = true := by decide +kernel
theorem xo_232 : xmok xm_232 = true := by decide +kernel
theorem xc_233 : xcok xtab 239 xm_233 = true := by decide +kernel
theorem xo_233 : xmok xm_233 = true := by decide +kernel
theorem xc_234 : xcok xtab 239 xm_234 = true := by decide +kernel
theorem xo_234 : xmok xm_234 = true := by decide +kernel
theorem xc_235 : xcok xtab 239 xm_235 = true := by decide +kernel
theorem xo_235 : xmok xm_235 = true := by decide +kernel
theorem xc_236 : xcok xtab 239 xm_236 = true := by decide +kernel
theorem xo_236 : xmok xm_236 = true := by decide +kernel
theorem xc_237 : xcok xtab 239 xm_237 = true := by decide +kernel
theorem xo_237 : xmok xm_237 = true := by decide +kernel
theorem xc_238 : xcok xtab 239 xm_238 = true := by decide +kernel
theorem xo_238 : xmok xm_238 = true := by decide +kernel
theorem xc_239 : xcok xtab 239 xm_239 = true := by decide +kernel
theorem xc_all : ∀ me ∈ xtab, xcok xtab 239 me = true := by
  unfold xtab
  exact List.forall_mem_cons.mpr ⟨xc_0, List.forall_mem_cons.mpr ⟨xc_1, List.forall_mem_cons.mpr ⟨xc_2, List.forall_mem_cons.mpr ⟨xc_3, List.forall_mem_cons.mpr ⟨xc_4, List.forall_mem_cons.mpr ⟨xc_5, List.forall_mem_cons.mpr ⟨xc_6, List.forall_mem_cons.mpr ⟨xc_7, List.forall_mem_cons.mpr ⟨xc_8, List.forall_mem_cons.mpr ⟨xc_9, List.forall_mem_cons.mpr ⟨xc_10, List.forall_mem_cons.mpr ⟨xc_11, List.forall_mem_cons.mpr ⟨xc_12, List.forall_mem_cons.mpr ⟨xc_13, List.forall_mem_cons.mpr ⟨xc_14, List.forall_mem_cons.mpr ⟨xc_15, List.forall_mem_cons.mpr ⟨xc_16, List.forall_mem_cons.mpr ⟨xc_17, List.forall_mem_cons.mpr ⟨xc_18, List.forall_mem_cons.mpr ⟨xc_19, List.forall_mem_cons.mpr ⟨xc_20, List.forall_mem_cons.mpr ⟨xc_21, List.forall_mem_cons.mpr ⟨xc_22, List.forall_mem_cons.mpr ⟨xc_23, List.forall_mem_cons.mpr ⟨xc_24, List.forall_mem_cons.mpr ⟨xc_25, List.forall_mem_cons.mpr ⟨xc_26, List.forall_mem_cons.mpr ⟨xc_27, List.forall_mem_cons.mpr ⟨xc_28, List.forall_mem_cons.mpr ⟨xc_29, List.forall_mem_cons.mpr ⟨xc_30, List.forall_mem_cons.mpr ⟨xc_31, List.forall_mem_cons.mpr ⟨xc_32, List.forall_mem_cons.mpr ⟨xc_33, List.forall_mem_cons.mpr ⟨xc_34, List.forall_mem_cons.mpr ⟨xc_35, List.forall_mem_cons.mpr ⟨xc_36, List.forall_mem_cons.mpr ⟨xc_37, List.forall_mem_cons.mpr ⟨xc_38, List.forall_mem_cons.mpr ⟨xc_39, List.forall_mem_cons.mpr ⟨xc_40, List.forall_mem_cons.mpr ⟨xc_41, List.forall_mem_cons.mpr ⟨xc_42, List.forall_mem_cons.mpr ⟨xc_43, List.forall_mem_cons.mpr ⟨xc_44, List.forall_mem_cons.mpr ⟨xc_45, List.forall_mem_cons.mpr ⟨xc_46, List.forall_mem_cons.mpr ⟨xc_47, List.forall_mem_cons.mpr ⟨xc_48, List.forall_mem_cons.mpr ⟨xc_49, List.forall_mem_cons.mpr ⟨xc_50, List.forall_mem_cons.mpr ⟨xc_51, List.forall_mem_cons.mpr ⟨xc_52, List.forall_mem_cons.mpr ⟨xc_53, List.forall_mem_cons.mpr ⟨xc_54, List.forall_mem_cons.mpr ⟨xc_55, List.forall_mem_cons.mpr ⟨xc_56, List.forall_mem_cons.mpr ⟨xc_57, List.forall_mem_cons.mpr ⟨xc_58, List.forall_mem_cons.mpr ⟨xc_59, List.forall_mem_cons.mpr ⟨xc_60, List.forall_mem_cons.mpr ⟨xc_61, List.forall_mem_cons.mpr ⟨xc_62, List.forall_mem_cons.mpr ⟨xc_63, List.forall_mem_cons.mpr ⟨xc_64, List.forall_mem_cons.mpr ⟨xc_65, List.forall_mem_cons.mpr ⟨xc_66, List.forall_mem_cons.mpr ⟨xc_67, List.forall_mem_cons.mpr ⟨xc_68, List.forall_mem_cons.mpr ⟨xc_69, List.forall_mem_cons.mpr ⟨xc_70, List.forall_mem_cons.mpr ⟨xc_71, List.forall_mem_cons.mpr ⟨xc_72, List.forall_mem_cons.mpr ⟨xc_73, List.forall_mem_cons.mpr ⟨xc_74, List.forall_mem_cons.mpr ⟨xc_75, List.forall_mem_cons.mpr ⟨xc_76, List.forall_mem_cons.mpr ⟨xc_77, List.forall_mem_cons.mpr ⟨xc_78, List.forall_mem_cons.mpr ⟨xc_79, List.forall_mem_cons.mpr ⟨xc_80, List.forall_mem_cons.mpr ⟨xc_81, List.forall_mem_cons.mpr ⟨xc_82, List.forall_mem_cons.mpr ⟨xc_83, List.forall_mem_cons.mpr ⟨xc_84, List.forall_mem_cons.mpr ⟨xc_85, List.forall_mem_cons.mpr ⟨xc_86, List.forall_mem_cons.mpr ⟨xc_87, List.forall_mem_cons.mpr ⟨xc_88, List.forall_mem_cons.mpr ⟨xc_89, List.forall_mem_cons.mpr ⟨xc_90, List.forall_mem_cons.mpr ⟨xc_91, List.forall_mem_cons.mpr ⟨xc_92, List.forall_mem_cons.mpr ⟨xc_93, List.forall_mem_cons.mpr ⟨xc_94, List.forall_mem_cons.mpr ⟨xc_95, List.forall_mem_cons.mpr ⟨xc_96, List.forall_mem_cons.mpr ⟨xc_97, List.forall_mem_cons.mpr ⟨xc_98, List.forall_mem_cons.mpr ⟨xc_99, List.forall_mem_cons.mpr ⟨xc_100, List.forall_mem_cons.mpr ⟨xc_101, List.forall_mem_cons.mpr ⟨xc_102, List.forall_mem_cons.mpr ⟨xc_103, List.forall_mem_cons.mpr ⟨xc_104, List.forall_mem_cons.mpr ⟨xc_105, List.forall_mem_cons.mpr ⟨xc_106, List.forall_mem_cons.mpr ⟨xc_107, List.forall_mem_cons.mpr ⟨xc_108, List.forall_mem_cons.mpr ⟨xc_109, List.forall_mem_cons.mpr ⟨xc_110, List.forall_mem_cons.mpr ⟨xc_111, List.forall_mem_cons.mpr ⟨xc_112, List.forall_mem_cons.mpr ⟨xc_113, List.forall_mem_cons.mpr ⟨xc_114, List.forall_mem_cons.mpr ⟨xc_115, List.forall_mem_cons.mpr ⟨xc_116, List.forall_mem_cons.mpr ⟨xc_117, List.forall_mem_cons.mpr ⟨xc_118, List.forall_mem_cons.mpr ⟨xc_119, List.forall_mem_cons.mpr ⟨xc_120, List.forall_mem_cons.mpr ⟨xc_121, List.forall_mem_cons.mpr ⟨xc_122, List.forall_mem_cons.mpr ⟨xc_123, List.forall_mem_cons.mpr ⟨xc_124, List.forall_mem_cons.mpr ⟨xc_125, List.forall_mem_cons.mpr ⟨xc_126, List.forall_mem_cons.mpr ⟨xc_127, List.forall_mem_cons.mpr ⟨xc_128, List.forall_mem_cons.mpr ⟨xc_129, List.forall_mem_cons.mpr ⟨xc_130, List.forall_mem_cons.mpr ⟨xc_131, List.forall_mem_cons.mpr ⟨xc_132, List.forall_mem_cons.mpr ⟨xc_133, List.forall_mem_cons.mpr ⟨xc_134, List.forall_mem_cons.mpr ⟨xc_135, List.forall_mem_cons.mpr ⟨xc_136, List.forall_mem_cons.mpr ⟨xc_137, List.forall_mem_cons.mpr ⟨xc_138, List.forall_mem_cons.mpr ⟨xc_139, List.forall_mem_cons.mpr ⟨xc_140, List.forall_mem_cons.mpr ⟨xc_141, List.forall_mem_cons.mpr ⟨xc_142, List.forall_mem_cons.mpr ⟨xc_143, List.forall_mem_cons.mpr ⟨xc_144, List.forall_mem_cons.mpr ⟨xc_145, List.forall_mem_cons.mpr ⟨xc_146, List.forall_mem_cons.mpr ⟨xc_147, List.forall_mem_cons.mpr ⟨xc_148, List.forall_mem_cons.mpr ⟨xc_149, List.forall_mem_cons.mpr ⟨xc_150, List.forall_mem_cons.mpr ⟨xc_151, List.forall_mem_cons.mpr ⟨xc_152, List.forall_mem_cons.mpr ⟨xc_153, List.forall_mem_cons.mpr ⟨xc_154, List.forall_mem_cons.mpr ⟨xc_155, List.forall_mem_cons.mpr ⟨xc_156, List.forall_mem_cons.mpr ⟨xc_157, List.forall_mem_cons.mpr ⟨xc_158, List.forall_mem_cons.mpr ⟨xc_159, List.forall_mem_cons.mpr ⟨xc_160, List.forall_mem_cons.mpr ⟨xc_161, List.forall_mem_cons.mpr ⟨xc_162, List.forall_mem_cons.mpr ⟨xc_163, List.forall_mem_cons.mpr ⟨xc_164, List.forall_mem_cons.mpr ⟨xc_165, List.forall_mem_cons.mpr ⟨xc_166, List.forall_mem_cons.mpr ⟨xc_167, List.forall_mem_cons.mpr ⟨xc_168, List.forall_mem_cons.mpr ⟨xc_169, List.forall_mem_cons.mpr ⟨xc_170, List.forall_mem_cons.mpr ⟨xc_171, List.forall_mem_cons.mpr ⟨xc_172, List.forall_mem_cons.mpr ⟨xc_173, List.forall_mem_cons.mpr ⟨xc_174, List.forall_mem_cons.mpr ⟨xc_175, List.forall_mem_cons.mpr ⟨xc_176, List.forall_mem_cons.mpr ⟨xc_177, List.forall_mem_cons.mpr ⟨xc_178, List.forall_mem_cons.mpr ⟨xc_179, List.forall_mem_cons.mpr ⟨xc_180, List.forall_mem_cons.mpr ⟨xc_181, List.forall_mem_cons.mpr ⟨xc_182, List.forall_mem_cons.mpr ⟨xc_183, List.forall_mem_cons.mpr ⟨xc_184, List.forall_mem_cons.mpr ⟨xc_185, List.forall_mem_cons.mpr ⟨xc_186, List.forall_mem_cons.mpr ⟨xc_187, List.forall_mem_cons.mpr ⟨xc_188, List.forall_mem_cons.mpr ⟨xc_189, List.forall_mem_cons.mpr ⟨xc_190, List.forall_mem_cons.mpr ⟨xc_191, List.forall_mem_cons.mpr ⟨xc_192, List.forall_mem_cons.mpr ⟨xc_193, List.forall_mem_cons.mpr ⟨xc_194, List.forall_mem_cons.mpr ⟨xc_195, List.forall_mem_cons.mpr ⟨xc_196, List.forall_mem_cons.mpr ⟨xc_197, List.forall_mem_cons.mpr ⟨xc_198, List.forall_mem_cons.mpr ⟨xc_199, List.forall_mem_cons.mpr ⟨xc_200, List.forall_mem_cons.mpr ⟨xc_201, List.forall_mem_cons.mpr ⟨xc_202, List.forall_mem_cons.mpr ⟨xc_203, List.forall_mem_cons.mpr ⟨xc_204, List.forall_mem_cons.mpr ⟨xc_205, List.forall_mem_cons.mpr ⟨xc_206, List.forall_mem_cons.mpr ⟨xc_207, List.forall_mem_cons.mpr ⟨xc_208, List.forall_mem_cons.mpr ⟨xc_209, List.forall_mem_cons.mpr ⟨xc_210, List.forall_mem_cons.mpr ⟨xc_211, List.forall_mem_cons.mpr ⟨xc_212, List.forall_mem_cons.mpr ⟨xc_213, List.forall_mem_cons.mpr ⟨xc_214, List.forall_mem_cons.mpr ⟨xc_215, List.forall_mem_cons.mpr ⟨xc_216, List.forall_mem_cons.mpr ⟨xc_217, List.forall_mem_cons.mpr ⟨xc_218, List.forall_mem_cons.mpr ⟨xc_219, List.forall_mem_cons.mpr ⟨xc_220, List.forall_mem_cons.mpr ⟨xc_221, List.forall_mem_cons.mpr ⟨xc_222, List.forall_mem_cons.mpr ⟨xc_223, List.forall_mem_cons.mpr ⟨xc_224, List.forall_mem_cons.mpr ⟨xc_225, List.forall_mem_cons.mpr ⟨xc_226, List.forall_mem_cons.mpr ⟨xc_227, List.forall_mem_cons.mpr ⟨xc_228, List.forall_mem_cons.mpr ⟨xc_229, List.forall_mem_cons.mpr ⟨xc_230, List.forall_mem_cons.mpr ⟨xc_231, List.forall_mem_cons.mpr ⟨xc_232, List.forall_mem_cons.mpr ⟨xc_233, List.forall_mem_cons.mpr ⟨xc_234, List.forall_mem_cons.mpr ⟨xc_235, List.forall_mem_cons.mpr ⟨xc_236, List.forall_mem_cons.mpr ⟨xc_237, List.forall_mem_cons.mpr ⟨xc_238, List.forall_mem_cons.mpr ⟨xc_239, fun _ h => nomatch h⟩⟩⟩⟩⟩⟩⟩⟩⟩⟩⟩⟩⟩⟩⟩⟩⟩⟩⟩⟩⟩⟩⟩⟩⟩⟩⟩⟩⟩⟩⟩⟩⟩⟩⟩⟩⟩⟩⟩⟩⟩⟩⟩⟩⟩⟩⟩⟩⟩⟩⟩⟩⟩⟩⟩⟩⟩⟩⟩⟩⟩⟩⟩⟩⟩⟩⟩⟩⟩⟩⟩⟩⟩⟩⟩⟩⟩⟩⟩⟩⟩⟩⟩⟩⟩⟩⟩⟩⟩⟩⟩⟩⟩⟩⟩⟩⟩⟩⟩⟩⟩⟩⟩⟩⟩⟩⟩⟩⟩⟩⟩⟩⟩⟩⟩⟩⟩⟩⟩⟩⟩⟩⟩⟩⟩⟩⟩⟩⟩⟩⟩⟩⟩⟩⟩⟩⟩⟩⟩⟩⟩⟩⟩⟩⟩⟩⟩⟩⟩⟩⟩⟩⟩⟩⟩⟩⟩⟩⟩⟩⟩⟩⟩⟩⟩⟩⟩⟩⟩⟩⟩⟩⟩⟩⟩⟩⟩⟩⟩⟩⟩⟩⟩⟩⟩⟩⟩⟩⟩⟩⟩⟩⟩⟩⟩⟩⟩⟩⟩⟩⟩⟩⟩⟩⟩⟩⟩⟩⟩⟩⟩⟩⟩⟩⟩⟩⟩⟩⟩⟩⟩⟩⟩⟩⟩⟩⟩⟩⟩⟩⟩⟩⟩⟩⟩⟩⟩⟩⟩⟩
theorem xo_all : ∀ (y : Nat) (me : xMe), xtab[y]? = some me → y < 239 → xmok me = true := by
  intro y me h hy
  have h2 : me ∈ xtab.take 239 := List.mem_of_getElem? (i := y) (by rw [List.getElem?_take_of_lt hy]; exact h)
  exact (show ∀ me ∈ [xm_0, xm_1, xm_2, xm_3, xm_4, xm_5, xm_6, xm_7, xm_8, xm_9, xm_10, xm_11, xm_12, xm_13, xm_14, xm_15, xm_16, xm_17, xm_18, xm_19, xm_20, xm_21, xm_22, xm_23, xm_24, xm_25, xm_26, xm_27, xm_28, xm_29, xm_30, xm_31, xm_32, xm_33, xm_34, xm_35, xm_36, xm_37, xm_38, xm_39, xm_40, xm_41, xm_42, xm_43, xm_44, xm_45, xm_46, xm_47, xm_48, xm_49, xm_50, xm_51, xm_52, xm_53, xm_54, xm_55, xm_56, xm_57, xm_58, xm_59, xm_60, xm_61, xm_62, xm_63, xm_64, xm_65, xm_66, xm_67, xm_68, xm_69, xm_70, xm_71, xm_72, xm_73, xm_74, xm_75, xm_76, xm_77, xm_78, xm_79, xm_80, xm_81, xm_82, xm_83, xm_84, xm_85, xm_86, xm_87, xm_88, xm_89, xm_90, xm_91, xm_92, xm_93, xm_94, xm_95, xm_96, xm_97, xm_98, xm_99, xm_100, xm_101, xm_102, xm_103, xm_104, xm_105, xm_106, xm_107, xm_108, xm_109, xm_110, xm_111, xm_112, xm_113, xm_114, xm_115, xm_116, xm_117, xm_118, xm_119, xm_120, xm_121, xm_122, xm_123, xm_124, xm_125, xm_126, xm_127, xm_128, xm_129, xm_130, xm_131, xm_132, xm_133, xm_134, xm_135, xm_136, xm_137, xm_138, xm_139, xm_140, xm_141, xm_142, xm_143, xm_144, xm_145, xm_146, xm_147, xm_148, xm_149, xm_150, xm_151, xm_152, xm_153, xm_154, xm_155, xm_156, xm_157, xm_158, xm_159, xm_160, xm_161, xm_162, xm_163, xm_164, xm_165, xm_166, xm_167, xm_168, xm_169, xm_170, xm_171, xm_172, xm_173, xm_174, xm_175, xm_176, xm_177, xm_178, xm_179, xm_180, xm_181, xm_182, xm_183, xm_184, xm_185, xm_186, xm_187, xm_188, xm_189, xm_190, xm_191, xm_192, xm_193, xm_194, xm_195, xm_196, xm_197, xm_198, xm_199, xm_200, xm_201, xm_202, xm_203, xm_204, xm_205, xm_206, xm_207, xm_208, xm_209, xm_210, xm_211, xm_212, xm_213, xm_214, xm_215, xm_216, xm_217, xm_218, xm_219, xm_220, xm_221, xm_222, xm_223, xm_224, xm_225, xm_226, xm_227, xm_228, xm_229, xm_230, xm_231, xm_232, xm_233, xm_234, xm_235, xm_236, xm_237, xm_238], xmok me = true from List.forall_mem_cons.mpr ⟨xo_0, List.forall_mem_cons.mpr ⟨xo_1, List.forall_mem_cons.mpr ⟨xo_2, List.forall_mem_cons.mpr ⟨xo_3, List.forall_mem_cons.mpr ⟨xo_4, List.forall_mem_cons.mpr ⟨xo_5, List.forall_mem_cons.mpr ⟨xo_6, List.forall_mem_cons.mpr ⟨xo_7, List.forall_mem_cons.mpr ⟨xo_8, List.forall_mem_cons.mpr ⟨xo_9, List.forall_mem_cons.mpr ⟨xo_10, List.forall_mem_cons.mpr ⟨xo_11, List.forall_mem_cons.mpr ⟨xo_12, List.forall_mem_cons.mpr ⟨xo_13, List.forall_mem_cons.mpr ⟨xo_14, List.forall_mem_cons.mpr ⟨xo_15, List.forall_mem_cons.mpr ⟨xo_16, List.forall_mem_cons.mpr ⟨xo_17, List.forall_mem_cons.mpr ⟨xo_18, List.forall_mem_cons.mpr ⟨xo_19, List.forall_mem_cons.mpr ⟨xo_20, List.forall_mem_cons.mpr ⟨xo_21, List.forall_mem_cons.mpr ⟨xo_22, List.forall_mem_cons.mpr ⟨xo_23, List.forall_mem_cons.mpr ⟨xo_24, List.forall_mem_cons.mpr ⟨xo_25, List.forall_mem_cons.mpr ⟨xo_26, List.forall_mem_cons.mpr ⟨xo_27, List.forall_mem_cons.mpr ⟨xo_28, List.forall_mem_cons.mpr ⟨xo_29, List.forall_mem_cons.mpr ⟨xo_30, List.forall_mem_cons.mpr ⟨xo_31, List.forall_mem_cons.mpr ⟨xo_32, List.forall_mem_cons.mpr ⟨xo_33, List.forall_mem_cons.mpr ⟨xo_34, List.forall_mem_cons.mpr ⟨xo_35, List.forall_mem_cons.mpr ⟨xo_36, List.forall_mem_cons.mpr ⟨xo_37, List.forall_mem_cons.mpr ⟨xo_38, List.forall_mem_cons.mpr ⟨xo_39, List.forall_mem_cons.mpr ⟨xo_40, List.forall_mem_cons.mpr ⟨xo_41, List.forall_mem_cons.mpr ⟨xo_42, List.forall_mem_cons.mpr ⟨xo_43, List.forall_mem_cons.mpr ⟨xo_44, List.forall_mem_cons.mpr ⟨xo_45, List.forall_mem_cons.mpr ⟨xo_46, List.forall_mem_cons.mpr ⟨xo_47, List.forall_mem_cons.mpr ⟨xo_48, List.forall_mem_cons.mpr ⟨xo_49, List.forall_mem_cons.mpr ⟨xo_50, List.forall_mem_cons.mpr ⟨xo_51, List.forall_mem_cons.mpr ⟨xo_52, List.forall_mem_cons.mpr ⟨xo_53, List.forall_mem_cons.mpr ⟨xo_54, List.forall_mem_cons.mpr ⟨xo_55, List.forall_mem_cons.mpr ⟨xo_56, List.forall_mem_cons.mpr ⟨xo_57, List.forall_mem_cons.mpr ⟨xo_58, List.forall_mem_cons.mpr ⟨xo_59, List.forall_mem_cons.mpr ⟨xo_60, List.forall_mem_cons.mpr ⟨xo_61, List.forall_mem_cons.mpr ⟨xo_62, List.forall_mem_cons.mpr ⟨xo_63, List.forall_mem_cons.mpr ⟨xo_64, List.forall_mem_cons.mpr ⟨xo_65, List.forall_mem_cons.mpr ⟨xo_66, List.forall_mem_cons.mpr ⟨xo_67, List.forall_mem_cons.mpr ⟨xo_68, List.forall_mem_cons.mpr ⟨xo_69, List.forall_mem_cons.mpr ⟨xo_70, List.forall_mem_cons.mpr ⟨xo_71, List.forall_mem_cons.mpr ⟨xo_72, List.forall_mem_cons.mpr ⟨xo_73, List.forall_mem_cons.mpr ⟨xo_74, List.forall_mem_cons.mpr ⟨xo_75, List.forall_mem_cons.mpr ⟨xo_76, List.forall_mem_cons.mpr ⟨xo_77, List.forall_mem_cons.mpr ⟨xo_78, List.forall_mem_cons.mpr ⟨xo_79, List.forall_mem_cons.mpr ⟨xo_80, List.forall_mem_cons.mpr ⟨xo_81, List.forall_mem_cons.mpr ⟨xo_82, List.forall_mem_cons.mpr ⟨xo_83, List.forall_mem_cons.mpr ⟨xo_84, List.forall_mem_cons.mpr ⟨xo_85, List.forall_mem_cons.mpr ⟨xo_86, List.forall_mem_cons.mpr ⟨xo_87, List.forall_mem_cons.mpr ⟨xo_88, List.forall_mem_cons.mpr ⟨xo_89, List.forall_mem_cons.mpr ⟨xo_90, List.forall_mem_cons.mpr ⟨xo_91, List.forall_mem_cons.mpr ⟨xo_92, List.forall_mem_cons.mpr ⟨xo_93, List.forall_mem_cons.mpr ⟨xo_94, List.forall_mem_cons.mpr ⟨xo_95, List.forall_mem_cons.mpr ⟨xo_96, List.forall_mem_cons.mpr ⟨xo_97, List.forall_mem_cons.mpr ⟨xo_98, List.forall_mem_cons.mpr ⟨xo_99, List.forall_mem_cons.mpr ⟨xo_100, List.forall_mem_cons.mpr ⟨xo_101, List.forall_mem_cons.mpr ⟨xo_102, List.forall_mem_cons.mpr ⟨xo_103, List.forall_mem_cons.mpr ⟨xo_104, List.forall_mem_cons.mpr ⟨xo_105, List.forall_mem_cons.mpr ⟨xo_106, List.forall_mem_cons.mpr ⟨xo_107, List.forall_mem_cons.mpr ⟨xo_108, List.forall_mem_cons.mpr ⟨xo_109, List.forall_mem_cons.mpr ⟨xo_110, List.forall_mem_cons.mpr ⟨xo_111, List.forall_mem_cons.mpr ⟨xo_112, List.forall_mem_cons.mpr ⟨xo_113, List.forall_mem_cons.mpr ⟨xo_114, List.forall_mem_cons.mpr ⟨xo_115, List.forall_mem_cons.mpr ⟨xo_116, List.forall_mem_cons.mpr ⟨xo_117, List.forall_mem_cons.mpr ⟨xo_118, List.forall_mem_cons.mpr ⟨xo_119, List.forall_mem_cons.mpr ⟨xo_120, List.forall_mem_cons.mpr ⟨xo_121, List.forall_mem_cons.mpr ⟨xo_122, List.forall_mem_cons.mpr ⟨xo_123, List.forall_mem_cons.mpr ⟨xo_124, List.forall_mem_cons.mpr ⟨xo_125, List.forall_mem_cons.mpr ⟨xo_126, List.forall_mem_cons.mpr ⟨xo_127, List.forall_mem_cons.mpr ⟨xo_128, List.forall_mem_cons.mpr ⟨xo_129, List.forall_mem_cons.mpr ⟨xo_130, List.forall_mem_cons.mpr ⟨xo_131, List.forall_mem_cons.mpr ⟨xo_132, List.forall_mem_cons.mpr ⟨xo_133, List.forall_mem_cons.mpr ⟨xo_134, List.forall_mem_cons.mpr ⟨xo_135, List.forall_mem_cons.mpr ⟨xo_136, List.forall_mem_cons.mpr ⟨xo_137, List.forall_mem_cons.mpr ⟨xo_138, List.forall_mem_cons.mpr ⟨xo_139, List.forall_mem_cons.mpr ⟨xo_140, List.forall_mem_cons.mpr ⟨xo_141, List.forall_mem_cons.mpr ⟨xo_142, List.forall_mem_cons.mpr ⟨xo_143, List.forall_mem_cons.mpr ⟨xo_144, List.forall_mem_cons.mpr ⟨xo_145, List.forall_mem_cons.mpr ⟨xo_146, List.forall_mem_cons.mpr ⟨xo_147, List.forall_mem_cons.mpr ⟨xo_148, List.forall_mem_cons.mpr ⟨xo_149, List.forall_mem_cons.mpr ⟨xo_150, List.forall_mem_cons.mpr ⟨xo_151, List.forall_mem_cons.mpr ⟨xo_152, List.forall_mem_cons.mpr ⟨xo_153, List.forall_mem_cons.mpr ⟨xo_154, List.forall_mem_cons.mpr ⟨xo_155, List.forall_mem_cons.mpr ⟨xo_156, List.forall_mem_cons.mpr ⟨xo_157, List.forall_mem_cons.mpr ⟨xo_158, List.forall_mem_cons.mpr ⟨xo_159, List.forall_mem_cons.mpr ⟨xo_160, List.forall_mem_cons.mpr ⟨xo_161, List.forall_mem_cons.mpr ⟨xo_162, List.forall_mem_cons.mpr ⟨xo_163, List.forall_mem_cons.mpr ⟨xo_164, List.forall_mem_cons.mpr ⟨xo_165, List.forall_mem_cons.mpr ⟨xo_166, List.forall_mem_cons.mpr ⟨xo_167, List.forall_mem_cons.mpr ⟨xo_168, List.forall_mem_cons.mpr ⟨xo_169, List.forall_mem_cons.mpr ⟨xo_170, List.forall_mem_cons.mpr ⟨xo_171, List.forall_mem_cons.mpr ⟨xo_172, List.forall_mem_cons.mpr ⟨xo_173, List.forall_mem_cons.mpr ⟨xo_174, List.forall_mem_cons.mpr ⟨xo_175, List.forall_mem_cons.mpr ⟨xo_176, List.forall_mem_cons.mpr ⟨xo_177, List.forall_mem_cons.mpr ⟨xo_178, List.forall_mem_cons.mpr ⟨xo_179, List.forall_mem_cons.mpr ⟨xo_180, List.forall_mem_cons.mpr ⟨xo_181, List.forall_mem_cons.mpr ⟨xo_182, List.forall_mem_cons.mpr ⟨xo_183, List.forall_mem_cons.mpr ⟨xo_184, List.forall_mem_cons.mpr ⟨xo_185, List.forall_mem_cons.mpr ⟨xo_186, List.forall_mem_cons.mpr ⟨xo_187, List.forall_mem_cons.mpr ⟨xo_188, List.forall_mem_cons.mpr ⟨xo_189, List.forall_mem_cons.mpr ⟨xo_190, List.forall_mem_cons.mpr ⟨xo_191, List.forall_mem_cons.mpr ⟨xo_192, List.forall_mem_cons.mpr ⟨xo_193, List.forall_mem_cons.mpr ⟨xo_194, List.forall_mem_cons.mpr ⟨xo_195, List.forall_mem_cons.mpr ⟨xo_196, List.forall_mem_cons.mpr ⟨xo_197, List.forall_mem_cons.mpr ⟨xo_198, List.forall_mem_cons.mpr ⟨xo_199, List.forall_mem_cons.mpr ⟨xo_200, List.forall_mem_cons.mpr ⟨xo_201, List.forall_mem_cons.mpr ⟨xo_202, List.forall_mem_cons.mpr ⟨xo_203, List.forall_mem_cons.mpr ⟨xo_204, List.forall_mem_cons.mpr ⟨xo_205, List.forall_mem_cons.mpr ⟨xo_206, List.forall_mem_cons.mpr ⟨xo_207, List.forall_mem_cons.mpr ⟨xo_208, List.forall_mem_cons.mpr ⟨xo_209, List.forall_mem_cons.mpr ⟨xo_210, List.forall_mem_cons.mpr ⟨xo_211, List.forall_mem_cons.mpr ⟨xo_212, List.forall_mem_cons.mpr ⟨xo_213, List.forall_mem_cons.mpr ⟨xo_214, List.forall_mem_cons.mpr ⟨xo_215, List.forall_mem_cons.mpr ⟨xo_216, List.forall_mem_cons.mpr ⟨xo_217, List.forall_mem_cons.mpr ⟨xo_218, List.forall_mem_cons.mpr ⟨xo_219, List.forall_mem_cons.mpr ⟨xo_220, List.forall_mem_cons.mpr ⟨xo_221, List.forall_mem_cons.mpr ⟨xo_222, List.forall_mem_cons.mpr ⟨xo_223, List.forall_mem_cons.mpr ⟨xo_224, List.forall_mem_cons.mpr ⟨xo_225, List.forall_mem_cons.mpr ⟨xo_226, List.forall_mem_cons.mpr ⟨xo_227, List.forall_mem_cons.mpr ⟨xo_228, List.forall_mem_cons.mpr ⟨xo_229, List.forall_mem_cons.mpr ⟨xo_230, List.forall_mem_cons.mpr ⟨xo_231, List.forall_mem_cons.mpr ⟨xo_232, List.forall_mem_cons.mpr ⟨xo_233, List.forall_mem_cons.mpr ⟨xo_234, List.forall_mem_cons.mpr ⟨xo_235, List.forall_mem_cons.mpr ⟨xo_236, List.forall_mem_cons.mpr ⟨xo_237, List.forall_mem_cons.mpr ⟨xo_238, fun _ h => nomatch h⟩⟩⟩⟩⟩⟩⟩⟩⟩⟩⟩⟩⟩⟩⟩⟩⟩⟩⟩⟩⟩⟩⟩⟩⟩⟩⟩⟩⟩⟩⟩⟩⟩⟩⟩⟩⟩⟩⟩⟩⟩⟩⟩⟩⟩⟩⟩⟩⟩⟩⟩⟩⟩⟩⟩⟩⟩⟩⟩⟩⟩⟩⟩⟩⟩⟩⟩⟩⟩⟩⟩⟩⟩⟩⟩⟩⟩⟩⟩⟩⟩⟩⟩⟩⟩⟩⟩⟩⟩⟩⟩⟩⟩⟩⟩⟩⟩⟩⟩⟩⟩⟩⟩⟩⟩⟩⟩⟩⟩⟩⟩⟩⟩⟩⟩⟩⟩⟩⟩⟩⟩⟩⟩⟩⟩⟩⟩⟩⟩⟩⟩⟩⟩⟩⟩⟩⟩⟩⟩⟩⟩⟩⟩⟩⟩⟩⟩⟩⟩⟩⟩⟩⟩⟩⟩⟩⟩⟩⟩⟩⟩⟩⟩⟩⟩⟩⟩⟩⟩⟩⟩⟩⟩⟩⟩⟩⟩⟩⟩⟩⟩⟩⟩⟩⟩⟩⟩⟩⟩⟩⟩⟩⟩⟩⟩⟩⟩⟩⟩⟩⟩⟩⟩⟩⟩⟩⟩⟩⟩⟩⟩⟩⟩⟩⟩⟩⟩⟩⟩⟩⟩⟩⟩⟩⟩⟩⟩⟩⟩⟩⟩⟩⟩⟩⟩⟩⟩⟩⟩) me h2
