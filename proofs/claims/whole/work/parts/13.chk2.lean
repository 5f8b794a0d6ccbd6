/-! THE TABLES HOLD, part 2: every instruction is the machine's, every callee has its words. -/
theorem xq_75_0 : xcp xm_75 0 13 = true := by decide +kernel
theorem xc_75 : xcP 75 := fun me h => by
  cases h
  exact xcp_ok (me := xm_75) (n := 13) (xq_75_0) (by decide +kernel)
theorem xq_76_0 : xcp xm_76 0 25 = true := by decide +kernel
theorem xc_76 : xcP 76 := fun me h => by
  cases h
  exact xcp_ok (me := xm_76) (n := 25) (xq_76_0) (by decide +kernel)
theorem xq_77_0 : xcp xm_77 0 12 = true := by decide +kernel
theorem xc_77 : xcP 77 := fun me h => by
  cases h
  exact xcp_ok (me := xm_77) (n := 12) (xq_77_0) (by decide +kernel)
theorem xq_78_0 : xcp xm_78 0 72 = true := by decide +kernel
theorem xc_78 : xcP 78 := fun me h => by
  cases h
  exact xcp_ok (me := xm_78) (n := 72) (xq_78_0) (by decide +kernel)
theorem xq_79_0 : xcp xm_79 0 57 = true := by decide +kernel
theorem xc_79 : xcP 79 := fun me h => by
  cases h
  exact xcp_ok (me := xm_79) (n := 57) (xq_79_0) (by decide +kernel)
theorem xq_80_0 : xcp xm_80 0 23 = true := by decide +kernel
theorem xc_80 : xcP 80 := fun me h => by
  cases h
  exact xcp_ok (me := xm_80) (n := 23) (xq_80_0) (by decide +kernel)
theorem xq_81_0 : xcp xm_81 0 33 = true := by decide +kernel
theorem xc_81 : xcP 81 := fun me h => by
  cases h
  exact xcp_ok (me := xm_81) (n := 33) (xq_81_0) (by decide +kernel)
theorem xq_82_0 : xcp xm_82 0 91 = true := by decide +kernel
theorem xc_82 : xcP 82 := fun me h => by
  cases h
  exact xcp_ok (me := xm_82) (n := 91) (xq_82_0) (by decide +kernel)
theorem xq_83_0 : xcp xm_83 0 120 = true := by decide +kernel
theorem xq_83_1 : xcp xm_83 120 32 = true := by decide +kernel
theorem xc_83 : xcP 83 := fun me h => by
  cases h
  exact xcp_ok (me := xm_83) (n := 152) (xcp_app (a := 0) (n := 120) (b := 120) (k := 32) (m := 152) (xq_83_0) xq_83_1 (by decide) (by decide)) (by decide +kernel)
theorem xq_84_0 : xcp xm_84 0 54 = true := by decide +kernel
theorem xc_84 : xcP 84 := fun me h => by
  cases h
  exact xcp_ok (me := xm_84) (n := 54) (xq_84_0) (by decide +kernel)
theorem xq_85_0 : xcp xm_85 0 120 = true := by decide +kernel
theorem xq_85_1 : xcp xm_85 120 120 = true := by decide +kernel
theorem xq_85_2 : xcp xm_85 240 120 = true := by decide +kernel
theorem xq_85_3 : xcp xm_85 360 2 = true := by decide +kernel
theorem xc_85 : xcP 85 := fun me h => by
  cases h
  exact xcp_ok (me := xm_85) (n := 362) (xcp_app (a := 0) (n := 360) (b := 360) (k := 2) (m := 362) (xcp_app (a := 0) (n := 240) (b := 240) (k := 120) (m := 360) (xcp_app (a := 0) (n := 120) (b := 120) (k := 120) (m := 240) (xq_85_0) xq_85_1 (by decide) (by decide)) xq_85_2 (by decide) (by decide)) xq_85_3 (by decide) (by decide)) (by decide +kernel)
theorem xq_86_0 : xcp xm_86 0 112 = true := by decide +kernel
theorem xc_86 : xcP 86 := fun me h => by
  cases h
  exact xcp_ok (me := xm_86) (n := 112) (xq_86_0) (by decide +kernel)
theorem xq_87_0 : xcp xm_87 0 52 = true := by decide +kernel
theorem xc_87 : xcP 87 := fun me h => by
  cases h
  exact xcp_ok (me := xm_87) (n := 52) (xq_87_0) (by decide +kernel)
theorem xq_88_0 : xcp xm_88 0 120 = true := by decide +kernel
theorem xq_88_1 : xcp xm_88 120 75 = true := by decide +kernel
theorem xc_88 : xcP 88 := fun me h => by
  cases h
  exact xcp_ok (me := xm_88) (n := 195) (xcp_app (a := 0) (n := 120) (b := 120) (k := 75) (m := 195) (xq_88_0) xq_88_1 (by decide) (by decide)) (by decide +kernel)
theorem xq_89_0 : xcp xm_89 0 120 = true := by decide +kernel
theorem xq_89_1 : xcp xm_89 120 78 = true := by decide +kernel
theorem xc_89 : xcP 89 := fun me h => by
  cases h
  exact xcp_ok (me := xm_89) (n := 198) (xcp_app (a := 0) (n := 120) (b := 120) (k := 78) (m := 198) (xq_89_0) xq_89_1 (by decide) (by decide)) (by decide +kernel)
theorem xq_90_0 : xcp xm_90 0 79 = true := by decide +kernel
theorem xc_90 : xcP 90 := fun me h => by
  cases h
  exact xcp_ok (me := xm_90) (n := 79) (xq_90_0) (by decide +kernel)
theorem xq_91_0 : xcp xm_91 0 31 = true := by decide +kernel
theorem xc_91 : xcP 91 := fun me h => by
  cases h
  exact xcp_ok (me := xm_91) (n := 31) (xq_91_0) (by decide +kernel)
theorem xq_92_0 : xcp xm_92 0 24 = true := by decide +kernel
theorem xc_92 : xcP 92 := fun me h => by
  cases h
  exact xcp_ok (me := xm_92) (n := 24) (xq_92_0) (by decide +kernel)
theorem xq_93_0 : xcp xm_93 0 44 = true := by decide +kernel
theorem xc_93 : xcP 93 := fun me h => by
  cases h
  exact xcp_ok (me := xm_93) (n := 44) (xq_93_0) (by decide +kernel)
theorem xq_94_0 : xcp xm_94 0 120 = true := by decide +kernel
theorem xq_94_1 : xcp xm_94 120 44 = true := by decide +kernel
theorem xc_94 : xcP 94 := fun me h => by
  cases h
  exact xcp_ok (me := xm_94) (n := 164) (xcp_app (a := 0) (n := 120) (b := 120) (k := 44) (m := 164) (xq_94_0) xq_94_1 (by decide) (by decide)) (by decide +kernel)
theorem xq_95_0 : xcp xm_95 0 49 = true := by decide +kernel
theorem xc_95 : xcP 95 := fun me h => by
  cases h
  exact xcp_ok (me := xm_95) (n := 49) (xq_95_0) (by decide +kernel)
theorem xq_96_0 : xcp xm_96 0 87 = true := by decide +kernel
theorem xc_96 : xcP 96 := fun me h => by
  cases h
  exact xcp_ok (me := xm_96) (n := 87) (xq_96_0) (by decide +kernel)
theorem xq_97_0 : xcp xm_97 0 52 = true := by decide +kernel
theorem xc_97 : xcP 97 := fun me h => by
  cases h
  exact xcp_ok (me := xm_97) (n := 52) (xq_97_0) (by decide +kernel)
theorem xq_98_0 : xcp xm_98 0 110 = true := by decide +kernel
theorem xc_98 : xcP 98 := fun me h => by
  cases h
  exact xcp_ok (me := xm_98) (n := 110) (xq_98_0) (by decide +kernel)
theorem xq_99_0 : xcp xm_99 0 120 = true := by decide +kernel
theorem xq_99_1 : xcp xm_99 120 102 = true := by decide +kernel
theorem xc_99 : xcP 99 := fun me h => by
  cases h
  exact xcp_ok (me := xm_99) (n := 222) (xcp_app (a := 0) (n := 120) (b := 120) (k := 102) (m := 222) (xq_99_0) xq_99_1 (by decide) (by decide)) (by decide +kernel)
theorem xq_100_0 : xcp xm_100 0 66 = true := by decide +kernel
theorem xc_100 : xcP 100 := fun me h => by
  cases h
  exact xcp_ok (me := xm_100) (n := 66) (xq_100_0) (by decide +kernel)
theorem xq_101_0 : xcp xm_101 0 120 = true := by decide +kernel
theorem xq_101_1 : xcp xm_101 120 120 = true := by decide +kernel
theorem xq_101_2 : xcp xm_101 240 5 = true := by decide +kernel
theorem xc_101 : xcP 101 := fun me h => by
  cases h
  exact xcp_ok (me := xm_101) (n := 245) (xcp_app (a := 0) (n := 240) (b := 240) (k := 5) (m := 245) (xcp_app (a := 0) (n := 120) (b := 120) (k := 120) (m := 240) (xq_101_0) xq_101_1 (by decide) (by decide)) xq_101_2 (by decide) (by decide)) (by decide +kernel)
theorem xq_102_0 : xcp xm_102 0 24 = true := by decide +kernel
theorem xc_102 : xcP 102 := fun me h => by
  cases h
  exact xcp_ok (me := xm_102) (n := 24) (xq_102_0) (by decide +kernel)
theorem xq_103_0 : xcp xm_103 0 16 = true := by decide +kernel
theorem xc_103 : xcP 103 := fun me h => by
  cases h
  exact xcp_ok (me := xm_103) (n := 16) (xq_103_0) (by decide +kernel)
theorem xq_104_0 : xcp xm_104 0 74 = true := by decide +kernel
theorem xc_104 : xcP 104 := fun me h => by
  cases h
  exact xcp_ok (me := xm_104) (n := 74) (xq_104_0) (by decide +kernel)
theorem xq_105_0 : xcp xm_105 0 34 = true := by decide +kernel
theorem xc_105 : xcP 105 := fun me h => by
  cases h
  exact xcp_ok (me := xm_105) (n := 34) (xq_105_0) (by decide +kernel)
theorem xq_106_0 : xcp xm_106 0 59 = true := by decide +kernel
theorem xc_106 : xcP 106 := fun me h => by
  cases h
  exact xcp_ok (me := xm_106) (n := 59) (xq_106_0) (by decide +kernel)
theorem xq_107_0 : xcp xm_107 0 77 = true := by decide +kernel
theorem xc_107 : xcP 107 := fun me h => by
  cases h
  exact xcp_ok (me := xm_107) (n := 77) (xq_107_0) (by decide +kernel)
theorem xq_108_0 : xcp xm_108 0 56 = true := by decide +kernel
theorem xc_108 : xcP 108 := fun me h => by
  cases h
  exact xcp_ok (me := xm_108) (n := 56) (xq_108_0) (by decide +kernel)
theorem xq_109_0 : xcp xm_109 0 22 = true := by decide +kernel
theorem xc_109 : xcP 109 := fun me h => by
  cases h
  exact xcp_ok (me := xm_109) (n := 22) (xq_109_0) (by decide +kernel)
theorem xq_110_0 : xcp xm_110 0 37 = true := by decide +kernel
theorem xc_110 : xcP 110 := fun me h => by
  cases h
  exact xcp_ok (me := xm_110) (n := 37) (xq_110_0) (by decide +kernel)
theorem xq_111_0 : xcp xm_111 0 65 = true := by decide +kernel
theorem xc_111 : xcP 111 := fun me h => by
  cases h
  exact xcp_ok (me := xm_111) (n := 65) (xq_111_0) (by decide +kernel)
theorem xq_112_0 : xcp xm_112 0 56 = true := by decide +kernel
theorem xc_112 : xcP 112 := fun me h => by
  cases h
  exact xcp_ok (me := xm_112) (n := 56) (xq_112_0) (by decide +kernel)
theorem xq_113_0 : xcp xm_113 0 60 = true := by decide +kernel
theorem xc_113 : xcP 113 := fun me h => by
  cases h
  exact xcp_ok (me := xm_113) (n := 60) (xq_113_0) (by decide +kernel)
theorem xq_114_0 : xcp xm_114 0 68 = true := by decide +kernel
theorem xc_114 : xcP 114 := fun me h => by
  cases h
  exact xcp_ok (me := xm_114) (n := 68) (xq_114_0) (by decide +kernel)
theorem xq_115_0 : xcp xm_115 0 22 = true := by decide +kernel
theorem xc_115 : xcP 115 := fun me h => by
  cases h
  exact xcp_ok (me := xm_115) (n := 22) (xq_115_0) (by decide +kernel)
theorem xq_116_0 : xcp xm_116 0 28 = true := by decide +kernel
theorem xc_116 : xcP 116 := fun me h => by
  cases h
  exact xcp_ok (me := xm_116) (n := 28) (xq_116_0) (by decide +kernel)
theorem xq_117_0 : xcp xm_117 0 19 = true := by decide +kernel
theorem xc_117 : xcP 117 := fun me h => by
  cases h
  exact xcp_ok (me := xm_117) (n := 19) (xq_117_0) (by decide +kernel)
theorem xq_118_0 : xcp xm_118 0 52 = true := by decide +kernel
theorem xc_118 : xcP 118 := fun me h => by
  cases h
  exact xcp_ok (me := xm_118) (n := 52) (xq_118_0) (by decide +kernel)
theorem xq_119_0 : xcp xm_119 0 22 = true := by decide +kernel
theorem xc_119 : xcP 119 := fun me h => by
  cases h
  exact xcp_ok (me := xm_119) (n := 22) (xq_119_0) (by decide +kernel)
theorem xq_120_0 : xcp xm_120 0 112 = true := by decide +kernel
theorem xc_120 : xcP 120 := fun me h => by
  cases h
  exact xcp_ok (me := xm_120) (n := 112) (xq_120_0) (by decide +kernel)
