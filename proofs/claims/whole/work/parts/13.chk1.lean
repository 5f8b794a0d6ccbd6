/-! THE TABLES HOLD, part 1: every instruction is the machine's, every callee has its words. -/
def xcp (me : xMe) (a n : Nat) : Bool := (List.range' a n).all (fun pc => match (xmI me)[pc]? with
  | none => true
  | some q => xchk xtab 239 me pc q)
theorem xcp_nil (me : xMe) (a : Nat) : xcp me a 0 = true := rfl
theorem xcp_app {me : xMe} {a n b k m : Nat} (h1 : xcp me a n = true) (h2 : xcp me b k = true) (hb : b = a + n) (hm : m = n + k) : xcp me a m = true := by
  subst hb
  subst hm
  unfold xcp at *
  rw [← List.range'_append_1, List.all_append, h1, h2]
  rfl
theorem xcp_ok {me : xMe} {n : Nat} (h : xcp me 0 n = true) (hn : (xmI me).length = n) : xcok xtab 239 me = true := by
  subst hn
  unfold xcp at h
  unfold xcok
  rw [List.range_eq_range']
  exact h
def xcP (y : Nat) : Prop := ∀ me : xMe, xtab[y]? = some me → xcok xtab 239 me = true
theorem xq_0_0 : xcp xm_0 0 20 = true := by decide +kernel
theorem xc_0 : xcP 0 := fun me h => by
  cases h
  exact xcp_ok (me := xm_0) (n := 20) (xq_0_0) (by decide +kernel)
theorem xq_1_0 : xcp xm_1 0 120 = true := by decide +kernel
theorem xq_1_1 : xcp xm_1 120 16 = true := by decide +kernel
theorem xc_1 : xcP 1 := fun me h => by
  cases h
  exact xcp_ok (me := xm_1) (n := 136) (xcp_app (a := 0) (n := 120) (b := 120) (k := 16) (m := 136) (xq_1_0) xq_1_1 (by decide) (by decide)) (by decide +kernel)
theorem xq_2_0 : xcp xm_2 0 68 = true := by decide +kernel
theorem xc_2 : xcP 2 := fun me h => by
  cases h
  exact xcp_ok (me := xm_2) (n := 68) (xq_2_0) (by decide +kernel)
theorem xq_3_0 : xcp xm_3 0 99 = true := by decide +kernel
theorem xc_3 : xcP 3 := fun me h => by
  cases h
  exact xcp_ok (me := xm_3) (n := 99) (xq_3_0) (by decide +kernel)
theorem xq_4_0 : xcp xm_4 0 120 = true := by decide +kernel
theorem xq_4_1 : xcp xm_4 120 58 = true := by decide +kernel
theorem xc_4 : xcP 4 := fun me h => by
  cases h
  exact xcp_ok (me := xm_4) (n := 178) (xcp_app (a := 0) (n := 120) (b := 120) (k := 58) (m := 178) (xq_4_0) xq_4_1 (by decide) (by decide)) (by decide +kernel)
theorem xq_5_0 : xcp xm_5 0 97 = true := by decide +kernel
theorem xc_5 : xcP 5 := fun me h => by
  cases h
  exact xcp_ok (me := xm_5) (n := 97) (xq_5_0) (by decide +kernel)
theorem xq_6_0 : xcp xm_6 0 120 = true := by decide +kernel
theorem xq_6_1 : xcp xm_6 120 20 = true := by decide +kernel
theorem xc_6 : xcP 6 := fun me h => by
  cases h
  exact xcp_ok (me := xm_6) (n := 140) (xcp_app (a := 0) (n := 120) (b := 120) (k := 20) (m := 140) (xq_6_0) xq_6_1 (by decide) (by decide)) (by decide +kernel)
theorem xq_7_0 : xcp xm_7 0 52 = true := by decide +kernel
theorem xc_7 : xcP 7 := fun me h => by
  cases h
  exact xcp_ok (me := xm_7) (n := 52) (xq_7_0) (by decide +kernel)
theorem xq_8_0 : xcp xm_8 0 27 = true := by decide +kernel
theorem xc_8 : xcP 8 := fun me h => by
  cases h
  exact xcp_ok (me := xm_8) (n := 27) (xq_8_0) (by decide +kernel)
theorem xq_9_0 : xcp xm_9 0 50 = true := by decide +kernel
theorem xc_9 : xcP 9 := fun me h => by
  cases h
  exact xcp_ok (me := xm_9) (n := 50) (xq_9_0) (by decide +kernel)
theorem xq_10_0 : xcp xm_10 0 40 = true := by decide +kernel
theorem xc_10 : xcP 10 := fun me h => by
  cases h
  exact xcp_ok (me := xm_10) (n := 40) (xq_10_0) (by decide +kernel)
theorem xq_11_0 : xcp xm_11 0 8 = true := by decide +kernel
theorem xc_11 : xcP 11 := fun me h => by
  cases h
  exact xcp_ok (me := xm_11) (n := 8) (xq_11_0) (by decide +kernel)
theorem xq_12_0 : xcp xm_12 0 20 = true := by decide +kernel
theorem xc_12 : xcP 12 := fun me h => by
  cases h
  exact xcp_ok (me := xm_12) (n := 20) (xq_12_0) (by decide +kernel)
theorem xq_13_0 : xcp xm_13 0 14 = true := by decide +kernel
theorem xc_13 : xcP 13 := fun me h => by
  cases h
  exact xcp_ok (me := xm_13) (n := 14) (xq_13_0) (by decide +kernel)
theorem xq_14_0 : xcp xm_14 0 68 = true := by decide +kernel
theorem xc_14 : xcP 14 := fun me h => by
  cases h
  exact xcp_ok (me := xm_14) (n := 68) (xq_14_0) (by decide +kernel)
theorem xq_15_0 : xcp xm_15 0 59 = true := by decide +kernel
theorem xc_15 : xcP 15 := fun me h => by
  cases h
  exact xcp_ok (me := xm_15) (n := 59) (xq_15_0) (by decide +kernel)
theorem xq_16_0 : xcp xm_16 0 38 = true := by decide +kernel
theorem xc_16 : xcP 16 := fun me h => by
  cases h
  exact xcp_ok (me := xm_16) (n := 38) (xq_16_0) (by decide +kernel)
theorem xq_17_0 : xcp xm_17 0 66 = true := by decide +kernel
theorem xc_17 : xcP 17 := fun me h => by
  cases h
  exact xcp_ok (me := xm_17) (n := 66) (xq_17_0) (by decide +kernel)
theorem xq_18_0 : xcp xm_18 0 35 = true := by decide +kernel
theorem xc_18 : xcP 18 := fun me h => by
  cases h
  exact xcp_ok (me := xm_18) (n := 35) (xq_18_0) (by decide +kernel)
theorem xq_19_0 : xcp xm_19 0 30 = true := by decide +kernel
theorem xc_19 : xcP 19 := fun me h => by
  cases h
  exact xcp_ok (me := xm_19) (n := 30) (xq_19_0) (by decide +kernel)
theorem xq_20_0 : xcp xm_20 0 66 = true := by decide +kernel
theorem xc_20 : xcP 20 := fun me h => by
  cases h
  exact xcp_ok (me := xm_20) (n := 66) (xq_20_0) (by decide +kernel)
theorem xq_21_0 : xcp xm_21 0 40 = true := by decide +kernel
theorem xc_21 : xcP 21 := fun me h => by
  cases h
  exact xcp_ok (me := xm_21) (n := 40) (xq_21_0) (by decide +kernel)
theorem xq_22_0 : xcp xm_22 0 59 = true := by decide +kernel
theorem xc_22 : xcP 22 := fun me h => by
  cases h
  exact xcp_ok (me := xm_22) (n := 59) (xq_22_0) (by decide +kernel)
theorem xq_23_0 : xcp xm_23 0 77 = true := by decide +kernel
theorem xc_23 : xcP 23 := fun me h => by
  cases h
  exact xcp_ok (me := xm_23) (n := 77) (xq_23_0) (by decide +kernel)
theorem xq_24_0 : xcp xm_24 0 52 = true := by decide +kernel
theorem xc_24 : xcP 24 := fun me h => by
  cases h
  exact xcp_ok (me := xm_24) (n := 52) (xq_24_0) (by decide +kernel)
theorem xq_25_0 : xcp xm_25 0 96 = true := by decide +kernel
theorem xc_25 : xcP 25 := fun me h => by
  cases h
  exact xcp_ok (me := xm_25) (n := 96) (xq_25_0) (by decide +kernel)
theorem xq_26_0 : xcp xm_26 0 118 = true := by decide +kernel
theorem xc_26 : xcP 26 := fun me h => by
  cases h
  exact xcp_ok (me := xm_26) (n := 118) (xq_26_0) (by decide +kernel)
theorem xq_27_0 : xcp xm_27 0 37 = true := by decide +kernel
theorem xc_27 : xcP 27 := fun me h => by
  cases h
  exact xcp_ok (me := xm_27) (n := 37) (xq_27_0) (by decide +kernel)
theorem xq_28_0 : xcp xm_28 0 37 = true := by decide +kernel
theorem xc_28 : xcP 28 := fun me h => by
  cases h
  exact xcp_ok (me := xm_28) (n := 37) (xq_28_0) (by decide +kernel)
theorem xq_29_0 : xcp xm_29 0 45 = true := by decide +kernel
theorem xc_29 : xcP 29 := fun me h => by
  cases h
  exact xcp_ok (me := xm_29) (n := 45) (xq_29_0) (by decide +kernel)
theorem xq_30_0 : xcp xm_30 0 44 = true := by decide +kernel
theorem xc_30 : xcP 30 := fun me h => by
  cases h
  exact xcp_ok (me := xm_30) (n := 44) (xq_30_0) (by decide +kernel)
theorem xq_31_0 : xcp xm_31 0 45 = true := by decide +kernel
theorem xc_31 : xcP 31 := fun me h => by
  cases h
  exact xcp_ok (me := xm_31) (n := 45) (xq_31_0) (by decide +kernel)
theorem xq_32_0 : xcp xm_32 0 65 = true := by decide +kernel
theorem xc_32 : xcP 32 := fun me h => by
  cases h
  exact xcp_ok (me := xm_32) (n := 65) (xq_32_0) (by decide +kernel)
theorem xq_33_0 : xcp xm_33 0 45 = true := by decide +kernel
theorem xc_33 : xcP 33 := fun me h => by
  cases h
  exact xcp_ok (me := xm_33) (n := 45) (xq_33_0) (by decide +kernel)
theorem xq_34_0 : xcp xm_34 0 43 = true := by decide +kernel
theorem xc_34 : xcP 34 := fun me h => by
  cases h
  exact xcp_ok (me := xm_34) (n := 43) (xq_34_0) (by decide +kernel)
theorem xq_35_0 : xcp xm_35 0 50 = true := by decide +kernel
theorem xc_35 : xcP 35 := fun me h => by
  cases h
  exact xcp_ok (me := xm_35) (n := 50) (xq_35_0) (by decide +kernel)
theorem xq_36_0 : xcp xm_36 0 29 = true := by decide +kernel
theorem xc_36 : xcP 36 := fun me h => by
  cases h
  exact xcp_ok (me := xm_36) (n := 29) (xq_36_0) (by decide +kernel)
theorem xq_37_0 : xcp xm_37 0 55 = true := by decide +kernel
theorem xc_37 : xcP 37 := fun me h => by
  cases h
  exact xcp_ok (me := xm_37) (n := 55) (xq_37_0) (by decide +kernel)
theorem xq_38_0 : xcp xm_38 0 35 = true := by decide +kernel
theorem xc_38 : xcP 38 := fun me h => by
  cases h
  exact xcp_ok (me := xm_38) (n := 35) (xq_38_0) (by decide +kernel)
theorem xq_39_0 : xcp xm_39 0 52 = true := by decide +kernel
theorem xc_39 : xcP 39 := fun me h => by
  cases h
  exact xcp_ok (me := xm_39) (n := 52) (xq_39_0) (by decide +kernel)
theorem xq_40_0 : xcp xm_40 0 120 = true := by decide +kernel
theorem xq_40_1 : xcp xm_40 120 81 = true := by decide +kernel
theorem xc_40 : xcP 40 := fun me h => by
  cases h
  exact xcp_ok (me := xm_40) (n := 201) (xcp_app (a := 0) (n := 120) (b := 120) (k := 81) (m := 201) (xq_40_0) xq_40_1 (by decide) (by decide)) (by decide +kernel)
theorem xq_41_0 : xcp xm_41 0 45 = true := by decide +kernel
theorem xc_41 : xcP 41 := fun me h => by
  cases h
  exact xcp_ok (me := xm_41) (n := 45) (xq_41_0) (by decide +kernel)
theorem xq_42_0 : xcp xm_42 0 27 = true := by decide +kernel
theorem xc_42 : xcP 42 := fun me h => by
  cases h
  exact xcp_ok (me := xm_42) (n := 27) (xq_42_0) (by decide +kernel)
theorem xq_43_0 : xcp xm_43 0 27 = true := by decide +kernel
theorem xc_43 : xcP 43 := fun me h => by
  cases h
  exact xcp_ok (me := xm_43) (n := 27) (xq_43_0) (by decide +kernel)
theorem xq_44_0 : xcp xm_44 0 34 = true := by decide +kernel
theorem xc_44 : xcP 44 := fun me h => by
  cases h
  exact xcp_ok (me := xm_44) (n := 34) (xq_44_0) (by decide +kernel)
theorem xq_45_0 : xcp xm_45 0 22 = true := by decide +kernel
theorem xc_45 : xcP 45 := fun me h => by
  cases h
  exact xcp_ok (me := xm_45) (n := 22) (xq_45_0) (by decide +kernel)
theorem xq_46_0 : xcp xm_46 0 27 = true := by decide +kernel
theorem xc_46 : xcP 46 := fun me h => by
  cases h
  exact xcp_ok (me := xm_46) (n := 27) (xq_46_0) (by decide +kernel)
theorem xq_47_0 : xcp xm_47 0 24 = true := by decide +kernel
theorem xc_47 : xcP 47 := fun me h => by
  cases h
  exact xcp_ok (me := xm_47) (n := 24) (xq_47_0) (by decide +kernel)
theorem xq_48_0 : xcp xm_48 0 9 = true := by decide +kernel
theorem xc_48 : xcP 48 := fun me h => by
  cases h
  exact xcp_ok (me := xm_48) (n := 9) (xq_48_0) (by decide +kernel)
theorem xq_49_0 : xcp xm_49 0 120 = true := by decide +kernel
theorem xq_49_1 : xcp xm_49 120 59 = true := by decide +kernel
theorem xc_49 : xcP 49 := fun me h => by
  cases h
  exact xcp_ok (me := xm_49) (n := 179) (xcp_app (a := 0) (n := 120) (b := 120) (k := 59) (m := 179) (xq_49_0) xq_49_1 (by decide) (by decide)) (by decide +kernel)
theorem xq_50_0 : xcp xm_50 0 5 = true := by decide +kernel
theorem xc_50 : xcP 50 := fun me h => by
  cases h
  exact xcp_ok (me := xm_50) (n := 5) (xq_50_0) (by decide +kernel)
theorem xq_51_0 : xcp xm_51 0 19 = true := by decide +kernel
theorem xc_51 : xcP 51 := fun me h => by
  cases h
  exact xcp_ok (me := xm_51) (n := 19) (xq_51_0) (by decide +kernel)
theorem xq_52_0 : xcp xm_52 0 15 = true := by decide +kernel
theorem xc_52 : xcP 52 := fun me h => by
  cases h
  exact xcp_ok (me := xm_52) (n := 15) (xq_52_0) (by decide +kernel)
theorem xq_53_0 : xcp xm_53 0 29 = true := by decide +kernel
theorem xc_53 : xcP 53 := fun me h => by
  cases h
  exact xcp_ok (me := xm_53) (n := 29) (xq_53_0) (by decide +kernel)
theorem xq_54_0 : xcp xm_54 0 30 = true := by decide +kernel
theorem xc_54 : xcP 54 := fun me h => by
  cases h
  exact xcp_ok (me := xm_54) (n := 30) (xq_54_0) (by decide +kernel)
theorem xq_55_0 : xcp xm_55 0 29 = true := by decide +kernel
theorem xc_55 : xcP 55 := fun me h => by
  cases h
  exact xcp_ok (me := xm_55) (n := 29) (xq_55_0) (by decide +kernel)
theorem xq_56_0 : xcp xm_56 0 120 = true := by decide +kernel
theorem xq_56_1 : xcp xm_56 120 9 = true := by decide +kernel
theorem xc_56 : xcP 56 := fun me h => by
  cases h
  exact xcp_ok (me := xm_56) (n := 129) (xcp_app (a := 0) (n := 120) (b := 120) (k := 9) (m := 129) (xq_56_0) xq_56_1 (by decide) (by decide)) (by decide +kernel)
theorem xq_57_0 : xcp xm_57 0 27 = true := by decide +kernel
theorem xc_57 : xcP 57 := fun me h => by
  cases h
  exact xcp_ok (me := xm_57) (n := 27) (xq_57_0) (by decide +kernel)
theorem xq_58_0 : xcp xm_58 0 27 = true := by decide +kernel
theorem xc_58 : xcP 58 := fun me h => by
  cases h
  exact xcp_ok (me := xm_58) (n := 27) (xq_58_0) (by decide +kernel)
theorem xq_59_0 : xcp xm_59 0 14 = true := by decide +kernel
theorem xc_59 : xcP 59 := fun me h => by
  cases h
  exact xcp_ok (me := xm_59) (n := 14) (xq_59_0) (by decide +kernel)
theorem xq_60_0 : xcp xm_60 0 15 = true := by decide +kernel
theorem xc_60 : xcP 60 := fun me h => by
  cases h
  exact xcp_ok (me := xm_60) (n := 15) (xq_60_0) (by decide +kernel)
theorem xq_61_0 : xcp xm_61 0 15 = true := by decide +kernel
theorem xc_61 : xcP 61 := fun me h => by
  cases h
  exact xcp_ok (me := xm_61) (n := 15) (xq_61_0) (by decide +kernel)
theorem xq_62_0 : xcp xm_62 0 16 = true := by decide +kernel
theorem xc_62 : xcP 62 := fun me h => by
  cases h
  exact xcp_ok (me := xm_62) (n := 16) (xq_62_0) (by decide +kernel)
theorem xq_63_0 : xcp xm_63 0 16 = true := by decide +kernel
theorem xc_63 : xcP 63 := fun me h => by
  cases h
  exact xcp_ok (me := xm_63) (n := 16) (xq_63_0) (by decide +kernel)
theorem xq_64_0 : xcp xm_64 0 17 = true := by decide +kernel
theorem xc_64 : xcP 64 := fun me h => by
  cases h
  exact xcp_ok (me := xm_64) (n := 17) (xq_64_0) (by decide +kernel)
theorem xq_65_0 : xcp xm_65 0 12 = true := by decide +kernel
theorem xc_65 : xcP 65 := fun me h => by
  cases h
  exact xcp_ok (me := xm_65) (n := 12) (xq_65_0) (by decide +kernel)
theorem xq_66_0 : xcp xm_66 0 17 = true := by decide +kernel
theorem xc_66 : xcP 66 := fun me h => by
  cases h
  exact xcp_ok (me := xm_66) (n := 17) (xq_66_0) (by decide +kernel)
theorem xq_67_0 : xcp xm_67 0 16 = true := by decide +kernel
theorem xc_67 : xcP 67 := fun me h => by
  cases h
  exact xcp_ok (me := xm_67) (n := 16) (xq_67_0) (by decide +kernel)
theorem xq_68_0 : xcp xm_68 0 16 = true := by decide +kernel
theorem xc_68 : xcP 68 := fun me h => by
  cases h
  exact xcp_ok (me := xm_68) (n := 16) (xq_68_0) (by decide +kernel)
theorem xq_69_0 : xcp xm_69 0 40 = true := by decide +kernel
theorem xc_69 : xcP 69 := fun me h => by
  cases h
  exact xcp_ok (me := xm_69) (n := 40) (xq_69_0) (by decide +kernel)
theorem xq_70_0 : xcp xm_70 0 52 = true := by decide +kernel
theorem xc_70 : xcP 70 := fun me h => by
  cases h
  exact xcp_ok (me := xm_70) (n := 52) (xq_70_0) (by decide +kernel)
theorem xq_71_0 : xcp xm_71 0 19 = true := by decide +kernel
theorem xc_71 : xcP 71 := fun me h => by
  cases h
  exact xcp_ok (me := xm_71) (n := 19) (xq_71_0) (by decide +kernel)
theorem xq_72_0 : xcp xm_72 0 110 = true := by decide +kernel
theorem xc_72 : xcP 72 := fun me h => by
  cases h
  exact xcp_ok (me := xm_72) (n := 110) (xq_72_0) (by decide +kernel)
theorem xq_73_0 : xcp xm_73 0 105 = true := by decide +kernel
theorem xc_73 : xcP 73 := fun me h => by
  cases h
  exact xcp_ok (me := xm_73) (n := 105) (xq_73_0) (by decide +kernel)
theorem xq_74_0 : xcp xm_74 0 120 = true := by decide +kernel
theorem xq_74_1 : xcp xm_74 120 17 = true := by decide +kernel
theorem xc_74 : xcP 74 := fun me h => by
  cases h
  exact xcp_ok (me := xm_74) (n := 137) (xcp_app (a := 0) (n := 120) (b := 120) (k := 17) (m := 137) (xq_74_0) xq_74_1 (by decide) (by decide)) (by decide +kernel)
