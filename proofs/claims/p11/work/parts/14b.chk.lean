/-! every method is as the machine has it: checked by the kernel -/
set_option maxRecDepth 100000 in
theorem mz_okr_32_0 : mz_okR (5, 11, (0, 0, 0), mzc_32) mzt_32 0 60 = true := by decide +kernel
set_option maxRecDepth 100000 in
theorem mz_okr_32_1 : mz_okR (5, 11, (0, 0, 0), mzc_32) mzt_32 60 11 = true := by decide +kernel
set_option maxRecDepth 100000 in
theorem mz_oky_32 : mz_okY (5, 11, (0, 0, 0), mzc_32) mzt_32 = true := by decide +kernel
set_option maxRecDepth 100000 in
theorem mz_okr_33_0 : mz_okR (2, 11, (0, 0, 0), mzc_33) mzt_33 0 22 = true := by decide +kernel
set_option maxRecDepth 100000 in
theorem mz_oky_33 : mz_okY (2, 11, (0, 0, 0), mzc_33) mzt_33 = true := by decide +kernel
set_option maxRecDepth 100000 in
theorem mz_okr_34_0 : mz_okR (2, 11, (0, 0, 0), mzc_34) mzt_34 0 32 = true := by decide +kernel
set_option maxRecDepth 100000 in
theorem mz_oky_34 : mz_okY (2, 11, (0, 0, 0), mzc_34) mzt_34 = true := by decide +kernel
set_option maxRecDepth 100000 in
theorem mz_okr_35_0 : mz_okR (2, 11, (0, 0, 0), mzc_35) mzt_35 0 20 = true := by decide +kernel
set_option maxRecDepth 100000 in
theorem mz_oky_35 : mz_okY (2, 11, (0, 0, 0), mzc_35) mzt_35 = true := by decide +kernel
set_option maxRecDepth 100000 in
theorem mz_okr_36_0 : mz_okR (7, 11, (0, 0, 0), mzc_36) mzt_36 0 60 = true := by decide +kernel
set_option maxRecDepth 100000 in
theorem mz_okr_36_1 : mz_okR (7, 11, (0, 0, 0), mzc_36) mzt_36 60 5 = true := by decide +kernel
set_option maxRecDepth 100000 in
theorem mz_oky_36 : mz_okY (7, 11, (0, 0, 0), mzc_36) mzt_36 = true := by decide +kernel
set_option maxRecDepth 100000 in
theorem mz_okr_37_0 : mz_okR (6, 11, (0, 0, 0), mzc_37) mzt_37 0 43 = true := by decide +kernel
set_option maxRecDepth 100000 in
theorem mz_oky_37 : mz_okY (6, 11, (0, 0, 0), mzc_37) mzt_37 = true := by decide +kernel
set_option maxRecDepth 100000 in
theorem mz_okr_38_0 : mz_okR (5, 11, (0, 0, 0), mzc_38) mzt_38 0 45 = true := by decide +kernel
set_option maxRecDepth 100000 in
theorem mz_oky_38 : mz_okY (5, 11, (0, 0, 0), mzc_38) mzt_38 = true := by decide +kernel
set_option maxRecDepth 100000 in
theorem mz_okr_39_0 : mz_okR (2, 11, (0, 0, 0), mzc_39) mzt_39 0 5 = true := by decide +kernel
set_option maxRecDepth 100000 in
theorem mz_oky_39 : mz_okY (2, 11, (0, 0, 0), mzc_39) mzt_39 = true := by decide +kernel
set_option maxRecDepth 100000 in
theorem mz_okr_40_0 : mz_okR (2, 11, (0, 0, 0), mzc_40) mzt_40 0 11 = true := by decide +kernel
set_option maxRecDepth 100000 in
theorem mz_oky_40 : mz_okY (2, 11, (0, 0, 0), mzc_40) mzt_40 = true := by decide +kernel
set_option maxRecDepth 100000 in
theorem mz_okr_41_0 : mz_okR (2, 11, (0, 0, 0), mzc_41) mzt_41 0 58 = true := by decide +kernel
set_option maxRecDepth 100000 in
theorem mz_oky_41 : mz_okY (2, 11, (0, 0, 0), mzc_41) mzt_41 = true := by decide +kernel
set_option maxRecDepth 100000 in
theorem mz_okr_42_0 : mz_okR (2, 11, (0, 0, 0), mzc_42) mzt_42 0 18 = true := by decide +kernel
set_option maxRecDepth 100000 in
theorem mz_oky_42 : mz_okY (2, 11, (0, 0, 0), mzc_42) mzt_42 = true := by decide +kernel
set_option maxRecDepth 100000 in
theorem mz_okr_43_0 : mz_okR (1, 0, (0, 0, 0), mzc_43) mzt_43 0 9 = true := by decide +kernel
set_option maxRecDepth 100000 in
theorem mz_oky_43 : mz_okY (1, 0, (0, 0, 0), mzc_43) mzt_43 = true := by decide +kernel
set_option maxRecDepth 100000 in
theorem mz_okr_44_0 : mz_okR (1, 0, (0, 0, 0), mzc_44) mzt_44 0 9 = true := by decide +kernel
set_option maxRecDepth 100000 in
theorem mz_oky_44 : mz_okY (1, 0, (0, 0, 0), mzc_44) mzt_44 = true := by decide +kernel
set_option maxRecDepth 100000 in
theorem mz_okr_45_0 : mz_okR (1, 0, (0, 0, 0), mzc_45) mzt_45 0 9 = true := by decide +kernel
set_option maxRecDepth 100000 in
theorem mz_oky_45 : mz_okY (1, 0, (0, 0, 0), mzc_45) mzt_45 = true := by decide +kernel
set_option maxRecDepth 100000 in
theorem mz_okr_46_0 : mz_okR (1, 0, (0, 0, 0), mzc_46) mzt_46 0 10 = true := by decide +kernel
set_option maxRecDepth 100000 in
theorem mz_oky_46 : mz_okY (1, 0, (0, 0, 0), mzc_46) mzt_46 = true := by decide +kernel
set_option maxRecDepth 100000 in
theorem mz_okr_47_0 : mz_okR (1, 0, (0, 0, 0), mzc_47) mzt_47 0 13 = true := by decide +kernel
set_option maxRecDepth 100000 in
theorem mz_oky_47 : mz_okY (1, 0, (0, 0, 0), mzc_47) mzt_47 = true := by decide +kernel
set_option maxRecDepth 100000 in
theorem mz_okr_48_0 : mz_okR (2, 0, (0, 0, 0), mzc_48) mzt_48 0 46 = true := by decide +kernel
set_option maxRecDepth 100000 in
theorem mz_oky_48 : mz_okY (2, 0, (0, 0, 0), mzc_48) mzt_48 = true := by decide +kernel
set_option maxRecDepth 100000 in
theorem mz_okr_49_0 : mz_okR (2, 0, (0, 0, 0), mzc_49) mzt_49 0 13 = true := by decide +kernel
set_option maxRecDepth 100000 in
theorem mz_oky_49 : mz_okY (2, 0, (0, 0, 0), mzc_49) mzt_49 = true := by decide +kernel
set_option maxRecDepth 100000 in
theorem mz_okr_50_0 : mz_okR (2, 11, (0, 0, 0), mzc_50) mzt_50 0 11 = true := by decide +kernel
set_option maxRecDepth 100000 in
theorem mz_oky_50 : mz_okY (2, 11, (0, 0, 0), mzc_50) mzt_50 = true := by decide +kernel
set_option maxRecDepth 100000 in
theorem mz_okr_51_0 : mz_okR (1, 11, (0, 0, 0), mzc_51) mzt_51 0 7 = true := by decide +kernel
set_option maxRecDepth 100000 in
theorem mz_oky_51 : mz_okY (1, 11, (0, 0, 0), mzc_51) mzt_51 = true := by decide +kernel
set_option maxRecDepth 100000 in
theorem mz_okr_52_0 : mz_okR (8, 11, (0, 0, 0), mzc_52) mzt_52 0 43 = true := by decide +kernel
set_option maxRecDepth 100000 in
theorem mz_oky_52 : mz_okY (8, 11, (0, 0, 0), mzc_52) mzt_52 = true := by decide +kernel
set_option maxRecDepth 100000 in
theorem mz_okr_53_0 : mz_okR (4, 11, (0, 0, 0), mzc_53) mzt_53 0 23 = true := by decide +kernel
set_option maxRecDepth 100000 in
theorem mz_oky_53 : mz_okY (4, 11, (0, 0, 0), mzc_53) mzt_53 = true := by decide +kernel
set_option maxRecDepth 100000 in
theorem mz_okr_54_0 : mz_okR (3, 11, (0, 0, 0), mzc_54) mzt_54 0 16 = true := by decide +kernel
set_option maxRecDepth 100000 in
theorem mz_oky_54 : mz_okY (3, 11, (0, 0, 0), mzc_54) mzt_54 = true := by decide +kernel
set_option maxRecDepth 100000 in
theorem mz_okr_55_0 : mz_okR (5, 11, (0, 0, 0), mzc_55) mzt_55 0 25 = true := by decide +kernel
set_option maxRecDepth 100000 in
theorem mz_oky_55 : mz_okY (5, 11, (0, 0, 0), mzc_55) mzt_55 = true := by decide +kernel
set_option maxRecDepth 100000 in
theorem mz_okr_56_0 : mz_okR (4, 11, (0, 0, 0), mzc_56) mzt_56 0 33 = true := by decide +kernel
set_option maxRecDepth 100000 in
theorem mz_oky_56 : mz_okY (4, 11, (0, 0, 0), mzc_56) mzt_56 = true := by decide +kernel
set_option maxRecDepth 100000 in
theorem mz_okr_57_0 : mz_okR (3, 11, (0, 0, 0), mzc_57) mzt_57 0 38 = true := by decide +kernel
set_option maxRecDepth 100000 in
theorem mz_oky_57 : mz_okY (3, 11, (0, 0, 0), mzc_57) mzt_57 = true := by decide +kernel
set_option maxRecDepth 100000 in
theorem mz_okr_58_0 : mz_okR (2, 11, (0, 0, 0), mzc_58) mzt_58 0 60 = true := by decide +kernel
set_option maxRecDepth 100000 in
theorem mz_okr_58_1 : mz_okR (2, 11, (0, 0, 0), mzc_58) mzt_58 60 6 = true := by decide +kernel
set_option maxRecDepth 100000 in
theorem mz_oky_58 : mz_okY (2, 11, (0, 0, 0), mzc_58) mzt_58 = true := by decide +kernel
set_option maxRecDepth 100000 in
theorem mz_okr_59_0 : mz_okR (3, 11, (0, 0, 0), mzc_59) mzt_59 0 24 = true := by decide +kernel
set_option maxRecDepth 100000 in
theorem mz_oky_59 : mz_okY (3, 11, (0, 0, 0), mzc_59) mzt_59 = true := by decide +kernel
set_option maxRecDepth 100000 in
theorem mz_okr_60_0 : mz_okR (2, 11, (0, 0, 0), mzc_60) mzt_60 0 20 = true := by decide +kernel
set_option maxRecDepth 100000 in
theorem mz_oky_60 : mz_okY (2, 11, (0, 0, 0), mzc_60) mzt_60 = true := by decide +kernel
set_option maxRecDepth 100000 in
theorem mz_okr_61_0 : mz_okR (4, 11, (0, 0, 0), mzc_61) mzt_61 0 22 = true := by decide +kernel
set_option maxRecDepth 100000 in
theorem mz_oky_61 : mz_okY (4, 11, (0, 0, 0), mzc_61) mzt_61 = true := by decide +kernel
set_option maxRecDepth 100000 in
theorem mz_okr_62_0 : mz_okR (2, 11, (0, 0, 0), mzc_62) mzt_62 0 21 = true := by decide +kernel
set_option maxRecDepth 100000 in
theorem mz_oky_62 : mz_okY (2, 11, (0, 0, 0), mzc_62) mzt_62 = true := by decide +kernel
set_option maxRecDepth 100000 in
theorem mz_okr_63_0 : mz_okR (2, 11, (0, 0, 0), mzc_63) mzt_63 0 16 = true := by decide +kernel
set_option maxRecDepth 100000 in
theorem mz_oky_63 : mz_okY (2, 11, (0, 0, 0), mzc_63) mzt_63 = true := by decide +kernel
set_option maxRecDepth 100000 in
theorem mz_okr_64_0 : mz_okR (1, 11, (0, 0, 0), mzc_64) mzt_64 0 24 = true := by decide +kernel
set_option maxRecDepth 100000 in
theorem mz_oky_64 : mz_okY (1, 11, (0, 0, 0), mzc_64) mzt_64 = true := by decide +kernel
set_option maxRecDepth 100000 in
theorem mz_okr_65_0 : mz_okR (7, 11, (0, 0, 0), mzc_65) mzt_65 0 53 = true := by decide +kernel
set_option maxRecDepth 100000 in
theorem mz_oky_65 : mz_okY (7, 11, (0, 0, 0), mzc_65) mzt_65 = true := by decide +kernel
set_option maxRecDepth 100000 in
theorem mz_okr_66_0 : mz_okR (3, 11, (0, 0, 0), mzc_66) mzt_66 0 51 = true := by decide +kernel
set_option maxRecDepth 100000 in
theorem mz_oky_66 : mz_okY (3, 11, (0, 0, 0), mzc_66) mzt_66 = true := by decide +kernel
set_option maxRecDepth 100000 in
theorem mz_okr_67_0 : mz_okR (2, 12, (0, 0, 0), mzc_67) mzt_67 0 60 = true := by decide +kernel
set_option maxRecDepth 100000 in
theorem mz_okr_67_1 : mz_okR (2, 12, (0, 0, 0), mzc_67) mzt_67 60 39 = true := by decide +kernel
set_option maxRecDepth 100000 in
theorem mz_oky_67 : mz_okY (2, 12, (0, 0, 0), mzc_67) mzt_67 = true := by decide +kernel
set_option maxRecDepth 100000 in
theorem mz_okr_68_0 : mz_okR (3, 0, (0, 0, 0), mzc_68) mzt_68 0 10 = true := by decide +kernel
set_option maxRecDepth 100000 in
theorem mz_oky_68 : mz_okY (3, 0, (0, 0, 0), mzc_68) mzt_68 = true := by decide +kernel
set_option maxRecDepth 100000 in
theorem mz_okr_69_0 : mz_okR (1, 12, (0, 0, 0), mzc_69) mzt_69 0 5 = true := by decide +kernel
set_option maxRecDepth 100000 in
theorem mz_oky_69 : mz_okY (1, 12, (0, 0, 0), mzc_69) mzt_69 = true := by decide +kernel
set_option maxRecDepth 100000 in
theorem mz_okr_70_0 : mz_okR (3, 12, (0, 0, 0), mzc_70) mzt_70 0 13 = true := by decide +kernel
set_option maxRecDepth 100000 in
theorem mz_oky_70 : mz_okY (3, 12, (0, 0, 0), mzc_70) mzt_70 = true := by decide +kernel
set_option maxRecDepth 100000 in
theorem mz_okr_71_0 : mz_okR (3, 12, (0, 0, 0), mzc_71) mzt_71 0 20 = true := by decide +kernel
set_option maxRecDepth 100000 in
theorem mz_oky_71 : mz_okY (3, 12, (0, 0, 0), mzc_71) mzt_71 = true := by decide +kernel
set_option maxRecDepth 100000 in
theorem mz_okr_72_0 : mz_okR (2, 12, (0, 0, 0), mzc_72) mzt_72 0 10 = true := by decide +kernel
set_option maxRecDepth 100000 in
theorem mz_oky_72 : mz_okY (2, 12, (0, 0, 0), mzc_72) mzt_72 = true := by decide +kernel
set_option maxRecDepth 100000 in
theorem mz_okr_73_0 : mz_okR (2, 12, (0, 0, 0), mzc_73) mzt_73 0 9 = true := by decide +kernel
set_option maxRecDepth 100000 in
theorem mz_oky_73 : mz_okY (2, 12, (0, 0, 0), mzc_73) mzt_73 = true := by decide +kernel
set_option maxRecDepth 100000 in
theorem mz_okr_74_0 : mz_okR (2, 12, (0, 0, 0), mzc_74) mzt_74 0 11 = true := by decide +kernel
set_option maxRecDepth 100000 in
theorem mz_oky_74 : mz_okY (2, 12, (0, 0, 0), mzc_74) mzt_74 = true := by decide +kernel
set_option maxRecDepth 100000 in
theorem mz_okr_75_0 : mz_okR (3, 12, (0, 0, 0), mzc_75) mzt_75 0 13 = true := by decide +kernel
set_option maxRecDepth 100000 in
theorem mz_oky_75 : mz_okY (3, 12, (0, 0, 0), mzc_75) mzt_75 = true := by decide +kernel
set_option maxRecDepth 100000 in
theorem mz_okr_76_0 : mz_okR (1, 0, (0, 0, 0), mzc_76) mzt_76 0 7 = true := by decide +kernel
set_option maxRecDepth 100000 in
theorem mz_oky_76 : mz_okY (1, 0, (0, 0, 0), mzc_76) mzt_76 = true := by decide +kernel
set_option maxRecDepth 100000 in
theorem mz_okr_77_0 : mz_okR (1, 0, (0, 0, 0), mzc_77) mzt_77 0 6 = true := by decide +kernel
set_option maxRecDepth 100000 in
theorem mz_oky_77 : mz_okY (1, 0, (0, 0, 0), mzc_77) mzt_77 = true := by decide +kernel
set_option maxRecDepth 100000 in
theorem mz_okr_78_0 : mz_okR (1, 0, (0, 0, 0), mzc_78) mzt_78 0 6 = true := by decide +kernel
set_option maxRecDepth 100000 in
theorem mz_oky_78 : mz_okY (1, 0, (0, 0, 0), mzc_78) mzt_78 = true := by decide +kernel
set_option maxRecDepth 100000 in
theorem mz_okr_79_0 : mz_okR (2, 12, (0, 0, 0), mzc_79) mzt_79 0 9 = true := by decide +kernel
set_option maxRecDepth 100000 in
theorem mz_oky_79 : mz_okY (2, 12, (0, 0, 0), mzc_79) mzt_79 = true := by decide +kernel
set_option maxRecDepth 100000 in
theorem mz_okr_80_0 : mz_okR (3, 0, (0, 0, 0), mzc_80) mzt_80 0 16 = true := by decide +kernel
set_option maxRecDepth 100000 in
theorem mz_oky_80 : mz_okY (3, 0, (0, 0, 0), mzc_80) mzt_80 = true := by decide +kernel
set_option maxRecDepth 100000 in
theorem mz_okr_81_0 : mz_okR (2, 0, (0, 0, 0), mzc_81) mzt_81 0 8 = true := by decide +kernel
set_option maxRecDepth 100000 in
theorem mz_oky_81 : mz_okY (2, 0, (0, 0, 0), mzc_81) mzt_81 = true := by decide +kernel
set_option maxRecDepth 100000 in
theorem mz_okr_82_0 : mz_okR (2, 0, (0, 0, 0), mzc_82) mzt_82 0 8 = true := by decide +kernel
set_option maxRecDepth 100000 in
theorem mz_oky_82 : mz_okY (2, 0, (0, 0, 0), mzc_82) mzt_82 = true := by decide +kernel
set_option maxRecDepth 100000 in
theorem mz_okr_83_0 : mz_okR (3, 12, (0, 0, 0), mzc_83) mzt_83 0 36 = true := by decide +kernel
set_option maxRecDepth 100000 in
theorem mz_oky_83 : mz_okY (3, 12, (0, 0, 0), mzc_83) mzt_83 = true := by decide +kernel
set_option maxRecDepth 100000 in
theorem mz_okr_84_0 : mz_okR (2, 12, (0, 0, 0), mzc_84) mzt_84 0 16 = true := by decide +kernel
set_option maxRecDepth 100000 in
theorem mz_oky_84 : mz_okY (2, 12, (0, 0, 0), mzc_84) mzt_84 = true := by decide +kernel
set_option maxRecDepth 100000 in
theorem mz_okr_85_0 : mz_okR (1, 12, (0, 0, 0), mzc_85) mzt_85 0 14 = true := by decide +kernel
set_option maxRecDepth 100000 in
theorem mz_oky_85 : mz_okY (1, 12, (0, 0, 0), mzc_85) mzt_85 = true := by decide +kernel
set_option maxRecDepth 100000 in
theorem mz_okr_86_0 : mz_okR (1, 12, (0, 0, 0), mzc_86) mzt_86 0 15 = true := by decide +kernel
set_option maxRecDepth 100000 in
theorem mz_oky_86 : mz_okY (1, 12, (0, 0, 0), mzc_86) mzt_86 = true := by decide +kernel
set_option maxRecDepth 100000 in
theorem mz_okr_87_0 : mz_okR (1, 12, (0, 0, 0), mzc_87) mzt_87 0 8 = true := by decide +kernel
set_option maxRecDepth 100000 in
theorem mz_oky_87 : mz_okY (1, 12, (0, 0, 0), mzc_87) mzt_87 = true := by decide +kernel
set_option maxRecDepth 100000 in
theorem mz_okr_88_0 : mz_okR (2, 12, (0, 0, 0), mzc_88) mzt_88 0 7 = true := by decide +kernel
set_option maxRecDepth 100000 in
theorem mz_oky_88 : mz_okY (2, 12, (0, 0, 0), mzc_88) mzt_88 = true := by decide +kernel
set_option maxRecDepth 100000 in
theorem mz_okr_89_0 : mz_okR (2, 12, (0, 0, 0), mzc_89) mzt_89 0 17 = true := by decide +kernel
set_option maxRecDepth 100000 in
theorem mz_oky_89 : mz_okY (2, 12, (0, 0, 0), mzc_89) mzt_89 = true := by decide +kernel
set_option maxRecDepth 100000 in
theorem mz_okr_90_0 : mz_okR (2, 12, (0, 0, 0), mzc_90) mzt_90 0 9 = true := by decide +kernel
set_option maxRecDepth 100000 in
theorem mz_oky_90 : mz_okY (2, 12, (0, 0, 0), mzc_90) mzt_90 = true := by decide +kernel
set_option maxRecDepth 100000 in
theorem mz_okr_91_0 : mz_okR (3, 12, (0, 0, 0), mzc_91) mzt_91 0 37 = true := by decide +kernel
set_option maxRecDepth 100000 in
theorem mz_oky_91 : mz_okY (3, 12, (0, 0, 0), mzc_91) mzt_91 = true := by decide +kernel
set_option maxRecDepth 100000 in
theorem mz_okr_92_0 : mz_okR (2, 12, (0, 0, 0), mzc_92) mzt_92 0 14 = true := by decide +kernel
set_option maxRecDepth 100000 in
theorem mz_oky_92 : mz_okY (2, 12, (0, 0, 0), mzc_92) mzt_92 = true := by decide +kernel
set_option maxRecDepth 100000 in
theorem mz_okr_93_0 : mz_okR (1, 12, (0, 0, 0), mzc_93) mzt_93 0 12 = true := by decide +kernel
set_option maxRecDepth 100000 in
theorem mz_oky_93 : mz_okY (1, 12, (0, 0, 0), mzc_93) mzt_93 = true := by decide +kernel
set_option maxRecDepth 100000 in
theorem mz_okr_94_0 : mz_okR (5, 12, (0, 0, 0), mzc_94) mzt_94 0 60 = true := by decide +kernel
set_option maxRecDepth 100000 in
theorem mz_okr_94_1 : mz_okR (5, 12, (0, 0, 0), mzc_94) mzt_94 60 11 = true := by decide +kernel
set_option maxRecDepth 100000 in
theorem mz_oky_94 : mz_okY (5, 12, (0, 0, 0), mzc_94) mzt_94 = true := by decide +kernel
set_option maxRecDepth 100000 in
theorem mz_okr_95_0 : mz_okR (3, 12, (0, 0, 0), mzc_95) mzt_95 0 60 = true := by decide +kernel
set_option maxRecDepth 100000 in
theorem mz_okr_95_1 : mz_okR (3, 12, (0, 0, 0), mzc_95) mzt_95 60 60 = true := by decide +kernel
set_option maxRecDepth 100000 in
theorem mz_okr_95_2 : mz_okR (3, 12, (0, 0, 0), mzc_95) mzt_95 120 15 = true := by decide +kernel
set_option maxRecDepth 100000 in
theorem mz_oky_95 : mz_okY (3, 12, (0, 0, 0), mzc_95) mzt_95 = true := by decide +kernel
