/-! THE CHECKS of the tables, each closed by the kernel. -/
theorem all_cut {α : Type} (p : α → Bool) (n : Nat) (L : List α) (h1 : List.all (List.take n L) p = true) (h2 : List.all (List.drop n L) p = true) : List.all L p = true := by
  have h : List.all (List.take n L ++ List.drop n L) p = true := by rw [List.all_append, h1, h2]; rfl
  rwa [List.take_append_drop] at h
set_option maxRecDepth 100000 in
theorem ck_0 : kc_0.all (fun e => okq 0 e.1 e.2) = true := by decide +kernel
set_option maxRecDepth 100000 in
theorem ck_1 : kc_1.all (fun e => okq 1 e.1 e.2) = true := by decide +kernel
set_option maxRecDepth 100000 in
theorem ck_2 : kc_2.all (fun e => okq 2 e.1 e.2) = true := by decide +kernel
set_option maxRecDepth 100000 in
theorem ck_3 : kc_3.all (fun e => okq 3 e.1 e.2) = true := by decide +kernel
set_option maxRecDepth 100000 in
theorem ck_4 : kc_4.all (fun e => okq 4 e.1 e.2) = true := by decide +kernel
set_option maxRecDepth 100000 in
theorem ck_5 : kc_5.all (fun e => okq 5 e.1 e.2) = true := by decide +kernel
set_option maxRecDepth 100000 in
theorem ck_6 : kc_6.all (fun e => okq 6 e.1 e.2) = true := by decide +kernel
set_option maxRecDepth 100000 in
theorem ck_7 : kc_7.all (fun e => okq 7 e.1 e.2) = true := by decide +kernel
set_option maxRecDepth 100000 in
theorem ck_8 : kc_8.all (fun e => okq 8 e.1 e.2) = true := by decide +kernel
set_option maxRecDepth 100000 in
theorem ck_9 : kc_9.all (fun e => okq 9 e.1 e.2) = true := by decide +kernel
set_option maxRecDepth 100000 in
theorem ck_10 : kc_10.all (fun e => okq 10 e.1 e.2) = true := by decide +kernel
set_option maxRecDepth 100000 in
theorem ck_11 : kc_11.all (fun e => okq 11 e.1 e.2) = true := by decide +kernel
set_option maxRecDepth 100000 in
theorem ck_12 : kc_12.all (fun e => okq 12 e.1 e.2) = true := by decide +kernel
set_option maxRecDepth 100000 in
theorem ck_13 : kc_13.all (fun e => okq 13 e.1 e.2) = true := by decide +kernel
set_option maxRecDepth 100000 in
theorem ck_14 : kc_14.all (fun e => okq 14 e.1 e.2) = true := by decide +kernel
set_option maxRecDepth 100000 in
theorem ck_15 : kc_15.all (fun e => okq 15 e.1 e.2) = true := by decide +kernel
set_option maxRecDepth 100000 in
theorem ck_16 : kc_16.all (fun e => okq 16 e.1 e.2) = true := by decide +kernel
set_option maxRecDepth 100000 in
theorem ck_17 : kc_17.all (fun e => okq 17 e.1 e.2) = true := by decide +kernel
set_option maxRecDepth 100000 in
theorem ck_18 : kc_18.all (fun e => okq 18 e.1 e.2) = true := by decide +kernel
set_option maxRecDepth 100000 in
theorem ck_19 : kc_19.all (fun e => okq 19 e.1 e.2) = true := by decide +kernel
set_option maxRecDepth 100000 in
theorem ck_20 : kc_20.all (fun e => okq 20 e.1 e.2) = true := by decide +kernel
set_option maxRecDepth 100000 in
theorem ck_21 : kc_21.all (fun e => okq 21 e.1 e.2) = true := by decide +kernel
set_option maxRecDepth 100000 in
theorem ck_22 : kc_22.all (fun e => okq 22 e.1 e.2) = true := by decide +kernel
set_option maxRecDepth 100000 in
theorem ck_23 : kc_23.all (fun e => okq 23 e.1 e.2) = true := by decide +kernel
set_option maxRecDepth 100000 in
theorem ck_24_0 : (List.take 70 (kc_24)).all (fun e => okq 24 e.1 e.2) = true := by decide +kernel
set_option maxRecDepth 100000 in
theorem ck_24_1 : (List.drop 70 kc_24).all (fun e => okq 24 e.1 e.2) = true := by decide +kernel
theorem ck_24 : kc_24.all (fun e => okq 24 e.1 e.2) = true := all_cut _ 70 kc_24 ck_24_0 (ck_24_1)
set_option maxRecDepth 100000 in
theorem ck_25 : kc_25.all (fun e => okq 25 e.1 e.2) = true := by decide +kernel
set_option maxRecDepth 100000 in
theorem ck_26 : kc_26.all (fun e => okq 26 e.1 e.2) = true := by decide +kernel
set_option maxRecDepth 100000 in
theorem ck_27 : kc_27.all (fun e => okq 27 e.1 e.2) = true := by decide +kernel
set_option maxRecDepth 100000 in
theorem ck_28 : kc_28.all (fun e => okq 28 e.1 e.2) = true := by decide +kernel
set_option maxRecDepth 100000 in
theorem ck_29 : kc_29.all (fun e => okq 29 e.1 e.2) = true := by decide +kernel
set_option maxRecDepth 100000 in
theorem ck_30 : kc_30.all (fun e => okq 30 e.1 e.2) = true := by decide +kernel
set_option maxRecDepth 100000 in
theorem ck_31_0 : (List.take 70 (kc_31)).all (fun e => okq 31 e.1 e.2) = true := by decide +kernel
set_option maxRecDepth 100000 in
theorem ck_31_1 : (List.drop 70 kc_31).all (fun e => okq 31 e.1 e.2) = true := by decide +kernel
theorem ck_31 : kc_31.all (fun e => okq 31 e.1 e.2) = true := all_cut _ 70 kc_31 ck_31_0 (ck_31_1)
set_option maxRecDepth 100000 in
theorem ck_32 : kc_32.all (fun e => okq 32 e.1 e.2) = true := by decide +kernel
set_option maxRecDepth 100000 in
theorem ck_33 : kc_33.all (fun e => okq 33 e.1 e.2) = true := by decide +kernel
set_option maxRecDepth 100000 in
theorem ck_34 : kc_34.all (fun e => okq 34 e.1 e.2) = true := by decide +kernel
set_option maxRecDepth 100000 in
theorem ck_35 : kc_35.all (fun e => okq 35 e.1 e.2) = true := by decide +kernel
set_option maxRecDepth 100000 in
theorem ck_36 : kc_36.all (fun e => okq 36 e.1 e.2) = true := by decide +kernel
set_option maxRecDepth 100000 in
theorem ck_37 : kc_37.all (fun e => okq 37 e.1 e.2) = true := by decide +kernel
set_option maxRecDepth 100000 in
theorem ck_38 : kc_38.all (fun e => okq 38 e.1 e.2) = true := by decide +kernel
set_option maxRecDepth 100000 in
theorem ck_39 : kc_39.all (fun e => okq 39 e.1 e.2) = true := by decide +kernel
set_option maxRecDepth 100000 in
theorem ck_40 : kc_40.all (fun e => okq 40 e.1 e.2) = true := by decide +kernel
set_option maxRecDepth 100000 in
theorem ck_41 : kc_41.all (fun e => okq 41 e.1 e.2) = true := by decide +kernel
set_option maxRecDepth 100000 in
theorem ck_42 : kc_42.all (fun e => okq 42 e.1 e.2) = true := by decide +kernel
set_option maxRecDepth 100000 in
theorem ck_43 : kc_43.all (fun e => okq 43 e.1 e.2) = true := by decide +kernel
set_option maxRecDepth 100000 in
theorem ck_44 : kc_44.all (fun e => okq 44 e.1 e.2) = true := by decide +kernel
set_option maxRecDepth 100000 in
theorem ck_45 : kc_45.all (fun e => okq 45 e.1 e.2) = true := by decide +kernel
set_option maxRecDepth 100000 in
theorem ck_46 : kc_46.all (fun e => okq 46 e.1 e.2) = true := by decide +kernel
set_option maxRecDepth 100000 in
theorem ck_47 : kc_47.all (fun e => okq 47 e.1 e.2) = true := by decide +kernel
set_option maxRecDepth 100000 in
theorem ck_48 : kc_48.all (fun e => okq 48 e.1 e.2) = true := by decide +kernel
set_option maxRecDepth 100000 in
theorem ck_49 : kc_49.all (fun e => okq 49 e.1 e.2) = true := by decide +kernel
set_option maxRecDepth 100000 in
theorem ck_50 : kc_50.all (fun e => okq 50 e.1 e.2) = true := by decide +kernel
set_option maxRecDepth 100000 in
theorem ck_51 : kc_51.all (fun e => okq 51 e.1 e.2) = true := by decide +kernel
set_option maxRecDepth 100000 in
theorem ck_52 : kc_52.all (fun e => okq 52 e.1 e.2) = true := by decide +kernel
set_option maxRecDepth 100000 in
theorem ck_53 : kc_53.all (fun e => okq 53 e.1 e.2) = true := by decide +kernel
set_option maxRecDepth 100000 in
theorem ck_54 : kc_54.all (fun e => okq 54 e.1 e.2) = true := by decide +kernel
set_option maxRecDepth 100000 in
theorem ck_55 : kc_55.all (fun e => okq 55 e.1 e.2) = true := by decide +kernel
set_option maxRecDepth 100000 in
theorem ck_56 : kc_56.all (fun e => okq 56 e.1 e.2) = true := by decide +kernel
set_option maxRecDepth 100000 in
theorem ck_57 : kc_57.all (fun e => okq 57 e.1 e.2) = true := by decide +kernel
set_option maxRecDepth 100000 in
theorem ck_58 : kc_58.all (fun e => okq 58 e.1 e.2) = true := by decide +kernel
set_option maxRecDepth 100000 in
theorem ck_59 : kc_59.all (fun e => okq 59 e.1 e.2) = true := by decide +kernel
set_option maxRecDepth 100000 in
theorem ck_60 : kc_60.all (fun e => okq 60 e.1 e.2) = true := by decide +kernel
set_option maxRecDepth 100000 in
theorem ck_61 : kc_61.all (fun e => okq 61 e.1 e.2) = true := by decide +kernel
set_option maxRecDepth 100000 in
theorem ck_62 : kc_62.all (fun e => okq 62 e.1 e.2) = true := by decide +kernel
set_option maxRecDepth 100000 in
theorem ck_63 : kc_63.all (fun e => okq 63 e.1 e.2) = true := by decide +kernel
set_option maxRecDepth 100000 in
theorem ck_64 : kc_64.all (fun e => okq 64 e.1 e.2) = true := by decide +kernel
set_option maxRecDepth 100000 in
theorem ck_65 : kc_65.all (fun e => okq 65 e.1 e.2) = true := by decide +kernel
set_option maxRecDepth 100000 in
theorem ck_66 : kc_66.all (fun e => okq 66 e.1 e.2) = true := by decide +kernel
set_option maxRecDepth 100000 in
theorem ck_67_0 : (List.take 70 (kc_67)).all (fun e => okq 67 e.1 e.2) = true := by decide +kernel
set_option maxRecDepth 100000 in
theorem ck_67_1 : (List.drop 70 kc_67).all (fun e => okq 67 e.1 e.2) = true := by decide +kernel
theorem ck_67 : kc_67.all (fun e => okq 67 e.1 e.2) = true := all_cut _ 70 kc_67 ck_67_0 (ck_67_1)
set_option maxRecDepth 100000 in
theorem ck_68 : kc_68.all (fun e => okq 68 e.1 e.2) = true := by decide +kernel
set_option maxRecDepth 100000 in
theorem ck_69 : kc_69.all (fun e => okq 69 e.1 e.2) = true := by decide +kernel
set_option maxRecDepth 100000 in
theorem ck_70 : kc_70.all (fun e => okq 70 e.1 e.2) = true := by decide +kernel
set_option maxRecDepth 100000 in
theorem ck_71 : kc_71.all (fun e => okq 71 e.1 e.2) = true := by decide +kernel
set_option maxRecDepth 100000 in
theorem ck_72 : kc_72.all (fun e => okq 72 e.1 e.2) = true := by decide +kernel
set_option maxRecDepth 100000 in
theorem ck_73 : kc_73.all (fun e => okq 73 e.1 e.2) = true := by decide +kernel
set_option maxRecDepth 100000 in
theorem ck_74 : kc_74.all (fun e => okq 74 e.1 e.2) = true := by decide +kernel
set_option maxRecDepth 100000 in
theorem ck_75 : kc_75.all (fun e => okq 75 e.1 e.2) = true := by decide +kernel
set_option maxRecDepth 100000 in
theorem ck_76 : kc_76.all (fun e => okq 76 e.1 e.2) = true := by decide +kernel
set_option maxRecDepth 100000 in
theorem ck_77 : kc_77.all (fun e => okq 77 e.1 e.2) = true := by decide +kernel
set_option maxRecDepth 100000 in
theorem ck_78 : kc_78.all (fun e => okq 78 e.1 e.2) = true := by decide +kernel
set_option maxRecDepth 100000 in
theorem ck_79 : kc_79.all (fun e => okq 79 e.1 e.2) = true := by decide +kernel
set_option maxRecDepth 100000 in
theorem ck_80 : kc_80.all (fun e => okq 80 e.1 e.2) = true := by decide +kernel
set_option maxRecDepth 100000 in
theorem ck_81 : kc_81.all (fun e => okq 81 e.1 e.2) = true := by decide +kernel
set_option maxRecDepth 100000 in
theorem ck_82 : kc_82.all (fun e => okq 82 e.1 e.2) = true := by decide +kernel
set_option maxRecDepth 100000 in
theorem ck_83_0 : (List.take 70 (kc_83)).all (fun e => okq 83 e.1 e.2) = true := by decide +kernel
set_option maxRecDepth 100000 in
theorem ck_83_1 : (List.drop 70 kc_83).all (fun e => okq 83 e.1 e.2) = true := by decide +kernel
theorem ck_83 : kc_83.all (fun e => okq 83 e.1 e.2) = true := all_cut _ 70 kc_83 ck_83_0 (ck_83_1)
set_option maxRecDepth 100000 in
theorem ck_84 : kc_84.all (fun e => okq 84 e.1 e.2) = true := by decide +kernel
set_option maxRecDepth 100000 in
theorem ck_85 : kc_85.all (fun e => okq 85 e.1 e.2) = true := by decide +kernel
set_option maxRecDepth 100000 in
theorem ck_86 : kc_86.all (fun e => okq 86 e.1 e.2) = true := by decide +kernel
set_option maxRecDepth 100000 in
theorem ck_87 : kc_87.all (fun e => okq 87 e.1 e.2) = true := by decide +kernel
set_option maxRecDepth 100000 in
theorem ck_88 : kc_88.all (fun e => okq 88 e.1 e.2) = true := by decide +kernel
set_option maxRecDepth 100000 in
theorem ck_89 : kc_89.all (fun e => okq 89 e.1 e.2) = true := by decide +kernel
set_option maxRecDepth 100000 in
theorem ck_90 : kc_90.all (fun e => okq 90 e.1 e.2) = true := by decide +kernel
set_option maxRecDepth 100000 in
theorem ck_91 : kc_91.all (fun e => okq 91 e.1 e.2) = true := by decide +kernel
set_option maxRecDepth 100000 in
theorem ck_92 : kc_92.all (fun e => okq 92 e.1 e.2) = true := by decide +kernel
set_option maxRecDepth 100000 in
theorem ck_93 : kc_93.all (fun e => okq 93 e.1 e.2) = true := by decide +kernel
set_option maxRecDepth 100000 in
theorem ck_94 : kc_94.all (fun e => okq 94 e.1 e.2) = true := by decide +kernel
set_option maxRecDepth 100000 in
theorem ck_95 : kc_95.all (fun e => okq 95 e.1 e.2) = true := by decide +kernel
set_option maxRecDepth 100000 in
theorem ck_96 : kc_96.all (fun e => okq 96 e.1 e.2) = true := by decide +kernel
set_option maxRecDepth 100000 in
theorem ck_97 : kc_97.all (fun e => okq 97 e.1 e.2) = true := by decide +kernel
set_option maxRecDepth 100000 in
theorem ck_98 : kc_98.all (fun e => okq 98 e.1 e.2) = true := by decide +kernel
set_option maxRecDepth 100000 in
theorem ck_99 : kc_99.all (fun e => okq 99 e.1 e.2) = true := by decide +kernel
set_option maxRecDepth 100000 in
theorem ck_100 : kc_100.all (fun e => okq 100 e.1 e.2) = true := by decide +kernel
set_option maxRecDepth 100000 in
theorem ck_101 : kc_101.all (fun e => okq 101 e.1 e.2) = true := by decide +kernel
set_option maxRecDepth 100000 in
theorem ck_102 : kc_102.all (fun e => okq 102 e.1 e.2) = true := by decide +kernel
set_option maxRecDepth 100000 in
theorem ck_103 : kc_103.all (fun e => okq 103 e.1 e.2) = true := by decide +kernel
set_option maxRecDepth 100000 in
theorem ck_104 : kc_104.all (fun e => okq 104 e.1 e.2) = true := by decide +kernel
set_option maxRecDepth 100000 in
theorem ck_105 : kc_105.all (fun e => okq 105 e.1 e.2) = true := by decide +kernel
set_option maxRecDepth 100000 in
theorem ck_106 : kc_106.all (fun e => okq 106 e.1 e.2) = true := by decide +kernel
set_option maxRecDepth 100000 in
theorem ck_107_0 : (List.take 70 (kc_107)).all (fun e => okq 107 e.1 e.2) = true := by decide +kernel
set_option maxRecDepth 100000 in
theorem ck_107_1 : (List.drop 70 kc_107).all (fun e => okq 107 e.1 e.2) = true := by decide +kernel
theorem ck_107 : kc_107.all (fun e => okq 107 e.1 e.2) = true := all_cut _ 70 kc_107 ck_107_0 (ck_107_1)
set_option maxRecDepth 100000 in
theorem ck_108 : kc_108.all (fun e => okq 108 e.1 e.2) = true := by decide +kernel
set_option maxRecDepth 100000 in
theorem ck_109 : kc_109.all (fun e => okq 109 e.1 e.2) = true := by decide +kernel
set_option maxRecDepth 100000 in
theorem ck_110 : kc_110.all (fun e => okq 110 e.1 e.2) = true := by decide +kernel
set_option maxRecDepth 100000 in
theorem ck_111 : kc_111.all (fun e => okq 111 e.1 e.2) = true := by decide +kernel
set_option maxRecDepth 100000 in
theorem ck_112 : kc_112.all (fun e => okq 112 e.1 e.2) = true := by decide +kernel
set_option maxRecDepth 100000 in
theorem ck_113 : kc_113.all (fun e => okq 113 e.1 e.2) = true := by decide +kernel
set_option maxRecDepth 100000 in
theorem ck_114 : kc_114.all (fun e => okq 114 e.1 e.2) = true := by decide +kernel
set_option maxRecDepth 100000 in
theorem ck_115 : kc_115.all (fun e => okq 115 e.1 e.2) = true := by decide +kernel
set_option maxRecDepth 100000 in
theorem ck_116_0 : (List.take 70 (kc_116)).all (fun e => okq 116 e.1 e.2) = true := by decide +kernel
set_option maxRecDepth 100000 in
theorem ck_116_1 : (List.drop 70 kc_116).all (fun e => okq 116 e.1 e.2) = true := by decide +kernel
theorem ck_116 : kc_116.all (fun e => okq 116 e.1 e.2) = true := all_cut _ 70 kc_116 ck_116_0 (ck_116_1)
set_option maxRecDepth 100000 in
theorem ck_117 : kc_117.all (fun e => okq 117 e.1 e.2) = true := by decide +kernel
set_option maxRecDepth 100000 in
theorem ck_118 : kc_118.all (fun e => okq 118 e.1 e.2) = true := by decide +kernel
set_option maxRecDepth 100000 in
theorem ck_119 : kc_119.all (fun e => okq 119 e.1 e.2) = true := by decide +kernel
set_option maxRecDepth 100000 in
theorem ck_120 : kc_120.all (fun e => okq 120 e.1 e.2) = true := by decide +kernel
set_option maxRecDepth 100000 in
theorem ck_121 : kc_121.all (fun e => okq 121 e.1 e.2) = true := by decide +kernel
set_option maxRecDepth 100000 in
theorem ck_122 : kc_122.all (fun e => okq 122 e.1 e.2) = true := by decide +kernel
set_option maxRecDepth 100000 in
theorem ck_123 : kc_123.all (fun e => okq 123 e.1 e.2) = true := by decide +kernel
set_option maxRecDepth 100000 in
theorem ck_124 : kc_124.all (fun e => okq 124 e.1 e.2) = true := by decide +kernel
set_option maxRecDepth 100000 in
theorem ck_125 : kc_125.all (fun e => okq 125 e.1 e.2) = true := by decide +kernel
set_option maxRecDepth 100000 in
theorem ck_126 : kc_126.all (fun e => okq 126 e.1 e.2) = true := by decide +kernel
set_option maxRecDepth 100000 in
theorem ck_127 : kc_127.all (fun e => okq 127 e.1 e.2) = true := by decide +kernel
set_option maxRecDepth 100000 in
theorem ck_128 : kc_128.all (fun e => okq 128 e.1 e.2) = true := by decide +kernel
set_option maxRecDepth 100000 in
theorem ck_129 : kc_129.all (fun e => okq 129 e.1 e.2) = true := by decide +kernel
set_option maxRecDepth 100000 in
theorem ck_130 : kc_130.all (fun e => okq 130 e.1 e.2) = true := by decide +kernel
set_option maxRecDepth 100000 in
theorem ck_131 : kc_131.all (fun e => okq 131 e.1 e.2) = true := by decide +kernel
set_option maxRecDepth 100000 in
theorem ck_132 : kc_132.all (fun e => okq 132 e.1 e.2) = true := by decide +kernel
set_option maxRecDepth 100000 in
theorem ck_133 : kc_133.all (fun e => okq 133 e.1 e.2) = true := by decide +kernel
set_option maxRecDepth 100000 in
theorem ck_134 : kc_134.all (fun e => okq 134 e.1 e.2) = true := by decide +kernel
set_option maxRecDepth 100000 in
theorem ck_135 : kc_135.all (fun e => okq 135 e.1 e.2) = true := by decide +kernel
set_option maxRecDepth 100000 in
theorem ck_136 : kc_136.all (fun e => okq 136 e.1 e.2) = true := by decide +kernel
set_option maxRecDepth 100000 in
theorem ck_137_0 : (List.take 70 (kc_137)).all (fun e => okq 137 e.1 e.2) = true := by decide +kernel
set_option maxRecDepth 100000 in
theorem ck_137_1 : (List.drop 70 kc_137).all (fun e => okq 137 e.1 e.2) = true := by decide +kernel
theorem ck_137 : kc_137.all (fun e => okq 137 e.1 e.2) = true := all_cut _ 70 kc_137 ck_137_0 (ck_137_1)
set_option maxRecDepth 100000 in
theorem ck_138_0 : (List.take 70 (kc_138)).all (fun e => okq 138 e.1 e.2) = true := by decide +kernel
set_option maxRecDepth 100000 in
theorem ck_138_1 : (List.take 70 (List.drop 70 kc_138)).all (fun e => okq 138 e.1 e.2) = true := by decide +kernel
set_option maxRecDepth 100000 in
theorem ck_138_2 : (List.take 70 (List.drop 140 kc_138)).all (fun e => okq 138 e.1 e.2) = true := by decide +kernel
set_option maxRecDepth 100000 in
theorem ck_138_3 : (List.drop 210 kc_138).all (fun e => okq 138 e.1 e.2) = true := by decide +kernel
theorem ck_138 : kc_138.all (fun e => okq 138 e.1 e.2) = true := all_cut _ 70 kc_138 ck_138_0 (all_cut _ 70 (List.drop 70 kc_138) ck_138_1 (by rw [List.drop_drop]; exact all_cut _ 70 (List.drop 140 kc_138) ck_138_2 (by rw [List.drop_drop]; exact ck_138_3)))
set_option maxRecDepth 100000 in
theorem ck_139 : kc_139.all (fun e => okq 139 e.1 e.2) = true := by decide +kernel
set_option maxRecDepth 100000 in
theorem ck_140 : kc_140.all (fun e => okq 140 e.1 e.2) = true := by decide +kernel
set_option maxRecDepth 100000 in
theorem ck_141 : kc_141.all (fun e => okq 141 e.1 e.2) = true := by decide +kernel
set_option maxRecDepth 100000 in
theorem ck_142 : kc_142.all (fun e => okq 142 e.1 e.2) = true := by decide +kernel
set_option maxRecDepth 100000 in
theorem ck_143 : kc_143.all (fun e => okq 143 e.1 e.2) = true := by decide +kernel
set_option maxRecDepth 100000 in
theorem ck_144 : kc_144.all (fun e => okq 144 e.1 e.2) = true := by decide +kernel
set_option maxRecDepth 100000 in
theorem ck_145 : kc_145.all (fun e => okq 145 e.1 e.2) = true := by decide +kernel
set_option maxRecDepth 100000 in
theorem ck_146 : kc_146.all (fun e => okq 146 e.1 e.2) = true := by decide +kernel
set_option maxRecDepth 100000 in
theorem ck_147_0 : (List.take 70 (kc_147)).all (fun e => okq 147 e.1 e.2) = true := by decide +kernel
set_option maxRecDepth 100000 in
theorem ck_147_1 : (List.take 70 (List.drop 70 kc_147)).all (fun e => okq 147 e.1 e.2) = true := by decide +kernel
set_option maxRecDepth 100000 in
theorem ck_147_2 : (List.drop 140 kc_147).all (fun e => okq 147 e.1 e.2) = true := by decide +kernel
theorem ck_147 : kc_147.all (fun e => okq 147 e.1 e.2) = true := all_cut _ 70 kc_147 ck_147_0 (all_cut _ 70 (List.drop 70 kc_147) ck_147_1 (by rw [List.drop_drop]; exact ck_147_2))
set_option maxRecDepth 100000 in
theorem ck_148_0 : (List.take 70 (kc_148)).all (fun e => okq 148 e.1 e.2) = true := by decide +kernel
set_option maxRecDepth 100000 in
theorem ck_148_1 : (List.take 70 (List.drop 70 kc_148)).all (fun e => okq 148 e.1 e.2) = true := by decide +kernel
set_option maxRecDepth 100000 in
theorem ck_148_2 : (List.take 70 (List.drop 140 kc_148)).all (fun e => okq 148 e.1 e.2) = true := by decide +kernel
set_option maxRecDepth 100000 in
theorem ck_148_3 : (List.drop 210 kc_148).all (fun e => okq 148 e.1 e.2) = true := by decide +kernel
theorem ck_148 : kc_148.all (fun e => okq 148 e.1 e.2) = true := all_cut _ 70 kc_148 ck_148_0 (all_cut _ 70 (List.drop 70 kc_148) ck_148_1 (by rw [List.drop_drop]; exact all_cut _ 70 (List.drop 140 kc_148) ck_148_2 (by rw [List.drop_drop]; exact ck_148_3)))
set_option maxRecDepth 100000 in
theorem ck_149 : kc_149.all (fun e => okq 149 e.1 e.2) = true := by decide +kernel
set_option maxRecDepth 100000 in
theorem ck_150 : kc_150.all (fun e => okq 150 e.1 e.2) = true := by decide +kernel
set_option maxRecDepth 100000 in
theorem ck_151 : kc_151.all (fun e => okq 151 e.1 e.2) = true := by decide +kernel
set_option maxRecDepth 100000 in
theorem ck_152 : kc_152.all (fun e => okq 152 e.1 e.2) = true := by decide +kernel
set_option maxRecDepth 100000 in
theorem ck_153_0 : (List.take 70 (kc_153)).all (fun e => okq 153 e.1 e.2) = true := by decide +kernel
set_option maxRecDepth 100000 in
theorem ck_153_1 : (List.drop 70 kc_153).all (fun e => okq 153 e.1 e.2) = true := by decide +kernel
theorem ck_153 : kc_153.all (fun e => okq 153 e.1 e.2) = true := all_cut _ 70 kc_153 ck_153_0 (ck_153_1)
set_option maxRecDepth 100000 in
theorem ck_154 : kc_154.all (fun e => okq 154 e.1 e.2) = true := by decide +kernel
set_option maxRecDepth 100000 in
theorem ck_155 : kc_155.all (fun e => okq 155 e.1 e.2) = true := by decide +kernel
set_option maxRecDepth 100000 in
theorem ck_156 : kc_156.all (fun e => okq 156 e.1 e.2) = true := by decide +kernel
set_option maxRecDepth 100000 in
theorem ck_157 : kc_157.all (fun e => okq 157 e.1 e.2) = true := by decide +kernel
set_option maxRecDepth 100000 in
theorem ck_158 : kc_158.all (fun e => okq 158 e.1 e.2) = true := by decide +kernel
set_option maxRecDepth 100000 in
theorem ck_159 : kc_159.all (fun e => okq 159 e.1 e.2) = true := by decide +kernel
set_option maxRecDepth 100000 in
theorem ck_160 : kc_160.all (fun e => okq 160 e.1 e.2) = true := by decide +kernel
set_option maxRecDepth 100000 in
theorem ck_161 : kc_161.all (fun e => okq 161 e.1 e.2) = true := by decide +kernel
set_option maxRecDepth 100000 in
theorem ck_162 : kc_162.all (fun e => okq 162 e.1 e.2) = true := by decide +kernel
set_option maxRecDepth 100000 in
theorem ck_163 : kc_163.all (fun e => okq 163 e.1 e.2) = true := by decide +kernel
set_option maxRecDepth 100000 in
theorem ck_164 : kc_164.all (fun e => okq 164 e.1 e.2) = true := by decide +kernel
set_option maxRecDepth 100000 in
theorem ck_165 : kc_165.all (fun e => okq 165 e.1 e.2) = true := by decide +kernel
set_option maxRecDepth 100000 in
theorem ck_166 : kc_166.all (fun e => okq 166 e.1 e.2) = true := by decide +kernel
set_option maxRecDepth 100000 in
theorem ck_167 : kc_167.all (fun e => okq 167 e.1 e.2) = true := by decide +kernel
set_option maxRecDepth 100000 in
theorem ck_168_0 : (List.take 70 (kc_168)).all (fun e => okq 168 e.1 e.2) = true := by decide +kernel
set_option maxRecDepth 100000 in
theorem ck_168_1 : (List.take 70 (List.drop 70 kc_168)).all (fun e => okq 168 e.1 e.2) = true := by decide +kernel
set_option maxRecDepth 100000 in
theorem ck_168_2 : (List.drop 140 kc_168).all (fun e => okq 168 e.1 e.2) = true := by decide +kernel
theorem ck_168 : kc_168.all (fun e => okq 168 e.1 e.2) = true := all_cut _ 70 kc_168 ck_168_0 (all_cut _ 70 (List.drop 70 kc_168) ck_168_1 (by rw [List.drop_drop]; exact ck_168_2))
set_option maxRecDepth 100000 in
theorem ck_169 : kc_169.all (fun e => okq 169 e.1 e.2) = true := by decide +kernel
set_option maxRecDepth 100000 in
theorem ck_170 : kc_170.all (fun e => okq 170 e.1 e.2) = true := by decide +kernel
set_option maxRecDepth 100000 in
theorem ck_171_0 : (List.take 70 (kc_171)).all (fun e => okq 171 e.1 e.2) = true := by decide +kernel
set_option maxRecDepth 100000 in
theorem ck_171_1 : (List.drop 70 kc_171).all (fun e => okq 171 e.1 e.2) = true := by decide +kernel
theorem ck_171 : kc_171.all (fun e => okq 171 e.1 e.2) = true := all_cut _ 70 kc_171 ck_171_0 (ck_171_1)
set_option maxRecDepth 100000 in
theorem ck_172 : kc_172.all (fun e => okq 172 e.1 e.2) = true := by decide +kernel
set_option maxRecDepth 100000 in
theorem ck_173 : kc_173.all (fun e => okq 173 e.1 e.2) = true := by decide +kernel
set_option maxRecDepth 100000 in
theorem ck_174 : kc_174.all (fun e => okq 174 e.1 e.2) = true := by decide +kernel
set_option maxRecDepth 100000 in
theorem ck_175 : kc_175.all (fun e => okq 175 e.1 e.2) = true := by decide +kernel
set_option maxRecDepth 100000 in
theorem ck_176_0 : (List.take 70 (kc_176)).all (fun e => okq 176 e.1 e.2) = true := by decide +kernel
set_option maxRecDepth 100000 in
theorem ck_176_1 : (List.drop 70 kc_176).all (fun e => okq 176 e.1 e.2) = true := by decide +kernel
theorem ck_176 : kc_176.all (fun e => okq 176 e.1 e.2) = true := all_cut _ 70 kc_176 ck_176_0 (ck_176_1)
set_option maxRecDepth 100000 in
theorem ck_177 : kc_177.all (fun e => okq 177 e.1 e.2) = true := by decide +kernel
set_option maxRecDepth 100000 in
theorem ck_178 : kc_178.all (fun e => okq 178 e.1 e.2) = true := by decide +kernel
set_option maxRecDepth 100000 in
theorem ck_179 : kc_179.all (fun e => okq 179 e.1 e.2) = true := by decide +kernel
set_option maxRecDepth 100000 in
theorem ck_180 : kc_180.all (fun e => okq 180 e.1 e.2) = true := by decide +kernel
set_option maxRecDepth 100000 in
theorem ck_181 : kc_181.all (fun e => okq 181 e.1 e.2) = true := by decide +kernel
set_option maxRecDepth 100000 in
theorem ck_182 : kc_182.all (fun e => okq 182 e.1 e.2) = true := by decide +kernel
set_option maxRecDepth 100000 in
theorem ck_183 : kc_183.all (fun e => okq 183 e.1 e.2) = true := by decide +kernel
set_option maxRecDepth 100000 in
theorem ck_184_0 : (List.take 70 (kc_184)).all (fun e => okq 184 e.1 e.2) = true := by decide +kernel
set_option maxRecDepth 100000 in
theorem ck_184_1 : (List.drop 70 kc_184).all (fun e => okq 184 e.1 e.2) = true := by decide +kernel
theorem ck_184 : kc_184.all (fun e => okq 184 e.1 e.2) = true := all_cut _ 70 kc_184 ck_184_0 (ck_184_1)
set_option maxRecDepth 100000 in
theorem ck_185 : kc_185.all (fun e => okq 185 e.1 e.2) = true := by decide +kernel
set_option maxRecDepth 100000 in
theorem ck_186_0 : (List.take 70 (kc_186)).all (fun e => okq 186 e.1 e.2) = true := by decide +kernel
set_option maxRecDepth 100000 in
theorem ck_186_1 : (List.drop 70 kc_186).all (fun e => okq 186 e.1 e.2) = true := by decide +kernel
theorem ck_186 : kc_186.all (fun e => okq 186 e.1 e.2) = true := all_cut _ 70 kc_186 ck_186_0 (ck_186_1)
set_option maxRecDepth 100000 in
theorem ck_187 : kc_187.all (fun e => okq 187 e.1 e.2) = true := by decide +kernel
set_option maxRecDepth 100000 in
theorem ck_188 : kc_188.all (fun e => okq 188 e.1 e.2) = true := by decide +kernel
set_option maxRecDepth 100000 in
theorem ck_189_0 : (List.take 70 (kc_189)).all (fun e => okq 189 e.1 e.2) = true := by decide +kernel
set_option maxRecDepth 100000 in
theorem ck_189_1 : (List.drop 70 kc_189).all (fun e => okq 189 e.1 e.2) = true := by decide +kernel
theorem ck_189 : kc_189.all (fun e => okq 189 e.1 e.2) = true := all_cut _ 70 kc_189 ck_189_0 (ck_189_1)
set_option maxRecDepth 100000 in
theorem ck_190 : kc_190.all (fun e => okq 190 e.1 e.2) = true := by decide +kernel
set_option maxRecDepth 100000 in
theorem ck_191 : kc_191.all (fun e => okq 191 e.1 e.2) = true := by decide +kernel
set_option maxRecDepth 100000 in
theorem ck_192_0 : (List.take 70 (kc_192)).all (fun e => okq 192 e.1 e.2) = true := by decide +kernel
set_option maxRecDepth 100000 in
theorem ck_192_1 : (List.take 70 (List.drop 70 kc_192)).all (fun e => okq 192 e.1 e.2) = true := by decide +kernel
set_option maxRecDepth 100000 in
theorem ck_192_2 : (List.take 70 (List.drop 140 kc_192)).all (fun e => okq 192 e.1 e.2) = true := by decide +kernel
set_option maxRecDepth 100000 in
theorem ck_192_3 : (List.take 70 (List.drop 210 kc_192)).all (fun e => okq 192 e.1 e.2) = true := by decide +kernel
set_option maxRecDepth 100000 in
theorem ck_192_4 : (List.drop 280 kc_192).all (fun e => okq 192 e.1 e.2) = true := by decide +kernel
theorem ck_192 : kc_192.all (fun e => okq 192 e.1 e.2) = true := all_cut _ 70 kc_192 ck_192_0 (all_cut _ 70 (List.drop 70 kc_192) ck_192_1 (by rw [List.drop_drop]; exact all_cut _ 70 (List.drop 140 kc_192) ck_192_2 (by rw [List.drop_drop]; exact all_cut _ 70 (List.drop 210 kc_192) ck_192_3 (by rw [List.drop_drop]; exact ck_192_4))))
set_option maxRecDepth 100000 in
theorem ck_193 : kc_193.all (fun e => okq 193 e.1 e.2) = true := by decide +kernel
set_option maxRecDepth 100000 in
theorem ck_194 : kc_194.all (fun e => okq 194 e.1 e.2) = true := by decide +kernel
set_option maxRecDepth 100000 in
theorem ck_195 : kc_195.all (fun e => okq 195 e.1 e.2) = true := by decide +kernel
set_option maxRecDepth 100000 in
theorem ck_196_0 : (List.take 70 (kc_196)).all (fun e => okq 196 e.1 e.2) = true := by decide +kernel
set_option maxRecDepth 100000 in
theorem ck_196_1 : (List.drop 70 kc_196).all (fun e => okq 196 e.1 e.2) = true := by decide +kernel
theorem ck_196 : kc_196.all (fun e => okq 196 e.1 e.2) = true := all_cut _ 70 kc_196 ck_196_0 (ck_196_1)
set_option maxRecDepth 100000 in
theorem ck_197 : kc_197.all (fun e => okq 197 e.1 e.2) = true := by decide +kernel
set_option maxRecDepth 100000 in
theorem ck_198 : kc_198.all (fun e => okq 198 e.1 e.2) = true := by decide +kernel
set_option maxRecDepth 100000 in
theorem ck_199 : kc_199.all (fun e => okq 199 e.1 e.2) = true := by decide +kernel
set_option maxRecDepth 100000 in
theorem ck_200 : kc_200.all (fun e => okq 200 e.1 e.2) = true := by decide +kernel
set_option maxRecDepth 100000 in
theorem ck_201_0 : (List.take 70 (kc_201)).all (fun e => okq 201 e.1 e.2) = true := by decide +kernel
set_option maxRecDepth 100000 in
theorem ck_201_1 : (List.drop 70 kc_201).all (fun e => okq 201 e.1 e.2) = true := by decide +kernel
theorem ck_201 : kc_201.all (fun e => okq 201 e.1 e.2) = true := all_cut _ 70 kc_201 ck_201_0 (ck_201_1)
set_option maxRecDepth 100000 in
theorem ck_202 : kc_202.all (fun e => okq 202 e.1 e.2) = true := by decide +kernel
set_option maxRecDepth 100000 in
theorem ck_203_0 : (List.take 70 (kc_203)).all (fun e => okq 203 e.1 e.2) = true := by decide +kernel
set_option maxRecDepth 100000 in
theorem ck_203_1 : (List.drop 70 kc_203).all (fun e => okq 203 e.1 e.2) = true := by decide +kernel
theorem ck_203 : kc_203.all (fun e => okq 203 e.1 e.2) = true := all_cut _ 70 kc_203 ck_203_0 (ck_203_1)
set_option maxRecDepth 100000 in
theorem ck_204 : kc_204.all (fun e => okq 204 e.1 e.2) = true := by decide +kernel
set_option maxRecDepth 100000 in
theorem ck_205_0 : (List.take 70 (kc_205)).all (fun e => okq 205 e.1 e.2) = true := by decide +kernel
set_option maxRecDepth 100000 in
theorem ck_205_1 : (List.drop 70 kc_205).all (fun e => okq 205 e.1 e.2) = true := by decide +kernel
theorem ck_205 : kc_205.all (fun e => okq 205 e.1 e.2) = true := all_cut _ 70 kc_205 ck_205_0 (ck_205_1)
set_option maxRecDepth 100000 in
theorem ck_206 : kc_206.all (fun e => okq 206 e.1 e.2) = true := by decide +kernel
set_option maxRecDepth 100000 in
theorem ck_207 : kc_207.all (fun e => okq 207 e.1 e.2) = true := by decide +kernel
set_option maxRecDepth 100000 in
theorem ck_208 : kc_208.all (fun e => okq 208 e.1 e.2) = true := by decide +kernel
set_option maxRecDepth 100000 in
theorem ck_209 : kc_209.all (fun e => okq 209 e.1 e.2) = true := by decide +kernel
set_option maxRecDepth 100000 in
theorem ck_210 : kc_210.all (fun e => okq 210 e.1 e.2) = true := by decide +kernel
set_option maxRecDepth 100000 in
theorem ck_211 : kc_211.all (fun e => okq 211 e.1 e.2) = true := by decide +kernel
set_option maxRecDepth 100000 in
theorem ck_212_0 : (List.take 70 (kc_212)).all (fun e => okq 212 e.1 e.2) = true := by decide +kernel
set_option maxRecDepth 100000 in
theorem ck_212_1 : (List.drop 70 kc_212).all (fun e => okq 212 e.1 e.2) = true := by decide +kernel
theorem ck_212 : kc_212.all (fun e => okq 212 e.1 e.2) = true := all_cut _ 70 kc_212 ck_212_0 (ck_212_1)
set_option maxRecDepth 100000 in
theorem ck_213 : kc_213.all (fun e => okq 213 e.1 e.2) = true := by decide +kernel
set_option maxRecDepth 100000 in
theorem ck_214 : kc_214.all (fun e => okq 214 e.1 e.2) = true := by decide +kernel
set_option maxRecDepth 100000 in
theorem ck_215_0 : (List.take 70 (kc_215)).all (fun e => okq 215 e.1 e.2) = true := by decide +kernel
set_option maxRecDepth 100000 in
theorem ck_215_1 : (List.drop 70 kc_215).all (fun e => okq 215 e.1 e.2) = true := by decide +kernel
theorem ck_215 : kc_215.all (fun e => okq 215 e.1 e.2) = true := all_cut _ 70 kc_215 ck_215_0 (ck_215_1)
set_option maxRecDepth 100000 in
theorem ck_216 : kc_216.all (fun e => okq 216 e.1 e.2) = true := by decide +kernel
set_option maxRecDepth 100000 in
theorem ck_217 : kc_217.all (fun e => okq 217 e.1 e.2) = true := by decide +kernel
set_option maxRecDepth 100000 in
theorem ck_218 : kc_218.all (fun e => okq 218 e.1 e.2) = true := by decide +kernel
set_option maxRecDepth 100000 in
theorem ck_219 : kc_219.all (fun e => okq 219 e.1 e.2) = true := by decide +kernel
set_option maxRecDepth 100000 in
theorem ck_220_0 : (List.take 70 (kc_220)).all (fun e => okq 220 e.1 e.2) = true := by decide +kernel
set_option maxRecDepth 100000 in
theorem ck_220_1 : (List.take 70 (List.drop 70 kc_220)).all (fun e => okq 220 e.1 e.2) = true := by decide +kernel
set_option maxRecDepth 100000 in
theorem ck_220_2 : (List.take 70 (List.drop 140 kc_220)).all (fun e => okq 220 e.1 e.2) = true := by decide +kernel
set_option maxRecDepth 100000 in
theorem ck_220_3 : (List.take 70 (List.drop 210 kc_220)).all (fun e => okq 220 e.1 e.2) = true := by decide +kernel
set_option maxRecDepth 100000 in
theorem ck_220_4 : (List.take 70 (List.drop 280 kc_220)).all (fun e => okq 220 e.1 e.2) = true := by decide +kernel
set_option maxRecDepth 100000 in
theorem ck_220_5 : (List.take 70 (List.drop 350 kc_220)).all (fun e => okq 220 e.1 e.2) = true := by decide +kernel
set_option maxRecDepth 100000 in
theorem ck_220_6 : (List.take 70 (List.drop 420 kc_220)).all (fun e => okq 220 e.1 e.2) = true := by decide +kernel
set_option maxRecDepth 100000 in
theorem ck_220_7 : (List.take 70 (List.drop 490 kc_220)).all (fun e => okq 220 e.1 e.2) = true := by decide +kernel
set_option maxRecDepth 100000 in
theorem ck_220_8 : (List.take 70 (List.drop 560 kc_220)).all (fun e => okq 220 e.1 e.2) = true := by decide +kernel
set_option maxRecDepth 100000 in
theorem ck_220_9 : (List.take 70 (List.drop 630 kc_220)).all (fun e => okq 220 e.1 e.2) = true := by decide +kernel
set_option maxRecDepth 100000 in
theorem ck_220_10 : (List.take 70 (List.drop 700 kc_220)).all (fun e => okq 220 e.1 e.2) = true := by decide +kernel
set_option maxRecDepth 100000 in
theorem ck_220_11 : (List.take 70 (List.drop 770 kc_220)).all (fun e => okq 220 e.1 e.2) = true := by decide +kernel
set_option maxRecDepth 100000 in
theorem ck_220_12 : (List.take 70 (List.drop 840 kc_220)).all (fun e => okq 220 e.1 e.2) = true := by decide +kernel
set_option maxRecDepth 100000 in
theorem ck_220_13 : (List.drop 910 kc_220).all (fun e => okq 220 e.1 e.2) = true := by decide +kernel
theorem ck_220 : kc_220.all (fun e => okq 220 e.1 e.2) = true := all_cut _ 70 kc_220 ck_220_0 (all_cut _ 70 (List.drop 70 kc_220) ck_220_1 (by rw [List.drop_drop]; exact all_cut _ 70 (List.drop 140 kc_220) ck_220_2 (by rw [List.drop_drop]; exact all_cut _ 70 (List.drop 210 kc_220) ck_220_3 (by rw [List.drop_drop]; exact all_cut _ 70 (List.drop 280 kc_220) ck_220_4 (by rw [List.drop_drop]; exact all_cut _ 70 (List.drop 350 kc_220) ck_220_5 (by rw [List.drop_drop]; exact all_cut _ 70 (List.drop 420 kc_220) ck_220_6 (by rw [List.drop_drop]; exact all_cut _ 70 (List.drop 490 kc_220) ck_220_7 (by rw [List.drop_drop]; exact all_cut _ 70 (List.drop 560 kc_220) ck_220_8 (by rw [List.drop_drop]; exact all_cut _ 70 (List.drop 630 kc_220) ck_220_9 (by rw [List.drop_drop]; exact all_cut _ 70 (List.drop 700 kc_220) ck_220_10 (by rw [List.drop_drop]; exact all_cut _ 70 (List.drop 770 kc_220) ck_220_11 (by rw [List.drop_drop]; exact all_cut _ 70 (List.drop 840 kc_220) ck_220_12 (by rw [List.drop_drop]; exact ck_220_13)))))))))))))
