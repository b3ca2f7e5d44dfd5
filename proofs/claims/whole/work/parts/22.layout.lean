/-! ===== the whole world's layout ===== -/
def TF : zT := [(8, 16, [some 1, some 8, some 17, some 25, some 38, some 52, some 54, some 96, some 99, some 102, some 103, some 104, some 105, none, none, none]),
  (2, 12, [some 2, some 3, some 4, some 5, some 6, some 7, none, none, none, none, none, none]),
  (10, 30, []),
  (10, 10, []),
  (10, 10, []),
  (10, 5, []),
  (10, 5, []),
  (10, 5, []),
  (5, 8, [some 9, some 16, none, none, none, none, none, none]),
  (2, 12, [some 10, some 11, some 12, some 13, some 14, some 15, none, none, none, none, none, none]),
  (10, 30, []),
  (10, 10, []),
  (10, 10, []),
  (10, 5, []),
  (10, 5, []),
  (10, 5, []),
  (10, 240, []),
  (6, 11, [some 18, some 23, some 24, none, none, none, none, none, none, none, none]),
  (13, 4, [some 19, some 20, some 21, some 22]),
  (10, 30, []),
  (10, 30, []),
  (10, 30, []),
  (10, 30, []),
  (10, 3, []),
  (10, 3, []),
  (4, 6, [some 26, none, none, none, none, none]),
  (13, 11, [some 27, some 28, some 29, some 30, some 31, some 32, some 33, some 34, some 35, some 36, some 37]),
  (10, 30, []),
  (10, 30, []),
  (10, 30, []),
  (10, 30, []),
  (10, 30, []),
  (10, 30, []),
  (10, 30, []),
  (10, 30, []),
  (10, 30, []),
  (10, 30, []),
  (10, 30, []),
  (0, 2, [some 39, some 51]),
  (13, 11, [some 40, some 41, some 42, some 43, some 44, some 45, some 46, some 47, some 48, some 49, some 50]),
  (10, 30, []),
  (10, 30, []),
  (10, 30, []),
  (10, 30, []),
  (10, 30, []),
  (10, 30, []),
  (10, 30, []),
  (10, 30, []),
  (10, 30, []),
  (10, 30, []),
  (10, 30, []),
  (10, 61, []),
  (7, 4, [some 53, none, none, none]),
  (10, 30, []),
  (1, 3, [some 55, none, none]),
  (12, 20, [some 56, some 58, some 60, some 62, some 64, some 66, some 68, some 70, some 72, some 74, some 76, some 78, some 80, some 82, some 84, some 86, some 88, some 90, some 92, some 94]),
  (7, 4, [some 57, none, none, none]),
  (10, 30, []),
  (7, 4, [some 59, none, none, none]),
  (10, 30, []),
  (7, 4, [some 61, none, none, none]),
  (10, 30, []),
  (7, 4, [some 63, none, none, none]),
  (10, 30, []),
  (7, 4, [some 65, none, none, none]),
  (10, 30, []),
  (7, 4, [some 67, none, none, none]),
  (10, 30, []),
  (7, 4, [some 69, none, none, none]),
  (10, 30, []),
  (7, 4, [some 71, none, none, none]),
  (10, 30, []),
  (7, 4, [some 73, none, none, none]),
  (10, 30, []),
  (7, 4, [some 75, none, none, none]),
  (10, 30, []),
  (7, 4, [some 77, none, none, none]),
  (10, 30, []),
  (7, 4, [some 79, none, none, none]),
  (10, 30, []),
  (7, 4, [some 81, none, none, none]),
  (10, 30, []),
  (7, 4, [some 83, none, none, none]),
  (10, 30, []),
  (7, 4, [some 85, none, none, none]),
  (10, 30, []),
  (7, 4, [some 87, none, none, none]),
  (10, 30, []),
  (7, 4, [some 89, none, none, none]),
  (10, 30, []),
  (7, 4, [some 91, none, none, none]),
  (10, 30, []),
  (7, 4, [some 93, none, none, none]),
  (10, 30, []),
  (7, 4, [some 95, none, none, none]),
  (10, 30, []),
  (3, 4, [some 97, some 98, none, none]),
  (10, 8, []),
  (10, 8, []),
  (3, 4, [some 100, some 101, none, none]),
  (10, 15, []),
  (10, 15, []),
  (12, 2, [some 106, some 108]),
  (10, 2, []),
  (10, 30, []),
  (10, 30, []),
  (7, 4, [some 107, none, none, none]),
  (10, 30, []),
  (7, 4, [some 109, none, none, none]),
  (10, 30, []),
  (9, 42, [none, none, none, some 111, none, none, some 112, some 113, some 114, none, some 115, none, none, none, none, none, none, none, none, some 116, none, none, none, some 117, some 118, some 119, none, some 120, some 121, some 122, none, none, some 123, none, some 124, some 125, some 126, none, some 127, some 128, some 129, some 130]),
  (10, 30, []),
  (10, 10, []),
  (10, 10, []),
  (10, 33, []),
  (10, 240, []),
  (10, 30, []),
  (10, 10, []),
  (10, 10, []),
  (10, 10, []),
  (10, 660, []),
  (10, 5, []),
  (10, 30, []),
  (10, 30, []),
  (10, 8, []),
  (10, 8, []),
  (10, 330, []),
  (10, 15, []),
  (10, 15, []),
  (10, 68, []),
  (11, 2, [])]
theorem t_0 : znth TF 0 = some (8, 16, [some 1, some 8, some 17, some 25, some 38, some 52, some 54, some 96, some 99, some 102, some 103, some 104, some 105, none, none, none]) := by decide +kernel
theorem t_1 : znth TF 1 = some (2, 12, [some 2, some 3, some 4, some 5, some 6, some 7, none, none, none, none, none, none]) := by decide +kernel
theorem t_2 : znth TF 2 = some (10, 30, []) := by decide +kernel
theorem t_3 : znth TF 3 = some (10, 10, []) := by decide +kernel
theorem t_4 : znth TF 4 = some (10, 10, []) := by decide +kernel
theorem t_5 : znth TF 5 = some (10, 5, []) := by decide +kernel
theorem t_6 : znth TF 6 = some (10, 5, []) := by decide +kernel
theorem t_7 : znth TF 7 = some (10, 5, []) := by decide +kernel
theorem t_8 : znth TF 8 = some (5, 8, [some 9, some 16, none, none, none, none, none, none]) := by decide +kernel
theorem t_9 : znth TF 9 = some (2, 12, [some 10, some 11, some 12, some 13, some 14, some 15, none, none, none, none, none, none]) := by decide +kernel
theorem t_10 : znth TF 10 = some (10, 30, []) := by decide +kernel
theorem t_11 : znth TF 11 = some (10, 10, []) := by decide +kernel
theorem t_12 : znth TF 12 = some (10, 10, []) := by decide +kernel
theorem t_13 : znth TF 13 = some (10, 5, []) := by decide +kernel
theorem t_14 : znth TF 14 = some (10, 5, []) := by decide +kernel
theorem t_15 : znth TF 15 = some (10, 5, []) := by decide +kernel
theorem t_16 : znth TF 16 = some (10, 240, []) := by decide +kernel
theorem t_17 : znth TF 17 = some (6, 11, [some 18, some 23, some 24, none, none, none, none, none, none, none, none]) := by decide +kernel
theorem t_18 : znth TF 18 = some (13, 4, [some 19, some 20, some 21, some 22]) := by decide +kernel
theorem t_19 : znth TF 19 = some (10, 30, []) := by decide +kernel
theorem t_20 : znth TF 20 = some (10, 30, []) := by decide +kernel
theorem t_21 : znth TF 21 = some (10, 30, []) := by decide +kernel
theorem t_22 : znth TF 22 = some (10, 30, []) := by decide +kernel
theorem t_23 : znth TF 23 = some (10, 3, []) := by decide +kernel
theorem t_24 : znth TF 24 = some (10, 3, []) := by decide +kernel
theorem t_25 : znth TF 25 = some (4, 6, [some 26, none, none, none, none, none]) := by decide +kernel
theorem t_26 : znth TF 26 = some (13, 11, [some 27, some 28, some 29, some 30, some 31, some 32, some 33, some 34, some 35, some 36, some 37]) := by decide +kernel
theorem t_27 : znth TF 27 = some (10, 30, []) := by decide +kernel
theorem t_28 : znth TF 28 = some (10, 30, []) := by decide +kernel
theorem t_29 : znth TF 29 = some (10, 30, []) := by decide +kernel
theorem t_30 : znth TF 30 = some (10, 30, []) := by decide +kernel
theorem t_31 : znth TF 31 = some (10, 30, []) := by decide +kernel
theorem t_32 : znth TF 32 = some (10, 30, []) := by decide +kernel
theorem t_33 : znth TF 33 = some (10, 30, []) := by decide +kernel
theorem t_34 : znth TF 34 = some (10, 30, []) := by decide +kernel
theorem t_35 : znth TF 35 = some (10, 30, []) := by decide +kernel
theorem t_36 : znth TF 36 = some (10, 30, []) := by decide +kernel
theorem t_37 : znth TF 37 = some (10, 30, []) := by decide +kernel
theorem t_38 : znth TF 38 = some (0, 2, [some 39, some 51]) := by decide +kernel
theorem t_39 : znth TF 39 = some (13, 11, [some 40, some 41, some 42, some 43, some 44, some 45, some 46, some 47, some 48, some 49, some 50]) := by decide +kernel
theorem t_40 : znth TF 40 = some (10, 30, []) := by decide +kernel
theorem t_41 : znth TF 41 = some (10, 30, []) := by decide +kernel
theorem t_42 : znth TF 42 = some (10, 30, []) := by decide +kernel
theorem t_43 : znth TF 43 = some (10, 30, []) := by decide +kernel
theorem t_44 : znth TF 44 = some (10, 30, []) := by decide +kernel
theorem t_45 : znth TF 45 = some (10, 30, []) := by decide +kernel
theorem t_46 : znth TF 46 = some (10, 30, []) := by decide +kernel
theorem t_47 : znth TF 47 = some (10, 30, []) := by decide +kernel
theorem t_48 : znth TF 48 = some (10, 30, []) := by decide +kernel
theorem t_49 : znth TF 49 = some (10, 30, []) := by decide +kernel
theorem t_50 : znth TF 50 = some (10, 30, []) := by decide +kernel
theorem t_51 : znth TF 51 = some (10, 61, []) := by decide +kernel
theorem t_52 : znth TF 52 = some (7, 4, [some 53, none, none, none]) := by decide +kernel
theorem t_53 : znth TF 53 = some (10, 30, []) := by decide +kernel
theorem t_54 : znth TF 54 = some (1, 3, [some 55, none, none]) := by decide +kernel
theorem t_55 : znth TF 55 = some (12, 20, [some 56, some 58, some 60, some 62, some 64, some 66, some 68, some 70, some 72, some 74, some 76, some 78, some 80, some 82, some 84, some 86, some 88, some 90, some 92, some 94]) := by decide +kernel
theorem t_56 : znth TF 56 = some (7, 4, [some 57, none, none, none]) := by decide +kernel
theorem t_57 : znth TF 57 = some (10, 30, []) := by decide +kernel
theorem t_58 : znth TF 58 = some (7, 4, [some 59, none, none, none]) := by decide +kernel
theorem t_59 : znth TF 59 = some (10, 30, []) := by decide +kernel
theorem t_60 : znth TF 60 = some (7, 4, [some 61, none, none, none]) := by decide +kernel
theorem t_61 : znth TF 61 = some (10, 30, []) := by decide +kernel
theorem t_62 : znth TF 62 = some (7, 4, [some 63, none, none, none]) := by decide +kernel
theorem t_63 : znth TF 63 = some (10, 30, []) := by decide +kernel
theorem t_64 : znth TF 64 = some (7, 4, [some 65, none, none, none]) := by decide +kernel
theorem t_65 : znth TF 65 = some (10, 30, []) := by decide +kernel
theorem t_66 : znth TF 66 = some (7, 4, [some 67, none, none, none]) := by decide +kernel
theorem t_67 : znth TF 67 = some (10, 30, []) := by decide +kernel
theorem t_68 : znth TF 68 = some (7, 4, [some 69, none, none, none]) := by decide +kernel
theorem t_69 : znth TF 69 = some (10, 30, []) := by decide +kernel
theorem t_70 : znth TF 70 = some (7, 4, [some 71, none, none, none]) := by decide +kernel
theorem t_71 : znth TF 71 = some (10, 30, []) := by decide +kernel
theorem t_72 : znth TF 72 = some (7, 4, [some 73, none, none, none]) := by decide +kernel
theorem t_73 : znth TF 73 = some (10, 30, []) := by decide +kernel
theorem t_74 : znth TF 74 = some (7, 4, [some 75, none, none, none]) := by decide +kernel
theorem t_75 : znth TF 75 = some (10, 30, []) := by decide +kernel
theorem t_76 : znth TF 76 = some (7, 4, [some 77, none, none, none]) := by decide +kernel
theorem t_77 : znth TF 77 = some (10, 30, []) := by decide +kernel
theorem t_78 : znth TF 78 = some (7, 4, [some 79, none, none, none]) := by decide +kernel
theorem t_79 : znth TF 79 = some (10, 30, []) := by decide +kernel
theorem t_80 : znth TF 80 = some (7, 4, [some 81, none, none, none]) := by decide +kernel
theorem t_81 : znth TF 81 = some (10, 30, []) := by decide +kernel
theorem t_82 : znth TF 82 = some (7, 4, [some 83, none, none, none]) := by decide +kernel
theorem t_83 : znth TF 83 = some (10, 30, []) := by decide +kernel
theorem t_84 : znth TF 84 = some (7, 4, [some 85, none, none, none]) := by decide +kernel
theorem t_85 : znth TF 85 = some (10, 30, []) := by decide +kernel
theorem t_86 : znth TF 86 = some (7, 4, [some 87, none, none, none]) := by decide +kernel
theorem t_87 : znth TF 87 = some (10, 30, []) := by decide +kernel
theorem t_88 : znth TF 88 = some (7, 4, [some 89, none, none, none]) := by decide +kernel
theorem t_89 : znth TF 89 = some (10, 30, []) := by decide +kernel
theorem t_90 : znth TF 90 = some (7, 4, [some 91, none, none, none]) := by decide +kernel
theorem t_91 : znth TF 91 = some (10, 30, []) := by decide +kernel
theorem t_92 : znth TF 92 = some (7, 4, [some 93, none, none, none]) := by decide +kernel
theorem t_93 : znth TF 93 = some (10, 30, []) := by decide +kernel
theorem t_94 : znth TF 94 = some (7, 4, [some 95, none, none, none]) := by decide +kernel
theorem t_95 : znth TF 95 = some (10, 30, []) := by decide +kernel
theorem t_96 : znth TF 96 = some (3, 4, [some 97, some 98, none, none]) := by decide +kernel
theorem t_97 : znth TF 97 = some (10, 8, []) := by decide +kernel
theorem t_98 : znth TF 98 = some (10, 8, []) := by decide +kernel
theorem t_99 : znth TF 99 = some (3, 4, [some 100, some 101, none, none]) := by decide +kernel
theorem t_100 : znth TF 100 = some (10, 15, []) := by decide +kernel
theorem t_101 : znth TF 101 = some (10, 15, []) := by decide +kernel
theorem t_102 : znth TF 102 = some (12, 2, [some 106, some 108]) := by decide +kernel
theorem t_103 : znth TF 103 = some (10, 2, []) := by decide +kernel
theorem t_104 : znth TF 104 = some (10, 30, []) := by decide +kernel
theorem t_105 : znth TF 105 = some (10, 30, []) := by decide +kernel
theorem t_106 : znth TF 106 = some (7, 4, [some 107, none, none, none]) := by decide +kernel
theorem t_107 : znth TF 107 = some (10, 30, []) := by decide +kernel
theorem t_108 : znth TF 108 = some (7, 4, [some 109, none, none, none]) := by decide +kernel
theorem t_109 : znth TF 109 = some (10, 30, []) := by decide +kernel
theorem t_110 : znth TF 110 = some (9, 42, [none, none, none, some 111, none, none, some 112, some 113, some 114, none, some 115, none, none, none, none, none, none, none, none, some 116, none, none, none, some 117, some 118, some 119, none, some 120, some 121, some 122, none, none, some 123, none, some 124, some 125, some 126, none, some 127, some 128, some 129, some 130]) := by decide +kernel
theorem t_111 : znth TF 111 = some (10, 30, []) := by decide +kernel
theorem t_112 : znth TF 112 = some (10, 10, []) := by decide +kernel
theorem t_113 : znth TF 113 = some (10, 10, []) := by decide +kernel
theorem t_114 : znth TF 114 = some (10, 33, []) := by decide +kernel
theorem t_115 : znth TF 115 = some (10, 240, []) := by decide +kernel
theorem t_116 : znth TF 116 = some (10, 30, []) := by decide +kernel
theorem t_117 : znth TF 117 = some (10, 10, []) := by decide +kernel
theorem t_118 : znth TF 118 = some (10, 10, []) := by decide +kernel
theorem t_119 : znth TF 119 = some (10, 10, []) := by decide +kernel
theorem t_120 : znth TF 120 = some (10, 660, []) := by decide +kernel
theorem t_121 : znth TF 121 = some (10, 5, []) := by decide +kernel
theorem t_122 : znth TF 122 = some (10, 30, []) := by decide +kernel
theorem t_123 : znth TF 123 = some (10, 30, []) := by decide +kernel
theorem t_124 : znth TF 124 = some (10, 8, []) := by decide +kernel
theorem t_125 : znth TF 125 = some (10, 8, []) := by decide +kernel
theorem t_126 : znth TF 126 = some (10, 330, []) := by decide +kernel
theorem t_127 : znth TF 127 = some (10, 15, []) := by decide +kernel
theorem t_128 : znth TF 128 = some (10, 15, []) := by decide +kernel
theorem t_129 : znth TF 129 = some (10, 68, []) := by decide +kernel
theorem t_130 : znth TF 130 = some (11, 2, []) := by decide +kernel
theorem TF_len : Nat.ble 131 TF.length = true := by decide +kernel
theorem t_step : ∀ n : Nat, n < 20 → znth TF (56 + 2 * n) = some (7, 4, [some (57 + 2 * n), none, none, none]) := by decide +kernel
theorem t_stepP : ∀ n : Nat, n < 20 → znth TF (57 + 2 * n) = some (10, 30, []) := by decide +kernel
theorem t_image : ∀ n : Nat, n < 2 → znth TF (106 + 2 * n) = some (7, 4, [some (107 + 2 * n), none, none, none]) := by decide +kernel
theorem t_imageP : ∀ n : Nat, n < 2 → znth TF (107 + 2 * n) = some (10, 30, []) := by decide +kernel
theorem t_rb : ∀ n, n < 4 → znth TF (19 + n) = some (10, 30, []) := by decide +kernel
theorem t_ob : ∀ n, n < 11 → znth TF (27 + n) = some (10, 30, []) := by decide +kernel
theorem t_ge : ∀ n, n < 11 → znth TF (40 + n) = some (10, 30, []) := by decide +kernel
theorem t_steps : ∀ n, n < 20 → znth [some 56, some 58, some 60, some 62, some 64, some 66, some 68, some 70, some 72, some 74, some 76, some 78, some 80, some 82, some 84, some 86, some 88, some 90, some 92, some 94] n = some (some (56 + 2 * n)) := by decide +kernel
theorem t_images : ∀ n, n < 2 → znth [some 106, some 108] n = some (some (106 + 2 * n)) := by decide +kernel
theorem t_rbs : ∀ n, n < 4 → znth [some 19, some 20, some 21, some 22] n = some (some (19 + n)) := by decide +kernel
theorem t_obs : ∀ n, n < 11 → znth [some 27, some 28, some 29, some 30, some 31, some 32, some 33, some 34, some 35, some 36, some 37] n = some (some (27 + n)) := by decide +kernel
theorem t_ges : ∀ n, n < 11 → znth [some 40, some 41, some 42, some 43, some 44, some 45, some 46, some 47, some 48, some 49, some 50] n = some (some (40 + n)) := by decide +kernel
