/-! ===== field, method and constant links, by their places in the tables ===== -/
set_option maxRecDepth 20000 in
theorem fX8_12 : zFR RX8 12 8 0 := ⟨(RX8, TX8, 16), rfl, by decide, rfl, (zmem 342 (by decide +kernel) (by decide +kernel))⟩
theorem wX8_12 : zFF RX8 12 8 0 := by
  obtain ⟨q, h1, h2, h3, h4⟩ := fX8_12
  cases h1
  exact ⟨_, rfl, h2, h3, h4, ⟨tyX8 0, by decide +kernel, fun a => ⟨rfl, rfl⟩⟩, rfl, rfl⟩
set_option maxRecDepth 20000 in
theorem fX8_19 : zFR RX8 19 8 1 := ⟨(RX8, TX8, 16), rfl, by decide, rfl, (zmem 343 (by decide +kernel) (by decide +kernel))⟩
theorem wX8_19 : zFF RX8 19 8 1 := by
  obtain ⟨q, h1, h2, h3, h4⟩ := fX8_19
  cases h1
  exact ⟨_, rfl, h2, h3, h4, ⟨tyX8 1, by decide +kernel, fun a => ⟨rfl, rfl⟩⟩, rfl, rfl⟩
set_option maxRecDepth 20000 in
theorem fX8_26 : zFR RX8 26 8 2 := ⟨(RX8, TX8, 16), rfl, by decide, rfl, (zmem 344 (by decide +kernel) (by decide +kernel))⟩
theorem wX8_26 : zFF RX8 26 8 2 := by
  obtain ⟨q, h1, h2, h3, h4⟩ := fX8_26
  cases h1
  exact ⟨_, rfl, h2, h3, h4, ⟨tyX8 2, by decide +kernel, fun a => ⟨rfl, rfl⟩⟩, rfl, rfl⟩
set_option maxRecDepth 20000 in
theorem fX8_33 : zFR RX8 33 8 3 := ⟨(RX8, TX8, 16), rfl, by decide, rfl, (zmem 345 (by decide +kernel) (by decide +kernel))⟩
theorem wX8_33 : zFF RX8 33 8 3 := by
  obtain ⟨q, h1, h2, h3, h4⟩ := fX8_33
  cases h1
  exact ⟨_, rfl, h2, h3, h4, ⟨tyX8 3, by decide +kernel, fun a => ⟨rfl, rfl⟩⟩, rfl, rfl⟩
set_option maxRecDepth 20000 in
theorem fX8_40 : zFR RX8 40 8 4 := ⟨(RX8, TX8, 16), rfl, by decide, rfl, (zmem 346 (by decide +kernel) (by decide +kernel))⟩
theorem wX8_40 : zFF RX8 40 8 4 := by
  obtain ⟨q, h1, h2, h3, h4⟩ := fX8_40
  cases h1
  exact ⟨_, rfl, h2, h3, h4, ⟨tyX8 4, by decide +kernel, fun a => ⟨rfl, rfl⟩⟩, rfl, rfl⟩
set_option maxRecDepth 20000 in
theorem fX8_47 : zFR RX8 47 8 5 := ⟨(RX8, TX8, 16), rfl, by decide, rfl, (zmem 347 (by decide +kernel) (by decide +kernel))⟩
theorem wX8_47 : zFF RX8 47 8 5 := by
  obtain ⟨q, h1, h2, h3, h4⟩ := fX8_47
  cases h1
  exact ⟨_, rfl, h2, h3, h4, ⟨tyX8 5, by decide +kernel, fun a => ⟨rfl, rfl⟩⟩, rfl, rfl⟩
set_option maxRecDepth 20000 in
theorem fX8_54 : zFR RX8 54 8 6 := ⟨(RX8, TX8, 16), rfl, by decide, rfl, (zmem 348 (by decide +kernel) (by decide +kernel))⟩
theorem wX8_54 : zFF RX8 54 8 6 := by
  obtain ⟨q, h1, h2, h3, h4⟩ := fX8_54
  cases h1
  exact ⟨_, rfl, h2, h3, h4, ⟨tyX8 6, by decide +kernel, fun a => ⟨rfl, rfl⟩⟩, rfl, rfl⟩
set_option maxRecDepth 20000 in
theorem fX8_63 : zFR RX8 63 8 7 := ⟨(RX8, TX8, 16), rfl, by decide, rfl, (zmem 349 (by decide +kernel) (by decide +kernel))⟩
theorem wX8_63 : zFF RX8 63 8 7 := by
  obtain ⟨q, h1, h2, h3, h4⟩ := fX8_63
  cases h1
  exact ⟨_, rfl, h2, h3, h4, ⟨tyX8 7, by decide +kernel, fun a => ⟨rfl, rfl⟩⟩, rfl, rfl⟩
set_option maxRecDepth 20000 in
theorem fX8_67 : zFR RX8 67 8 8 := ⟨(RX8, TX8, 16), rfl, by decide, rfl, (zmem 350 (by decide +kernel) (by decide +kernel))⟩
theorem wX8_67 : zFF RX8 67 8 8 := by
  obtain ⟨q, h1, h2, h3, h4⟩ := fX8_67
  cases h1
  exact ⟨_, rfl, h2, h3, h4, ⟨tyX8 8, by decide +kernel, fun a => ⟨rfl, rfl⟩⟩, rfl, rfl⟩
set_option maxRecDepth 20000 in
theorem fX8_70 : zFR RX8 70 8 9 := ⟨(RX8, TX8, 16), rfl, by decide, rfl, (zmem 351 (by decide +kernel) (by decide +kernel))⟩
theorem wX8_70 : zFF RX8 70 8 9 := by
  obtain ⟨q, h1, h2, h3, h4⟩ := fX8_70
  cases h1
  exact ⟨_, rfl, h2, h3, h4, ⟨tyX8 9, by decide +kernel, fun a => ⟨rfl, rfl⟩⟩, rfl, rfl⟩
set_option maxRecDepth 20000 in
theorem fX8_74 : zFR RX8 74 8 10 := ⟨(RX8, TX8, 16), rfl, by decide, rfl, (zmem 352 (by decide +kernel) (by decide +kernel))⟩
theorem wX8_74 : zFF RX8 74 8 10 := by
  obtain ⟨q, h1, h2, h3, h4⟩ := fX8_74
  cases h1
  exact ⟨_, rfl, h2, h3, h4, ⟨tyX8 10, by decide +kernel, fun a => ⟨rfl, rfl⟩⟩, rfl, rfl⟩
set_option maxRecDepth 20000 in
theorem fX8_78 : zFR RX8 78 8 11 := ⟨(RX8, TX8, 16), rfl, by decide, rfl, (zmem 353 (by decide +kernel) (by decide +kernel))⟩
theorem wX8_78 : zFF RX8 78 8 11 := by
  obtain ⟨q, h1, h2, h3, h4⟩ := fX8_78
  cases h1
  exact ⟨_, rfl, h2, h3, h4, ⟨tyX8 11, by decide +kernel, fun a => ⟨rfl, rfl⟩⟩, rfl, rfl⟩
set_option maxRecDepth 20000 in
theorem fX8_81 : zFR RX8 81 8 12 := ⟨(RX8, TX8, 16), rfl, by decide, rfl, (zmem 354 (by decide +kernel) (by decide +kernel))⟩
theorem wX8_81 : zFF RX8 81 8 12 := by
  obtain ⟨q, h1, h2, h3, h4⟩ := fX8_81
  cases h1
  exact ⟨_, rfl, h2, h3, h4, ⟨tyX8 12, by decide +kernel, fun a => ⟨rfl, rfl⟩⟩, rfl, rfl⟩
set_option maxRecDepth 20000 in
theorem fX8_84 : zFI RX8 84 8 15 := ⟨(RX8, TX8, 16), rfl, by decide, rfl, (zmem 357 (by decide +kernel) (by decide +kernel))⟩
theorem wX8_84 : zFW RX8 84 8 15 := by
  obtain ⟨q, h1, h2, h3, h4⟩ := fX8_84
  cases h1
  exact ⟨_, rfl, h2, h3, h4, by decide +kernel, rfl⟩
set_option maxRecDepth 20000 in
theorem fX8_100 : zFI RX8 100 5 4 := ⟨(RX5, TX5, 8), rfl, by decide, rfl, (zmem 165 (by decide +kernel) (by decide +kernel))⟩
theorem wX8_100 : zFW RX8 100 5 4 := by
  obtain ⟨q, h1, h2, h3, h4⟩ := fX8_100
  cases h1
  exact ⟨_, rfl, h2, h3, h4, by decide +kernel, rfl⟩
set_option maxRecDepth 20000 in
theorem fX8_101 : zFI RX8 101 5 3 := ⟨(RX5, TX5, 8), rfl, by decide, rfl, (zmem 162 (by decide +kernel) (by decide +kernel))⟩
theorem wX8_101 : zFW RX8 101 5 3 := by
  obtain ⟨q, h1, h2, h3, h4⟩ := fX8_101
  cases h1
  exact ⟨_, rfl, h2, h3, h4, by decide +kernel, rfl⟩
set_option maxRecDepth 20000 in
theorem fX8_104 : zFR RX8 104 5 0 := ⟨(RX5, TX5, 8), rfl, by decide, rfl, (zmem 158 (by decide +kernel) (by decide +kernel))⟩
set_option maxRecDepth 20000 in
theorem fX8_111 : zFI RX8 111 2 8 := ⟨(RX2, TX2, 12), rfl, by decide, rfl, (zmem 109 (by decide +kernel) (by decide +kernel))⟩
theorem wX8_111 : zFW RX8 111 2 8 := by
  obtain ⟨q, h1, h2, h3, h4⟩ := fX8_111
  cases h1
  exact ⟨_, rfl, h2, h3, h4, by decide +kernel, rfl⟩
set_option maxRecDepth 20000 in
theorem fX8_114 : zFI RX8 114 2 6 := ⟨(RX2, TX2, 12), rfl, by decide, rfl, (zmem 103 (by decide +kernel) (by decide +kernel))⟩
theorem wX8_114 : zFW RX8 114 2 6 := by
  obtain ⟨q, h1, h2, h3, h4⟩ := fX8_114
  cases h1
  exact ⟨_, rfl, h2, h3, h4, by decide +kernel, rfl⟩
set_option maxRecDepth 20000 in
theorem fX8_117 : zFI RX8 117 2 7 := ⟨(RX2, TX2, 12), rfl, by decide, rfl, (zmem 105 (by decide +kernel) (by decide +kernel))⟩
theorem wX8_117 : zFW RX8 117 2 7 := by
  obtain ⟨q, h1, h2, h3, h4⟩ := fX8_117
  cases h1
  exact ⟨_, rfl, h2, h3, h4, by decide +kernel, rfl⟩
set_option maxRecDepth 20000 in
theorem fX8_120 : zFI RX8 120 2 11 := ⟨(RX2, TX2, 12), rfl, by decide, rfl, (zmem 121 (by decide +kernel) (by decide +kernel))⟩
theorem wX8_120 : zFW RX8 120 2 11 := by
  obtain ⟨q, h1, h2, h3, h4⟩ := fX8_120
  cases h1
  exact ⟨_, rfl, h2, h3, h4, by decide +kernel, rfl⟩
set_option maxRecDepth 20000 in
theorem fX8_123 : zFI RX8 123 5 2 := ⟨(RX5, TX5, 8), rfl, by decide, rfl, (zmem 161 (by decide +kernel) (by decide +kernel))⟩
theorem wX8_123 : zFW RX8 123 5 2 := by
  obtain ⟨q, h1, h2, h3, h4⟩ := fX8_123
  cases h1
  exact ⟨_, rfl, h2, h3, h4, by decide +kernel, rfl⟩
set_option maxRecDepth 20000 in
theorem fX8_126 : zFI RX8 126 7 1 := ⟨(RX7, TX7, 4), rfl, by decide, rfl, (zmem 288 (by decide +kernel) (by decide +kernel))⟩
theorem wX8_126 : zFW RX8 126 7 1 := by
  obtain ⟨q, h1, h2, h3, h4⟩ := fX8_126
  cases h1
  exact ⟨_, rfl, h2, h3, h4, by decide +kernel, rfl⟩
set_option maxRecDepth 20000 in
theorem fX8_129 : zFI RX8 129 2 10 := ⟨(RX2, TX2, 12), rfl, by decide, rfl, (zmem 116 (by decide +kernel) (by decide +kernel))⟩
theorem wX8_129 : zFW RX8 129 2 10 := by
  obtain ⟨q, h1, h2, h3, h4⟩ := fX8_129
  cases h1
  exact ⟨_, rfl, h2, h3, h4, by decide +kernel, rfl⟩
set_option maxRecDepth 20000 in
theorem fX8_132 : zFI RX8 132 7 2 := ⟨(RX7, TX7, 4), rfl, by decide, rfl, (zmem 290 (by decide +kernel) (by decide +kernel))⟩
theorem wX8_132 : zFW RX8 132 7 2 := by
  obtain ⟨q, h1, h2, h3, h4⟩ := fX8_132
  cases h1
  exact ⟨_, rfl, h2, h3, h4, by decide +kernel, rfl⟩
set_option maxRecDepth 20000 in
theorem fX8_135 : zFI RX8 135 7 3 := ⟨(RX7, TX7, 4), rfl, by decide, rfl, (zmem 292 (by decide +kernel) (by decide +kernel))⟩
theorem wX8_135 : zFW RX8 135 7 3 := by
  obtain ⟨q, h1, h2, h3, h4⟩ := fX8_135
  cases h1
  exact ⟨_, rfl, h2, h3, h4, by decide +kernel, rfl⟩
set_option maxRecDepth 20000 in
theorem fX8_136 : zFI RX8 136 3 3 := ⟨(RX3, TX3, 4), rfl, by decide, rfl, (zmem 332 (by decide +kernel) (by decide +kernel))⟩
theorem wX8_136 : zFW RX8 136 3 3 := by
  obtain ⟨q, h1, h2, h3, h4⟩ := fX8_136
  cases h1
  exact ⟨_, rfl, h2, h3, h4, by decide +kernel, rfl⟩
set_option maxRecDepth 20000 in
theorem fX8_139 : zFI RX8 139 1 2 := ⟨(RX1, TX1, 3), rfl, by decide, rfl, (zmem 314 (by decide +kernel) (by decide +kernel))⟩
theorem wX8_139 : zFW RX8 139 1 2 := by
  obtain ⟨q, h1, h2, h3, h4⟩ := fX8_139
  cases h1
  exact ⟨_, rfl, h2, h3, h4, by decide +kernel, rfl⟩
set_option maxRecDepth 20000 in
theorem fX8_144 : zFR RX8 144 7 0 := ⟨(RX7, TX7, 4), rfl, by decide, rfl, (zmem 283 (by decide +kernel) (by decide +kernel))⟩
set_option maxRecDepth 20000 in
theorem fX8_152 : zFR RX8 152 2 0 := ⟨(RX2, TX2, 12), rfl, by decide, rfl, (zmem 89 (by decide +kernel) (by decide +kernel))⟩
set_option maxRecDepth 20000 in
theorem fX8_159 : zFR RX8 159 2 1 := ⟨(RX2, TX2, 12), rfl, by decide, rfl, (zmem 92 (by decide +kernel) (by decide +kernel))⟩
set_option maxRecDepth 20000 in
theorem fX8_162 : zFR RX8 162 2 2 := ⟨(RX2, TX2, 12), rfl, by decide, rfl, (zmem 95 (by decide +kernel) (by decide +kernel))⟩
set_option maxRecDepth 20000 in
theorem fX8_229 : zFI RX8 229 6 3 := ⟨(RX6, TX6, 11), rfl, by decide, rfl, (zmem 199 (by decide +kernel) (by decide +kernel))⟩
theorem wX8_229 : zFW RX8 229 6 3 := by
  obtain ⟨q, h1, h2, h3, h4⟩ := fX8_229
  cases h1
  exact ⟨_, rfl, h2, h3, h4, by decide +kernel, rfl⟩
set_option maxRecDepth 20000 in
theorem fX8_232 : zFI RX8 232 6 4 := ⟨(RX6, TX6, 11), rfl, by decide, rfl, (zmem 201 (by decide +kernel) (by decide +kernel))⟩
theorem wX8_232 : zFW RX8 232 6 4 := by
  obtain ⟨q, h1, h2, h3, h4⟩ := fX8_232
  cases h1
  exact ⟨_, rfl, h2, h3, h4, by decide +kernel, rfl⟩
set_option maxRecDepth 20000 in
theorem fX8_235 : zFR RX8 235 6 2 := ⟨(RX6, TX6, 11), rfl, by decide, rfl, (zmem 197 (by decide +kernel) (by decide +kernel))⟩
set_option maxRecDepth 20000 in
theorem fX8_245 : zFI RX8 245 4 1 := ⟨(RX4, TX4, 6), rfl, by decide, rfl, (zmem 240 (by decide +kernel) (by decide +kernel))⟩
theorem wX8_245 : zFW RX8 245 4 1 := by
  obtain ⟨q, h1, h2, h3, h4⟩ := fX8_245
  cases h1
  exact ⟨_, rfl, h2, h3, h4, by decide +kernel, rfl⟩
set_option maxRecDepth 20000 in
theorem fX8_246 : zFI RX8 246 4 2 := ⟨(RX4, TX4, 6), rfl, by decide, rfl, (zmem 242 (by decide +kernel) (by decide +kernel))⟩
theorem wX8_246 : zFW RX8 246 4 2 := by
  obtain ⟨q, h1, h2, h3, h4⟩ := fX8_246
  cases h1
  exact ⟨_, rfl, h2, h3, h4, by decide +kernel, rfl⟩
set_option maxRecDepth 20000 in
theorem fX8_273 : zFI RX8 273 8 14 := ⟨(RX8, TX8, 16), rfl, by decide, rfl, (zmem 356 (by decide +kernel) (by decide +kernel))⟩
theorem wX8_273 : zFW RX8 273 8 14 := by
  obtain ⟨q, h1, h2, h3, h4⟩ := fX8_273
  cases h1
  exact ⟨_, rfl, h2, h3, h4, by decide +kernel, rfl⟩
set_option maxRecDepth 20000 in
theorem fX8_279 : zFI RX8 279 8 13 := ⟨(RX8, TX8, 16), rfl, by decide, rfl, (zmem 355 (by decide +kernel) (by decide +kernel))⟩
theorem wX8_279 : zFW RX8 279 8 13 := by
  obtain ⟨q, h1, h2, h3, h4⟩ := fX8_279
  cases h1
  exact ⟨_, rfl, h2, h3, h4, by decide +kernel, rfl⟩
set_option maxRecDepth 20000 in
theorem fX8_290 : zFI RX8 290 2 9 := ⟨(RX2, TX2, 12), rfl, by decide, rfl, (zmem 114 (by decide +kernel) (by decide +kernel))⟩
theorem wX8_290 : zFW RX8 290 2 9 := by
  obtain ⟨q, h1, h2, h3, h4⟩ := fX8_290
  cases h1
  exact ⟨_, rfl, h2, h3, h4, by decide +kernel, rfl⟩
set_option maxRecDepth 20000 in
theorem fX0_11 : zFR RX0 11 0 0 := ⟨(RX0, TX0, 2), rfl, by decide, rfl, (zmem 266 (by decide +kernel) (by decide +kernel))⟩
theorem wX0_11 : zFF RX0 11 0 0 := by
  obtain ⟨q, h1, h2, h3, h4⟩ := fX0_11
  cases h1
  exact ⟨_, rfl, h2, h3, h4, ⟨tyX0 0, by decide +kernel, fun a => ⟨rfl, rfl⟩⟩, rfl, rfl⟩
set_option maxRecDepth 20000 in
theorem fX0_16 : zFR RX0 16 0 1 := ⟨(RX0, TX0, 2), rfl, by decide, rfl, (zmem 267 (by decide +kernel) (by decide +kernel))⟩
theorem wX0_16 : zFF RX0 16 0 1 := by
  obtain ⟨q, h1, h2, h3, h4⟩ := fX0_16
  cases h1
  exact ⟨_, rfl, h2, h3, h4, ⟨tyX0 1, by decide +kernel, fun a => ⟨rfl, rfl⟩⟩, rfl, rfl⟩
set_option maxRecDepth 20000 in
theorem fX0_20 : zFI RX0 20 2 11 := ⟨(RX2, TX2, 12), rfl, by decide, rfl, (zmem 118 (by decide +kernel) (by decide +kernel))⟩
theorem wX0_20 : zFW RX0 20 2 11 := by
  obtain ⟨q, h1, h2, h3, h4⟩ := fX0_20
  cases h1
  exact ⟨_, rfl, h2, h3, h4, by decide +kernel, rfl⟩
set_option maxRecDepth 20000 in
theorem fX0_26 : zFR RX0 26 7 0 := ⟨(RX7, TX7, 4), rfl, by decide, rfl, (zmem 281 (by decide +kernel) (by decide +kernel))⟩
set_option maxRecDepth 20000 in
theorem fX0_35 : zFI RX0 35 7 1 := ⟨(RX7, TX7, 4), rfl, by decide, rfl, (zmem 286 (by decide +kernel) (by decide +kernel))⟩
theorem wX0_35 : zFW RX0 35 7 1 := by
  obtain ⟨q, h1, h2, h3, h4⟩ := fX0_35
  cases h1
  exact ⟨_, rfl, h2, h3, h4, by decide +kernel, rfl⟩
set_option maxRecDepth 20000 in
theorem fX0_54 : zFI RX0 54 2 8 := ⟨(RX2, TX2, 12), rfl, by decide, rfl, (zmem 108 (by decide +kernel) (by decide +kernel))⟩
theorem wX0_54 : zFW RX0 54 2 8 := by
  obtain ⟨q, h1, h2, h3, h4⟩ := fX0_54
  cases h1
  exact ⟨_, rfl, h2, h3, h4, by decide +kernel, rfl⟩
set_option maxRecDepth 20000 in
theorem fX0_57 : zFI RX0 57 2 6 := ⟨(RX2, TX2, 12), rfl, by decide, rfl, (zmem 101 (by decide +kernel) (by decide +kernel))⟩
theorem wX0_57 : zFW RX0 57 2 6 := by
  obtain ⟨q, h1, h2, h3, h4⟩ := fX0_57
  cases h1
  exact ⟨_, rfl, h2, h3, h4, by decide +kernel, rfl⟩
set_option maxRecDepth 20000 in
theorem fX1_11 : zFR RX1 11 1 0 := ⟨(RX1, TX1, 3), rfl, by decide, rfl, (zmem 311 (by decide +kernel) (by decide +kernel))⟩
theorem wX1_11 : zFF RX1 11 1 0 := by
  obtain ⟨q, h1, h2, h3, h4⟩ := fX1_11
  cases h1
  exact ⟨_, rfl, h2, h3, h4, ⟨tyX1 0, by decide +kernel, fun a => ⟨rfl, rfl⟩⟩, rfl, rfl⟩
set_option maxRecDepth 20000 in
theorem fX1_18 : zFI RX1 18 1 1 := ⟨(RX1, TX1, 3), rfl, by decide, rfl, (zmem 312 (by decide +kernel) (by decide +kernel))⟩
theorem wX1_18 : zFW RX1 18 1 1 := by
  obtain ⟨q, h1, h2, h3, h4⟩ := fX1_18
  cases h1
  exact ⟨_, rfl, h2, h3, h4, by decide +kernel, rfl⟩
set_option maxRecDepth 20000 in
theorem fX1_26 : zFI RX1 26 1 2 := ⟨(RX1, TX1, 3), rfl, by decide, rfl, (zmem 313 (by decide +kernel) (by decide +kernel))⟩
theorem wX1_26 : zFW RX1 26 1 2 := by
  obtain ⟨q, h1, h2, h3, h4⟩ := fX1_26
  cases h1
  exact ⟨_, rfl, h2, h3, h4, by decide +kernel, rfl⟩
set_option maxRecDepth 20000 in
theorem fX2_9 : zFR RX2 9 2 0 := ⟨(RX2, TX2, 12), rfl, by decide, rfl, (zmem 88 (by decide +kernel) (by decide +kernel))⟩
theorem wX2_9 : zFF RX2 9 2 0 := by
  obtain ⟨q, h1, h2, h3, h4⟩ := fX2_9
  cases h1
  exact ⟨_, rfl, h2, h3, h4, ⟨tyX2 0, by decide +kernel, fun a => ⟨rfl, rfl⟩⟩, rfl, rfl⟩
set_option maxRecDepth 20000 in
theorem fX2_15 : zFR RX2 15 2 1 := ⟨(RX2, TX2, 12), rfl, by decide, rfl, (zmem 91 (by decide +kernel) (by decide +kernel))⟩
theorem wX2_15 : zFF RX2 15 2 1 := by
  obtain ⟨q, h1, h2, h3, h4⟩ := fX2_15
  cases h1
  exact ⟨_, rfl, h2, h3, h4, ⟨tyX2 1, by decide +kernel, fun a => ⟨rfl, rfl⟩⟩, rfl, rfl⟩
set_option maxRecDepth 20000 in
theorem fX2_18 : zFR RX2 18 2 2 := ⟨(RX2, TX2, 12), rfl, by decide, rfl, (zmem 94 (by decide +kernel) (by decide +kernel))⟩
theorem wX2_18 : zFF RX2 18 2 2 := by
  obtain ⟨q, h1, h2, h3, h4⟩ := fX2_18
  cases h1
  exact ⟨_, rfl, h2, h3, h4, ⟨tyX2 2, by decide +kernel, fun a => ⟨rfl, rfl⟩⟩, rfl, rfl⟩
set_option maxRecDepth 20000 in
theorem fX2_21 : zFR RX2 21 2 3 := ⟨(RX2, TX2, 12), rfl, by decide, rfl, (zmem 97 (by decide +kernel) (by decide +kernel))⟩
theorem wX2_21 : zFF RX2 21 2 3 := by
  obtain ⟨q, h1, h2, h3, h4⟩ := fX2_21
  cases h1
  exact ⟨_, rfl, h2, h3, h4, ⟨tyX2 3, by decide +kernel, fun a => ⟨rfl, rfl⟩⟩, rfl, rfl⟩
set_option maxRecDepth 20000 in
theorem fX2_24 : zFR RX2 24 2 4 := ⟨(RX2, TX2, 12), rfl, by decide, rfl, (zmem 98 (by decide +kernel) (by decide +kernel))⟩
theorem wX2_24 : zFF RX2 24 2 4 := by
  obtain ⟨q, h1, h2, h3, h4⟩ := fX2_24
  cases h1
  exact ⟨_, rfl, h2, h3, h4, ⟨tyX2 4, by decide +kernel, fun a => ⟨rfl, rfl⟩⟩, rfl, rfl⟩
set_option maxRecDepth 20000 in
theorem fX2_27 : zFR RX2 27 2 5 := ⟨(RX2, TX2, 12), rfl, by decide, rfl, (zmem 99 (by decide +kernel) (by decide +kernel))⟩
theorem wX2_27 : zFF RX2 27 2 5 := by
  obtain ⟨q, h1, h2, h3, h4⟩ := fX2_27
  cases h1
  exact ⟨_, rfl, h2, h3, h4, ⟨tyX2 5, by decide +kernel, fun a => ⟨rfl, rfl⟩⟩, rfl, rfl⟩
set_option maxRecDepth 20000 in
theorem fX2_30 : zFI RX2 30 2 6 := ⟨(RX2, TX2, 12), rfl, by decide, rfl, (zmem 100 (by decide +kernel) (by decide +kernel))⟩
theorem wX2_30 : zFW RX2 30 2 6 := by
  obtain ⟨q, h1, h2, h3, h4⟩ := fX2_30
  cases h1
  exact ⟨_, rfl, h2, h3, h4, by decide +kernel, rfl⟩
set_option maxRecDepth 20000 in
theorem fX2_34 : zFI RX2 34 2 7 := ⟨(RX2, TX2, 12), rfl, by decide, rfl, (zmem 104 (by decide +kernel) (by decide +kernel))⟩
theorem wX2_34 : zFW RX2 34 2 7 := by
  obtain ⟨q, h1, h2, h3, h4⟩ := fX2_34
  cases h1
  exact ⟨_, rfl, h2, h3, h4, by decide +kernel, rfl⟩
set_option maxRecDepth 20000 in
theorem fX2_37 : zFI RX2 37 2 8 := ⟨(RX2, TX2, 12), rfl, by decide, rfl, (zmem 107 (by decide +kernel) (by decide +kernel))⟩
theorem wX2_37 : zFW RX2 37 2 8 := by
  obtain ⟨q, h1, h2, h3, h4⟩ := fX2_37
  cases h1
  exact ⟨_, rfl, h2, h3, h4, by decide +kernel, rfl⟩
set_option maxRecDepth 20000 in
theorem fX2_40 : zFI RX2 40 2 9 := ⟨(RX2, TX2, 12), rfl, by decide, rfl, (zmem 112 (by decide +kernel) (by decide +kernel))⟩
theorem wX2_40 : zFW RX2 40 2 9 := by
  obtain ⟨q, h1, h2, h3, h4⟩ := fX2_40
  cases h1
  exact ⟨_, rfl, h2, h3, h4, by decide +kernel, rfl⟩
set_option maxRecDepth 20000 in
theorem fX2_43 : zFI RX2 43 2 10 := ⟨(RX2, TX2, 12), rfl, by decide, rfl, (zmem 115 (by decide +kernel) (by decide +kernel))⟩
theorem wX2_43 : zFW RX2 43 2 10 := by
  obtain ⟨q, h1, h2, h3, h4⟩ := fX2_43
  cases h1
  exact ⟨_, rfl, h2, h3, h4, by decide +kernel, rfl⟩
set_option maxRecDepth 20000 in
theorem fX2_46 : zFI RX2 46 2 11 := ⟨(RX2, TX2, 12), rfl, by decide, rfl, (zmem 119 (by decide +kernel) (by decide +kernel))⟩
theorem wX2_46 : zFW RX2 46 2 11 := by
  obtain ⟨q, h1, h2, h3, h4⟩ := fX2_46
  cases h1
  exact ⟨_, rfl, h2, h3, h4, by decide +kernel, rfl⟩
set_option maxRecDepth 20000 in
theorem fX3_9 : zFI RX3 9 3 2 := ⟨(RX3, TX3, 4), rfl, by decide, rfl, (zmem 330 (by decide +kernel) (by decide +kernel))⟩
theorem wX3_9 : zFFI RX3 9 3 2 := by
  obtain ⟨q, h1, h2, h3, h4⟩ := fX3_9
  cases h1
  exact ⟨_, rfl, h2, h3, h4, by decide +kernel, rfl, rfl⟩
set_option maxRecDepth 20000 in
theorem fX3_15 : zFR RX3 15 3 0 := ⟨(RX3, TX3, 4), rfl, by decide, rfl, (zmem 328 (by decide +kernel) (by decide +kernel))⟩
theorem wX3_15 : zFF RX3 15 3 0 := by
  obtain ⟨q, h1, h2, h3, h4⟩ := fX3_15
  cases h1
  exact ⟨_, rfl, h2, h3, h4, ⟨tyX3 0, by decide +kernel, fun a => ⟨rfl, rfl⟩⟩, rfl, rfl⟩
set_option maxRecDepth 20000 in
theorem fX3_19 : zFR RX3 19 3 1 := ⟨(RX3, TX3, 4), rfl, by decide, rfl, (zmem 329 (by decide +kernel) (by decide +kernel))⟩
theorem wX3_19 : zFF RX3 19 3 1 := by
  obtain ⟨q, h1, h2, h3, h4⟩ := fX3_19
  cases h1
  exact ⟨_, rfl, h2, h3, h4, ⟨tyX3 1, by decide +kernel, fun a => ⟨rfl, rfl⟩⟩, rfl, rfl⟩
set_option maxRecDepth 20000 in
theorem fX3_22 : zFI RX3 22 3 3 := ⟨(RX3, TX3, 4), rfl, by decide, rfl, (zmem 331 (by decide +kernel) (by decide +kernel))⟩
theorem wX3_22 : zFW RX3 22 3 3 := by
  obtain ⟨q, h1, h2, h3, h4⟩ := fX3_22
  cases h1
  exact ⟨_, rfl, h2, h3, h4, by decide +kernel, rfl⟩
set_option maxRecDepth 20000 in
theorem fX4_11 : zFR RX4 11 4 0 := ⟨(RX4, TX4, 6), rfl, by decide, rfl, (zmem 238 (by decide +kernel) (by decide +kernel))⟩
theorem wX4_11 : zFF RX4 11 4 0 := by
  obtain ⟨q, h1, h2, h3, h4⟩ := fX4_11
  cases h1
  exact ⟨_, rfl, h2, h3, h4, ⟨tyX4 0, by decide +kernel, fun a => ⟨rfl, rfl⟩⟩, rfl, rfl⟩
set_option maxRecDepth 20000 in
theorem fX4_16 : zFR RX4 16 7 0 := ⟨(RX7, TX7, 4), rfl, by decide, rfl, (zmem 280 (by decide +kernel) (by decide +kernel))⟩
set_option maxRecDepth 20000 in
theorem fX4_26 : zFI RX4 26 7 1 := ⟨(RX7, TX7, 4), rfl, by decide, rfl, (zmem 285 (by decide +kernel) (by decide +kernel))⟩
theorem wX4_26 : zFW RX4 26 7 1 := by
  obtain ⟨q, h1, h2, h3, h4⟩ := fX4_26
  cases h1
  exact ⟨_, rfl, h2, h3, h4, by decide +kernel, rfl⟩
set_option maxRecDepth 20000 in
theorem fX4_30 : zFI RX4 30 4 3 := ⟨(RX4, TX4, 6), rfl, by decide, rfl, (zmem 243 (by decide +kernel) (by decide +kernel))⟩
theorem wX4_30 : zFW RX4 30 4 3 := by
  obtain ⟨q, h1, h2, h3, h4⟩ := fX4_30
  cases h1
  exact ⟨_, rfl, h2, h3, h4, by decide +kernel, rfl⟩
set_option maxRecDepth 20000 in
theorem fX4_31 : zFI RX4 31 4 4 := ⟨(RX4, TX4, 6), rfl, by decide, rfl, (zmem 244 (by decide +kernel) (by decide +kernel))⟩
theorem wX4_31 : zFW RX4 31 4 4 := by
  obtain ⟨q, h1, h2, h3, h4⟩ := fX4_31
  cases h1
  exact ⟨_, rfl, h2, h3, h4, by decide +kernel, rfl⟩
set_option maxRecDepth 20000 in
theorem fX4_34 : zFI RX4 34 4 5 := ⟨(RX4, TX4, 6), rfl, by decide, rfl, (zmem 245 (by decide +kernel) (by decide +kernel))⟩
theorem wX4_34 : zFW RX4 34 4 5 := by
  obtain ⟨q, h1, h2, h3, h4⟩ := fX4_34
  cases h1
  exact ⟨_, rfl, h2, h3, h4, by decide +kernel, rfl⟩
set_option maxRecDepth 20000 in
theorem fX4_37 : zFI RX4 37 4 1 := ⟨(RX4, TX4, 6), rfl, by decide, rfl, (zmem 239 (by decide +kernel) (by decide +kernel))⟩
theorem wX4_37 : zFW RX4 37 4 1 := by
  obtain ⟨q, h1, h2, h3, h4⟩ := fX4_37
  cases h1
  exact ⟨_, rfl, h2, h3, h4, by decide +kernel, rfl⟩
set_option maxRecDepth 20000 in
theorem fX4_40 : zFI RX4 40 4 2 := ⟨(RX4, TX4, 6), rfl, by decide, rfl, (zmem 241 (by decide +kernel) (by decide +kernel))⟩
theorem wX4_40 : zFW RX4 40 4 2 := by
  obtain ⟨q, h1, h2, h3, h4⟩ := fX4_40
  cases h1
  exact ⟨_, rfl, h2, h3, h4, by decide +kernel, rfl⟩
set_option maxRecDepth 20000 in
theorem fX4_51 : zFI RX4 51 2 11 := ⟨(RX2, TX2, 12), rfl, by decide, rfl, (zmem 120 (by decide +kernel) (by decide +kernel))⟩
theorem wX4_51 : zFW RX4 51 2 11 := by
  obtain ⟨q, h1, h2, h3, h4⟩ := fX4_51
  cases h1
  exact ⟨_, rfl, h2, h3, h4, by decide +kernel, rfl⟩
set_option maxRecDepth 20000 in
theorem fX5_12 : zFR RX5 12 5 0 := ⟨(RX5, TX5, 8), rfl, by decide, rfl, (zmem 157 (by decide +kernel) (by decide +kernel))⟩
theorem wX5_12 : zFF RX5 12 5 0 := by
  obtain ⟨q, h1, h2, h3, h4⟩ := fX5_12
  cases h1
  exact ⟨_, rfl, h2, h3, h4, ⟨tyX5 0, by decide +kernel, fun a => ⟨rfl, rfl⟩⟩, rfl, rfl⟩
set_option maxRecDepth 20000 in
theorem fX5_18 : zFR RX5 18 5 1 := ⟨(RX5, TX5, 8), rfl, by decide, rfl, (zmem 159 (by decide +kernel) (by decide +kernel))⟩
theorem wX5_18 : zFF RX5 18 5 1 := by
  obtain ⟨q, h1, h2, h3, h4⟩ := fX5_18
  cases h1
  exact ⟨_, rfl, h2, h3, h4, ⟨tyX5 1, by decide +kernel, fun a => ⟨rfl, rfl⟩⟩, rfl, rfl⟩
set_option maxRecDepth 20000 in
theorem fX5_22 : zFI RX5 22 5 4 := ⟨(RX5, TX5, 8), rfl, by decide, rfl, (zmem 164 (by decide +kernel) (by decide +kernel))⟩
theorem wX5_22 : zFW RX5 22 5 4 := by
  obtain ⟨q, h1, h2, h3, h4⟩ := fX5_22
  cases h1
  exact ⟨_, rfl, h2, h3, h4, by decide +kernel, rfl⟩
set_option maxRecDepth 20000 in
theorem fX5_26 : zFI RX5 26 5 2 := ⟨(RX5, TX5, 8), rfl, by decide, rfl, (zmem 160 (by decide +kernel) (by decide +kernel))⟩
theorem wX5_26 : zFW RX5 26 5 2 := by
  obtain ⟨q, h1, h2, h3, h4⟩ := fX5_26
  cases h1
  exact ⟨_, rfl, h2, h3, h4, by decide +kernel, rfl⟩
set_option maxRecDepth 20000 in
theorem fX5_33 : zFI RX5 33 5 5 := ⟨(RX5, TX5, 8), rfl, by decide, rfl, (zmem 166 (by decide +kernel) (by decide +kernel))⟩
theorem wX5_33 : zFW RX5 33 5 5 := by
  obtain ⟨q, h1, h2, h3, h4⟩ := fX5_33
  cases h1
  exact ⟨_, rfl, h2, h3, h4, by decide +kernel, rfl⟩
set_option maxRecDepth 20000 in
theorem fX5_44 : zFI RX5 44 2 6 := ⟨(RX2, TX2, 12), rfl, by decide, rfl, (zmem 102 (by decide +kernel) (by decide +kernel))⟩
theorem wX5_44 : zFW RX5 44 2 6 := by
  obtain ⟨q, h1, h2, h3, h4⟩ := fX5_44
  cases h1
  exact ⟨_, rfl, h2, h3, h4, by decide +kernel, rfl⟩
set_option maxRecDepth 20000 in
theorem fX5_69 : zFI RX5 69 5 6 := ⟨(RX5, TX5, 8), rfl, by decide, rfl, (zmem 167 (by decide +kernel) (by decide +kernel))⟩
theorem wX5_69 : zFW RX5 69 5 6 := by
  obtain ⟨q, h1, h2, h3, h4⟩ := fX5_69
  cases h1
  exact ⟨_, rfl, h2, h3, h4, by decide +kernel, rfl⟩
set_option maxRecDepth 20000 in
theorem fX5_72 : zFI RX5 72 2 7 := ⟨(RX2, TX2, 12), rfl, by decide, rfl, (zmem 106 (by decide +kernel) (by decide +kernel))⟩
theorem wX5_72 : zFW RX5 72 2 7 := by
  obtain ⟨q, h1, h2, h3, h4⟩ := fX5_72
  cases h1
  exact ⟨_, rfl, h2, h3, h4, by decide +kernel, rfl⟩
set_option maxRecDepth 20000 in
theorem fX5_79 : zFI RX5 79 2 8 := ⟨(RX2, TX2, 12), rfl, by decide, rfl, (zmem 111 (by decide +kernel) (by decide +kernel))⟩
theorem wX5_79 : zFW RX5 79 2 8 := by
  obtain ⟨q, h1, h2, h3, h4⟩ := fX5_79
  cases h1
  exact ⟨_, rfl, h2, h3, h4, by decide +kernel, rfl⟩
set_option maxRecDepth 20000 in
theorem fX5_82 : zFR RX5 82 2 0 := ⟨(RX2, TX2, 12), rfl, by decide, rfl, (zmem 90 (by decide +kernel) (by decide +kernel))⟩
set_option maxRecDepth 20000 in
theorem fX5_89 : zFI RX5 89 5 7 := ⟨(RX5, TX5, 8), rfl, by decide, rfl, (zmem 168 (by decide +kernel) (by decide +kernel))⟩
theorem wX5_89 : zFW RX5 89 5 7 := by
  obtain ⟨q, h1, h2, h3, h4⟩ := fX5_89
  cases h1
  exact ⟨_, rfl, h2, h3, h4, by decide +kernel, rfl⟩
set_option maxRecDepth 20000 in
theorem fX5_95 : zFI RX5 95 2 9 := ⟨(RX2, TX2, 12), rfl, by decide, rfl, (zmem 113 (by decide +kernel) (by decide +kernel))⟩
theorem wX5_95 : zFW RX5 95 2 9 := by
  obtain ⟨q, h1, h2, h3, h4⟩ := fX5_95
  cases h1
  exact ⟨_, rfl, h2, h3, h4, by decide +kernel, rfl⟩
set_option maxRecDepth 20000 in
theorem fX5_98 : zFI RX5 98 2 10 := ⟨(RX2, TX2, 12), rfl, by decide, rfl, (zmem 117 (by decide +kernel) (by decide +kernel))⟩
theorem wX5_98 : zFW RX5 98 2 10 := by
  obtain ⟨q, h1, h2, h3, h4⟩ := fX5_98
  cases h1
  exact ⟨_, rfl, h2, h3, h4, by decide +kernel, rfl⟩
set_option maxRecDepth 20000 in
theorem fX5_107 : zFI RX5 107 2 11 := ⟨(RX2, TX2, 12), rfl, by decide, rfl, (zmem 122 (by decide +kernel) (by decide +kernel))⟩
theorem wX5_107 : zFW RX5 107 2 11 := by
  obtain ⟨q, h1, h2, h3, h4⟩ := fX5_107
  cases h1
  exact ⟨_, rfl, h2, h3, h4, by decide +kernel, rfl⟩
set_option maxRecDepth 20000 in
theorem fX5_113 : zFR RX5 113 2 1 := ⟨(RX2, TX2, 12), rfl, by decide, rfl, (zmem 93 (by decide +kernel) (by decide +kernel))⟩
set_option maxRecDepth 20000 in
theorem fX5_116 : zFR RX5 116 2 2 := ⟨(RX2, TX2, 12), rfl, by decide, rfl, (zmem 96 (by decide +kernel) (by decide +kernel))⟩
set_option maxRecDepth 20000 in
theorem fX5_122 : zFI RX5 122 5 3 := ⟨(RX5, TX5, 8), rfl, by decide, rfl, (zmem 163 (by decide +kernel) (by decide +kernel))⟩
theorem wX5_122 : zFW RX5 122 5 3 := by
  obtain ⟨q, h1, h2, h3, h4⟩ := fX5_122
  cases h1
  exact ⟨_, rfl, h2, h3, h4, by decide +kernel, rfl⟩
set_option maxRecDepth 20000 in
theorem fX6_11 : zFR RX6 11 6 0 := ⟨(RX6, TX6, 11), rfl, by decide, rfl, (zmem 194 (by decide +kernel) (by decide +kernel))⟩
theorem wX6_11 : zFF RX6 11 6 0 := by
  obtain ⟨q, h1, h2, h3, h4⟩ := fX6_11
  cases h1
  exact ⟨_, rfl, h2, h3, h4, ⟨tyX6 0, by decide +kernel, fun a => ⟨rfl, rfl⟩⟩, rfl, rfl⟩
set_option maxRecDepth 20000 in
theorem fX6_16 : zFR RX6 16 6 1 := ⟨(RX6, TX6, 11), rfl, by decide, rfl, (zmem 195 (by decide +kernel) (by decide +kernel))⟩
theorem wX6_16 : zFF RX6 16 6 1 := by
  obtain ⟨q, h1, h2, h3, h4⟩ := fX6_16
  cases h1
  exact ⟨_, rfl, h2, h3, h4, ⟨tyX6 1, by decide +kernel, fun a => ⟨rfl, rfl⟩⟩, rfl, rfl⟩
set_option maxRecDepth 20000 in
theorem fX6_20 : zFR RX6 20 6 2 := ⟨(RX6, TX6, 11), rfl, by decide, rfl, (zmem 196 (by decide +kernel) (by decide +kernel))⟩
theorem wX6_20 : zFF RX6 20 6 2 := by
  obtain ⟨q, h1, h2, h3, h4⟩ := fX6_20
  cases h1
  exact ⟨_, rfl, h2, h3, h4, ⟨tyX6 2, by decide +kernel, fun a => ⟨rfl, rfl⟩⟩, rfl, rfl⟩
set_option maxRecDepth 20000 in
theorem fX6_23 : zFI RX6 23 6 6 := ⟨(RX6, TX6, 11), rfl, by decide, rfl, (zmem 203 (by decide +kernel) (by decide +kernel))⟩
theorem wX6_23 : zFW RX6 23 6 6 := by
  obtain ⟨q, h1, h2, h3, h4⟩ := fX6_23
  cases h1
  exact ⟨_, rfl, h2, h3, h4, by decide +kernel, rfl⟩
set_option maxRecDepth 20000 in
theorem fX6_31 : zFI RX6 31 6 7 := ⟨(RX6, TX6, 11), rfl, by decide, rfl, (zmem 204 (by decide +kernel) (by decide +kernel))⟩
theorem wX6_31 : zFW RX6 31 6 7 := by
  obtain ⟨q, h1, h2, h3, h4⟩ := fX6_31
  cases h1
  exact ⟨_, rfl, h2, h3, h4, by decide +kernel, rfl⟩
set_option maxRecDepth 20000 in
theorem fX6_34 : zFI RX6 34 6 8 := ⟨(RX6, TX6, 11), rfl, by decide, rfl, (zmem 205 (by decide +kernel) (by decide +kernel))⟩
theorem wX6_34 : zFW RX6 34 6 8 := by
  obtain ⟨q, h1, h2, h3, h4⟩ := fX6_34
  cases h1
  exact ⟨_, rfl, h2, h3, h4, by decide +kernel, rfl⟩
set_option maxRecDepth 20000 in
theorem fX6_37 : zFI RX6 37 6 9 := ⟨(RX6, TX6, 11), rfl, by decide, rfl, (zmem 206 (by decide +kernel) (by decide +kernel))⟩
theorem wX6_37 : zFW RX6 37 6 9 := by
  obtain ⟨q, h1, h2, h3, h4⟩ := fX6_37
  cases h1
  exact ⟨_, rfl, h2, h3, h4, by decide +kernel, rfl⟩
set_option maxRecDepth 20000 in
theorem fX6_40 : zFI RX6 40 6 10 := ⟨(RX6, TX6, 11), rfl, by decide, rfl, (zmem 207 (by decide +kernel) (by decide +kernel))⟩
theorem wX6_40 : zFW RX6 40 6 10 := by
  obtain ⟨q, h1, h2, h3, h4⟩ := fX6_40
  cases h1
  exact ⟨_, rfl, h2, h3, h4, by decide +kernel, rfl⟩
set_option maxRecDepth 20000 in
theorem fX6_43 : zFR RX6 43 7 0 := ⟨(RX7, TX7, 4), rfl, by decide, rfl, (zmem 282 (by decide +kernel) (by decide +kernel))⟩
set_option maxRecDepth 20000 in
theorem fX6_52 : zFI RX6 52 7 1 := ⟨(RX7, TX7, 4), rfl, by decide, rfl, (zmem 287 (by decide +kernel) (by decide +kernel))⟩
theorem wX6_52 : zFW RX6 52 7 1 := by
  obtain ⟨q, h1, h2, h3, h4⟩ := fX6_52
  cases h1
  exact ⟨_, rfl, h2, h3, h4, by decide +kernel, rfl⟩
set_option maxRecDepth 20000 in
theorem fX6_55 : zFI RX6 55 6 5 := ⟨(RX6, TX6, 11), rfl, by decide, rfl, (zmem 202 (by decide +kernel) (by decide +kernel))⟩
theorem wX6_55 : zFW RX6 55 6 5 := by
  obtain ⟨q, h1, h2, h3, h4⟩ := fX6_55
  cases h1
  exact ⟨_, rfl, h2, h3, h4, by decide +kernel, rfl⟩
set_option maxRecDepth 20000 in
theorem fX6_56 : zFI RX6 56 6 3 := ⟨(RX6, TX6, 11), rfl, by decide, rfl, (zmem 198 (by decide +kernel) (by decide +kernel))⟩
theorem wX6_56 : zFW RX6 56 6 3 := by
  obtain ⟨q, h1, h2, h3, h4⟩ := fX6_56
  cases h1
  exact ⟨_, rfl, h2, h3, h4, by decide +kernel, rfl⟩
set_option maxRecDepth 20000 in
theorem fX6_59 : zFI RX6 59 6 4 := ⟨(RX6, TX6, 11), rfl, by decide, rfl, (zmem 200 (by decide +kernel) (by decide +kernel))⟩
theorem wX6_59 : zFW RX6 59 6 4 := by
  obtain ⟨q, h1, h2, h3, h4⟩ := fX6_59
  cases h1
  exact ⟨_, rfl, h2, h3, h4, by decide +kernel, rfl⟩
set_option maxRecDepth 20000 in
theorem fX6_70 : zFI RX6 70 2 8 := ⟨(RX2, TX2, 12), rfl, by decide, rfl, (zmem 110 (by decide +kernel) (by decide +kernel))⟩
theorem wX6_70 : zFW RX6 70 2 8 := by
  obtain ⟨q, h1, h2, h3, h4⟩ := fX6_70
  cases h1
  exact ⟨_, rfl, h2, h3, h4, by decide +kernel, rfl⟩
set_option maxRecDepth 20000 in
theorem fX7_9 : zFR RX7 9 7 0 := ⟨(RX7, TX7, 4), rfl, by decide, rfl, (zmem 279 (by decide +kernel) (by decide +kernel))⟩
theorem wX7_9 : zFF RX7 9 7 0 := by
  obtain ⟨q, h1, h2, h3, h4⟩ := fX7_9
  cases h1
  exact ⟨_, rfl, h2, h3, h4, ⟨tyX7 0, by decide +kernel, fun a => ⟨rfl, rfl⟩⟩, rfl, rfl⟩
set_option maxRecDepth 20000 in
theorem fX7_19 : zFI RX7 19 7 1 := ⟨(RX7, TX7, 4), rfl, by decide, rfl, (zmem 284 (by decide +kernel) (by decide +kernel))⟩
theorem wX7_19 : zFW RX7 19 7 1 := by
  obtain ⟨q, h1, h2, h3, h4⟩ := fX7_19
  cases h1
  exact ⟨_, rfl, h2, h3, h4, by decide +kernel, rfl⟩
set_option maxRecDepth 20000 in
theorem fX7_23 : zFI RX7 23 7 2 := ⟨(RX7, TX7, 4), rfl, by decide, rfl, (zmem 289 (by decide +kernel) (by decide +kernel))⟩
theorem wX7_23 : zFW RX7 23 7 2 := by
  obtain ⟨q, h1, h2, h3, h4⟩ := fX7_23
  cases h1
  exact ⟨_, rfl, h2, h3, h4, by decide +kernel, rfl⟩
set_option maxRecDepth 20000 in
theorem fX7_26 : zFI RX7 26 7 3 := ⟨(RX7, TX7, 4), rfl, by decide, rfl, (zmem 291 (by decide +kernel) (by decide +kernel))⟩
theorem wX7_26 : zFW RX7 26 7 3 := by
  obtain ⟨q, h1, h2, h3, h4⟩ := fX7_26
  cases h1
  exact ⟨_, rfl, h2, h3, h4, by decide +kernel, rfl⟩
set_option maxRecDepth 20000 in
theorem fX9_7 : zFR RX9 7 9 3 := ⟨(RX9, TX9, 42), rfl, by decide, rfl, (zmem 824 (by decide +kernel) (by decide +kernel))⟩
theorem wX9_7 : zFF RX9 7 9 3 := by
  obtain ⟨q, h1, h2, h3, h4⟩ := fX9_7
  cases h1
  exact ⟨_, rfl, h2, h3, h4, ⟨tyX9 3, by decide +kernel, fun a => ⟨rfl, rfl⟩⟩, rfl, rfl⟩
set_option maxRecDepth 20000 in
theorem fX9_13 : zFR RX9 13 9 6 := ⟨(RX9, TX9, 42), rfl, by decide, rfl, (zmem 827 (by decide +kernel) (by decide +kernel))⟩
theorem wX9_13 : zFF RX9 13 9 6 := by
  obtain ⟨q, h1, h2, h3, h4⟩ := fX9_13
  cases h1
  exact ⟨_, rfl, h2, h3, h4, ⟨tyX9 6, by decide +kernel, fun a => ⟨rfl, rfl⟩⟩, rfl, rfl⟩
set_option maxRecDepth 20000 in
theorem fX9_16 : zFR RX9 16 9 7 := ⟨(RX9, TX9, 42), rfl, by decide, rfl, (zmem 828 (by decide +kernel) (by decide +kernel))⟩
theorem wX9_16 : zFF RX9 16 9 7 := by
  obtain ⟨q, h1, h2, h3, h4⟩ := fX9_16
  cases h1
  exact ⟨_, rfl, h2, h3, h4, ⟨tyX9 7, by decide +kernel, fun a => ⟨rfl, rfl⟩⟩, rfl, rfl⟩
set_option maxRecDepth 20000 in
theorem fX9_19 : zFR RX9 19 9 8 := ⟨(RX9, TX9, 42), rfl, by decide, rfl, (zmem 829 (by decide +kernel) (by decide +kernel))⟩
theorem wX9_19 : zFF RX9 19 9 8 := by
  obtain ⟨q, h1, h2, h3, h4⟩ := fX9_19
  cases h1
  exact ⟨_, rfl, h2, h3, h4, ⟨tyX9 8, by decide +kernel, fun a => ⟨rfl, rfl⟩⟩, rfl, rfl⟩
set_option maxRecDepth 20000 in
theorem fX9_22 : zFR RX9 22 9 10 := ⟨(RX9, TX9, 42), rfl, by decide, rfl, (zmem 831 (by decide +kernel) (by decide +kernel))⟩
theorem wX9_22 : zFF RX9 22 9 10 := by
  obtain ⟨q, h1, h2, h3, h4⟩ := fX9_22
  cases h1
  exact ⟨_, rfl, h2, h3, h4, ⟨tyX9 10, by decide +kernel, fun a => ⟨rfl, rfl⟩⟩, rfl, rfl⟩
set_option maxRecDepth 20000 in
theorem fX9_25 : zFI RX9 25 9 12 := ⟨(RX9, TX9, 42), rfl, by decide, rfl, (zmem 833 (by decide +kernel) (by decide +kernel))⟩
theorem wX9_25 : zFW RX9 25 9 12 := by
  obtain ⟨q, h1, h2, h3, h4⟩ := fX9_25
  cases h1
  exact ⟨_, rfl, h2, h3, h4, by decide +kernel, rfl⟩
set_option maxRecDepth 20000 in
theorem fX9_29 : zFR RX9 29 9 19 := ⟨(RX9, TX9, 42), rfl, by decide, rfl, (zmem 840 (by decide +kernel) (by decide +kernel))⟩
theorem wX9_29 : zFF RX9 29 9 19 := by
  obtain ⟨q, h1, h2, h3, h4⟩ := fX9_29
  cases h1
  exact ⟨_, rfl, h2, h3, h4, ⟨tyX9 19, by decide +kernel, fun a => ⟨rfl, rfl⟩⟩, rfl, rfl⟩
set_option maxRecDepth 20000 in
theorem fX9_32 : zFR RX9 32 9 23 := ⟨(RX9, TX9, 42), rfl, by decide, rfl, (zmem 844 (by decide +kernel) (by decide +kernel))⟩
theorem wX9_32 : zFF RX9 32 9 23 := by
  obtain ⟨q, h1, h2, h3, h4⟩ := fX9_32
  cases h1
  exact ⟨_, rfl, h2, h3, h4, ⟨tyX9 23, by decide +kernel, fun a => ⟨rfl, rfl⟩⟩, rfl, rfl⟩
set_option maxRecDepth 20000 in
theorem fX9_35 : zFR RX9 35 9 24 := ⟨(RX9, TX9, 42), rfl, by decide, rfl, (zmem 845 (by decide +kernel) (by decide +kernel))⟩
theorem wX9_35 : zFF RX9 35 9 24 := by
  obtain ⟨q, h1, h2, h3, h4⟩ := fX9_35
  cases h1
  exact ⟨_, rfl, h2, h3, h4, ⟨tyX9 24, by decide +kernel, fun a => ⟨rfl, rfl⟩⟩, rfl, rfl⟩
set_option maxRecDepth 20000 in
theorem fX9_38 : zFR RX9 38 9 25 := ⟨(RX9, TX9, 42), rfl, by decide, rfl, (zmem 846 (by decide +kernel) (by decide +kernel))⟩
theorem wX9_38 : zFF RX9 38 9 25 := by
  obtain ⟨q, h1, h2, h3, h4⟩ := fX9_38
  cases h1
  exact ⟨_, rfl, h2, h3, h4, ⟨tyX9 25, by decide +kernel, fun a => ⟨rfl, rfl⟩⟩, rfl, rfl⟩
set_option maxRecDepth 20000 in
theorem fX9_41 : zFR RX9 41 9 27 := ⟨(RX9, TX9, 42), rfl, by decide, rfl, (zmem 848 (by decide +kernel) (by decide +kernel))⟩
theorem wX9_41 : zFF RX9 41 9 27 := by
  obtain ⟨q, h1, h2, h3, h4⟩ := fX9_41
  cases h1
  exact ⟨_, rfl, h2, h3, h4, ⟨tyX9 27, by decide +kernel, fun a => ⟨rfl, rfl⟩⟩, rfl, rfl⟩
set_option maxRecDepth 20000 in
theorem fX9_44 : zFR RX9 44 9 28 := ⟨(RX9, TX9, 42), rfl, by decide, rfl, (zmem 849 (by decide +kernel) (by decide +kernel))⟩
theorem wX9_44 : zFF RX9 44 9 28 := by
  obtain ⟨q, h1, h2, h3, h4⟩ := fX9_44
  cases h1
  exact ⟨_, rfl, h2, h3, h4, ⟨tyX9 28, by decide +kernel, fun a => ⟨rfl, rfl⟩⟩, rfl, rfl⟩
set_option maxRecDepth 20000 in
theorem fX9_47 : zFR RX9 47 9 29 := ⟨(RX9, TX9, 42), rfl, by decide, rfl, (zmem 850 (by decide +kernel) (by decide +kernel))⟩
theorem wX9_47 : zFF RX9 47 9 29 := by
  obtain ⟨q, h1, h2, h3, h4⟩ := fX9_47
  cases h1
  exact ⟨_, rfl, h2, h3, h4, ⟨tyX9 29, by decide +kernel, fun a => ⟨rfl, rfl⟩⟩, rfl, rfl⟩
set_option maxRecDepth 20000 in
theorem fX9_50 : zFR RX9 50 9 32 := ⟨(RX9, TX9, 42), rfl, by decide, rfl, (zmem 853 (by decide +kernel) (by decide +kernel))⟩
theorem wX9_50 : zFF RX9 50 9 32 := by
  obtain ⟨q, h1, h2, h3, h4⟩ := fX9_50
  cases h1
  exact ⟨_, rfl, h2, h3, h4, ⟨tyX9 32, by decide +kernel, fun a => ⟨rfl, rfl⟩⟩, rfl, rfl⟩
set_option maxRecDepth 20000 in
theorem fX9_53 : zFR RX9 53 9 34 := ⟨(RX9, TX9, 42), rfl, by decide, rfl, (zmem 855 (by decide +kernel) (by decide +kernel))⟩
theorem wX9_53 : zFF RX9 53 9 34 := by
  obtain ⟨q, h1, h2, h3, h4⟩ := fX9_53
  cases h1
  exact ⟨_, rfl, h2, h3, h4, ⟨tyX9 34, by decide +kernel, fun a => ⟨rfl, rfl⟩⟩, rfl, rfl⟩
set_option maxRecDepth 20000 in
theorem fX9_56 : zFR RX9 56 9 35 := ⟨(RX9, TX9, 42), rfl, by decide, rfl, (zmem 856 (by decide +kernel) (by decide +kernel))⟩
theorem wX9_56 : zFF RX9 56 9 35 := by
  obtain ⟨q, h1, h2, h3, h4⟩ := fX9_56
  cases h1
  exact ⟨_, rfl, h2, h3, h4, ⟨tyX9 35, by decide +kernel, fun a => ⟨rfl, rfl⟩⟩, rfl, rfl⟩
set_option maxRecDepth 20000 in
theorem fX9_59 : zFR RX9 59 9 36 := ⟨(RX9, TX9, 42), rfl, by decide, rfl, (zmem 857 (by decide +kernel) (by decide +kernel))⟩
theorem wX9_59 : zFF RX9 59 9 36 := by
  obtain ⟨q, h1, h2, h3, h4⟩ := fX9_59
  cases h1
  exact ⟨_, rfl, h2, h3, h4, ⟨tyX9 36, by decide +kernel, fun a => ⟨rfl, rfl⟩⟩, rfl, rfl⟩
set_option maxRecDepth 20000 in
theorem fX9_62 : zFR RX9 62 9 38 := ⟨(RX9, TX9, 42), rfl, by decide, rfl, (zmem 859 (by decide +kernel) (by decide +kernel))⟩
theorem wX9_62 : zFF RX9 62 9 38 := by
  obtain ⟨q, h1, h2, h3, h4⟩ := fX9_62
  cases h1
  exact ⟨_, rfl, h2, h3, h4, ⟨tyX9 38, by decide +kernel, fun a => ⟨rfl, rfl⟩⟩, rfl, rfl⟩
set_option maxRecDepth 20000 in
theorem fX9_65 : zFR RX9 65 9 39 := ⟨(RX9, TX9, 42), rfl, by decide, rfl, (zmem 860 (by decide +kernel) (by decide +kernel))⟩
theorem wX9_65 : zFF RX9 65 9 39 := by
  obtain ⟨q, h1, h2, h3, h4⟩ := fX9_65
  cases h1
  exact ⟨_, rfl, h2, h3, h4, ⟨tyX9 39, by decide +kernel, fun a => ⟨rfl, rfl⟩⟩, rfl, rfl⟩
set_option maxRecDepth 20000 in
theorem fX9_68 : zFR RX9 68 9 40 := ⟨(RX9, TX9, 42), rfl, by decide, rfl, (zmem 861 (by decide +kernel) (by decide +kernel))⟩
theorem wX9_68 : zFF RX9 68 9 40 := by
  obtain ⟨q, h1, h2, h3, h4⟩ := fX9_68
  cases h1
  exact ⟨_, rfl, h2, h3, h4, ⟨tyX9 40, by decide +kernel, fun a => ⟨rfl, rfl⟩⟩, rfl, rfl⟩
set_option maxRecDepth 20000 in
theorem fX9_71 : zFR RX9 71 9 41 := ⟨(RX9, TX9, 42), rfl, by decide, rfl, (zmem 862 (by decide +kernel) (by decide +kernel))⟩
theorem wX9_71 : zFF RX9 71 9 41 := by
  obtain ⟨q, h1, h2, h3, h4⟩ := fX9_71
  cases h1
  exact ⟨_, rfl, h2, h3, h4, ⟨tyX9 41, by decide +kernel, fun a => ⟨rfl, rfl⟩⟩, rfl, rfl⟩
set_option maxRecDepth 20000 in
theorem fX9_75 : zFI RX9 75 9 0 := ⟨(RX9, TX9, 42), rfl, by decide, rfl, (zmem 821 (by decide +kernel) (by decide +kernel))⟩
theorem wX9_75 : zFW RX9 75 9 0 := by
  obtain ⟨q, h1, h2, h3, h4⟩ := fX9_75
  cases h1
  exact ⟨_, rfl, h2, h3, h4, by decide +kernel, rfl⟩
set_option maxRecDepth 20000 in
theorem fX9_78 : zFI RX9 78 9 2 := ⟨(RX9, TX9, 42), rfl, by decide, rfl, (zmem 823 (by decide +kernel) (by decide +kernel))⟩
theorem wX9_78 : zFW RX9 78 9 2 := by
  obtain ⟨q, h1, h2, h3, h4⟩ := fX9_78
  cases h1
  exact ⟨_, rfl, h2, h3, h4, by decide +kernel, rfl⟩
set_option maxRecDepth 20000 in
theorem fX9_90 : zFI RX9 90 9 11 := ⟨(RX9, TX9, 42), rfl, by decide, rfl, (zmem 832 (by decide +kernel) (by decide +kernel))⟩
theorem wX9_90 : zFW RX9 90 9 11 := by
  obtain ⟨q, h1, h2, h3, h4⟩ := fX9_90
  cases h1
  exact ⟨_, rfl, h2, h3, h4, by decide +kernel, rfl⟩
set_option maxRecDepth 20000 in
theorem fX9_94 : zFI RX9 94 9 13 := ⟨(RX9, TX9, 42), rfl, by decide, rfl, (zmem 834 (by decide +kernel) (by decide +kernel))⟩
theorem wX9_94 : zFW RX9 94 9 13 := by
  obtain ⟨q, h1, h2, h3, h4⟩ := fX9_94
  cases h1
  exact ⟨_, rfl, h2, h3, h4, by decide +kernel, rfl⟩
set_option maxRecDepth 20000 in
theorem fX9_109 : zFI RX9 109 9 15 := ⟨(RX9, TX9, 42), rfl, by decide, rfl, (zmem 836 (by decide +kernel) (by decide +kernel))⟩
theorem wX9_109 : zFW RX9 109 9 15 := by
  obtain ⟨q, h1, h2, h3, h4⟩ := fX9_109
  cases h1
  exact ⟨_, rfl, h2, h3, h4, by decide +kernel, rfl⟩
set_option maxRecDepth 20000 in
theorem fX9_112 : zFI RX9 112 9 14 := ⟨(RX9, TX9, 42), rfl, by decide, rfl, (zmem 835 (by decide +kernel) (by decide +kernel))⟩
theorem wX9_112 : zFW RX9 112 9 14 := by
  obtain ⟨q, h1, h2, h3, h4⟩ := fX9_112
  cases h1
  exact ⟨_, rfl, h2, h3, h4, by decide +kernel, rfl⟩
set_option maxRecDepth 20000 in
theorem fX9_118 : zFI RX9 118 9 16 := ⟨(RX9, TX9, 42), rfl, by decide, rfl, (zmem 837 (by decide +kernel) (by decide +kernel))⟩
theorem wX9_118 : zFW RX9 118 9 16 := by
  obtain ⟨q, h1, h2, h3, h4⟩ := fX9_118
  cases h1
  exact ⟨_, rfl, h2, h3, h4, by decide +kernel, rfl⟩
set_option maxRecDepth 20000 in
theorem fX9_121 : zFI RX9 121 9 17 := ⟨(RX9, TX9, 42), rfl, by decide, rfl, (zmem 838 (by decide +kernel) (by decide +kernel))⟩
theorem wX9_121 : zFW RX9 121 9 17 := by
  obtain ⟨q, h1, h2, h3, h4⟩ := fX9_121
  cases h1
  exact ⟨_, rfl, h2, h3, h4, by decide +kernel, rfl⟩
set_option maxRecDepth 20000 in
theorem fX9_128 : zFI RX9 128 9 18 := ⟨(RX9, TX9, 42), rfl, by decide, rfl, (zmem 839 (by decide +kernel) (by decide +kernel))⟩
theorem wX9_128 : zFW RX9 128 9 18 := by
  obtain ⟨q, h1, h2, h3, h4⟩ := fX9_128
  cases h1
  exact ⟨_, rfl, h2, h3, h4, by decide +kernel, rfl⟩
set_option maxRecDepth 20000 in
theorem fX9_134 : zFI RX9 134 9 20 := ⟨(RX9, TX9, 42), rfl, by decide, rfl, (zmem 841 (by decide +kernel) (by decide +kernel))⟩
theorem wX9_134 : zFW RX9 134 9 20 := by
  obtain ⟨q, h1, h2, h3, h4⟩ := fX9_134
  cases h1
  exact ⟨_, rfl, h2, h3, h4, by decide +kernel, rfl⟩
set_option maxRecDepth 20000 in
theorem fX9_137 : zFI RX9 137 9 21 := ⟨(RX9, TX9, 42), rfl, by decide, rfl, (zmem 842 (by decide +kernel) (by decide +kernel))⟩
theorem wX9_137 : zFW RX9 137 9 21 := by
  obtain ⟨q, h1, h2, h3, h4⟩ := fX9_137
  cases h1
  exact ⟨_, rfl, h2, h3, h4, by decide +kernel, rfl⟩
set_option maxRecDepth 20000 in
theorem fX9_144 : zFI RX9 144 9 22 := ⟨(RX9, TX9, 42), rfl, by decide, rfl, (zmem 843 (by decide +kernel) (by decide +kernel))⟩
theorem wX9_144 : zFW RX9 144 9 22 := by
  obtain ⟨q, h1, h2, h3, h4⟩ := fX9_144
  cases h1
  exact ⟨_, rfl, h2, h3, h4, by decide +kernel, rfl⟩
set_option maxRecDepth 20000 in
theorem fX9_163 : zFI RX9 163 9 1 := ⟨(RX9, TX9, 42), rfl, by decide, rfl, (zmem 822 (by decide +kernel) (by decide +kernel))⟩
theorem wX9_163 : zFW RX9 163 9 1 := by
  obtain ⟨q, h1, h2, h3, h4⟩ := fX9_163
  cases h1
  exact ⟨_, rfl, h2, h3, h4, by decide +kernel, rfl⟩
set_option maxRecDepth 20000 in
theorem fX9_166 : zFI RX9 166 9 4 := ⟨(RX9, TX9, 42), rfl, by decide, rfl, (zmem 825 (by decide +kernel) (by decide +kernel))⟩
theorem wX9_166 : zFW RX9 166 9 4 := by
  obtain ⟨q, h1, h2, h3, h4⟩ := fX9_166
  cases h1
  exact ⟨_, rfl, h2, h3, h4, by decide +kernel, rfl⟩
set_option maxRecDepth 20000 in
theorem fX9_169 : zFI RX9 169 9 5 := ⟨(RX9, TX9, 42), rfl, by decide, rfl, (zmem 826 (by decide +kernel) (by decide +kernel))⟩
theorem wX9_169 : zFW RX9 169 9 5 := by
  obtain ⟨q, h1, h2, h3, h4⟩ := fX9_169
  cases h1
  exact ⟨_, rfl, h2, h3, h4, by decide +kernel, rfl⟩
set_option maxRecDepth 20000 in
theorem fX9_178 : zFI RX9 178 9 33 := ⟨(RX9, TX9, 42), rfl, by decide, rfl, (zmem 854 (by decide +kernel) (by decide +kernel))⟩
theorem wX9_178 : zFW RX9 178 9 33 := by
  obtain ⟨q, h1, h2, h3, h4⟩ := fX9_178
  cases h1
  exact ⟨_, rfl, h2, h3, h4, by decide +kernel, rfl⟩
set_option maxRecDepth 20000 in
theorem fX9_181 : zFI RX9 181 9 37 := ⟨(RX9, TX9, 42), rfl, by decide, rfl, (zmem 858 (by decide +kernel) (by decide +kernel))⟩
theorem wX9_181 : zFW RX9 181 9 37 := by
  obtain ⟨q, h1, h2, h3, h4⟩ := fX9_181
  cases h1
  exact ⟨_, rfl, h2, h3, h4, by decide +kernel, rfl⟩
set_option maxRecDepth 20000 in
theorem fX9_184 : zFI RX9 184 9 26 := ⟨(RX9, TX9, 42), rfl, by decide, rfl, (zmem 847 (by decide +kernel) (by decide +kernel))⟩
theorem wX9_184 : zFW RX9 184 9 26 := by
  obtain ⟨q, h1, h2, h3, h4⟩ := fX9_184
  cases h1
  exact ⟨_, rfl, h2, h3, h4, by decide +kernel, rfl⟩
set_option maxRecDepth 20000 in
theorem fX9_210 : zFI RX9 210 9 9 := ⟨(RX9, TX9, 42), rfl, by decide, rfl, (zmem 830 (by decide +kernel) (by decide +kernel))⟩
theorem wX9_210 : zFW RX9 210 9 9 := by
  obtain ⟨q, h1, h2, h3, h4⟩ := fX9_210
  cases h1
  exact ⟨_, rfl, h2, h3, h4, by decide +kernel, rfl⟩
set_option maxRecDepth 20000 in
theorem fX9_239 : zFI RX9 239 9 30 := ⟨(RX9, TX9, 42), rfl, by decide, rfl, (zmem 851 (by decide +kernel) (by decide +kernel))⟩
theorem wX9_239 : zFW RX9 239 9 30 := by
  obtain ⟨q, h1, h2, h3, h4⟩ := fX9_239
  cases h1
  exact ⟨_, rfl, h2, h3, h4, by decide +kernel, rfl⟩
set_option maxRecDepth 20000 in
theorem fX9_242 : zFI RX9 242 9 31 := ⟨(RX9, TX9, 42), rfl, by decide, rfl, (zmem 852 (by decide +kernel) (by decide +kernel))⟩
theorem wX9_242 : zFW RX9 242 9 31 := by
  obtain ⟨q, h1, h2, h3, h4⟩ := fX9_242
  cases h1
  exact ⟨_, rfl, h2, h3, h4, by decide +kernel, rfl⟩
set_option maxRecDepth 20000 in
theorem cy_X2_init : zCy yX2_init cX2_init 1 none 0 := ⟨(zmem 86 (by decide +kernel) (by decide +kernel)), (zmem 62 (by decide +kernel) (by decide +kernel)), by decide +kernel, by decide +kernel⟩
set_option maxRecDepth 20000 in
theorem kX8_11 : zCIN RX8 11 yX2_init cX2_init 1 0 := ⟨cy_X2_init, ⟨"RubbedColours", List.mem_of_getElem? (i := 84) (by decide +kernel), Or.inl ⟨_, _, _, _, rfl⟩⟩, (zmem 85 (by decide +kernel) (by decide +kernel)), rfl⟩
set_option maxRecDepth 20000 in
theorem cy_X5_init : zCy yX5_init cX5_init 1 none 0 := ⟨(zmem 153 (by decide +kernel) (by decide +kernel)), (zmem 63 (by decide +kernel) (by decide +kernel)), by decide +kernel, by decide +kernel⟩
set_option maxRecDepth 20000 in
theorem kX8_18 : zCIN RX8 18 yX5_init cX5_init 1 0 := ⟨cy_X5_init, ⟨"RubbedColours", List.mem_of_getElem? (i := 151) (by decide +kernel), Or.inl ⟨_, _, _, _, rfl⟩⟩, (zmem 152 (by decide +kernel) (by decide +kernel)), rfl⟩
set_option maxRecDepth 20000 in
theorem cy_X6_init : zCy yX6_init cX6_init 1 none 0 := ⟨(zmem 190 (by decide +kernel) (by decide +kernel)), (zmem 64 (by decide +kernel) (by decide +kernel)), by decide +kernel, by decide +kernel⟩
set_option maxRecDepth 20000 in
theorem kX8_25 : zCIN RX8 25 yX6_init cX6_init 1 0 := ⟨cy_X6_init, ⟨"RubbedColours", List.mem_of_getElem? (i := 188) (by decide +kernel), Or.inl ⟨_, _, _, _, rfl⟩⟩, (zmem 189 (by decide +kernel) (by decide +kernel)), rfl⟩
set_option maxRecDepth 20000 in
theorem cy_X4_init : zCy yX4_init cX4_init 1 none 0 := ⟨(zmem 235 (by decide +kernel) (by decide +kernel)), (zmem 65 (by decide +kernel) (by decide +kernel)), by decide +kernel, by decide +kernel⟩
set_option maxRecDepth 20000 in
theorem kX8_32 : zCIN RX8 32 yX4_init cX4_init 1 0 := ⟨cy_X4_init, ⟨"RubbedColours", List.mem_of_getElem? (i := 233) (by decide +kernel), Or.inl ⟨_, _, _, _, rfl⟩⟩, (zmem 234 (by decide +kernel) (by decide +kernel)), rfl⟩
set_option maxRecDepth 20000 in
theorem cy_X0_init : zCy yX0_init cX0_init 1 none 0 := ⟨(zmem 263 (by decide +kernel) (by decide +kernel)), (zmem 66 (by decide +kernel) (by decide +kernel)), by decide +kernel, by decide +kernel⟩
set_option maxRecDepth 20000 in
theorem kX8_39 : zCIN RX8 39 yX0_init cX0_init 1 0 := ⟨cy_X0_init, ⟨"RubbedColours", List.mem_of_getElem? (i := 261) (by decide +kernel), Or.inl ⟨_, _, _, _, rfl⟩⟩, (zmem 262 (by decide +kernel) (by decide +kernel)), rfl⟩
set_option maxRecDepth 20000 in
theorem cy_X7_init : zCy yX7_init cX7_init 1 none 0 := ⟨(zmem 277 (by decide +kernel) (by decide +kernel)), (zmem 67 (by decide +kernel) (by decide +kernel)), by decide +kernel, by decide +kernel⟩
set_option maxRecDepth 20000 in
theorem kX8_46 : zCIN RX8 46 yX7_init cX7_init 1 0 := ⟨cy_X7_init, ⟨"RubbedColours", List.mem_of_getElem? (i := 275) (by decide +kernel), Or.inl ⟨_, _, _, _, rfl⟩⟩, (zmem 276 (by decide +kernel) (by decide +kernel)), rfl⟩
set_option maxRecDepth 20000 in
theorem cy_X1_init : zCy yX1_init cX1_init 2 none 0 := ⟨(zmem 306 (by decide +kernel) (by decide +kernel)), (zmem 68 (by decide +kernel) (by decide +kernel)), by decide +kernel, by decide +kernel⟩
set_option maxRecDepth 20000 in
theorem kX8_53 : zCI RX8 53 yX1_init cX1_init 2 0 := ⟨cy_X1_init, (zmem 304 (by decide +kernel) (by decide +kernel)), (zmem 305 (by decide +kernel) (by decide +kernel)), rfl⟩
set_option maxRecDepth 20000 in
theorem cy_X3_init : zCy yX3_init cX3_init 2 none 1 := ⟨(zmem 326 (by decide +kernel) (by decide +kernel)), (zmem 69 (by decide +kernel) (by decide +kernel)), by decide +kernel, by decide +kernel⟩
set_option maxRecDepth 20000 in
theorem kX8_60 : zCI RX8 60 yX3_init cX3_init 2 1 := ⟨cy_X3_init, (zmem 324 (by decide +kernel) (by decide +kernel)), (zmem 325 (by decide +kernel) (by decide +kernel)), rfl⟩
set_option maxRecDepth 20000 in
theorem cy_X5_addLetter : zCy yX5_addLetter cX5_addLetter 2 (some .int) 1 := ⟨(zmem 399 (by decide +kernel) (by decide +kernel)), (zmem 63 (by decide +kernel) (by decide +kernel)), by decide +kernel, by decide +kernel⟩
set_option maxRecDepth 20000 in
theorem kX8_89 : zCV RX8 89 yX5_addLetter cX5_addLetter 2 (some .int) 1 := ⟨cy_X5_addLetter, (zmem 396 (by decide +kernel) (by decide +kernel)), (zmem 397 (by decide +kernel) (by decide +kernel)), (zmem 398 (by decide +kernel) (by decide +kernel))⟩
set_option maxRecDepth 20000 in
theorem cy_X5_readText : zCy yX5_readText cX5_readText 3 (some .boolean) 0 := ⟨(zmem 408 (by decide +kernel) (by decide +kernel)), (zmem 63 (by decide +kernel) (by decide +kernel)), by decide +kernel, by decide +kernel⟩
set_option maxRecDepth 20000 in
theorem kX8_93 : zCV RX8 93 yX5_readText cX5_readText 3 (some .boolean) 0 := ⟨cy_X5_readText, (zmem 405 (by decide +kernel) (by decide +kernel)), (zmem 406 (by decide +kernel) (by decide +kernel)), (zmem 407 (by decide +kernel) (by decide +kernel))⟩
set_option maxRecDepth 20000 in
theorem cy_X5_dropText : zCy yX5_dropText cX5_dropText 1 none 0 := ⟨(zmem 477 (by decide +kernel) (by decide +kernel)), (zmem 63 (by decide +kernel) (by decide +kernel)), by decide +kernel, by decide +kernel⟩
set_option maxRecDepth 20000 in
theorem kX8_97 : zCV RX8 97 yX5_dropText cX5_dropText 1 none 0 := ⟨cy_X5_dropText, (zmem 474 (by decide +kernel) (by decide +kernel)), (zmem 475 (by decide +kernel) (by decide +kernel)), (zmem 476 (by decide +kernel) (by decide +kernel))⟩
set_option maxRecDepth 20000 in
theorem cy_X8_moveIn : zCy yX8_moveIn cX8_moveIn 2 none 1 := ⟨(zmem 481 (by decide +kernel) (by decide +kernel)), (zmem 61 (by decide +kernel) (by decide +kernel)), by decide +kernel, by decide +kernel⟩
set_option maxRecDepth 20000 in
theorem kX8_107 : zCV RX8 107 yX8_moveIn cX8_moveIn 2 none 1 := ⟨cy_X8_moveIn, (zmem 478 (by decide +kernel) (by decide +kernel)), (zmem 480 (by decide +kernel) (by decide +kernel)), (zmem 13 (by decide +kernel) (by decide +kernel))⟩
set_option maxRecDepth 20000 in
theorem cy_X2_hasCell : zCy yX2_hasCell cX2_hasCell 3 (some .boolean) 2 := ⟨(zmem 509 (by decide +kernel) (by decide +kernel)), (zmem 62 (by decide +kernel) (by decide +kernel)), by decide +kernel, by decide +kernel⟩
set_option maxRecDepth 20000 in
theorem kX8_140 : zCV RX8 140 yX2_hasCell cX2_hasCell 3 (some .boolean) 2 := ⟨cy_X2_hasCell, (zmem 506 (by decide +kernel) (by decide +kernel)), (zmem 507 (by decide +kernel) (by decide +kernel)), (zmem 508 (by decide +kernel) (by decide +kernel))⟩
set_option maxRecDepth 20000 in
theorem cy_X8_cell : zCy yX8_cell cX8_cell 2 (some .int) 2 := ⟨(zmem 446 (by decide +kernel) (by decide +kernel)), (zmem 61 (by decide +kernel) (by decide +kernel)), by decide +kernel, by decide +kernel⟩
set_option maxRecDepth 20000 in
theorem kX8_147 : zCS RX8 147 yX8_cell cX8_cell 2 (some .int) 2 := ⟨cy_X8_cell, (zmem 518 (by decide +kernel) (by decide +kernel)), (zmem 445 (by decide +kernel) (by decide +kernel))⟩
set_option maxRecDepth 20000 in
theorem cy_X2_giftOf : zCy yX2_giftOf cX2_giftOf 4 (some .int) 3 := ⟨(zmem 531 (by decide +kernel) (by decide +kernel)), (zmem 62 (by decide +kernel) (by decide +kernel)), by decide +kernel, by decide +kernel⟩
set_option maxRecDepth 20000 in
theorem kX8_155 : zCV RX8 155 yX2_giftOf cX2_giftOf 4 (some .int) 3 := ⟨cy_X2_giftOf, (zmem 528 (by decide +kernel) (by decide +kernel)), (zmem 529 (by decide +kernel) (by decide +kernel)), (zmem 530 (by decide +kernel) (by decide +kernel))⟩
set_option maxRecDepth 20000 in
theorem cy_X2_hasPair : zCy yX2_hasPair cX2_hasPair 3 (some .boolean) 2 := ⟨(zmem 552 (by decide +kernel) (by decide +kernel)), (zmem 62 (by decide +kernel) (by decide +kernel)), by decide +kernel, by decide +kernel⟩
set_option maxRecDepth 20000 in
theorem kX8_165 : zCV RX8 165 yX2_hasPair cX2_hasPair 3 (some .boolean) 2 := ⟨cy_X2_hasPair, (zmem 549 (by decide +kernel) (by decide +kernel)), (zmem 550 (by decide +kernel) (by decide +kernel)), (zmem 551 (by decide +kernel) (by decide +kernel))⟩
set_option maxRecDepth 20000 in
theorem cy_X1_remember : zCy yX1_remember cX1_remember 2 none 1 := ⟨(zmem 556 (by decide +kernel) (by decide +kernel)), (zmem 68 (by decide +kernel) (by decide +kernel)), by decide +kernel, by decide +kernel⟩
set_option maxRecDepth 20000 in
theorem kX8_168 : zCV RX8 168 yX1_remember cX1_remember 2 none 1 := ⟨cy_X1_remember, (zmem 553 (by decide +kernel) (by decide +kernel)), (zmem 554 (by decide +kernel) (by decide +kernel)), (zmem 555 (by decide +kernel) (by decide +kernel))⟩
set_option maxRecDepth 20000 in
theorem cy_X8_copyParts : zCy yX8_copyParts cX8_copyParts 2 none 2 := ⟨(zmem 488 (by decide +kernel) (by decide +kernel)), (zmem 61 (by decide +kernel) (by decide +kernel)), by decide +kernel, by decide +kernel⟩
set_option maxRecDepth 20000 in
theorem kX8_172 : zCS RX8 172 yX8_copyParts cX8_copyParts 2 none 2 := ⟨cy_X8_copyParts, (zmem 493 (by decide +kernel) (by decide +kernel)), (zmem 487 (by decide +kernel) (by decide +kernel))⟩
set_option maxRecDepth 20000 in
theorem cy_X8_touchNow : zCy yX8_touchNow cX8_touchNow 3 none 2 := ⟨(zmem 568 (by decide +kernel) (by decide +kernel)), (zmem 61 (by decide +kernel) (by decide +kernel)), by decide +kernel, by decide +kernel⟩
set_option maxRecDepth 20000 in
theorem kX8_176 : zCV RX8 176 yX8_touchNow cX8_touchNow 3 none 2 := ⟨cy_X8_touchNow, (zmem 565 (by decide +kernel) (by decide +kernel)), (zmem 567 (by decide +kernel) (by decide +kernel)), (zmem 16 (by decide +kernel) (by decide +kernel))⟩
set_option maxRecDepth 20000 in
theorem cy_X2_hasCoat : zCy yX2_hasCoat cX2_hasCoat 2 (some .boolean) 1 := ⟨(zmem 513 (by decide +kernel) (by decide +kernel)), (zmem 62 (by decide +kernel) (by decide +kernel)), by decide +kernel, by decide +kernel⟩
set_option maxRecDepth 20000 in
theorem kX8_185 : zCV RX8 185 yX2_hasCoat cX2_hasCoat 2 (some .boolean) 1 := ⟨cy_X2_hasCoat, (zmem 581 (by decide +kernel) (by decide +kernel)), (zmem 511 (by decide +kernel) (by decide +kernel)), (zmem 512 (by decide +kernel) (by decide +kernel))⟩
set_option maxRecDepth 20000 in
theorem cy_X8_isIn : zCy yX8_isIn cX8_isIn 2 (some .boolean) 2 := ⟨(zmem 461 (by decide +kernel) (by decide +kernel)), (zmem 61 (by decide +kernel) (by decide +kernel)), by decide +kernel, by decide +kernel⟩
set_option maxRecDepth 20000 in
theorem kX8_189 : zCS RX8 189 yX8_isIn cX8_isIn 2 (some .boolean) 2 := ⟨cy_X8_isIn, (zmem 582 (by decide +kernel) (by decide +kernel)), (zmem 460 (by decide +kernel) (by decide +kernel))⟩
set_option maxRecDepth 20000 in
theorem cy_X8_washNow : zCy yX8_washNow cX8_washNow 2 none 1 := ⟨(zmem 591 (by decide +kernel) (by decide +kernel)), (zmem 61 (by decide +kernel) (by decide +kernel)), by decide +kernel, by decide +kernel⟩
set_option maxRecDepth 20000 in
theorem kX8_193 : zCV RX8 193 yX8_washNow cX8_washNow 2 none 1 := ⟨cy_X8_washNow, (zmem 588 (by decide +kernel) (by decide +kernel)), (zmem 590 (by decide +kernel) (by decide +kernel)), (zmem 17 (by decide +kernel) (by decide +kernel))⟩
set_option maxRecDepth 20000 in
theorem cy_X2_goThroughDay : zCy yX2_goThroughDay cX2_goThroughDay 5 none 3 := ⟨(zmem 599 (by decide +kernel) (by decide +kernel)), (zmem 62 (by decide +kernel) (by decide +kernel)), by decide +kernel, by decide +kernel⟩
set_option maxRecDepth 20000 in
theorem kX8_196 : zCV RX8 196 yX2_goThroughDay cX2_goThroughDay 5 none 3 := ⟨cy_X2_goThroughDay, (zmem 596 (by decide +kernel) (by decide +kernel)), (zmem 597 (by decide +kernel) (by decide +kernel)), (zmem 598 (by decide +kernel) (by decide +kernel))⟩
set_option maxRecDepth 20000 in
theorem cy_X8_driftStep : zCy yX8_driftStep cX8_driftStep 5 none 0 := ⟨(zmem 612 (by decide +kernel) (by decide +kernel)), (zmem 61 (by decide +kernel) (by decide +kernel)), by decide +kernel, by decide +kernel⟩
set_option maxRecDepth 20000 in
theorem kX8_200 : zCV RX8 200 yX8_driftStep cX8_driftStep 5 none 0 := ⟨cy_X8_driftStep, (zmem 609 (by decide +kernel) (by decide +kernel)), (zmem 611 (by decide +kernel) (by decide +kernel)), (zmem 18 (by decide +kernel) (by decide +kernel))⟩
set_option maxRecDepth 20000 in
theorem cy_X1_takeBack : zCy yX1_takeBack cX1_takeBack 2 none 1 := ⟨(zmem 628 (by decide +kernel) (by decide +kernel)), (zmem 68 (by decide +kernel) (by decide +kernel)), by decide +kernel, by decide +kernel⟩
set_option maxRecDepth 20000 in
theorem kX8_203 : zCV RX8 203 yX1_takeBack cX1_takeBack 2 none 1 := ⟨cy_X1_takeBack, (zmem 625 (by decide +kernel) (by decide +kernel)), (zmem 626 (by decide +kernel) (by decide +kernel)), (zmem 627 (by decide +kernel) (by decide +kernel))⟩
set_option maxRecDepth 20000 in
theorem cy_X2_goPlanned : zCy yX2_goPlanned cX2_goPlanned 4 none 3 := ⟨(zmem 603 (by decide +kernel) (by decide +kernel)), (zmem 62 (by decide +kernel) (by decide +kernel)), by decide +kernel, by decide +kernel⟩
set_option maxRecDepth 20000 in
theorem kX8_206 : zCV RX8 206 yX2_goPlanned cX2_goPlanned 4 none 3 := ⟨cy_X2_goPlanned, (zmem 633 (by decide +kernel) (by decide +kernel)), (zmem 601 (by decide +kernel) (by decide +kernel)), (zmem 602 (by decide +kernel) (by decide +kernel))⟩
set_option maxRecDepth 20000 in
theorem cy_X8_lookAlike : zCy yX8_lookAlike cX8_lookAlike 4 (some .boolean) 2 := ⟨(zmem 641 (by decide +kernel) (by decide +kernel)), (zmem 61 (by decide +kernel) (by decide +kernel)), by decide +kernel, by decide +kernel⟩
set_option maxRecDepth 20000 in
theorem kX8_209 : zCV RX8 209 yX8_lookAlike cX8_lookAlike 4 (some .boolean) 2 := ⟨cy_X8_lookAlike, (zmem 638 (by decide +kernel) (by decide +kernel)), (zmem 640 (by decide +kernel) (by decide +kernel)), (zmem 20 (by decide +kernel) (by decide +kernel))⟩
set_option maxRecDepth 20000 in
theorem cy_X8_firstGain : zCy yX8_firstGain cX8_firstGain 5 (some .int) 2 := ⟨(zmem 649 (by decide +kernel) (by decide +kernel)), (zmem 61 (by decide +kernel) (by decide +kernel)), by decide +kernel, by decide +kernel⟩
set_option maxRecDepth 20000 in
theorem kX8_212 : zCV RX8 212 yX8_firstGain cX8_firstGain 5 (some .int) 2 := ⟨cy_X8_firstGain, (zmem 646 (by decide +kernel) (by decide +kernel)), (zmem 648 (by decide +kernel) (by decide +kernel)), (zmem 21 (by decide +kernel) (by decide +kernel))⟩
set_option maxRecDepth 20000 in
theorem cy_X2_hasColour : zCy yX2_hasColour cX2_hasColour 2 (some .boolean) 1 := ⟨(zmem 517 (by decide +kernel) (by decide +kernel)), (zmem 62 (by decide +kernel) (by decide +kernel)), by decide +kernel, by decide +kernel⟩
set_option maxRecDepth 20000 in
theorem kX8_215 : zCV RX8 215 yX2_hasColour cX2_hasColour 2 (some .boolean) 1 := ⟨cy_X2_hasColour, (zmem 654 (by decide +kernel) (by decide +kernel)), (zmem 515 (by decide +kernel) (by decide +kernel)), (zmem 516 (by decide +kernel) (by decide +kernel))⟩
set_option maxRecDepth 20000 in
theorem cy_X8_isAmount : zCy yX8_isAmount cX8_isAmount 1 (some .boolean) 1 := ⟨(zmem 657 (by decide +kernel) (by decide +kernel)), (zmem 61 (by decide +kernel) (by decide +kernel)), by decide +kernel, by decide +kernel⟩
set_option maxRecDepth 20000 in
theorem kX8_218 : zCS RX8 218 yX8_isAmount cX8_isAmount 1 (some .boolean) 1 := ⟨cy_X8_isAmount, (zmem 655 (by decide +kernel) (by decide +kernel)), (zmem 656 (by decide +kernel) (by decide +kernel))⟩
set_option maxRecDepth 20000 in
theorem cy_X6_aimAt : zCy yX6_aimAt cX6_aimAt 6 none 5 := ⟨(zmem 661 (by decide +kernel) (by decide +kernel)), (zmem 64 (by decide +kernel) (by decide +kernel)), by decide +kernel, by decide +kernel⟩
set_option maxRecDepth 20000 in
theorem kX8_221 : zCV RX8 221 yX6_aimAt cX6_aimAt 6 none 5 := ⟨cy_X6_aimAt, (zmem 658 (by decide +kernel) (by decide +kernel)), (zmem 659 (by decide +kernel) (by decide +kernel)), (zmem 660 (by decide +kernel) (by decide +kernel))⟩
set_option maxRecDepth 20000 in
theorem cy_X6_findFewest : zCy yX6_findFewest cX6_findFewest 4 none 2 := ⟨(zmem 666 (by decide +kernel) (by decide +kernel)), (zmem 64 (by decide +kernel) (by decide +kernel)), by decide +kernel, by decide +kernel⟩
set_option maxRecDepth 20000 in
theorem kX8_225 : zCV RX8 225 yX6_findFewest cX6_findFewest 4 none 2 := ⟨cy_X6_findFewest, (zmem 663 (by decide +kernel) (by decide +kernel)), (zmem 664 (by decide +kernel) (by decide +kernel)), (zmem 665 (by decide +kernel) (by decide +kernel))⟩
set_option maxRecDepth 20000 in
theorem cy_X8_wouldHave : zCy yX8_wouldHave cX8_wouldHave 8 (some .boolean) 5 := ⟨(zmem 690 (by decide +kernel) (by decide +kernel)), (zmem 61 (by decide +kernel) (by decide +kernel)), by decide +kernel, by decide +kernel⟩
set_option maxRecDepth 20000 in
theorem kX8_238 : zCV RX8 238 yX8_wouldHave cX8_wouldHave 8 (some .boolean) 5 := ⟨cy_X8_wouldHave, (zmem 687 (by decide +kernel) (by decide +kernel)), (zmem 689 (by decide +kernel) (by decide +kernel)), (zmem 25 (by decide +kernel) (by decide +kernel))⟩
set_option maxRecDepth 20000 in
theorem cy_X4_findFewest : zCy yX4_findFewest cX4_findFewest 5 none 4 := ⟨(zmem 698 (by decide +kernel) (by decide +kernel)), (zmem 65 (by decide +kernel) (by decide +kernel)), by decide +kernel, by decide +kernel⟩
set_option maxRecDepth 20000 in
theorem kX8_242 : zCV RX8 242 yX4_findFewest cX4_findFewest 5 none 4 := ⟨cy_X4_findFewest, (zmem 695 (by decide +kernel) (by decide +kernel)), (zmem 696 (by decide +kernel) (by decide +kernel)), (zmem 697 (by decide +kernel) (by decide +kernel))⟩
set_option maxRecDepth 20000 in
theorem cy_X8_daysToRest : zCy yX8_daysToRest cX8_daysToRest 2 (some .int) 0 := ⟨(zmem 730 (by decide +kernel) (by decide +kernel)), (zmem 61 (by decide +kernel) (by decide +kernel)), by decide +kernel, by decide +kernel⟩
set_option maxRecDepth 20000 in
theorem kX8_249 : zCV RX8 249 yX8_daysToRest cX8_daysToRest 2 (some .int) 0 := ⟨cy_X8_daysToRest, (zmem 727 (by decide +kernel) (by decide +kernel)), (zmem 729 (by decide +kernel) (by decide +kernel)), (zmem 29 (by decide +kernel) (by decide +kernel))⟩
set_option maxRecDepth 20000 in
theorem cy_X8_noteIn : zCy yX8_noteIn cX8_noteIn 5 (some .int) 4 := ⟨(zmem 752 (by decide +kernel) (by decide +kernel)), (zmem 61 (by decide +kernel) (by decide +kernel)), by decide +kernel, by decide +kernel⟩
set_option maxRecDepth 20000 in
theorem kX8_257 : zCV RX8 257 yX8_noteIn cX8_noteIn 5 (some .int) 4 := ⟨cy_X8_noteIn, (zmem 749 (by decide +kernel) (by decide +kernel)), (zmem 751 (by decide +kernel) (by decide +kernel)), (zmem 31 (by decide +kernel) (by decide +kernel))⟩
set_option maxRecDepth 20000 in
theorem cy_X0_findFitting : zCy yX0_findFitting cX0_findFitting 6 (some .int) 3 := ⟨(zmem 765 (by decide +kernel) (by decide +kernel)), (zmem 66 (by decide +kernel) (by decide +kernel)), by decide +kernel, by decide +kernel⟩
set_option maxRecDepth 20000 in
theorem kX8_261 : zCV RX8 261 yX0_findFitting cX0_findFitting 6 (some .int) 3 := ⟨cy_X0_findFitting, (zmem 762 (by decide +kernel) (by decide +kernel)), (zmem 763 (by decide +kernel) (by decide +kernel)), (zmem 764 (by decide +kernel) (by decide +kernel))⟩
set_option maxRecDepth 20000 in
theorem cy_X0_bestLook : zCy yX0_bestLook cX0_bestLook 8 (some .int) 2 := ⟨(zmem 779 (by decide +kernel) (by decide +kernel)), (zmem 66 (by decide +kernel) (by decide +kernel)), by decide +kernel, by decide +kernel⟩
set_option maxRecDepth 20000 in
theorem kX8_265 : zCV RX8 265 yX0_bestLook cX0_bestLook 8 (some .int) 2 := ⟨cy_X0_bestLook, (zmem 776 (by decide +kernel) (by decide +kernel)), (zmem 777 (by decide +kernel) (by decide +kernel)), (zmem 778 (by decide +kernel) (by decide +kernel))⟩
set_option maxRecDepth 20000 in
theorem cy_X3_firstWrong : zCy yX3_firstWrong cX3_firstWrong 3 (some .int) 1 := ⟨(zmem 771 (by decide +kernel) (by decide +kernel)), (zmem 69 (by decide +kernel) (by decide +kernel)), by decide +kernel, by decide +kernel⟩
set_option maxRecDepth 20000 in
theorem kX8_269 : zCV RX8 269 yX3_firstWrong cX3_firstWrong 3 (some .int) 1 := ⟨cy_X3_firstWrong, (zmem 801 (by decide +kernel) (by decide +kernel)), (zmem 769 (by decide +kernel) (by decide +kernel)), (zmem 770 (by decide +kernel) (by decide +kernel))⟩
set_option maxRecDepth 20000 in
theorem cy_X7_become : zCy yX7_become cX7_become 2 none 1 := ⟨(zmem 560 (by decide +kernel) (by decide +kernel)), (zmem 67 (by decide +kernel) (by decide +kernel)), by decide +kernel, by decide +kernel⟩
set_option maxRecDepth 20000 in
theorem kX8_276 : zCV RX8 276 yX7_become cX7_become 2 none 1 := ⟨cy_X7_become, (zmem 810 (by decide +kernel) (by decide +kernel)), (zmem 558 (by decide +kernel) (by decide +kernel)), (zmem 559 (by decide +kernel) (by decide +kernel))⟩
set_option maxRecDepth 20000 in
theorem cy_X2_become : zCy yX2_become cX2_become 2 none 1 := ⟨(zmem 485 (by decide +kernel) (by decide +kernel)), (zmem 62 (by decide +kernel) (by decide +kernel)), by decide +kernel, by decide +kernel⟩
set_option maxRecDepth 20000 in
theorem kX8_288 : zCV RX8 288 yX2_become cX2_become 2 none 1 := ⟨cy_X2_become, (zmem 482 (by decide +kernel) (by decide +kernel)), (zmem 483 (by decide +kernel) (by decide +kernel)), (zmem 484 (by decide +kernel) (by decide +kernel))⟩
set_option maxRecDepth 20000 in
theorem cy_X2_exchange : zCy yX2_exchange cX2_exchange 7 none 4 := ⟨(zmem 572 (by decide +kernel) (by decide +kernel)), (zmem 62 (by decide +kernel) (by decide +kernel)), by decide +kernel, by decide +kernel⟩
set_option maxRecDepth 20000 in
theorem kX8_293 : zCV RX8 293 yX2_exchange cX2_exchange 7 none 4 := ⟨cy_X2_exchange, (zmem 569 (by decide +kernel) (by decide +kernel)), (zmem 570 (by decide +kernel) (by decide +kernel)), (zmem 571 (by decide +kernel) (by decide +kernel))⟩
set_option maxRecDepth 20000 in
theorem cy_X8_drawOf : zCy yX8_drawOf cX8_drawOf 2 (some .int) 1 := ⟨(zmem 616 (by decide +kernel) (by decide +kernel)), (zmem 61 (by decide +kernel) (by decide +kernel)), by decide +kernel, by decide +kernel⟩
set_option maxRecDepth 20000 in
theorem kX8_297 : zCV RX8 297 yX8_drawOf cX8_drawOf 2 (some .int) 1 := ⟨cy_X8_drawOf, (zmem 613 (by decide +kernel) (by decide +kernel)), (zmem 615 (by decide +kernel) (by decide +kernel)), (zmem 19 (by decide +kernel) (by decide +kernel))⟩
set_option maxRecDepth 20000 in
theorem cy_X8_isUnchanged : zCy yX8_isUnchanged cX8_isUnchanged 2 (some .boolean) 0 := ⟨(zmem 734 (by decide +kernel) (by decide +kernel)), (zmem 61 (by decide +kernel) (by decide +kernel)), by decide +kernel, by decide +kernel⟩
set_option maxRecDepth 20000 in
theorem kX8_307 : zCV RX8 307 yX8_isUnchanged cX8_isUnchanged 2 (some .boolean) 0 := ⟨cy_X8_isUnchanged, (zmem 731 (by decide +kernel) (by decide +kernel)), (zmem 733 (by decide +kernel) (by decide +kernel)), (zmem 30 (by decide +kernel) (by decide +kernel))⟩
set_option maxRecDepth 20000 in
theorem cy_X3_addNote : zCy yX3_addNote cX3_addNote 3 (some .int) 2 := ⟨(zmem 756 (by decide +kernel) (by decide +kernel)), (zmem 69 (by decide +kernel) (by decide +kernel)), by decide +kernel, by decide +kernel⟩
set_option maxRecDepth 20000 in
theorem kX8_310 : zCV RX8 310 yX3_addNote cX3_addNote 3 (some .int) 2 := ⟨cy_X3_addNote, (zmem 753 (by decide +kernel) (by decide +kernel)), (zmem 754 (by decide +kernel) (by decide +kernel)), (zmem 755 (by decide +kernel) (by decide +kernel))⟩
set_option maxRecDepth 20000 in
theorem kX0_31 : zCSN RX0 31 yX8_copyParts cX8_copyParts 2 none 2 := ⟨cy_X8_copyParts, ⟨"RubbedColours", List.mem_of_getElem? (i := 766) (by decide +kernel), Or.inl ⟨_, _, _, _, rfl⟩⟩, (zmem 487 (by decide +kernel) (by decide +kernel))⟩
set_option maxRecDepth 20000 in
theorem kX0_38 : zCV RX0 38 yX2_goThroughDay cX2_goThroughDay 5 none 3 := ⟨cy_X2_goThroughDay, (zmem 767 (by decide +kernel) (by decide +kernel)), (zmem 597 (by decide +kernel) (by decide +kernel)), (zmem 598 (by decide +kernel) (by decide +kernel))⟩
set_option maxRecDepth 20000 in
theorem kX0_42 : zCV RX0 42 yX3_firstWrong cX3_firstWrong 3 (some .int) 1 := ⟨cy_X3_firstWrong, (zmem 768 (by decide +kernel) (by decide +kernel)), (zmem 769 (by decide +kernel) (by decide +kernel)), (zmem 770 (by decide +kernel) (by decide +kernel))⟩
set_option maxRecDepth 20000 in
theorem cy_J6_bitCount_0f7a4 : zCy yJ6_bitCount_0f7a4 cJ6_bitCount_0f7a4 1 (some .int) 1 := ⟨(zmem 710 (by decide +kernel) (by decide +kernel)), (zmem 73 (by decide +kernel) (by decide +kernel)), by decide +kernel, by decide +kernel⟩
set_option maxRecDepth 20000 in
theorem kX0_48 : zCS RX0 48 yJ6_bitCount_0f7a4 cJ6_bitCount_0f7a4 1 (some .int) 1 := ⟨cy_J6_bitCount_0f7a4, (zmem 780 (by decide +kernel) (by decide +kernel)), (zmem 709 (by decide +kernel) (by decide +kernel))⟩
set_option maxRecDepth 20000 in
theorem kX0_60 : zCSN RX0 60 yX8_cell cX8_cell 2 (some .int) 2 := ⟨cy_X8_cell, ⟨"RubbedColours", List.mem_of_getElem? (i := 781) (by decide +kernel), Or.inl ⟨_, _, _, _, rfl⟩⟩, (zmem 445 (by decide +kernel) (by decide +kernel))⟩
set_option maxRecDepth 20000 in
theorem cy_X0_greatestPart : zCy yX0_greatestPart cX0_greatestPart 6 (some .int) 2 := ⟨(zmem 785 (by decide +kernel) (by decide +kernel)), (zmem 66 (by decide +kernel) (by decide +kernel)), by decide +kernel, by decide +kernel⟩
set_option maxRecDepth 20000 in
theorem kX0_64 : zCV RX0 64 yX0_greatestPart cX0_greatestPart 6 (some .int) 2 := ⟨cy_X0_greatestPart, (zmem 782 (by decide +kernel) (by decide +kernel)), (zmem 784 (by decide +kernel) (by decide +kernel)), (zmem 32 (by decide +kernel) (by decide +kernel))⟩
set_option maxRecDepth 20000 in
theorem kX0_67 : zCSN RX0 67 yX8_isIn cX8_isIn 2 (some .boolean) 2 := ⟨cy_X8_isIn, ⟨"RubbedColours", List.mem_of_getElem? (i := 786) (by decide +kernel), Or.inl ⟨_, _, _, _, rfl⟩⟩, (zmem 460 (by decide +kernel) (by decide +kernel))⟩
set_option maxRecDepth 20000 in
theorem kX0_71 : zCSN RX0 71 yX8_isAmount cX8_isAmount 1 (some .boolean) 1 := ⟨cy_X8_isAmount, ⟨"RubbedColours", List.mem_of_getElem? (i := 787) (by decide +kernel), Or.inl ⟨_, _, _, _, rfl⟩⟩, (zmem 656 (by decide +kernel) (by decide +kernel))⟩
set_option maxRecDepth 20000 in
theorem kX1_17 : zCIN RX1 17 yX7_init cX7_init 1 0 := ⟨cy_X7_init, ⟨"RubbedColours", List.mem_of_getElem? (i := 310) (by decide +kernel), Or.inl ⟨_, _, _, _, rfl⟩⟩, (zmem 276 (by decide +kernel) (by decide +kernel)), rfl⟩
set_option maxRecDepth 20000 in
theorem kX1_22 : zCV RX1 22 yX7_become cX7_become 2 none 1 := ⟨cy_X7_become, (zmem 557 (by decide +kernel) (by decide +kernel)), (zmem 558 (by decide +kernel) (by decide +kernel)), (zmem 559 (by decide +kernel) (by decide +kernel))⟩
set_option maxRecDepth 20000 in
theorem kX2_49 : zCSN RX2 49 yX8_copyParts cX8_copyParts 2 none 2 := ⟨cy_X8_copyParts, ⟨"RubbedColours", List.mem_of_getElem? (i := 486) (by decide +kernel), Or.inl ⟨_, _, _, _, rfl⟩⟩, (zmem 487 (by decide +kernel) (by decide +kernel))⟩
set_option maxRecDepth 20000 in
theorem kX2_59 : zCV RX2 59 yX2_hasCoat cX2_hasCoat 2 (some .boolean) 1 := ⟨cy_X2_hasCoat, (zmem 510 (by decide +kernel) (by decide +kernel)), (zmem 511 (by decide +kernel) (by decide +kernel)), (zmem 512 (by decide +kernel) (by decide +kernel))⟩
set_option maxRecDepth 20000 in
theorem kX2_63 : zCV RX2 63 yX2_hasColour cX2_hasColour 2 (some .boolean) 1 := ⟨cy_X2_hasColour, (zmem 514 (by decide +kernel) (by decide +kernel)), (zmem 515 (by decide +kernel) (by decide +kernel)), (zmem 516 (by decide +kernel) (by decide +kernel))⟩
set_option maxRecDepth 20000 in
theorem cy_X2_fillGift : zCy yX2_fillGift cX2_fillGift 7 none 3 := ⟨(zmem 535 (by decide +kernel) (by decide +kernel)), (zmem 62 (by decide +kernel) (by decide +kernel)), by decide +kernel, by decide +kernel⟩
set_option maxRecDepth 20000 in
theorem kX2_66 : zCV RX2 66 yX2_fillGift cX2_fillGift 7 none 3 := ⟨cy_X2_fillGift, (zmem 532 (by decide +kernel) (by decide +kernel)), (zmem 534 (by decide +kernel) (by decide +kernel)), (zmem 14 (by decide +kernel) (by decide +kernel))⟩
set_option maxRecDepth 20000 in
theorem kX2_70 : zCSN RX2 70 yX8_isIn cX8_isIn 2 (some .boolean) 2 := ⟨cy_X8_isIn, ⟨"RubbedColours", List.mem_of_getElem? (i := 573) (by decide +kernel), Or.inl ⟨_, _, _, _, rfl⟩⟩, (zmem 460 (by decide +kernel) (by decide +kernel))⟩
set_option maxRecDepth 20000 in
theorem kX2_74 : zCSN RX2 74 yX8_cell cX8_cell 2 (some .int) 2 := ⟨cy_X8_cell, ⟨"RubbedColours", List.mem_of_getElem? (i := 536) (by decide +kernel), Or.inl ⟨_, _, _, _, rfl⟩⟩, (zmem 445 (by decide +kernel) (by decide +kernel))⟩
set_option maxRecDepth 20000 in
theorem kX2_78 : zCV RX2 78 yX2_exchange cX2_exchange 7 none 4 := ⟨cy_X2_exchange, (zmem 604 (by decide +kernel) (by decide +kernel)), (zmem 570 (by decide +kernel) (by decide +kernel)), (zmem 571 (by decide +kernel) (by decide +kernel))⟩
set_option maxRecDepth 20000 in
theorem kX2_82 : zCV RX2 82 yX2_goPlanned cX2_goPlanned 4 none 3 := ⟨cy_X2_goPlanned, (zmem 600 (by decide +kernel) (by decide +kernel)), (zmem 601 (by decide +kernel) (by decide +kernel)), (zmem 602 (by decide +kernel) (by decide +kernel))⟩
set_option maxRecDepth 20000 in
theorem cy_X2_greatestRest : zCy yX2_greatestRest cX2_greatestRest 3 (some .int) 0 := ⟨(zmem 540 (by decide +kernel) (by decide +kernel)), (zmem 62 (by decide +kernel) (by decide +kernel)), by decide +kernel, by decide +kernel⟩
set_option maxRecDepth 20000 in
theorem kX2_86 : zCV RX2 86 yX2_greatestRest cX2_greatestRest 3 (some .int) 0 := ⟨cy_X2_greatestRest, (zmem 537 (by decide +kernel) (by decide +kernel)), (zmem 539 (by decide +kernel) (by decide +kernel)), (zmem 15 (by decide +kernel) (by decide +kernel))⟩
set_option maxRecDepth 20000 in
theorem kX4_22 : zCSN RX4 22 yX8_copyParts cX8_copyParts 2 none 2 := ⟨cy_X8_copyParts, ⟨"RubbedColours", List.mem_of_getElem? (i := 699) (by decide +kernel), Or.inl ⟨_, _, _, _, rfl⟩⟩, (zmem 487 (by decide +kernel) (by decide +kernel))⟩
set_option maxRecDepth 20000 in
theorem cy_X4_goOn : zCy yX4_goOn cX4_goOn 4 none 3 := ⟨(zmem 703 (by decide +kernel) (by decide +kernel)), (zmem 65 (by decide +kernel) (by decide +kernel)), by decide +kernel, by decide +kernel⟩
set_option maxRecDepth 20000 in
theorem kX4_43 : zCV RX4 43 yX4_goOn cX4_goOn 4 none 3 := ⟨cy_X4_goOn, (zmem 700 (by decide +kernel) (by decide +kernel)), (zmem 702 (by decide +kernel) (by decide +kernel)), (zmem 26 (by decide +kernel) (by decide +kernel))⟩
set_option maxRecDepth 20000 in
theorem cy_X4_isBetter : zCy yX4_isBetter cX4_isBetter 3 (some .boolean) 1 := ⟨(zmem 707 (by decide +kernel) (by decide +kernel)), (zmem 65 (by decide +kernel) (by decide +kernel)), by decide +kernel, by decide +kernel⟩
set_option maxRecDepth 20000 in
theorem kX4_47 : zCV RX4 47 yX4_isBetter cX4_isBetter 3 (some .boolean) 1 := ⟨cy_X4_isBetter, (zmem 704 (by decide +kernel) (by decide +kernel)), (zmem 706 (by decide +kernel) (by decide +kernel)), (zmem 27 (by decide +kernel) (by decide +kernel))⟩
set_option maxRecDepth 20000 in
theorem cy_X4_takeIfFits : zCy yX4_takeIfFits cX4_takeIfFits 3 none 2 := ⟨(zmem 717 (by decide +kernel) (by decide +kernel)), (zmem 65 (by decide +kernel) (by decide +kernel)), by decide +kernel, by decide +kernel⟩
set_option maxRecDepth 20000 in
theorem kX4_56 : zCV RX4 56 yX4_takeIfFits cX4_takeIfFits 3 none 2 := ⟨cy_X4_takeIfFits, (zmem 714 (by decide +kernel) (by decide +kernel)), (zmem 716 (by decide +kernel) (by decide +kernel)), (zmem 28 (by decide +kernel) (by decide +kernel))⟩
set_option maxRecDepth 20000 in
theorem kX4_60 : zCV RX4 60 yX2_goPlanned cX2_goPlanned 4 none 3 := ⟨cy_X2_goPlanned, (zmem 718 (by decide +kernel) (by decide +kernel)), (zmem 601 (by decide +kernel) (by decide +kernel)), (zmem 602 (by decide +kernel) (by decide +kernel))⟩
set_option maxRecDepth 20000 in
theorem kX4_64 : zCS RX4 64 yJ6_bitCount_0f7a4 cJ6_bitCount_0f7a4 1 (some .int) 1 := ⟨cy_J6_bitCount_0f7a4, (zmem 708 (by decide +kernel) (by decide +kernel)), (zmem 709 (by decide +kernel) (by decide +kernel))⟩
set_option maxRecDepth 20000 in
theorem kX5_11 : zCIN RX5 11 yX2_init cX2_init 1 0 := ⟨cy_X2_init, ⟨"RubbedColours", List.mem_of_getElem? (i := 156) (by decide +kernel), Or.inl ⟨_, _, _, _, rfl⟩⟩, (zmem 85 (by decide +kernel) (by decide +kernel)), rfl⟩
set_option maxRecDepth 20000 in
theorem cy_X2_clear : zCy yX2_clear cX2_clear 1 none 0 := ⟨(zmem 412 (by decide +kernel) (by decide +kernel)), (zmem 62 (by decide +kernel) (by decide +kernel)), by decide +kernel, by decide +kernel⟩
set_option maxRecDepth 20000 in
theorem kX5_30 : zCV RX5 30 yX2_clear cX2_clear 1 none 0 := ⟨cy_X2_clear, (zmem 409 (by decide +kernel) (by decide +kernel)), (zmem 410 (by decide +kernel) (by decide +kernel)), (zmem 411 (by decide +kernel) (by decide +kernel))⟩
set_option maxRecDepth 20000 in
theorem cy_X5_ahead : zCy yX5_ahead cX5_ahead 1 (some .int) 0 := ⟨(zmem 416 (by decide +kernel) (by decide +kernel)), (zmem 63 (by decide +kernel) (by decide +kernel)), by decide +kernel, by decide +kernel⟩
set_option maxRecDepth 20000 in
theorem kX5_36 : zCV RX5 36 yX5_ahead cX5_ahead 1 (some .int) 0 := ⟨cy_X5_ahead, (zmem 413 (by decide +kernel) (by decide +kernel)), (zmem 415 (by decide +kernel) (by decide +kernel)), (zmem 0 (by decide +kernel) (by decide +kernel))⟩
set_option maxRecDepth 20000 in
theorem cy_X5_readClause : zCy yX5_readClause cX5_readClause 2 (some .boolean) 0 := ⟨(zmem 420 (by decide +kernel) (by decide +kernel)), (zmem 63 (by decide +kernel) (by decide +kernel)), by decide +kernel, by decide +kernel⟩
set_option maxRecDepth 20000 in
theorem kX5_40 : zCV RX5 40 yX5_readClause cX5_readClause 2 (some .boolean) 0 := ⟨cy_X5_readClause, (zmem 417 (by decide +kernel) (by decide +kernel)), (zmem 419 (by decide +kernel) (by decide +kernel)), (zmem 1 (by decide +kernel) (by decide +kernel))⟩
set_option maxRecDepth 20000 in
theorem cy_X5_failAt : zCy yX5_failAt cX5_failAt 3 (some .boolean) 2 := ⟨(zmem 424 (by decide +kernel) (by decide +kernel)), (zmem 63 (by decide +kernel) (by decide +kernel)), by decide +kernel, by decide +kernel⟩
set_option maxRecDepth 20000 in
theorem kX5_47 : zCV RX5 47 yX5_failAt cX5_failAt 3 (some .boolean) 2 := ⟨cy_X5_failAt, (zmem 421 (by decide +kernel) (by decide +kernel)), (zmem 423 (by decide +kernel) (by decide +kernel)), (zmem 2 (by decide +kernel) (by decide +kernel))⟩
set_option maxRecDepth 20000 in
theorem cy_X5_readColours : zCy yX5_readColours cX5_readColours 2 (some .boolean) 0 := ⟨(zmem 428 (by decide +kernel) (by decide +kernel)), (zmem 63 (by decide +kernel) (by decide +kernel)), by decide +kernel, by decide +kernel⟩
set_option maxRecDepth 20000 in
theorem kX5_51 : zCV RX5 51 yX5_readColours cX5_readColours 2 (some .boolean) 0 := ⟨cy_X5_readColours, (zmem 425 (by decide +kernel) (by decide +kernel)), (zmem 427 (by decide +kernel) (by decide +kernel)), (zmem 3 (by decide +kernel) (by decide +kernel))⟩
set_option maxRecDepth 20000 in
theorem cy_X5_readCoat : zCy yX5_readCoat cX5_readCoat 3 (some .boolean) 0 := ⟨(zmem 443 (by decide +kernel) (by decide +kernel)), (zmem 63 (by decide +kernel) (by decide +kernel)), by decide +kernel, by decide +kernel⟩
set_option maxRecDepth 20000 in
theorem kX5_54 : zCV RX5 54 yX5_readCoat cX5_readCoat 3 (some .boolean) 0 := ⟨cy_X5_readCoat, (zmem 440 (by decide +kernel) (by decide +kernel)), (zmem 442 (by decide +kernel) (by decide +kernel)), (zmem 6 (by decide +kernel) (by decide +kernel))⟩
set_option maxRecDepth 20000 in
theorem cy_X5_readGloves : zCy yX5_readGloves cX5_readGloves 1 (some .boolean) 0 := ⟨(zmem 450 (by decide +kernel) (by decide +kernel)), (zmem 63 (by decide +kernel) (by decide +kernel)), by decide +kernel, by decide +kernel⟩
set_option maxRecDepth 20000 in
theorem kX5_57 : zCV RX5 57 yX5_readGloves cX5_readGloves 1 (some .boolean) 0 := ⟨cy_X5_readGloves, (zmem 447 (by decide +kernel) (by decide +kernel)), (zmem 449 (by decide +kernel) (by decide +kernel)), (zmem 7 (by decide +kernel) (by decide +kernel))⟩
set_option maxRecDepth 20000 in
theorem cy_X5_readDay : zCy yX5_readDay cX5_readDay 2 (some .boolean) 0 := ⟨(zmem 465 (by decide +kernel) (by decide +kernel)), (zmem 63 (by decide +kernel) (by decide +kernel)), by decide +kernel, by decide +kernel⟩
set_option maxRecDepth 20000 in
theorem kX5_60 : zCV RX5 60 yX5_readDay cX5_readDay 2 (some .boolean) 0 := ⟨cy_X5_readDay, (zmem 462 (by decide +kernel) (by decide +kernel)), (zmem 464 (by decide +kernel) (by decide +kernel)), (zmem 10 (by decide +kernel) (by decide +kernel))⟩
set_option maxRecDepth 20000 in
theorem cy_X5_readDog : zCy yX5_readDog cX5_readDog 1 (some .boolean) 0 := ⟨(zmem 473 (by decide +kernel) (by decide +kernel)), (zmem 63 (by decide +kernel) (by decide +kernel)), by decide +kernel, by decide +kernel⟩
set_option maxRecDepth 20000 in
theorem kX5_63 : zCV RX5 63 yX5_readDog cX5_readDog 1 (some .boolean) 0 := ⟨cy_X5_readDog, (zmem 470 (by decide +kernel) (by decide +kernel)), (zmem 472 (by decide +kernel) (by decide +kernel)), (zmem 12 (by decide +kernel) (by decide +kernel))⟩
set_option maxRecDepth 20000 in
theorem cy_X5_readNumber : zCy yX5_readNumber cX5_readNumber 3 (some .boolean) 2 := ⟨(zmem 432 (by decide +kernel) (by decide +kernel)), (zmem 63 (by decide +kernel) (by decide +kernel)), by decide +kernel, by decide +kernel⟩
set_option maxRecDepth 20000 in
theorem kX5_66 : zCV RX5 66 yX5_readNumber cX5_readNumber 3 (some .boolean) 2 := ⟨cy_X5_readNumber, (zmem 429 (by decide +kernel) (by decide +kernel)), (zmem 431 (by decide +kernel) (by decide +kernel)), (zmem 4 (by decide +kernel) (by decide +kernel))⟩
set_option maxRecDepth 20000 in
theorem cy_X5_readSign : zCy yX5_readSign cX5_readSign 2 (some .boolean) 1 := ⟨(zmem 439 (by decide +kernel) (by decide +kernel)), (zmem 63 (by decide +kernel) (by decide +kernel)), by decide +kernel, by decide +kernel⟩
set_option maxRecDepth 20000 in
theorem kX5_75 : zCV RX5 75 yX5_readSign cX5_readSign 2 (some .boolean) 1 := ⟨cy_X5_readSign, (zmem 436 (by decide +kernel) (by decide +kernel)), (zmem 438 (by decide +kernel) (by decide +kernel)), (zmem 5 (by decide +kernel) (by decide +kernel))⟩
set_option maxRecDepth 20000 in
theorem kX5_85 : zCSN RX5 85 yX8_cell cX8_cell 2 (some .int) 2 := ⟨cy_X8_cell, ⟨"RubbedColours", List.mem_of_getElem? (i := 444) (by decide +kernel), Or.inl ⟨_, _, _, _, rfl⟩⟩, (zmem 445 (by decide +kernel) (by decide +kernel))⟩
set_option maxRecDepth 20000 in
theorem cy_X5_readUnmarked : zCy yX5_readUnmarked cX5_readUnmarked 1 (some .boolean) 0 := ⟨(zmem 454 (by decide +kernel) (by decide +kernel)), (zmem 63 (by decide +kernel) (by decide +kernel)), by decide +kernel, by decide +kernel⟩
set_option maxRecDepth 20000 in
theorem kX5_92 : zCV RX5 92 yX5_readUnmarked cX5_readUnmarked 1 (some .boolean) 0 := ⟨cy_X5_readUnmarked, (zmem 451 (by decide +kernel) (by decide +kernel)), (zmem 453 (by decide +kernel) (by decide +kernel)), (zmem 8 (by decide +kernel) (by decide +kernel))⟩
set_option maxRecDepth 20000 in
theorem cy_X5_readToldCoat : zCy yX5_readToldCoat cX5_readToldCoat 1 (some .boolean) 0 := ⟨(zmem 458 (by decide +kernel) (by decide +kernel)), (zmem 63 (by decide +kernel) (by decide +kernel)), by decide +kernel, by decide +kernel⟩
set_option maxRecDepth 20000 in
theorem kX5_101 : zCV RX5 101 yX5_readToldCoat cX5_readToldCoat 1 (some .boolean) 0 := ⟨cy_X5_readToldCoat, (zmem 455 (by decide +kernel) (by decide +kernel)), (zmem 457 (by decide +kernel) (by decide +kernel)), (zmem 9 (by decide +kernel) (by decide +kernel))⟩
set_option maxRecDepth 20000 in
theorem kX5_104 : zCSN RX5 104 yX8_isIn cX8_isIn 2 (some .boolean) 2 := ⟨cy_X8_isIn, ⟨"RubbedColours", List.mem_of_getElem? (i := 459) (by decide +kernel), Or.inl ⟨_, _, _, _, rfl⟩⟩, (zmem 460 (by decide +kernel) (by decide +kernel))⟩
set_option maxRecDepth 20000 in
theorem cy_X5_readTouch : zCy yX5_readTouch cX5_readTouch 3 (some .boolean) 1 := ⟨(zmem 469 (by decide +kernel) (by decide +kernel)), (zmem 63 (by decide +kernel) (by decide +kernel)), by decide +kernel, by decide +kernel⟩
set_option maxRecDepth 20000 in
theorem kX5_110 : zCV RX5 110 yX5_readTouch cX5_readTouch 3 (some .boolean) 1 := ⟨cy_X5_readTouch, (zmem 466 (by decide +kernel) (by decide +kernel)), (zmem 468 (by decide +kernel) (by decide +kernel)), (zmem 11 (by decide +kernel) (by decide +kernel))⟩
set_option maxRecDepth 20000 in
theorem cy_X5_isFigure : zCy yX5_isFigure cX5_isFigure 1 (some .boolean) 1 := ⟨(zmem 435 (by decide +kernel) (by decide +kernel)), (zmem 63 (by decide +kernel) (by decide +kernel)), by decide +kernel, by decide +kernel⟩
set_option maxRecDepth 20000 in
theorem kX5_119 : zCS RX5 119 yX5_isFigure cX5_isFigure 1 (some .boolean) 1 := ⟨cy_X5_isFigure, (zmem 433 (by decide +kernel) (by decide +kernel)), (zmem 434 (by decide +kernel) (by decide +kernel))⟩
set_option maxRecDepth 20000 in
theorem kX6_27 : zCSN RX6 27 yX8_cell cX8_cell 2 (some .int) 2 := ⟨cy_X8_cell, ⟨"RubbedColours", List.mem_of_getElem? (i := 662) (by decide +kernel), Or.inl ⟨_, _, _, _, rfl⟩⟩, (zmem 445 (by decide +kernel) (by decide +kernel))⟩
set_option maxRecDepth 20000 in
theorem kX6_48 : zCSN RX6 48 yX8_copyParts cX8_copyParts 2 none 2 := ⟨cy_X8_copyParts, ⟨"RubbedColours", List.mem_of_getElem? (i := 667) (by decide +kernel), Or.inl ⟨_, _, _, _, rfl⟩⟩, (zmem 487 (by decide +kernel) (by decide +kernel))⟩
set_option maxRecDepth 20000 in
theorem cy_X6_goOn : zCy yX6_goOn cX6_goOn 6 none 3 := ⟨(zmem 671 (by decide +kernel) (by decide +kernel)), (zmem 64 (by decide +kernel) (by decide +kernel)), by decide +kernel, by decide +kernel⟩
set_option maxRecDepth 20000 in
theorem kX6_62 : zCV RX6 62 yX6_goOn cX6_goOn 6 none 3 := ⟨cy_X6_goOn, (zmem 668 (by decide +kernel) (by decide +kernel)), (zmem 670 (by decide +kernel) (by decide +kernel)), (zmem 22 (by decide +kernel) (by decide +kernel))⟩
set_option maxRecDepth 20000 in
theorem cy_X6_countIfFits : zCy yX6_countIfFits cX6_countIfFits 2 none 1 := ⟨(zmem 675 (by decide +kernel) (by decide +kernel)), (zmem 64 (by decide +kernel) (by decide +kernel)), by decide +kernel, by decide +kernel⟩
set_option maxRecDepth 20000 in
theorem kX6_66 : zCV RX6 66 yX6_countIfFits cX6_countIfFits 2 none 1 := ⟨cy_X6_countIfFits, (zmem 672 (by decide +kernel) (by decide +kernel)), (zmem 674 (by decide +kernel) (by decide +kernel)), (zmem 23 (by decide +kernel) (by decide +kernel))⟩
set_option maxRecDepth 20000 in
theorem cy_X6_canServe : zCy yX6_canServe cX6_canServe 4 (some .boolean) 3 := ⟨(zmem 680 (by decide +kernel) (by decide +kernel)), (zmem 64 (by decide +kernel) (by decide +kernel)), by decide +kernel, by decide +kernel⟩
set_option maxRecDepth 20000 in
theorem kX6_75 : zCV RX6 75 yX6_canServe cX6_canServe 4 (some .boolean) 3 := ⟨cy_X6_canServe, (zmem 677 (by decide +kernel) (by decide +kernel)), (zmem 679 (by decide +kernel) (by decide +kernel)), (zmem 24 (by decide +kernel) (by decide +kernel))⟩
set_option maxRecDepth 20000 in
theorem kX6_79 : zCV RX6 79 yX2_exchange cX2_exchange 7 none 4 := ⟨cy_X2_exchange, (zmem 682 (by decide +kernel) (by decide +kernel)), (zmem 570 (by decide +kernel) (by decide +kernel)), (zmem 571 (by decide +kernel) (by decide +kernel))⟩
set_option maxRecDepth 20000 in
theorem kX6_83 : zCSN RX6 83 yX8_isIn cX8_isIn 2 (some .boolean) 2 := ⟨cy_X8_isIn, ⟨"RubbedColours", List.mem_of_getElem? (i := 681) (by decide +kernel), Or.inl ⟨_, _, _, _, rfl⟩⟩, (zmem 460 (by decide +kernel) (by decide +kernel))⟩
set_option maxRecDepth 20000 in
theorem kX7_15 : zCSN RX7 15 yX8_copyParts cX8_copyParts 2 none 2 := ⟨cy_X8_copyParts, ⟨"RubbedColours", List.mem_of_getElem? (i := 561) (by decide +kernel), Or.inl ⟨_, _, _, _, rfl⟩⟩, (zmem 487 (by decide +kernel) (by decide +kernel))⟩
set_option maxRecDepth 20000 in
theorem cy_X8_init : zCy yX8_init cX8_init 2 none 0 := ⟨(zmem 78 (by decide +kernel) (by decide +kernel)), (zmem 61 (by decide +kernel) (by decide +kernel)), by decide +kernel, by decide +kernel⟩
set_option maxRecDepth 20000 in
theorem kL_9 : zCI RL 9 yX8_init cX8_init 2 0 := ⟨cy_X8_init, (zmem 76 (by decide +kernel) (by decide +kernel)), (zmem 77 (by decide +kernel) (by decide +kernel)), rfl⟩
set_option maxRecDepth 20000 in
theorem cy_X9_init : zCy yX9_init cX9_init 1 none 0 := ⟨(zmem 819 (by decide +kernel) (by decide +kernel)), (zmem 70 (by decide +kernel) (by decide +kernel)), by decide +kernel, by decide +kernel⟩
set_option maxRecDepth 20000 in
theorem kL_12 : zCI RL 12 yX9_init cX9_init 1 0 := ⟨cy_X9_init, (zmem 817 (by decide +kernel) (by decide +kernel)), (zmem 818 (by decide +kernel) (by decide +kernel)), rfl⟩
set_option maxRecDepth 20000 in
theorem cy_X8_feed : zCy yX8_feed cX8_feed 2 (some .int) 1 := ⟨(zmem 394 (by decide +kernel) (by decide +kernel)), (zmem 61 (by decide +kernel) (by decide +kernel)), by decide +kernel, by decide +kernel⟩
set_option maxRecDepth 20000 in
theorem kL_13 : zCV RL 13 yX8_feed cX8_feed 2 (some .int) 1 := ⟨cy_X8_feed, (zmem 391 (by decide +kernel) (by decide +kernel)), (zmem 392 (by decide +kernel) (by decide +kernel)), (zmem 393 (by decide +kernel) (by decide +kernel))⟩
set_option maxRecDepth 20000 in
theorem cy_X9_feed : zCy yX9_feed cX9_feed 2 (some .int) 1 := ⟨(zmem 952 (by decide +kernel) (by decide +kernel)), (zmem 70 (by decide +kernel) (by decide +kernel)), by decide +kernel, by decide +kernel⟩
set_option maxRecDepth 20000 in
theorem kL_17 : zCV RL 17 yX9_feed cX9_feed 2 (some .int) 1 := ⟨cy_X9_feed, (zmem 949 (by decide +kernel) (by decide +kernel)), (zmem 950 (by decide +kernel) (by decide +kernel)), (zmem 951 (by decide +kernel) (by decide +kernel))⟩
set_option maxRecDepth 20000 in
theorem cy_X8_house : zCy yX8_house cX8_house 2 (some .int) 0 := ⟨(zmem 404 (by decide +kernel) (by decide +kernel)), (zmem 61 (by decide +kernel) (by decide +kernel)), by decide +kernel, by decide +kernel⟩
set_option maxRecDepth 20000 in
theorem kL_18 : zCV RL 18 yX8_house cX8_house 2 (some .int) 0 := ⟨cy_X8_house, (zmem 401 (by decide +kernel) (by decide +kernel)), (zmem 402 (by decide +kernel) (by decide +kernel)), (zmem 403 (by decide +kernel) (by decide +kernel))⟩
set_option maxRecDepth 20000 in
theorem cy_X9_house : zCy yX9_house cX9_house 2 (some .int) 0 := ⟨(zmem 962 (by decide +kernel) (by decide +kernel)), (zmem 70 (by decide +kernel) (by decide +kernel)), by decide +kernel, by decide +kernel⟩
set_option maxRecDepth 20000 in
theorem kL_22 : zCV RL 22 yX9_house cX9_house 2 (some .int) 0 := ⟨cy_X9_house, (zmem 959 (by decide +kernel) (by decide +kernel)), (zmem 960 (by decide +kernel) (by decide +kernel)), (zmem 961 (by decide +kernel) (by decide +kernel))⟩
set_option maxRecDepth 20000 in
theorem cy_X8_fault : zCy yX8_fault cX8_fault 1 (some .int) 0 := ⟨(zmem 497 (by decide +kernel) (by decide +kernel)), (zmem 61 (by decide +kernel) (by decide +kernel)), by decide +kernel, by decide +kernel⟩
set_option maxRecDepth 20000 in
theorem kL_23 : zCV RL 23 yX8_fault cX8_fault 1 (some .int) 0 := ⟨cy_X8_fault, (zmem 494 (by decide +kernel) (by decide +kernel)), (zmem 495 (by decide +kernel) (by decide +kernel)), (zmem 496 (by decide +kernel) (by decide +kernel))⟩
set_option maxRecDepth 20000 in
theorem cy_X9_fault : zCy yX9_fault cX9_fault 1 (some .int) 0 := ⟨(zmem 1019 (by decide +kernel) (by decide +kernel)), (zmem 70 (by decide +kernel) (by decide +kernel)), by decide +kernel, by decide +kernel⟩
set_option maxRecDepth 20000 in
theorem kL_26 : zCV RL 26 yX9_fault cX9_fault 1 (some .int) 0 := ⟨cy_X9_fault, (zmem 1016 (by decide +kernel) (by decide +kernel)), (zmem 1017 (by decide +kernel) (by decide +kernel)), (zmem 1018 (by decide +kernel) (by decide +kernel))⟩
set_option maxRecDepth 20000 in
theorem cy_X8_told : zCy yX8_told cX8_told 2 (some .int) 1 := ⟨(zmem 501 (by decide +kernel) (by decide +kernel)), (zmem 61 (by decide +kernel) (by decide +kernel)), by decide +kernel, by decide +kernel⟩
set_option maxRecDepth 20000 in
theorem kL_27 : zCV RL 27 yX8_told cX8_told 2 (some .int) 1 := ⟨cy_X8_told, (zmem 498 (by decide +kernel) (by decide +kernel)), (zmem 499 (by decide +kernel) (by decide +kernel)), (zmem 500 (by decide +kernel) (by decide +kernel))⟩
set_option maxRecDepth 20000 in
theorem cy_X9_told : zCy yX9_told cX9_told 2 (some .int) 1 := ⟨(zmem 1023 (by decide +kernel) (by decide +kernel)), (zmem 70 (by decide +kernel) (by decide +kernel)), by decide +kernel, by decide +kernel⟩
set_option maxRecDepth 20000 in
theorem kL_30 : zCV RL 30 yX9_told cX9_told 2 (some .int) 1 := ⟨cy_X9_told, (zmem 1020 (by decide +kernel) (by decide +kernel)), (zmem 1021 (by decide +kernel) (by decide +kernel)), (zmem 1022 (by decide +kernel) (by decide +kernel))⟩
set_option maxRecDepth 20000 in
theorem cy_X8_parts : zCy yX8_parts cX8_parts 3 (some .int) 2 := ⟨(zmem 505 (by decide +kernel) (by decide +kernel)), (zmem 61 (by decide +kernel) (by decide +kernel)), by decide +kernel, by decide +kernel⟩
set_option maxRecDepth 20000 in
theorem kL_31 : zCV RL 31 yX8_parts cX8_parts 3 (some .int) 2 := ⟨cy_X8_parts, (zmem 502 (by decide +kernel) (by decide +kernel)), (zmem 503 (by decide +kernel) (by decide +kernel)), (zmem 504 (by decide +kernel) (by decide +kernel))⟩
set_option maxRecDepth 20000 in
theorem cy_X9_parts : zCy yX9_parts cX9_parts 3 (some .int) 2 := ⟨(zmem 1027 (by decide +kernel) (by decide +kernel)), (zmem 70 (by decide +kernel) (by decide +kernel)), by decide +kernel, by decide +kernel⟩
set_option maxRecDepth 20000 in
theorem kL_35 : zCV RL 35 yX9_parts cX9_parts 3 (some .int) 2 := ⟨cy_X9_parts, (zmem 1024 (by decide +kernel) (by decide +kernel)), (zmem 1025 (by decide +kernel) (by decide +kernel)), (zmem 1026 (by decide +kernel) (by decide +kernel))⟩
set_option maxRecDepth 20000 in
theorem cy_X8_own : zCy yX8_own cX8_own 3 (some .int) 2 := ⟨(zmem 523 (by decide +kernel) (by decide +kernel)), (zmem 61 (by decide +kernel) (by decide +kernel)), by decide +kernel, by decide +kernel⟩
set_option maxRecDepth 20000 in
theorem kL_36 : zCV RL 36 yX8_own cX8_own 3 (some .int) 2 := ⟨cy_X8_own, (zmem 520 (by decide +kernel) (by decide +kernel)), (zmem 521 (by decide +kernel) (by decide +kernel)), (zmem 522 (by decide +kernel) (by decide +kernel))⟩
set_option maxRecDepth 20000 in
theorem cy_X9_own : zCy yX9_own cX9_own 3 (some .int) 2 := ⟨(zmem 1040 (by decide +kernel) (by decide +kernel)), (zmem 70 (by decide +kernel) (by decide +kernel)), by decide +kernel, by decide +kernel⟩
set_option maxRecDepth 20000 in
theorem kL_39 : zCV RL 39 yX9_own cX9_own 3 (some .int) 2 := ⟨cy_X9_own, (zmem 1037 (by decide +kernel) (by decide +kernel)), (zmem 1038 (by decide +kernel) (by decide +kernel)), (zmem 1039 (by decide +kernel) (by decide +kernel))⟩
set_option maxRecDepth 20000 in
theorem cy_X8_gives : zCy yX8_gives cX8_gives 3 (some .int) 2 := ⟨(zmem 527 (by decide +kernel) (by decide +kernel)), (zmem 61 (by decide +kernel) (by decide +kernel)), by decide +kernel, by decide +kernel⟩
set_option maxRecDepth 20000 in
theorem kL_40 : zCV RL 40 yX8_gives cX8_gives 3 (some .int) 2 := ⟨cy_X8_gives, (zmem 524 (by decide +kernel) (by decide +kernel)), (zmem 525 (by decide +kernel) (by decide +kernel)), (zmem 526 (by decide +kernel) (by decide +kernel))⟩
set_option maxRecDepth 20000 in
theorem cy_X9_gives : zCy yX9_gives cX9_gives 3 (some .int) 2 := ⟨(zmem 1044 (by decide +kernel) (by decide +kernel)), (zmem 70 (by decide +kernel) (by decide +kernel)), by decide +kernel, by decide +kernel⟩
set_option maxRecDepth 20000 in
theorem kL_43 : zCV RL 43 yX9_gives cX9_gives 3 (some .int) 2 := ⟨cy_X9_gives, (zmem 1041 (by decide +kernel) (by decide +kernel)), (zmem 1042 (by decide +kernel) (by decide +kernel)), (zmem 1043 (by decide +kernel) (by decide +kernel))⟩
set_option maxRecDepth 20000 in
theorem cy_X8_planned : zCy yX8_planned cX8_planned 2 (some .int) 1 := ⟨(zmem 544 (by decide +kernel) (by decide +kernel)), (zmem 61 (by decide +kernel) (by decide +kernel)), by decide +kernel, by decide +kernel⟩
set_option maxRecDepth 20000 in
theorem kL_44 : zCV RL 44 yX8_planned cX8_planned 2 (some .int) 1 := ⟨cy_X8_planned, (zmem 541 (by decide +kernel) (by decide +kernel)), (zmem 542 (by decide +kernel) (by decide +kernel)), (zmem 543 (by decide +kernel) (by decide +kernel))⟩
set_option maxRecDepth 20000 in
theorem cy_X9_planned : zCy yX9_planned cX9_planned 2 (some .int) 1 := ⟨(zmem 1052 (by decide +kernel) (by decide +kernel)), (zmem 70 (by decide +kernel) (by decide +kernel)), by decide +kernel, by decide +kernel⟩
set_option maxRecDepth 20000 in
theorem kL_47 : zCV RL 47 yX9_planned cX9_planned 2 (some .int) 1 := ⟨cy_X9_planned, (zmem 1049 (by decide +kernel) (by decide +kernel)), (zmem 1050 (by decide +kernel) (by decide +kernel)), (zmem 1051 (by decide +kernel) (by decide +kernel))⟩
set_option maxRecDepth 20000 in
theorem cy_X8_touch : zCy yX8_touch cX8_touch 5 (some .int) 2 := ⟨(zmem 548 (by decide +kernel) (by decide +kernel)), (zmem 61 (by decide +kernel) (by decide +kernel)), by decide +kernel, by decide +kernel⟩
set_option maxRecDepth 20000 in
theorem kL_48 : zCV RL 48 yX8_touch cX8_touch 5 (some .int) 2 := ⟨cy_X8_touch, (zmem 545 (by decide +kernel) (by decide +kernel)), (zmem 546 (by decide +kernel) (by decide +kernel)), (zmem 547 (by decide +kernel) (by decide +kernel))⟩
set_option maxRecDepth 20000 in
theorem cy_X9_touch : zCy yX9_touch cX9_touch 6 (some .int) 2 := ⟨(zmem 1056 (by decide +kernel) (by decide +kernel)), (zmem 70 (by decide +kernel) (by decide +kernel)), by decide +kernel, by decide +kernel⟩
set_option maxRecDepth 20000 in
theorem kL_51 : zCV RL 51 yX9_touch cX9_touch 6 (some .int) 2 := ⟨cy_X9_touch, (zmem 1053 (by decide +kernel) (by decide +kernel)), (zmem 1054 (by decide +kernel) (by decide +kernel)), (zmem 1055 (by decide +kernel) (by decide +kernel))⟩
set_option maxRecDepth 20000 in
theorem cy_X8_glove : zCy yX8_glove cX8_glove 4 (some .int) 2 := ⟨(zmem 580 (by decide +kernel) (by decide +kernel)), (zmem 61 (by decide +kernel) (by decide +kernel)), by decide +kernel, by decide +kernel⟩
set_option maxRecDepth 20000 in
theorem kL_52 : zCV RL 52 yX8_glove cX8_glove 4 (some .int) 2 := ⟨cy_X8_glove, (zmem 577 (by decide +kernel) (by decide +kernel)), (zmem 578 (by decide +kernel) (by decide +kernel)), (zmem 579 (by decide +kernel) (by decide +kernel))⟩
set_option maxRecDepth 20000 in
theorem cy_X9_glove : zCy yX9_glove cX9_glove 4 (some .int) 2 := ⟨(zmem 1068 (by decide +kernel) (by decide +kernel)), (zmem 70 (by decide +kernel) (by decide +kernel)), by decide +kernel, by decide +kernel⟩
set_option maxRecDepth 20000 in
theorem kL_56 : zCV RL 56 yX9_glove cX9_glove 4 (some .int) 2 := ⟨cy_X9_glove, (zmem 1065 (by decide +kernel) (by decide +kernel)), (zmem 1066 (by decide +kernel) (by decide +kernel)), (zmem 1067 (by decide +kernel) (by decide +kernel))⟩
set_option maxRecDepth 20000 in
theorem cy_X8_wash : zCy yX8_wash cX8_wash 2 (some .int) 1 := ⟨(zmem 587 (by decide +kernel) (by decide +kernel)), (zmem 61 (by decide +kernel) (by decide +kernel)), by decide +kernel, by decide +kernel⟩
set_option maxRecDepth 20000 in
theorem kL_57 : zCV RL 57 yX8_wash cX8_wash 2 (some .int) 1 := ⟨cy_X8_wash, (zmem 584 (by decide +kernel) (by decide +kernel)), (zmem 585 (by decide +kernel) (by decide +kernel)), (zmem 586 (by decide +kernel) (by decide +kernel))⟩
set_option maxRecDepth 20000 in
theorem cy_X9_wash : zCy yX9_wash cX9_wash 2 (some .int) 1 := ⟨(zmem 1073 (by decide +kernel) (by decide +kernel)), (zmem 70 (by decide +kernel) (by decide +kernel)), by decide +kernel, by decide +kernel⟩
set_option maxRecDepth 20000 in
theorem kL_60 : zCV RL 60 yX9_wash cX9_wash 2 (some .int) 1 := ⟨cy_X9_wash, (zmem 1070 (by decide +kernel) (by decide +kernel)), (zmem 1071 (by decide +kernel) (by decide +kernel)), (zmem 1072 (by decide +kernel) (by decide +kernel))⟩
set_option maxRecDepth 20000 in
theorem cy_X8_day : zCy yX8_day cX8_day 1 (some .int) 0 := ⟨(zmem 595 (by decide +kernel) (by decide +kernel)), (zmem 61 (by decide +kernel) (by decide +kernel)), by decide +kernel, by decide +kernel⟩
set_option maxRecDepth 20000 in
theorem kL_61 : zCV RL 61 yX8_day cX8_day 1 (some .int) 0 := ⟨cy_X8_day, (zmem 592 (by decide +kernel) (by decide +kernel)), (zmem 593 (by decide +kernel) (by decide +kernel)), (zmem 594 (by decide +kernel) (by decide +kernel))⟩
set_option maxRecDepth 20000 in
theorem cy_X9_day : zCy yX9_day cX9_day 2 (some .int) 0 := ⟨(zmem 1081 (by decide +kernel) (by decide +kernel)), (zmem 70 (by decide +kernel) (by decide +kernel)), by decide +kernel, by decide +kernel⟩
set_option maxRecDepth 20000 in
theorem kL_64 : zCV RL 64 yX9_day cX9_day 2 (some .int) 0 := ⟨cy_X9_day, (zmem 1078 (by decide +kernel) (by decide +kernel)), (zmem 1079 (by decide +kernel) (by decide +kernel)), (zmem 1080 (by decide +kernel) (by decide +kernel))⟩
set_option maxRecDepth 20000 in
theorem cy_X8_drift : zCy yX8_drift cX8_drift 3 (some .int) 1 := ⟨(zmem 608 (by decide +kernel) (by decide +kernel)), (zmem 61 (by decide +kernel) (by decide +kernel)), by decide +kernel, by decide +kernel⟩
set_option maxRecDepth 20000 in
theorem kL_65 : zCV RL 65 yX8_drift cX8_drift 3 (some .int) 1 := ⟨cy_X8_drift, (zmem 605 (by decide +kernel) (by decide +kernel)), (zmem 606 (by decide +kernel) (by decide +kernel)), (zmem 607 (by decide +kernel) (by decide +kernel))⟩
set_option maxRecDepth 20000 in
theorem cy_X9_drift : zCy yX9_drift cX9_drift 6 (some .int) 1 := ⟨(zmem 1085 (by decide +kernel) (by decide +kernel)), (zmem 70 (by decide +kernel) (by decide +kernel)), by decide +kernel, by decide +kernel⟩
set_option maxRecDepth 20000 in
theorem kL_68 : zCV RL 68 yX9_drift cX9_drift 6 (some .int) 1 := ⟨cy_X9_drift, (zmem 1082 (by decide +kernel) (by decide +kernel)), (zmem 1083 (by decide +kernel) (by decide +kernel)), (zmem 1084 (by decide +kernel) (by decide +kernel))⟩
set_option maxRecDepth 20000 in
theorem cy_X8_undo : zCy yX8_undo cX8_undo 1 (some .int) 0 := ⟨(zmem 624 (by decide +kernel) (by decide +kernel)), (zmem 61 (by decide +kernel) (by decide +kernel)), by decide +kernel, by decide +kernel⟩
set_option maxRecDepth 20000 in
theorem kL_69 : zCV RL 69 yX8_undo cX8_undo 1 (some .int) 0 := ⟨cy_X8_undo, (zmem 621 (by decide +kernel) (by decide +kernel)), (zmem 622 (by decide +kernel) (by decide +kernel)), (zmem 623 (by decide +kernel) (by decide +kernel))⟩
set_option maxRecDepth 20000 in
theorem cy_X9_undo : zCy yX9_undo cX9_undo 2 (some .int) 0 := ⟨(zmem 1098 (by decide +kernel) (by decide +kernel)), (zmem 70 (by decide +kernel) (by decide +kernel)), by decide +kernel, by decide +kernel⟩
set_option maxRecDepth 20000 in
theorem kL_72 : zCV RL 72 yX9_undo cX9_undo 2 (some .int) 0 := ⟨cy_X9_undo, (zmem 1095 (by decide +kernel) (by decide +kernel)), (zmem 1096 (by decide +kernel) (by decide +kernel)), (zmem 1097 (by decide +kernel) (by decide +kernel))⟩
set_option maxRecDepth 20000 in
theorem cy_X8_shows : zCy yX8_shows cX8_shows 5 (some .int) 3 := ⟨(zmem 632 (by decide +kernel) (by decide +kernel)), (zmem 61 (by decide +kernel) (by decide +kernel)), by decide +kernel, by decide +kernel⟩
set_option maxRecDepth 20000 in
theorem kL_73 : zCV RL 73 yX8_shows cX8_shows 5 (some .int) 3 := ⟨cy_X8_shows, (zmem 629 (by decide +kernel) (by decide +kernel)), (zmem 630 (by decide +kernel) (by decide +kernel)), (zmem 631 (by decide +kernel) (by decide +kernel))⟩
set_option maxRecDepth 20000 in
theorem cy_X9_shows : zCy yX9_shows cX9_shows 4 (some .int) 3 := ⟨(zmem 1102 (by decide +kernel) (by decide +kernel)), (zmem 70 (by decide +kernel) (by decide +kernel)), by decide +kernel, by decide +kernel⟩
set_option maxRecDepth 20000 in
theorem kL_77 : zCV RL 77 yX9_shows cX9_shows 4 (some .int) 3 := ⟨cy_X9_shows, (zmem 1099 (by decide +kernel) (by decide +kernel)), (zmem 1100 (by decide +kernel) (by decide +kernel)), (zmem 1101 (by decide +kernel) (by decide +kernel))⟩
set_option maxRecDepth 20000 in
theorem cy_X8_alike : zCy yX8_alike cX8_alike 4 (some .int) 2 := ⟨(zmem 637 (by decide +kernel) (by decide +kernel)), (zmem 61 (by decide +kernel) (by decide +kernel)), by decide +kernel, by decide +kernel⟩
set_option maxRecDepth 20000 in
theorem kL_78 : zCV RL 78 yX8_alike cX8_alike 4 (some .int) 2 := ⟨cy_X8_alike, (zmem 634 (by decide +kernel) (by decide +kernel)), (zmem 635 (by decide +kernel) (by decide +kernel)), (zmem 636 (by decide +kernel) (by decide +kernel))⟩
set_option maxRecDepth 20000 in
theorem cy_X9_alike : zCy yX9_alike cX9_alike 4 (some .int) 2 := ⟨(zmem 1114 (by decide +kernel) (by decide +kernel)), (zmem 70 (by decide +kernel) (by decide +kernel)), by decide +kernel, by decide +kernel⟩
set_option maxRecDepth 20000 in
theorem kL_81 : zCV RL 81 yX9_alike cX9_alike 4 (some .int) 2 := ⟨cy_X9_alike, (zmem 1111 (by decide +kernel) (by decide +kernel)), (zmem 1112 (by decide +kernel) (by decide +kernel)), (zmem 1113 (by decide +kernel) (by decide +kernel))⟩
set_option maxRecDepth 20000 in
theorem cy_X8_trail : zCy yX8_trail cX8_trail 5 (some .int) 3 := ⟨(zmem 645 (by decide +kernel) (by decide +kernel)), (zmem 61 (by decide +kernel) (by decide +kernel)), by decide +kernel, by decide +kernel⟩
set_option maxRecDepth 20000 in
theorem kL_82 : zCV RL 82 yX8_trail cX8_trail 5 (some .int) 3 := ⟨cy_X8_trail, (zmem 642 (by decide +kernel) (by decide +kernel)), (zmem 643 (by decide +kernel) (by decide +kernel)), (zmem 644 (by decide +kernel) (by decide +kernel))⟩
set_option maxRecDepth 20000 in
theorem cy_X9_trail : zCy yX9_trail cX9_trail 6 (some .int) 3 := ⟨(zmem 1122 (by decide +kernel) (by decide +kernel)), (zmem 70 (by decide +kernel) (by decide +kernel)), by decide +kernel, by decide +kernel⟩
set_option maxRecDepth 20000 in
theorem kL_85 : zCV RL 85 yX9_trail cX9_trail 6 (some .int) 3 := ⟨cy_X9_trail, (zmem 1119 (by decide +kernel) (by decide +kernel)), (zmem 1120 (by decide +kernel) (by decide +kernel)), (zmem 1121 (by decide +kernel) (by decide +kernel))⟩
set_option maxRecDepth 20000 in
theorem cy_X8_came : zCy yX8_came cX8_came 7 (some .int) 6 := ⟨(zmem 653 (by decide +kernel) (by decide +kernel)), (zmem 61 (by decide +kernel) (by decide +kernel)), by decide +kernel, by decide +kernel⟩
set_option maxRecDepth 20000 in
theorem kL_86 : zCV RL 86 yX8_came cX8_came 7 (some .int) 6 := ⟨cy_X8_came, (zmem 650 (by decide +kernel) (by decide +kernel)), (zmem 651 (by decide +kernel) (by decide +kernel)), (zmem 652 (by decide +kernel) (by decide +kernel))⟩
set_option maxRecDepth 20000 in
theorem cy_X9_came : zCy yX9_came cX9_came 9 (some .int) 6 := ⟨(zmem 1126 (by decide +kernel) (by decide +kernel)), (zmem 70 (by decide +kernel) (by decide +kernel)), by decide +kernel, by decide +kernel⟩
set_option maxRecDepth 20000 in
theorem kL_90 : zCV RL 90 yX9_came cX9_came 9 (some .int) 6 := ⟨cy_X9_came, (zmem 1123 (by decide +kernel) (by decide +kernel)), (zmem 1124 (by decide +kernel) (by decide +kernel)), (zmem 1125 (by decide +kernel) (by decide +kernel))⟩
set_option maxRecDepth 20000 in
theorem cy_X8_met : zCy yX8_met cX8_met 9 (some .int) 4 := ⟨(zmem 686 (by decide +kernel) (by decide +kernel)), (zmem 61 (by decide +kernel) (by decide +kernel)), by decide +kernel, by decide +kernel⟩
set_option maxRecDepth 20000 in
theorem kL_91 : zCV RL 91 yX8_met cX8_met 9 (some .int) 4 := ⟨cy_X8_met, (zmem 683 (by decide +kernel) (by decide +kernel)), (zmem 684 (by decide +kernel) (by decide +kernel)), (zmem 685 (by decide +kernel) (by decide +kernel))⟩
set_option maxRecDepth 20000 in
theorem cy_X9_met : zCy yX9_met cX9_met 13 (some .int) 4 := ⟨(zmem 1145 (by decide +kernel) (by decide +kernel)), (zmem 70 (by decide +kernel) (by decide +kernel)), by decide +kernel, by decide +kernel⟩
set_option maxRecDepth 20000 in
theorem kL_95 : zCV RL 95 yX9_met cX9_met 13 (some .int) 4 := ⟨cy_X9_met, (zmem 1142 (by decide +kernel) (by decide +kernel)), (zmem 1143 (by decide +kernel) (by decide +kernel)), (zmem 1144 (by decide +kernel) (by decide +kernel))⟩
set_option maxRecDepth 20000 in
theorem cy_X8_leftOut : zCy yX8_leftOut cX8_leftOut 5 (some .int) 4 := ⟨(zmem 694 (by decide +kernel) (by decide +kernel)), (zmem 61 (by decide +kernel) (by decide +kernel)), by decide +kernel, by decide +kernel⟩
set_option maxRecDepth 20000 in
theorem kL_96 : zCV RL 96 yX8_leftOut cX8_leftOut 5 (some .int) 4 := ⟨cy_X8_leftOut, (zmem 691 (by decide +kernel) (by decide +kernel)), (zmem 692 (by decide +kernel) (by decide +kernel)), (zmem 693 (by decide +kernel) (by decide +kernel))⟩
set_option maxRecDepth 20000 in
theorem cy_X9_leftOut : zCy yX9_leftOut cX9_leftOut 7 (some .int) 4 := ⟨(zmem 1149 (by decide +kernel) (by decide +kernel)), (zmem 70 (by decide +kernel) (by decide +kernel)), by decide +kernel, by decide +kernel⟩
set_option maxRecDepth 20000 in
theorem kL_99 : zCV RL 99 yX9_leftOut cX9_leftOut 7 (some .int) 4 := ⟨cy_X9_leftOut, (zmem 1146 (by decide +kernel) (by decide +kernel)), (zmem 1147 (by decide +kernel) (by decide +kernel)), (zmem 1148 (by decide +kernel) (by decide +kernel))⟩
set_option maxRecDepth 20000 in
theorem cy_X8_washes : zCy yX8_washes cX8_washes 5 (some .int) 2 := ⟨(zmem 722 (by decide +kernel) (by decide +kernel)), (zmem 61 (by decide +kernel) (by decide +kernel)), by decide +kernel, by decide +kernel⟩
set_option maxRecDepth 20000 in
theorem kL_100 : zCV RL 100 yX8_washes cX8_washes 5 (some .int) 2 := ⟨cy_X8_washes, (zmem 719 (by decide +kernel) (by decide +kernel)), (zmem 720 (by decide +kernel) (by decide +kernel)), (zmem 721 (by decide +kernel) (by decide +kernel))⟩
set_option maxRecDepth 20000 in
theorem cy_X9_washes : zCy yX9_washes cX9_washes 5 (some .int) 2 := ⟨(zmem 1156 (by decide +kernel) (by decide +kernel)), (zmem 70 (by decide +kernel) (by decide +kernel)), by decide +kernel, by decide +kernel⟩
set_option maxRecDepth 20000 in
theorem kL_103 : zCV RL 103 yX9_washes cX9_washes 5 (some .int) 2 := ⟨cy_X9_washes, (zmem 1153 (by decide +kernel) (by decide +kernel)), (zmem 1154 (by decide +kernel) (by decide +kernel)), (zmem 1155 (by decide +kernel) (by decide +kernel))⟩
set_option maxRecDepth 20000 in
theorem cy_X8_rest : zCy yX8_rest cX8_rest 4 (some .int) 2 := ⟨(zmem 726 (by decide +kernel) (by decide +kernel)), (zmem 61 (by decide +kernel) (by decide +kernel)), by decide +kernel, by decide +kernel⟩
set_option maxRecDepth 20000 in
theorem kL_104 : zCV RL 104 yX8_rest cX8_rest 4 (some .int) 2 := ⟨cy_X8_rest, (zmem 723 (by decide +kernel) (by decide +kernel)), (zmem 724 (by decide +kernel) (by decide +kernel)), (zmem 725 (by decide +kernel) (by decide +kernel))⟩
set_option maxRecDepth 20000 in
theorem cy_X9_rest : zCy yX9_rest cX9_rest 4 (some .int) 2 := ⟨(zmem 1160 (by decide +kernel) (by decide +kernel)), (zmem 70 (by decide +kernel) (by decide +kernel)), by decide +kernel, by decide +kernel⟩
set_option maxRecDepth 20000 in
theorem kL_107 : zCV RL 107 yX9_rest cX9_rest 4 (some .int) 2 := ⟨cy_X9_rest, (zmem 1157 (by decide +kernel) (by decide +kernel)), (zmem 1158 (by decide +kernel) (by decide +kernel)), (zmem 1159 (by decide +kernel) (by decide +kernel))⟩
set_option maxRecDepth 20000 in
theorem cy_X8_rain : zCy yX8_rain cX8_rain 7 (some .int) 3 := ⟨(zmem 738 (by decide +kernel) (by decide +kernel)), (zmem 61 (by decide +kernel) (by decide +kernel)), by decide +kernel, by decide +kernel⟩
set_option maxRecDepth 20000 in
theorem kL_108 : zCV RL 108 yX8_rain cX8_rain 7 (some .int) 3 := ⟨cy_X8_rain, (zmem 735 (by decide +kernel) (by decide +kernel)), (zmem 736 (by decide +kernel) (by decide +kernel)), (zmem 737 (by decide +kernel) (by decide +kernel))⟩
set_option maxRecDepth 20000 in
theorem cy_X9_rain : zCy yX9_rain cX9_rain 7 (some .int) 3 := ⟨(zmem 1168 (by decide +kernel) (by decide +kernel)), (zmem 70 (by decide +kernel) (by decide +kernel)), by decide +kernel, by decide +kernel⟩
set_option maxRecDepth 20000 in
theorem kL_111 : zCV RL 111 yX9_rain cX9_rain 7 (some .int) 3 := ⟨cy_X9_rain, (zmem 1165 (by decide +kernel) (by decide +kernel)), (zmem 1166 (by decide +kernel) (by decide +kernel)), (zmem 1167 (by decide +kernel) (by decide +kernel))⟩
set_option maxRecDepth 20000 in
theorem cy_X8_blend : zCy yX8_blend cX8_blend 6 (some .int) 2 := ⟨(zmem 744 (by decide +kernel) (by decide +kernel)), (zmem 61 (by decide +kernel) (by decide +kernel)), by decide +kernel, by decide +kernel⟩
set_option maxRecDepth 20000 in
theorem kL_112 : zCV RL 112 yX8_blend cX8_blend 6 (some .int) 2 := ⟨cy_X8_blend, (zmem 741 (by decide +kernel) (by decide +kernel)), (zmem 742 (by decide +kernel) (by decide +kernel)), (zmem 743 (by decide +kernel) (by decide +kernel))⟩
set_option maxRecDepth 20000 in
theorem cy_X9_blend : zCy yX9_blend cX9_blend 5 (some .int) 2 := ⟨(zmem 1174 (by decide +kernel) (by decide +kernel)), (zmem 70 (by decide +kernel) (by decide +kernel)), by decide +kernel, by decide +kernel⟩
set_option maxRecDepth 20000 in
theorem kL_115 : zCV RL 115 yX9_blend cX9_blend 5 (some .int) 2 := ⟨cy_X9_blend, (zmem 1171 (by decide +kernel) (by decide +kernel)), (zmem 1172 (by decide +kernel) (by decide +kernel)), (zmem 1173 (by decide +kernel) (by decide +kernel))⟩
set_option maxRecDepth 20000 in
theorem cy_X8_see : zCy yX8_see cX8_see 4 (some .int) 3 := ⟨(zmem 748 (by decide +kernel) (by decide +kernel)), (zmem 61 (by decide +kernel) (by decide +kernel)), by decide +kernel, by decide +kernel⟩
set_option maxRecDepth 20000 in
theorem kL_116 : zCV RL 116 yX8_see cX8_see 4 (some .int) 3 := ⟨cy_X8_see, (zmem 745 (by decide +kernel) (by decide +kernel)), (zmem 746 (by decide +kernel) (by decide +kernel)), (zmem 747 (by decide +kernel) (by decide +kernel))⟩
set_option maxRecDepth 20000 in
theorem cy_X9_see : zCy yX9_see cX9_see 4 (some .int) 3 := ⟨(zmem 1178 (by decide +kernel) (by decide +kernel)), (zmem 70 (by decide +kernel) (by decide +kernel)), by decide +kernel, by decide +kernel⟩
set_option maxRecDepth 20000 in
theorem kL_119 : zCV RL 119 yX9_see cX9_see 4 (some .int) 3 := ⟨cy_X9_see, (zmem 1175 (by decide +kernel) (by decide +kernel)), (zmem 1176 (by decide +kernel) (by decide +kernel)), (zmem 1177 (by decide +kernel) (by decide +kernel))⟩
set_option maxRecDepth 20000 in
theorem cy_X8_gap : zCy yX8_gap cX8_gap 1 (some .int) 0 := ⟨(zmem 761 (by decide +kernel) (by decide +kernel)), (zmem 61 (by decide +kernel) (by decide +kernel)), by decide +kernel, by decide +kernel⟩
set_option maxRecDepth 20000 in
theorem kL_120 : zCV RL 120 yX8_gap cX8_gap 1 (some .int) 0 := ⟨cy_X8_gap, (zmem 758 (by decide +kernel) (by decide +kernel)), (zmem 759 (by decide +kernel) (by decide +kernel)), (zmem 760 (by decide +kernel) (by decide +kernel))⟩
set_option maxRecDepth 20000 in
theorem cy_X9_gap : zCy yX9_gap cX9_gap 1 (some .int) 0 := ⟨(zmem 1182 (by decide +kernel) (by decide +kernel)), (zmem 70 (by decide +kernel) (by decide +kernel)), by decide +kernel, by decide +kernel⟩
set_option maxRecDepth 20000 in
theorem kL_123 : zCV RL 123 yX9_gap cX9_gap 1 (some .int) 0 := ⟨cy_X9_gap, (zmem 1179 (by decide +kernel) (by decide +kernel)), (zmem 1180 (by decide +kernel) (by decide +kernel)), (zmem 1181 (by decide +kernel) (by decide +kernel))⟩
set_option maxRecDepth 20000 in
theorem cy_X8_look : zCy yX8_look cX8_look 1 (some .int) 0 := ⟨(zmem 775 (by decide +kernel) (by decide +kernel)), (zmem 61 (by decide +kernel) (by decide +kernel)), by decide +kernel, by decide +kernel⟩
set_option maxRecDepth 20000 in
theorem kL_124 : zCV RL 124 yX8_look cX8_look 1 (some .int) 0 := ⟨cy_X8_look, (zmem 772 (by decide +kernel) (by decide +kernel)), (zmem 773 (by decide +kernel) (by decide +kernel)), (zmem 774 (by decide +kernel) (by decide +kernel))⟩
set_option maxRecDepth 20000 in
theorem cy_X9_look : zCy yX9_look cX9_look 7 (some .int) 0 := ⟨(zmem 1190 (by decide +kernel) (by decide +kernel)), (zmem 70 (by decide +kernel) (by decide +kernel)), by decide +kernel, by decide +kernel⟩
set_option maxRecDepth 20000 in
theorem kL_127 : zCV RL 127 yX9_look cX9_look 7 (some .int) 0 := ⟨cy_X9_look, (zmem 1187 (by decide +kernel) (by decide +kernel)), (zmem 1188 (by decide +kernel) (by decide +kernel)), (zmem 1189 (by decide +kernel) (by decide +kernel))⟩
set_option maxRecDepth 20000 in
theorem cy_X8_write : zCy yX8_write cX8_write 4 (some .int) 3 := ⟨(zmem 792 (by decide +kernel) (by decide +kernel)), (zmem 61 (by decide +kernel) (by decide +kernel)), by decide +kernel, by decide +kernel⟩
set_option maxRecDepth 20000 in
theorem kL_128 : zCV RL 128 yX8_write cX8_write 4 (some .int) 3 := ⟨cy_X8_write, (zmem 789 (by decide +kernel) (by decide +kernel)), (zmem 790 (by decide +kernel) (by decide +kernel)), (zmem 791 (by decide +kernel) (by decide +kernel))⟩
set_option maxRecDepth 20000 in
theorem cy_X9_write : zCy yX9_write cX9_write 4 (some .int) 3 := ⟨(zmem 1198 (by decide +kernel) (by decide +kernel)), (zmem 70 (by decide +kernel) (by decide +kernel)), by decide +kernel, by decide +kernel⟩
set_option maxRecDepth 20000 in
theorem kL_131 : zCV RL 131 yX9_write cX9_write 4 (some .int) 3 := ⟨cy_X9_write, (zmem 1195 (by decide +kernel) (by decide +kernel)), (zmem 1196 (by decide +kernel) (by decide +kernel)), (zmem 1197 (by decide +kernel) (by decide +kernel))⟩
set_option maxRecDepth 20000 in
theorem cy_X8_tear : zCy yX8_tear cX8_tear 2 (some .int) 0 := ⟨(zmem 796 (by decide +kernel) (by decide +kernel)), (zmem 61 (by decide +kernel) (by decide +kernel)), by decide +kernel, by decide +kernel⟩
set_option maxRecDepth 20000 in
theorem kL_132 : zCV RL 132 yX8_tear cX8_tear 2 (some .int) 0 := ⟨cy_X8_tear, (zmem 793 (by decide +kernel) (by decide +kernel)), (zmem 794 (by decide +kernel) (by decide +kernel)), (zmem 795 (by decide +kernel) (by decide +kernel))⟩
set_option maxRecDepth 20000 in
theorem cy_X9_tear : zCy yX9_tear cX9_tear 2 (some .int) 0 := ⟨(zmem 1202 (by decide +kernel) (by decide +kernel)), (zmem 70 (by decide +kernel) (by decide +kernel)), by decide +kernel, by decide +kernel⟩
set_option maxRecDepth 20000 in
theorem kL_135 : zCV RL 135 yX9_tear cX9_tear 2 (some .int) 0 := ⟨cy_X9_tear, (zmem 1199 (by decide +kernel) (by decide +kernel)), (zmem 1200 (by decide +kernel) (by decide +kernel)), (zmem 1201 (by decide +kernel) (by decide +kernel))⟩
set_option maxRecDepth 20000 in
theorem cy_X8_judge : zCy yX8_judge cX8_judge 1 (some .int) 0 := ⟨(zmem 800 (by decide +kernel) (by decide +kernel)), (zmem 61 (by decide +kernel) (by decide +kernel)), by decide +kernel, by decide +kernel⟩
set_option maxRecDepth 20000 in
theorem kL_136 : zCV RL 136 yX8_judge cX8_judge 1 (some .int) 0 := ⟨cy_X8_judge, (zmem 797 (by decide +kernel) (by decide +kernel)), (zmem 798 (by decide +kernel) (by decide +kernel)), (zmem 799 (by decide +kernel) (by decide +kernel))⟩
set_option maxRecDepth 20000 in
theorem cy_X9_judge : zCy yX9_judge cX9_judge 2 (some .int) 0 := ⟨(zmem 1206 (by decide +kernel) (by decide +kernel)), (zmem 70 (by decide +kernel) (by decide +kernel)), by decide +kernel, by decide +kernel⟩
set_option maxRecDepth 20000 in
theorem kL_139 : zCV RL 139 yX9_judge cX9_judge 2 (some .int) 0 := ⟨cy_X9_judge, (zmem 1203 (by decide +kernel) (by decide +kernel)), (zmem 1204 (by decide +kernel) (by decide +kernel)), (zmem 1205 (by decide +kernel) (by decide +kernel))⟩
set_option maxRecDepth 20000 in
theorem cy_X8_seed : zCy yX8_seed cX8_seed 3 (some .int) 1 := ⟨(zmem 805 (by decide +kernel) (by decide +kernel)), (zmem 61 (by decide +kernel) (by decide +kernel)), by decide +kernel, by decide +kernel⟩
set_option maxRecDepth 20000 in
theorem kL_140 : zCV RL 140 yX8_seed cX8_seed 3 (some .int) 1 := ⟨cy_X8_seed, (zmem 802 (by decide +kernel) (by decide +kernel)), (zmem 803 (by decide +kernel) (by decide +kernel)), (zmem 804 (by decide +kernel) (by decide +kernel))⟩
set_option maxRecDepth 20000 in
theorem cy_X9_seed : zCy yX9_seed cX9_seed 3 (some .int) 1 := ⟨(zmem 1210 (by decide +kernel) (by decide +kernel)), (zmem 70 (by decide +kernel) (by decide +kernel)), by decide +kernel, by decide +kernel⟩
set_option maxRecDepth 20000 in
theorem kL_143 : zCV RL 143 yX9_seed cX9_seed 3 (some .int) 1 := ⟨cy_X9_seed, (zmem 1207 (by decide +kernel) (by decide +kernel)), (zmem 1208 (by decide +kernel) (by decide +kernel)), (zmem 1209 (by decide +kernel) (by decide +kernel))⟩
set_option maxRecDepth 20000 in
theorem cy_X8_keep : zCy yX8_keep cX8_keep 2 (some .int) 1 := ⟨(zmem 809 (by decide +kernel) (by decide +kernel)), (zmem 61 (by decide +kernel) (by decide +kernel)), by decide +kernel, by decide +kernel⟩
set_option maxRecDepth 20000 in
theorem kL_144 : zCV RL 144 yX8_keep cX8_keep 2 (some .int) 1 := ⟨cy_X8_keep, (zmem 806 (by decide +kernel) (by decide +kernel)), (zmem 807 (by decide +kernel) (by decide +kernel)), (zmem 808 (by decide +kernel) (by decide +kernel))⟩
set_option maxRecDepth 20000 in
theorem cy_X9_keep : zCy yX9_keep cX9_keep 3 (some .int) 1 := ⟨(zmem 1214 (by decide +kernel) (by decide +kernel)), (zmem 70 (by decide +kernel) (by decide +kernel)), by decide +kernel, by decide +kernel⟩
set_option maxRecDepth 20000 in
theorem kL_147 : zCV RL 147 yX9_keep cX9_keep 3 (some .int) 1 := ⟨cy_X9_keep, (zmem 1211 (by decide +kernel) (by decide +kernel)), (zmem 1212 (by decide +kernel) (by decide +kernel)), (zmem 1213 (by decide +kernel) (by decide +kernel))⟩
set_option maxRecDepth 20000 in
theorem cy_X8_goBack : zCy yX8_goBack cX8_goBack 2 (some .int) 1 := ⟨(zmem 814 (by decide +kernel) (by decide +kernel)), (zmem 61 (by decide +kernel) (by decide +kernel)), by decide +kernel, by decide +kernel⟩
set_option maxRecDepth 20000 in
theorem kL_148 : zCV RL 148 yX8_goBack cX8_goBack 2 (some .int) 1 := ⟨cy_X8_goBack, (zmem 811 (by decide +kernel) (by decide +kernel)), (zmem 812 (by decide +kernel) (by decide +kernel)), (zmem 813 (by decide +kernel) (by decide +kernel))⟩
set_option maxRecDepth 20000 in
theorem cy_X9_goBack : zCy yX9_goBack cX9_goBack 3 (some .int) 1 := ⟨(zmem 1218 (by decide +kernel) (by decide +kernel)), (zmem 70 (by decide +kernel) (by decide +kernel)), by decide +kernel, by decide +kernel⟩
set_option maxRecDepth 20000 in
theorem kL_151 : zCV RL 151 yX9_goBack cX9_goBack 3 (some .int) 1 := ⟨cy_X9_goBack, (zmem 1215 (by decide +kernel) (by decide +kernel)), (zmem 1216 (by decide +kernel) (by decide +kernel)), (zmem 1217 (by decide +kernel) (by decide +kernel))⟩
set_option maxRecDepth 20000 in
theorem cy_X9_in : zCy yX9_in cX9_in 6 (some .boolean) 3 := ⟨(zmem 956 (by decide +kernel) (by decide +kernel)), (zmem 70 (by decide +kernel) (by decide +kernel)), by decide +kernel, by decide +kernel⟩
set_option maxRecDepth 20000 in
theorem kX9_81 : zCS RX9 81 yX9_in cX9_in 6 (some .boolean) 3 := ⟨cy_X9_in, (zmem 954 (by decide +kernel) (by decide +kernel)), (zmem 955 (by decide +kernel) (by decide +kernel))⟩
set_option maxRecDepth 20000 in
theorem cy_X9_here : zCy yX9_here cX9_here 1 (some .int) 0 := ⟨(zmem 966 (by decide +kernel) (by decide +kernel)), (zmem 70 (by decide +kernel) (by decide +kernel)), by decide +kernel, by decide +kernel⟩
set_option maxRecDepth 20000 in
theorem kX9_97 : zCV RX9 97 yX9_here cX9_here 1 (some .int) 0 := ⟨cy_X9_here, (zmem 963 (by decide +kernel) (by decide +kernel)), (zmem 965 (by decide +kernel) (by decide +kernel)), (zmem 33 (by decide +kernel) (by decide +kernel))⟩
set_option maxRecDepth 20000 in
theorem cy_X9_fails : zCy yX9_fails cX9_fails 3 (some .int) 2 := ⟨(zmem 974 (by decide +kernel) (by decide +kernel)), (zmem 70 (by decide +kernel) (by decide +kernel)), by decide +kernel, by decide +kernel⟩
set_option maxRecDepth 20000 in
theorem kX9_105 : zCV RX9 105 yX9_fails cX9_fails 3 (some .int) 2 := ⟨cy_X9_fails, (zmem 971 (by decide +kernel) (by decide +kernel)), (zmem 973 (by decide +kernel) (by decide +kernel)), (zmem 35 (by decide +kernel) (by decide +kernel))⟩
set_option maxRecDepth 20000 in
theorem cy_X9_takeNumber : zCy yX9_takeNumber cX9_takeNumber 4 (some .int) 2 := ⟨(zmem 982 (by decide +kernel) (by decide +kernel)), (zmem 70 (by decide +kernel) (by decide +kernel)), by decide +kernel, by decide +kernel⟩
set_option maxRecDepth 20000 in
theorem kX9_115 : zCV RX9 115 yX9_takeNumber cX9_takeNumber 4 (some .int) 2 := ⟨cy_X9_takeNumber, (zmem 979 (by decide +kernel) (by decide +kernel)), (zmem 981 (by decide +kernel) (by decide +kernel)), (zmem 37 (by decide +kernel) (by decide +kernel))⟩
set_option maxRecDepth 20000 in
theorem cy_X9_sign : zCy yX9_sign cX9_sign 2 (some .int) 1 := ⟨(zmem 992 (by decide +kernel) (by decide +kernel)), (zmem 70 (by decide +kernel) (by decide +kernel)), by decide +kernel, by decide +kernel⟩
set_option maxRecDepth 20000 in
theorem kX9_124 : zCV RX9 124 yX9_sign cX9_sign 2 (some .int) 1 := ⟨cy_X9_sign, (zmem 989 (by decide +kernel) (by decide +kernel)), (zmem 991 (by decide +kernel) (by decide +kernel)), (zmem 39 (by decide +kernel) (by decide +kernel))⟩
set_option maxRecDepth 20000 in
theorem cy_X9_takeTold : zCy yX9_takeTold cX9_takeTold 1 (some .int) 0 := ⟨(zmem 1004 (by decide +kernel) (by decide +kernel)), (zmem 70 (by decide +kernel) (by decide +kernel)), by decide +kernel, by decide +kernel⟩
set_option maxRecDepth 20000 in
theorem kX9_131 : zCV RX9 131 yX9_takeTold cX9_takeTold 1 (some .int) 0 := ⟨cy_X9_takeTold, (zmem 1001 (by decide +kernel) (by decide +kernel)), (zmem 1003 (by decide +kernel) (by decide +kernel)), (zmem 42 (by decide +kernel) (by decide +kernel))⟩
set_option maxRecDepth 20000 in
theorem cy_X9_has : zCy yX9_has cX9_has 2 (some .boolean) 2 := ⟨(zmem 1011 (by decide +kernel) (by decide +kernel)), (zmem 70 (by decide +kernel) (by decide +kernel)), by decide +kernel, by decide +kernel⟩
set_option maxRecDepth 20000 in
theorem kX9_140 : zCS RX9 140 yX9_has cX9_has 2 (some .boolean) 2 := ⟨cy_X9_has, (zmem 1009 (by decide +kernel) (by decide +kernel)), (zmem 1010 (by decide +kernel) (by decide +kernel))⟩
set_option maxRecDepth 20000 in
theorem cy_X9_takeTouch : zCy yX9_takeTouch cX9_takeTouch 2 (some .int) 0 := ⟨(zmem 1000 (by decide +kernel) (by decide +kernel)), (zmem 70 (by decide +kernel) (by decide +kernel)), by decide +kernel, by decide +kernel⟩
set_option maxRecDepth 20000 in
theorem kX9_147 : zCV RX9 147 yX9_takeTouch cX9_takeTouch 2 (some .int) 0 := ⟨cy_X9_takeTouch, (zmem 997 (by decide +kernel) (by decide +kernel)), (zmem 999 (by decide +kernel) (by decide +kernel)), (zmem 41 (by decide +kernel) (by decide +kernel))⟩
set_option maxRecDepth 20000 in
theorem cy_X9_takeColours : zCy yX9_takeColours cX9_takeColours 2 (some .int) 0 := ⟨(zmem 978 (by decide +kernel) (by decide +kernel)), (zmem 70 (by decide +kernel) (by decide +kernel)), by decide +kernel, by decide +kernel⟩
set_option maxRecDepth 20000 in
theorem kX9_150 : zCV RX9 150 yX9_takeColours cX9_takeColours 2 (some .int) 0 := ⟨cy_X9_takeColours, (zmem 975 (by decide +kernel) (by decide +kernel)), (zmem 977 (by decide +kernel) (by decide +kernel)), (zmem 36 (by decide +kernel) (by decide +kernel))⟩
set_option maxRecDepth 20000 in
theorem cy_X9_takeCoat : zCy yX9_takeCoat cX9_takeCoat 4 (some .int) 0 := ⟨(zmem 988 (by decide +kernel) (by decide +kernel)), (zmem 70 (by decide +kernel) (by decide +kernel)), by decide +kernel, by decide +kernel⟩
set_option maxRecDepth 20000 in
theorem kX9_153 : zCV RX9 153 yX9_takeCoat cX9_takeCoat 4 (some .int) 0 := ⟨cy_X9_takeCoat, (zmem 985 (by decide +kernel) (by decide +kernel)), (zmem 987 (by decide +kernel) (by decide +kernel)), (zmem 38 (by decide +kernel) (by decide +kernel))⟩
set_option maxRecDepth 20000 in
theorem cy_X9_takeDay : zCy yX9_takeDay cX9_takeDay 2 (some .int) 0 := ⟨(zmem 996 (by decide +kernel) (by decide +kernel)), (zmem 70 (by decide +kernel) (by decide +kernel)), by decide +kernel, by decide +kernel⟩
set_option maxRecDepth 20000 in
theorem kX9_156 : zCV RX9 156 yX9_takeDay cX9_takeDay 2 (some .int) 0 := ⟨cy_X9_takeDay, (zmem 993 (by decide +kernel) (by decide +kernel)), (zmem 995 (by decide +kernel) (by decide +kernel)), (zmem 40 (by decide +kernel) (by decide +kernel))⟩
set_option maxRecDepth 20000 in
theorem cy_X9_takeKind : zCy yX9_takeKind cX9_takeKind 3 (some .int) 1 := ⟨(zmem 1008 (by decide +kernel) (by decide +kernel)), (zmem 70 (by decide +kernel) (by decide +kernel)), by decide +kernel, by decide +kernel⟩
set_option maxRecDepth 20000 in
theorem kX9_159 : zCV RX9 159 yX9_takeKind cX9_takeKind 3 (some .int) 1 := ⟨cy_X9_takeKind, (zmem 1005 (by decide +kernel) (by decide +kernel)), (zmem 1007 (by decide +kernel) (by decide +kernel)), (zmem 43 (by decide +kernel) (by decide +kernel))⟩
set_option maxRecDepth 20000 in
theorem cy_X9_takeClause : zCy yX9_takeClause cX9_takeClause 5 (some .int) 0 := ⟨(zmem 970 (by decide +kernel) (by decide +kernel)), (zmem 70 (by decide +kernel) (by decide +kernel)), by decide +kernel, by decide +kernel⟩
set_option maxRecDepth 20000 in
theorem kX9_172 : zCV RX9 172 yX9_takeClause cX9_takeClause 5 (some .int) 0 := ⟨cy_X9_takeClause, (zmem 967 (by decide +kernel) (by decide +kernel)), (zmem 969 (by decide +kernel) (by decide +kernel)), (zmem 34 (by decide +kernel) (by decide +kernel))⟩
set_option maxRecDepth 20000 in
theorem cy_X9_takeRead : zCy yX9_takeRead cX9_takeRead 2 none 0 := ⟨(zmem 1015 (by decide +kernel) (by decide +kernel)), (zmem 70 (by decide +kernel) (by decide +kernel)), by decide +kernel, by decide +kernel⟩
set_option maxRecDepth 20000 in
theorem kX9_175 : zCV RX9 175 yX9_takeRead cX9_takeRead 2 none 0 := ⟨cy_X9_takeRead, (zmem 1012 (by decide +kernel) (by decide +kernel)), (zmem 1014 (by decide +kernel) (by decide +kernel)), (zmem 44 (by decide +kernel) (by decide +kernel))⟩
set_option maxRecDepth 20000 in
theorem cy_X9_isCoat : zCy yX9_isCoat cX9_isCoat 2 (some .boolean) 1 := ⟨(zmem 1031 (by decide +kernel) (by decide +kernel)), (zmem 70 (by decide +kernel) (by decide +kernel)), by decide +kernel, by decide +kernel⟩
set_option maxRecDepth 20000 in
theorem kX9_187 : zCV RX9 187 yX9_isCoat cX9_isCoat 2 (some .boolean) 1 := ⟨cy_X9_isCoat, (zmem 1028 (by decide +kernel) (by decide +kernel)), (zmem 1030 (by decide +kernel) (by decide +kernel)), (zmem 45 (by decide +kernel) (by decide +kernel))⟩
set_option maxRecDepth 20000 in
theorem cy_X9_isColour : zCy yX9_isColour cX9_isColour 2 (some .boolean) 1 := ⟨(zmem 1035 (by decide +kernel) (by decide +kernel)), (zmem 70 (by decide +kernel) (by decide +kernel)), by decide +kernel, by decide +kernel⟩
set_option maxRecDepth 20000 in
theorem kX9_191 : zCV RX9 191 yX9_isColour cX9_isColour 2 (some .boolean) 1 := ⟨cy_X9_isColour, (zmem 1032 (by decide +kernel) (by decide +kernel)), (zmem 1034 (by decide +kernel) (by decide +kernel)), (zmem 46 (by decide +kernel) (by decide +kernel))⟩
set_option maxRecDepth 20000 in
theorem cy_X9_giveOf : zCy yX9_giveOf cX9_giveOf 9 none 3 := ⟨(zmem 1048 (by decide +kernel) (by decide +kernel)), (zmem 70 (by decide +kernel) (by decide +kernel)), by decide +kernel, by decide +kernel⟩
set_option maxRecDepth 20000 in
theorem kX9_195 : zCV RX9 195 yX9_giveOf cX9_giveOf 9 none 3 := ⟨cy_X9_giveOf, (zmem 1045 (by decide +kernel) (by decide +kernel)), (zmem 1047 (by decide +kernel) (by decide +kernel)), (zmem 47 (by decide +kernel) (by decide +kernel))⟩
set_option maxRecDepth 20000 in
theorem cy_X9_remember : zCy yX9_remember cX9_remember 2 none 0 := ⟨(zmem 1060 (by decide +kernel) (by decide +kernel)), (zmem 70 (by decide +kernel) (by decide +kernel)), by decide +kernel, by decide +kernel⟩
set_option maxRecDepth 20000 in
theorem kX9_199 : zCV RX9 199 yX9_remember cX9_remember 2 none 0 := ⟨cy_X9_remember, (zmem 1057 (by decide +kernel) (by decide +kernel)), (zmem 1059 (by decide +kernel) (by decide +kernel)), (zmem 48 (by decide +kernel) (by decide +kernel))⟩
set_option maxRecDepth 20000 in
theorem cy_X9_rubIn : zCy yX9_rubIn cX9_rubIn 5 none 3 := ⟨(zmem 1064 (by decide +kernel) (by decide +kernel)), (zmem 70 (by decide +kernel) (by decide +kernel)), by decide +kernel, by decide +kernel⟩
set_option maxRecDepth 20000 in
theorem kX9_202 : zCV RX9 202 yX9_rubIn cX9_rubIn 5 none 3 := ⟨cy_X9_rubIn, (zmem 1061 (by decide +kernel) (by decide +kernel)), (zmem 1063 (by decide +kernel) (by decide +kernel)), (zmem 49 (by decide +kernel) (by decide +kernel))⟩
set_option maxRecDepth 20000 in
theorem cy_X9_washNow : zCy yX9_washNow cX9_washNow 3 none 1 := ⟨(zmem 1077 (by decide +kernel) (by decide +kernel)), (zmem 70 (by decide +kernel) (by decide +kernel)), by decide +kernel, by decide +kernel⟩
set_option maxRecDepth 20000 in
theorem kX9_206 : zCV RX9 206 yX9_washNow cX9_washNow 3 none 1 := ⟨cy_X9_washNow, (zmem 1074 (by decide +kernel) (by decide +kernel)), (zmem 1076 (by decide +kernel) (by decide +kernel)), (zmem 50 (by decide +kernel) (by decide +kernel))⟩
set_option maxRecDepth 20000 in
theorem cy_X9_draw : zCy yX9_draw cX9_draw 2 (some .int) 1 := ⟨(zmem 1090 (by decide +kernel) (by decide +kernel)), (zmem 70 (by decide +kernel) (by decide +kernel)), by decide +kernel, by decide +kernel⟩
set_option maxRecDepth 20000 in
theorem kX9_222 : zCV RX9 222 yX9_draw cX9_draw 2 (some .int) 1 := ⟨cy_X9_draw, (zmem 1087 (by decide +kernel) (by decide +kernel)), (zmem 1089 (by decide +kernel) (by decide +kernel)), (zmem 51 (by decide +kernel) (by decide +kernel))⟩
set_option maxRecDepth 20000 in
theorem cy_X9_begin : zCy yX9_begin cX9_begin 2 none 0 := ⟨(zmem 1106 (by decide +kernel) (by decide +kernel)), (zmem 70 (by decide +kernel) (by decide +kernel)), by decide +kernel, by decide +kernel⟩
set_option maxRecDepth 20000 in
theorem kX9_225 : zCV RX9 225 yX9_begin cX9_begin 2 none 0 := ⟨cy_X9_begin, (zmem 1103 (by decide +kernel) (by decide +kernel)), (zmem 1105 (by decide +kernel) (by decide +kernel)), (zmem 52 (by decide +kernel) (by decide +kernel))⟩
set_option maxRecDepth 20000 in
theorem cy_X9_goOn : zCy yX9_goOn cX9_goOn 5 none 3 := ⟨(zmem 1110 (by decide +kernel) (by decide +kernel)), (zmem 70 (by decide +kernel) (by decide +kernel)), by decide +kernel, by decide +kernel⟩
set_option maxRecDepth 20000 in
theorem kX9_228 : zCV RX9 228 yX9_goOn cX9_goOn 5 none 3 := ⟨cy_X9_goOn, (zmem 1107 (by decide +kernel) (by decide +kernel)), (zmem 1109 (by decide +kernel) (by decide +kernel)), (zmem 53 (by decide +kernel) (by decide +kernel))⟩
set_option maxRecDepth 20000 in
theorem cy_X9_areAlike : zCy yX9_areAlike cX9_areAlike 5 (some .boolean) 2 := ⟨(zmem 1118 (by decide +kernel) (by decide +kernel)), (zmem 70 (by decide +kernel) (by decide +kernel)), by decide +kernel, by decide +kernel⟩
set_option maxRecDepth 20000 in
theorem kX9_232 : zCV RX9 232 yX9_areAlike cX9_areAlike 5 (some .boolean) 2 := ⟨cy_X9_areAlike, (zmem 1115 (by decide +kernel) (by decide +kernel)), (zmem 1117 (by decide +kernel) (by decide +kernel)), (zmem 54 (by decide +kernel) (by decide +kernel))⟩
set_option maxRecDepth 20000 in
theorem cy_X9_figure : zCy yX9_figure cX9_figure 5 (some .int) 3 := ⟨(zmem 1141 (by decide +kernel) (by decide +kernel)), (zmem 70 (by decide +kernel) (by decide +kernel)), by decide +kernel, by decide +kernel⟩
set_option maxRecDepth 20000 in
theorem kX9_235 : zCS RX9 235 yX9_figure cX9_figure 5 (some .int) 3 := ⟨cy_X9_figure, (zmem 1139 (by decide +kernel) (by decide +kernel)), (zmem 1140 (by decide +kernel) (by decide +kernel))⟩
set_option maxRecDepth 20000 in
theorem cy_X9_makes : zCy yX9_makes cX9_makes 11 (some .boolean) 6 := ⟨(zmem 1138 (by decide +kernel) (by decide +kernel)), (zmem 70 (by decide +kernel) (by decide +kernel)), by decide +kernel, by decide +kernel⟩
set_option maxRecDepth 20000 in
theorem kX9_245 : zCV RX9 245 yX9_makes cX9_makes 11 (some .boolean) 6 := ⟨cy_X9_makes, (zmem 1135 (by decide +kernel) (by decide +kernel)), (zmem 1137 (by decide +kernel) (by decide +kernel)), (zmem 56 (by decide +kernel) (by decide +kernel))⟩
set_option maxRecDepth 20000 in
theorem cy_X9_isParts : zCy yX9_isParts cX9_isParts 1 (some .boolean) 1 := ⟨(zmem 1129 (by decide +kernel) (by decide +kernel)), (zmem 70 (by decide +kernel) (by decide +kernel)), by decide +kernel, by decide +kernel⟩
set_option maxRecDepth 20000 in
theorem kX9_249 : zCS RX9 249 yX9_isParts cX9_isParts 1 (some .boolean) 1 := ⟨cy_X9_isParts, (zmem 1127 (by decide +kernel) (by decide +kernel)), (zmem 1128 (by decide +kernel) (by decide +kernel))⟩
set_option maxRecDepth 20000 in
theorem cy_X9_findRows : zCy yX9_findRows cX9_findRows 8 none 5 := ⟨(zmem 1134 (by decide +kernel) (by decide +kernel)), (zmem 70 (by decide +kernel) (by decide +kernel)), by decide +kernel, by decide +kernel⟩
set_option maxRecDepth 20000 in
theorem kX9_252 : zCV RX9 252 yX9_findRows cX9_findRows 8 none 5 := ⟨cy_X9_findRows, (zmem 1131 (by decide +kernel) (by decide +kernel)), (zmem 1133 (by decide +kernel) (by decide +kernel)), (zmem 55 (by decide +kernel) (by decide +kernel))⟩
set_option maxRecDepth 20000 in
theorem cy_X9_bits : zCy yX9_bits cX9_bits 3 (some .int) 1 := ⟨(zmem 1152 (by decide +kernel) (by decide +kernel)), (zmem 70 (by decide +kernel) (by decide +kernel)), by decide +kernel, by decide +kernel⟩
set_option maxRecDepth 20000 in
theorem kX9_256 : zCS RX9 256 yX9_bits cX9_bits 3 (some .int) 1 := ⟨cy_X9_bits, (zmem 1150 (by decide +kernel) (by decide +kernel)), (zmem 1151 (by decide +kernel) (by decide +kernel))⟩
set_option maxRecDepth 20000 in
theorem cy_X9_restIn : zCy yX9_restIn cX9_restIn 4 (some .int) 0 := ⟨(zmem 1164 (by decide +kernel) (by decide +kernel)), (zmem 70 (by decide +kernel) (by decide +kernel)), by decide +kernel, by decide +kernel⟩
set_option maxRecDepth 20000 in
theorem kX9_259 : zCV RX9 259 yX9_restIn cX9_restIn 4 (some .int) 0 := ⟨cy_X9_restIn, (zmem 1161 (by decide +kernel) (by decide +kernel)), (zmem 1163 (by decide +kernel) (by decide +kernel)), (zmem 57 (by decide +kernel) (by decide +kernel))⟩
set_option maxRecDepth 20000 in
theorem cy_X9_findGap : zCy yX9_findGap cX9_findGap 5 (some .int) 0 := ⟨(zmem 1186 (by decide +kernel) (by decide +kernel)), (zmem 70 (by decide +kernel) (by decide +kernel)), by decide +kernel, by decide +kernel⟩
set_option maxRecDepth 20000 in
theorem kX9_266 : zCV RX9 266 yX9_findGap cX9_findGap 5 (some .int) 0 := ⟨cy_X9_findGap, (zmem 1183 (by decide +kernel) (by decide +kernel)), (zmem 1185 (by decide +kernel) (by decide +kernel)), (zmem 58 (by decide +kernel) (by decide +kernel))⟩
set_option maxRecDepth 20000 in
theorem cy_X9_greatestPart : zCy yX9_greatestPart cX9_greatestPart 7 (some .int) 2 := ⟨(zmem 1194 (by decide +kernel) (by decide +kernel)), (zmem 70 (by decide +kernel) (by decide +kernel)), by decide +kernel, by decide +kernel⟩
set_option maxRecDepth 20000 in
theorem kX9_269 : zCV RX9 269 yX9_greatestPart cX9_greatestPart 7 (some .int) 2 := ⟨cy_X9_greatestPart, (zmem 1191 (by decide +kernel) (by decide +kernel)), (zmem 1193 (by decide +kernel) (by decide +kernel)), (zmem 59 (by decide +kernel) (by decide +kernel))⟩
set_option maxRecDepth 20000 in
theorem kX8_3 : Cond.methodLink RX8 3 Lib.objectInit ∈ zws := (zmem 79 (by decide +kernel) (by decide +kernel))
set_option maxRecDepth 20000 in
theorem kX8_180 : Cond.methodLink RX8 180 Lib.Math.max.name ∈ zws := (zmem 574 (by decide +kernel) (by decide +kernel))
set_option maxRecDepth 20000 in
theorem kX8_282 : Cond.methodLink RX8 282 arraycopyName ∈ zws := (zmem 489 (by decide +kernel) (by decide +kernel))
set_option maxRecDepth 20000 in
theorem kX0_3 : Cond.methodLink RX0 3 Lib.objectInit ∈ zws := (zmem 264 (by decide +kernel) (by decide +kernel))
set_option maxRecDepth 20000 in
theorem kX0_75 : Cond.methodLink RX0 75 Lib.Math.max.name ∈ zws := (zmem 788 (by decide +kernel) (by decide +kernel))
set_option maxRecDepth 20000 in
theorem kX1_3 : Cond.methodLink RX1 3 Lib.objectInit ∈ zws := (zmem 307 (by decide +kernel) (by decide +kernel))
set_option maxRecDepth 20000 in
theorem kX1_29 : Cond.methodLink RX1 29 Lib.Math.min.name ∈ zws := (zmem 562 (by decide +kernel) (by decide +kernel))
set_option maxRecDepth 20000 in
theorem kX2_3 : Cond.methodLink RX2 3 Lib.objectInit ∈ zws := (zmem 87 (by decide +kernel) (by decide +kernel))
set_option maxRecDepth 20000 in
theorem kX2_53 : Cond.methodLink RX2 53 arraycopyName ∈ zws := (zmem 492 (by decide +kernel) (by decide +kernel))
set_option maxRecDepth 20000 in
theorem kX3_3 : Cond.methodLink RX3 3 Lib.objectInit ∈ zws := (zmem 327 (by decide +kernel) (by decide +kernel))
set_option maxRecDepth 20000 in
theorem kX4_3 : Cond.methodLink RX4 3 Lib.objectInit ∈ zws := (zmem 236 (by decide +kernel) (by decide +kernel))
set_option maxRecDepth 20000 in
theorem kX5_3 : Cond.methodLink RX5 3 Lib.objectInit ∈ zws := (zmem 154 (by decide +kernel) (by decide +kernel))
set_option maxRecDepth 20000 in
theorem kX6_3 : Cond.methodLink RX6 3 Lib.objectInit ∈ zws := (zmem 191 (by decide +kernel) (by decide +kernel))
set_option maxRecDepth 20000 in
theorem kX6_87 : Cond.methodLink RX6 87 arraycopyName ∈ zws := (zmem 676 (by decide +kernel) (by decide +kernel))
set_option maxRecDepth 20000 in
theorem kX7_3 : Cond.methodLink RX7 3 Lib.objectInit ∈ zws := (zmem 278 (by decide +kernel) (by decide +kernel))
set_option maxRecDepth 20000 in
theorem kX9_1 : Cond.methodLink RX9 1 Lib.objectInit ∈ zws := (zmem 820 (by decide +kernel) (by decide +kernel))
set_option maxRecDepth 20000 in
theorem kac_nat : Cond.native arraycopyName ∈ zws := (zmem 491 (by decide +kernel) (by decide +kernel))
set_option maxRecDepth 20000 in
theorem kac_st : Cond.static arraycopyName ∈ zws := (zmem 490 (by decide +kernel) (by decide +kernel))
set_option maxRecDepth 20000 in
theorem kac_in : Cond.initialized "java/lang/System" ∈ zws := (zmem 71 (by decide +kernel) (by decide +kernel))
set_option maxRecDepth 20000 in
theorem kma_in : Cond.initialized "java/lang/Math" ∈ zws := (zmem 72 (by decide +kernel) (by decide +kernel))
set_option maxRecDepth 20000 in
theorem kmx_st : Cond.static Lib.Math.max.name ∈ zws := (zmem 575 (by decide +kernel) (by decide +kernel))
set_option maxRecDepth 20000 in
theorem kmn_st : Cond.static Lib.Math.min.name ∈ zws := (zmem 563 (by decide +kernel) (by decide +kernel))
set_option maxRecDepth 20000 in
theorem kob_im : Cond.instanceMethod Lib.objectInit ∈ zws := (zmem 80 (by decide +kernel) (by decide +kernel))
set_option maxRecDepth 20000 in
theorem kar_i : Cond.arrayClass .int ∈ zws := (zmem 148 (by decide +kernel) (by decide +kernel))
set_option maxRecDepth 20000 in
theorem kar_z : Cond.arrayClass .boolean ∈ zws := (zmem 948 (by decide +kernel) (by decide +kernel))
set_option maxRecDepth 20000 in
theorem kmx_c : Cond.code Lib.Math.max.name Lib.Math.max.code 2 (some .int) ∈ zws := (zmem 576 (by decide +kernel) (by decide +kernel))
set_option maxRecDepth 20000 in
theorem kmn_c : Cond.code Lib.Math.min.name Lib.Math.min.code 2 (some .int) ∈ zws := (zmem 564 (by decide +kernel) (by decide +kernel))
set_option maxRecDepth 20000 in
theorem kob_c : Cond.code Lib.objectInit ⟨#[0xb1]⟩ 1 none ∈ zws := (zmem 81 (by decide +kernel) (by decide +kernel))
set_option maxRecDepth 20000 in
theorem kov_s : zNs (Cond.arrayOver (.object RX7)) := ⟨List.mem_of_getElem? (i := 309) (by decide +kernel), Or.inr (Or.inl rfl)⟩
set_option maxRecDepth 20000 in
theorem kov_i : zNs (Cond.arrayOver (.array .int)) := ⟨List.mem_of_getElem? (i := 193) (by decide +kernel), Or.inr (Or.inr rfl)⟩
set_option maxRecDepth 20000 in
theorem cX8_88 : Cond.constant RX8 88 (Int32.ofInt (-1000000002)) ∈ zws := (zmem 395 (by decide +kernel) (by decide +kernel))
set_option maxRecDepth 20000 in
theorem cX8_151 : Cond.constant RX8 151 (Int32.ofInt (-1000000001)) ∈ zws := (zmem 519 (by decide +kernel) (by decide +kernel))
set_option maxRecDepth 20000 in
theorem cX8_192 : Cond.constant RX8 192 (Int32.ofInt (-1000000003)) ∈ zws := (zmem 583 (by decide +kernel) (by decide +kernel))
set_option maxRecDepth 20000 in
theorem cX8_306 : Cond.constant RX8 306 (Int32.ofInt (65536)) ∈ zws := (zmem 620 (by decide +kernel) (by decide +kernel))
set_option maxRecDepth 20000 in
theorem cX3_25 : Cond.constant RX3 25 (Int32.ofInt (-1000000004)) ∈ zws := (zmem 757 (by decide +kernel) (by decide +kernel))
set_option maxRecDepth 20000 in
theorem cX5_29 : Cond.constant RX5 29 (Int32.ofInt (-1000000004)) ∈ zws := (zmem 400 (by decide +kernel) (by decide +kernel))
set_option maxRecDepth 20000 in
theorem cX9_89 : Cond.constant RX9 89 (Int32.ofInt (-1000000002)) ∈ zws := (zmem 957 (by decide +kernel) (by decide +kernel))
set_option maxRecDepth 20000 in
theorem cX9_93 : Cond.constant RX9 93 (Int32.ofInt (-1000000004)) ∈ zws := (zmem 958 (by decide +kernel) (by decide +kernel))
set_option maxRecDepth 20000 in
theorem cX9_194 : Cond.constant RX9 194 (Int32.ofInt (-1000000001)) ∈ zws := (zmem 1036 (by decide +kernel) (by decide +kernel))
set_option maxRecDepth 20000 in
theorem cX9_205 : Cond.constant RX9 205 (Int32.ofInt (-1000000003)) ∈ zws := (zmem 1069 (by decide +kernel) (by decide +kernel))
set_option maxRecDepth 20000 in
theorem cX9_219 : Cond.constant RX9 219 (Int32.ofInt (65536)) ∈ zws := (zmem 1094 (by decide +kernel) (by decide +kernel))
set_option maxRecDepth 20000 in
theorem cJ6_265 : Cond.constant RJ6 265 (Int32.ofInt (1431655765)) ∈ zws := (zmem 711 (by decide +kernel) (by decide +kernel))
set_option maxRecDepth 20000 in
theorem cJ6_266 : Cond.constant RJ6 266 (Int32.ofInt (858993459)) ∈ zws := (zmem 712 (by decide +kernel) (by decide +kernel))
set_option maxRecDepth 20000 in
theorem cJ6_267 : Cond.constant RJ6 267 (Int32.ofInt (252645135)) ∈ zws := (zmem 713 (by decide +kernel) (by decide +kernel))
set_option maxRecDepth 20000 in
theorem cX8_253 : Cond.constantLong RX8 253 (Int64.ofInt (1000000000)) ∈ zws := (zmem 739 (by decide +kernel) (by decide +kernel))
set_option maxRecDepth 20000 in
theorem cX8_255 : Cond.constantLong RX8 255 (Int64.ofInt (100)) ∈ zws := (zmem 740 (by decide +kernel) (by decide +kernel))
set_option maxRecDepth 20000 in
theorem cX8_300 : Cond.constantLong RX8 300 (Int64.ofInt (1103515245)) ∈ zws := (zmem 617 (by decide +kernel) (by decide +kernel))
set_option maxRecDepth 20000 in
theorem cX8_302 : Cond.constantLong RX8 302 (Int64.ofInt (12345)) ∈ zws := (zmem 618 (by decide +kernel) (by decide +kernel))
set_option maxRecDepth 20000 in
theorem cX8_304 : Cond.constantLong RX8 304 (Int64.ofInt (2147483647)) ∈ zws := (zmem 619 (by decide +kernel) (by decide +kernel))
set_option maxRecDepth 20000 in
theorem cX9_85 : Cond.constantLong RX9 85 (Int64.ofInt (60)) ∈ zws := (zmem 1130 (by decide +kernel) (by decide +kernel))
set_option maxRecDepth 20000 in
theorem cX9_87 : Cond.constantLong RX9 87 (Int64.ofInt (255)) ∈ zws := (zmem 953 (by decide +kernel) (by decide +kernel))
set_option maxRecDepth 20000 in
theorem cX9_101 : Cond.constantLong RX9 101 (Int64.ofInt (48)) ∈ zws := (zmem 983 (by decide +kernel) (by decide +kernel))
set_option maxRecDepth 20000 in
theorem cX9_103 : Cond.constantLong RX9 103 (Int64.ofInt (57)) ∈ zws := (zmem 984 (by decide +kernel) (by decide +kernel))
set_option maxRecDepth 20000 in
theorem cX9_213 : Cond.constantLong RX9 213 (Int64.ofInt (1103515245)) ∈ zws := (zmem 1091 (by decide +kernel) (by decide +kernel))
set_option maxRecDepth 20000 in
theorem cX9_215 : Cond.constantLong RX9 215 (Int64.ofInt (12345)) ∈ zws := (zmem 1092 (by decide +kernel) (by decide +kernel))
set_option maxRecDepth 20000 in
theorem cX9_217 : Cond.constantLong RX9 217 (Int64.ofInt (2147483648)) ∈ zws := (zmem 1093 (by decide +kernel) (by decide +kernel))
set_option maxRecDepth 20000 in
theorem cX9_220 : Cond.constantLong RX9 220 (Int64.ofInt (99)) ∈ zws := (zmem 1086 (by decide +kernel) (by decide +kernel))
set_option maxRecDepth 20000 in
theorem cX9_262 : Cond.constantLong RX9 262 (Int64.ofInt (100)) ∈ zws := (zmem 1169 (by decide +kernel) (by decide +kernel))
set_option maxRecDepth 20000 in
theorem cX9_264 : Cond.constantLong RX9 264 (Int64.ofInt (1000000000)) ∈ zws := (zmem 1170 (by decide +kernel) (by decide +kernel))
set_option maxRecDepth 20000 in
theorem lX8_9 : Cond.classLink RX8 9 RX2 ∈ zws := (zmem 82 (by decide +kernel) (by decide +kernel))
set_option maxRecDepth 20000 in
theorem nX8_9 : zCN RX8 9 2 := ⟨(RX2, TX2, 12), rfl, lX8_9, (zmem 83 (by decide +kernel) (by decide +kernel)), (zmem 62 (by decide +kernel) (by decide +kernel)), tyX2, tyX2_ok, by decide +kernel⟩
set_option maxRecDepth 20000 in
theorem lX8_16 : Cond.classLink RX8 16 RX5 ∈ zws := (zmem 149 (by decide +kernel) (by decide +kernel))
set_option maxRecDepth 20000 in
theorem nX8_16 : zCN RX8 16 5 := ⟨(RX5, TX5, 8), rfl, lX8_16, (zmem 150 (by decide +kernel) (by decide +kernel)), (zmem 63 (by decide +kernel) (by decide +kernel)), tyX5, tyX5_ok, by decide +kernel⟩
set_option maxRecDepth 20000 in
theorem lX8_23 : Cond.classLink RX8 23 RX6 ∈ zws := (zmem 186 (by decide +kernel) (by decide +kernel))
set_option maxRecDepth 20000 in
theorem nX8_23 : zCN RX8 23 6 := ⟨(RX6, TX6, 11), rfl, lX8_23, (zmem 187 (by decide +kernel) (by decide +kernel)), (zmem 64 (by decide +kernel) (by decide +kernel)), tyX6, tyX6_ok, by decide +kernel⟩
set_option maxRecDepth 20000 in
theorem lX8_30 : Cond.classLink RX8 30 RX4 ∈ zws := (zmem 231 (by decide +kernel) (by decide +kernel))
set_option maxRecDepth 20000 in
theorem nX8_30 : zCN RX8 30 4 := ⟨(RX4, TX4, 6), rfl, lX8_30, (zmem 232 (by decide +kernel) (by decide +kernel)), (zmem 65 (by decide +kernel) (by decide +kernel)), tyX4, tyX4_ok, by decide +kernel⟩
set_option maxRecDepth 20000 in
theorem lX8_37 : Cond.classLink RX8 37 RX0 ∈ zws := (zmem 259 (by decide +kernel) (by decide +kernel))
set_option maxRecDepth 20000 in
theorem nX8_37 : zCN RX8 37 0 := ⟨(RX0, TX0, 2), rfl, lX8_37, (zmem 260 (by decide +kernel) (by decide +kernel)), (zmem 66 (by decide +kernel) (by decide +kernel)), tyX0, tyX0_ok, by decide +kernel⟩
set_option maxRecDepth 20000 in
theorem lX8_44 : Cond.classLink RX8 44 RX7 ∈ zws := (zmem 273 (by decide +kernel) (by decide +kernel))
set_option maxRecDepth 20000 in
theorem nX8_44 : zCN RX8 44 7 := ⟨(RX7, TX7, 4), rfl, lX8_44, (zmem 274 (by decide +kernel) (by decide +kernel)), (zmem 67 (by decide +kernel) (by decide +kernel)), tyX7, tyX7_ok, by decide +kernel⟩
set_option maxRecDepth 20000 in
theorem lX8_51 : Cond.classLink RX8 51 RX1 ∈ zws := (zmem 302 (by decide +kernel) (by decide +kernel))
set_option maxRecDepth 20000 in
theorem nX8_51 : zCN RX8 51 1 := ⟨(RX1, TX1, 3), rfl, lX8_51, (zmem 303 (by decide +kernel) (by decide +kernel)), (zmem 68 (by decide +kernel) (by decide +kernel)), tyX1, tyX1_ok, by decide +kernel⟩
set_option maxRecDepth 20000 in
theorem lX8_58 : Cond.classLink RX8 58 RX3 ∈ zws := (zmem 322 (by decide +kernel) (by decide +kernel))
set_option maxRecDepth 20000 in
theorem nX8_58 : zCN RX8 58 3 := ⟨(RX3, TX3, 4), rfl, lX8_58, (zmem 323 (by decide +kernel) (by decide +kernel)), (zmem 69 (by decide +kernel) (by decide +kernel)), tyX3, tyX3_ok, by decide +kernel⟩
set_option maxRecDepth 20000 in
theorem nX0_9 : Cond.classLink RX0 9 "[[I" ∈ zws := (zmem 265 (by decide +kernel) (by decide +kernel))
set_option maxRecDepth 20000 in
theorem lX1_9 : Cond.classLink RX1 9 RX7 ∈ zws := (zmem 308 (by decide +kernel) (by decide +kernel))
set_option maxRecDepth 20000 in
theorem nX1_9 : zCN RX1 9 7 := ⟨(RX7, TX7, 4), rfl, lX1_9, (zmem 274 (by decide +kernel) (by decide +kernel)), (zmem 67 (by decide +kernel) (by decide +kernel)), tyX7, tyX7_ok, by decide +kernel⟩
set_option maxRecDepth 20000 in
theorem nX4_9 : Cond.classLink RX4 9 "[[I" ∈ zws := (zmem 237 (by decide +kernel) (by decide +kernel))
set_option maxRecDepth 20000 in
theorem lX5_9 : Cond.classLink RX5 9 RX2 ∈ zws := (zmem 155 (by decide +kernel) (by decide +kernel))
set_option maxRecDepth 20000 in
theorem nX5_9 : zCN RX5 9 2 := ⟨(RX2, TX2, 12), rfl, lX5_9, (zmem 83 (by decide +kernel) (by decide +kernel)), (zmem 62 (by decide +kernel) (by decide +kernel)), tyX2, tyX2_ok, by decide +kernel⟩
set_option maxRecDepth 20000 in
theorem nX6_9 : Cond.classLink RX6 9 "[[I" ∈ zws := (zmem 192 (by decide +kernel) (by decide +kernel))
set_option maxRecDepth 20000 in
theorem lL_7 : Cond.classLink RL 7 RX8 ∈ zws := (zmem 74 (by decide +kernel) (by decide +kernel))
set_option maxRecDepth 20000 in
theorem nL_7 : zCN RL 7 8 := ⟨(RX8, TX8, 16), rfl, lL_7, (zmem 75 (by decide +kernel) (by decide +kernel)), (zmem 61 (by decide +kernel) (by decide +kernel)), tyX8, tyX8_ok, by decide +kernel⟩
set_option maxRecDepth 20000 in
theorem lL_10 : Cond.classLink RL 10 RX9 ∈ zws := (zmem 815 (by decide +kernel) (by decide +kernel))
set_option maxRecDepth 20000 in
theorem nL_10 : zCN RL 10 9 := ⟨(RX9, TX9, 42), rfl, lL_10, (zmem 816 (by decide +kernel) (by decide +kernel)), (zmem 70 (by decide +kernel) (by decide +kernel)), tyX9, tyX9_ok, by decide +kernel⟩
