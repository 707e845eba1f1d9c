set_option maxRecDepth 100000 in
theorem chl_0_0 : (List.range 40).all (fun i => chk 0 (i + 0) (ct0 (i + 0))) = true := by decide +kernel
set_option maxRecDepth 100000 in
theorem chl_0_40 : (List.range 40).all (fun i => chk 0 (i + 40) (ct0 (i + 40))) = true := by decide +kernel
set_option maxRecDepth 100000 in
theorem chl_0_80 : (List.range 40).all (fun i => chk 0 (i + 80) (ct0 (i + 80))) = true := by decide +kernel
set_option maxRecDepth 100000 in
theorem chl_0_120 : (List.range 40).all (fun i => chk 0 (i + 120) (ct0 (i + 120))) = true := by decide +kernel
set_option maxRecDepth 100000 in
theorem chl_0_160 : (List.range 40).all (fun i => chk 0 (i + 160) (ct0 (i + 160))) = true := by decide +kernel
set_option maxRecDepth 100000 in
theorem chl_0_200 : (List.range 40).all (fun i => chk 0 (i + 200) (ct0 (i + 200))) = true := by decide +kernel
set_option maxRecDepth 100000 in
theorem chl_0_240 : (List.range 40).all (fun i => chk 0 (i + 240) (ct0 (i + 240))) = true := by decide +kernel
set_option maxRecDepth 100000 in
theorem chl_0_280 : (List.range 40).all (fun i => chk 0 (i + 280) (ct0 (i + 280))) = true := by decide +kernel
set_option maxRecDepth 100000 in
theorem chl_0_320 : (List.range 40).all (fun i => chk 0 (i + 320) (ct0 (i + 320))) = true := by decide +kernel
set_option maxRecDepth 100000 in
theorem chl_0_360 : (List.range 40).all (fun i => chk 0 (i + 360) (ct0 (i + 360))) = true := by decide +kernel
set_option maxRecDepth 100000 in
theorem chl_0_400 : (List.range 8).all (fun i => chk 0 (i + 400) (ct0 (i + 400))) = true := by decide +kernel
theorem chl0_all (pc : Nat) (h : pc < 408) : chk 0 pc (ct0 pc) = true := by
  by_cases h0 : pc < 40
  · have := List.all_eq_true.mp chl_0_0 (pc - 0) (List.mem_range.mpr (by omega))
    rwa [show pc - 0 + 0 = pc by omega] at this
  by_cases h40 : pc < 80
  · have := List.all_eq_true.mp chl_0_40 (pc - 40) (List.mem_range.mpr (by omega))
    rwa [show pc - 40 + 40 = pc by omega] at this
  by_cases h80 : pc < 120
  · have := List.all_eq_true.mp chl_0_80 (pc - 80) (List.mem_range.mpr (by omega))
    rwa [show pc - 80 + 80 = pc by omega] at this
  by_cases h120 : pc < 160
  · have := List.all_eq_true.mp chl_0_120 (pc - 120) (List.mem_range.mpr (by omega))
    rwa [show pc - 120 + 120 = pc by omega] at this
  by_cases h160 : pc < 200
  · have := List.all_eq_true.mp chl_0_160 (pc - 160) (List.mem_range.mpr (by omega))
    rwa [show pc - 160 + 160 = pc by omega] at this
  by_cases h200 : pc < 240
  · have := List.all_eq_true.mp chl_0_200 (pc - 200) (List.mem_range.mpr (by omega))
    rwa [show pc - 200 + 200 = pc by omega] at this
  by_cases h240 : pc < 280
  · have := List.all_eq_true.mp chl_0_240 (pc - 240) (List.mem_range.mpr (by omega))
    rwa [show pc - 240 + 240 = pc by omega] at this
  by_cases h280 : pc < 320
  · have := List.all_eq_true.mp chl_0_280 (pc - 280) (List.mem_range.mpr (by omega))
    rwa [show pc - 280 + 280 = pc by omega] at this
  by_cases h320 : pc < 360
  · have := List.all_eq_true.mp chl_0_320 (pc - 320) (List.mem_range.mpr (by omega))
    rwa [show pc - 320 + 320 = pc by omega] at this
  by_cases h360 : pc < 400
  · have := List.all_eq_true.mp chl_0_360 (pc - 360) (List.mem_range.mpr (by omega))
    rwa [show pc - 360 + 360 = pc by omega] at this
  by_cases h400 : pc < 408
  · have := List.all_eq_true.mp chl_0_400 (pc - 400) (List.mem_range.mpr (by omega))
    rwa [show pc - 400 + 400 = pc by omega] at this
  · omega
set_option maxRecDepth 100000 in
theorem chl_1_0 : (List.range 25).all (fun i => chk 1 (i + 0) (ct1 (i + 0))) = true := by decide +kernel
theorem chl1_all (pc : Nat) (h : pc < 25) : chk 1 pc (ct1 pc) = true := by
  by_cases h0 : pc < 25
  · have := List.all_eq_true.mp chl_1_0 (pc - 0) (List.mem_range.mpr (by omega))
    rwa [show pc - 0 + 0 = pc by omega] at this
  · omega
set_option maxRecDepth 100000 in
theorem chl_2_0 : (List.range 7).all (fun i => chk 2 (i + 0) (ct2 (i + 0))) = true := by decide +kernel
theorem chl2_all (pc : Nat) (h : pc < 7) : chk 2 pc (ct2 pc) = true := by
  by_cases h0 : pc < 7
  · have := List.all_eq_true.mp chl_2_0 (pc - 0) (List.mem_range.mpr (by omega))
    rwa [show pc - 0 + 0 = pc by omega] at this
  · omega
set_option maxRecDepth 100000 in
theorem chl_3_0 : (List.range 40).all (fun i => chk 3 (i + 0) (ct3 (i + 0))) = true := by decide +kernel
set_option maxRecDepth 100000 in
theorem chl_3_40 : (List.range 40).all (fun i => chk 3 (i + 40) (ct3 (i + 40))) = true := by decide +kernel
set_option maxRecDepth 100000 in
theorem chl_3_80 : (List.range 7).all (fun i => chk 3 (i + 80) (ct3 (i + 80))) = true := by decide +kernel
theorem chl3_all (pc : Nat) (h : pc < 87) : chk 3 pc (ct3 pc) = true := by
  by_cases h0 : pc < 40
  · have := List.all_eq_true.mp chl_3_0 (pc - 0) (List.mem_range.mpr (by omega))
    rwa [show pc - 0 + 0 = pc by omega] at this
  by_cases h40 : pc < 80
  · have := List.all_eq_true.mp chl_3_40 (pc - 40) (List.mem_range.mpr (by omega))
    rwa [show pc - 40 + 40 = pc by omega] at this
  by_cases h80 : pc < 87
  · have := List.all_eq_true.mp chl_3_80 (pc - 80) (List.mem_range.mpr (by omega))
    rwa [show pc - 80 + 80 = pc by omega] at this
  · omega
set_option maxRecDepth 100000 in
theorem chl_4_0 : (List.range 37).all (fun i => chk 4 (i + 0) (ct4 (i + 0))) = true := by decide +kernel
theorem chl4_all (pc : Nat) (h : pc < 37) : chk 4 pc (ct4 pc) = true := by
  by_cases h0 : pc < 37
  · have := List.all_eq_true.mp chl_4_0 (pc - 0) (List.mem_range.mpr (by omega))
    rwa [show pc - 0 + 0 = pc by omega] at this
  · omega
set_option maxRecDepth 100000 in
theorem chl_5_0 : (List.range 40).all (fun i => chk 5 (i + 0) (ct5 (i + 0))) = true := by decide +kernel
set_option maxRecDepth 100000 in
theorem chl_5_40 : (List.range 40).all (fun i => chk 5 (i + 40) (ct5 (i + 40))) = true := by decide +kernel
set_option maxRecDepth 100000 in
theorem chl_5_80 : (List.range 40).all (fun i => chk 5 (i + 80) (ct5 (i + 80))) = true := by decide +kernel
set_option maxRecDepth 100000 in
theorem chl_5_120 : (List.range 40).all (fun i => chk 5 (i + 120) (ct5 (i + 120))) = true := by decide +kernel
set_option maxRecDepth 100000 in
theorem chl_5_160 : (List.range 40).all (fun i => chk 5 (i + 160) (ct5 (i + 160))) = true := by decide +kernel
set_option maxRecDepth 100000 in
theorem chl_5_200 : (List.range 40).all (fun i => chk 5 (i + 200) (ct5 (i + 200))) = true := by decide +kernel
set_option maxRecDepth 100000 in
theorem chl_5_240 : (List.range 40).all (fun i => chk 5 (i + 240) (ct5 (i + 240))) = true := by decide +kernel
set_option maxRecDepth 100000 in
theorem chl_5_280 : (List.range 40).all (fun i => chk 5 (i + 280) (ct5 (i + 280))) = true := by decide +kernel
set_option maxRecDepth 100000 in
theorem chl_5_320 : (List.range 40).all (fun i => chk 5 (i + 320) (ct5 (i + 320))) = true := by decide +kernel
set_option maxRecDepth 100000 in
theorem chl_5_360 : (List.range 40).all (fun i => chk 5 (i + 360) (ct5 (i + 360))) = true := by decide +kernel
set_option maxRecDepth 100000 in
theorem chl_5_400 : (List.range 40).all (fun i => chk 5 (i + 400) (ct5 (i + 400))) = true := by decide +kernel
set_option maxRecDepth 100000 in
theorem chl_5_440 : (List.range 40).all (fun i => chk 5 (i + 440) (ct5 (i + 440))) = true := by decide +kernel
set_option maxRecDepth 100000 in
theorem chl_5_480 : (List.range 40).all (fun i => chk 5 (i + 480) (ct5 (i + 480))) = true := by decide +kernel
set_option maxRecDepth 100000 in
theorem chl_5_520 : (List.range 40).all (fun i => chk 5 (i + 520) (ct5 (i + 520))) = true := by decide +kernel
set_option maxRecDepth 100000 in
theorem chl_5_560 : (List.range 40).all (fun i => chk 5 (i + 560) (ct5 (i + 560))) = true := by decide +kernel
set_option maxRecDepth 100000 in
theorem chl_5_600 : (List.range 40).all (fun i => chk 5 (i + 600) (ct5 (i + 600))) = true := by decide +kernel
set_option maxRecDepth 100000 in
theorem chl_5_640 : (List.range 40).all (fun i => chk 5 (i + 640) (ct5 (i + 640))) = true := by decide +kernel
set_option maxRecDepth 100000 in
theorem chl_5_680 : (List.range 40).all (fun i => chk 5 (i + 680) (ct5 (i + 680))) = true := by decide +kernel
set_option maxRecDepth 100000 in
theorem chl_5_720 : (List.range 40).all (fun i => chk 5 (i + 720) (ct5 (i + 720))) = true := by decide +kernel
set_option maxRecDepth 100000 in
theorem chl_5_760 : (List.range 40).all (fun i => chk 5 (i + 760) (ct5 (i + 760))) = true := by decide +kernel
set_option maxRecDepth 100000 in
theorem chl_5_800 : (List.range 40).all (fun i => chk 5 (i + 800) (ct5 (i + 800))) = true := by decide +kernel
set_option maxRecDepth 100000 in
theorem chl_5_840 : (List.range 40).all (fun i => chk 5 (i + 840) (ct5 (i + 840))) = true := by decide +kernel
set_option maxRecDepth 100000 in
theorem chl_5_880 : (List.range 40).all (fun i => chk 5 (i + 880) (ct5 (i + 880))) = true := by decide +kernel
set_option maxRecDepth 100000 in
theorem chl_5_920 : (List.range 40).all (fun i => chk 5 (i + 920) (ct5 (i + 920))) = true := by decide +kernel
set_option maxRecDepth 100000 in
theorem chl_5_960 : (List.range 40).all (fun i => chk 5 (i + 960) (ct5 (i + 960))) = true := by decide +kernel
set_option maxRecDepth 100000 in
theorem chl_5_1000 : (List.range 3).all (fun i => chk 5 (i + 1000) (ct5 (i + 1000))) = true := by decide +kernel
theorem chl5_all (pc : Nat) (h : pc < 1003) : chk 5 pc (ct5 pc) = true := by
  by_cases h0 : pc < 40
  · have := List.all_eq_true.mp chl_5_0 (pc - 0) (List.mem_range.mpr (by omega))
    rwa [show pc - 0 + 0 = pc by omega] at this
  by_cases h40 : pc < 80
  · have := List.all_eq_true.mp chl_5_40 (pc - 40) (List.mem_range.mpr (by omega))
    rwa [show pc - 40 + 40 = pc by omega] at this
  by_cases h80 : pc < 120
  · have := List.all_eq_true.mp chl_5_80 (pc - 80) (List.mem_range.mpr (by omega))
    rwa [show pc - 80 + 80 = pc by omega] at this
  by_cases h120 : pc < 160
  · have := List.all_eq_true.mp chl_5_120 (pc - 120) (List.mem_range.mpr (by omega))
    rwa [show pc - 120 + 120 = pc by omega] at this
  by_cases h160 : pc < 200
  · have := List.all_eq_true.mp chl_5_160 (pc - 160) (List.mem_range.mpr (by omega))
    rwa [show pc - 160 + 160 = pc by omega] at this
  by_cases h200 : pc < 240
  · have := List.all_eq_true.mp chl_5_200 (pc - 200) (List.mem_range.mpr (by omega))
    rwa [show pc - 200 + 200 = pc by omega] at this
  by_cases h240 : pc < 280
  · have := List.all_eq_true.mp chl_5_240 (pc - 240) (List.mem_range.mpr (by omega))
    rwa [show pc - 240 + 240 = pc by omega] at this
  by_cases h280 : pc < 320
  · have := List.all_eq_true.mp chl_5_280 (pc - 280) (List.mem_range.mpr (by omega))
    rwa [show pc - 280 + 280 = pc by omega] at this
  by_cases h320 : pc < 360
  · have := List.all_eq_true.mp chl_5_320 (pc - 320) (List.mem_range.mpr (by omega))
    rwa [show pc - 320 + 320 = pc by omega] at this
  by_cases h360 : pc < 400
  · have := List.all_eq_true.mp chl_5_360 (pc - 360) (List.mem_range.mpr (by omega))
    rwa [show pc - 360 + 360 = pc by omega] at this
  by_cases h400 : pc < 440
  · have := List.all_eq_true.mp chl_5_400 (pc - 400) (List.mem_range.mpr (by omega))
    rwa [show pc - 400 + 400 = pc by omega] at this
  by_cases h440 : pc < 480
  · have := List.all_eq_true.mp chl_5_440 (pc - 440) (List.mem_range.mpr (by omega))
    rwa [show pc - 440 + 440 = pc by omega] at this
  by_cases h480 : pc < 520
  · have := List.all_eq_true.mp chl_5_480 (pc - 480) (List.mem_range.mpr (by omega))
    rwa [show pc - 480 + 480 = pc by omega] at this
  by_cases h520 : pc < 560
  · have := List.all_eq_true.mp chl_5_520 (pc - 520) (List.mem_range.mpr (by omega))
    rwa [show pc - 520 + 520 = pc by omega] at this
  by_cases h560 : pc < 600
  · have := List.all_eq_true.mp chl_5_560 (pc - 560) (List.mem_range.mpr (by omega))
    rwa [show pc - 560 + 560 = pc by omega] at this
  by_cases h600 : pc < 640
  · have := List.all_eq_true.mp chl_5_600 (pc - 600) (List.mem_range.mpr (by omega))
    rwa [show pc - 600 + 600 = pc by omega] at this
  by_cases h640 : pc < 680
  · have := List.all_eq_true.mp chl_5_640 (pc - 640) (List.mem_range.mpr (by omega))
    rwa [show pc - 640 + 640 = pc by omega] at this
  by_cases h680 : pc < 720
  · have := List.all_eq_true.mp chl_5_680 (pc - 680) (List.mem_range.mpr (by omega))
    rwa [show pc - 680 + 680 = pc by omega] at this
  by_cases h720 : pc < 760
  · have := List.all_eq_true.mp chl_5_720 (pc - 720) (List.mem_range.mpr (by omega))
    rwa [show pc - 720 + 720 = pc by omega] at this
  by_cases h760 : pc < 800
  · have := List.all_eq_true.mp chl_5_760 (pc - 760) (List.mem_range.mpr (by omega))
    rwa [show pc - 760 + 760 = pc by omega] at this
  by_cases h800 : pc < 840
  · have := List.all_eq_true.mp chl_5_800 (pc - 800) (List.mem_range.mpr (by omega))
    rwa [show pc - 800 + 800 = pc by omega] at this
  by_cases h840 : pc < 880
  · have := List.all_eq_true.mp chl_5_840 (pc - 840) (List.mem_range.mpr (by omega))
    rwa [show pc - 840 + 840 = pc by omega] at this
  by_cases h880 : pc < 920
  · have := List.all_eq_true.mp chl_5_880 (pc - 880) (List.mem_range.mpr (by omega))
    rwa [show pc - 880 + 880 = pc by omega] at this
  by_cases h920 : pc < 960
  · have := List.all_eq_true.mp chl_5_920 (pc - 920) (List.mem_range.mpr (by omega))
    rwa [show pc - 920 + 920 = pc by omega] at this
  by_cases h960 : pc < 1000
  · have := List.all_eq_true.mp chl_5_960 (pc - 960) (List.mem_range.mpr (by omega))
    rwa [show pc - 960 + 960 = pc by omega] at this
  by_cases h1000 : pc < 1003
  · have := List.all_eq_true.mp chl_5_1000 (pc - 1000) (List.mem_range.mpr (by omega))
    rwa [show pc - 1000 + 1000 = pc by omega] at this
  · omega
set_option maxRecDepth 100000 in
theorem chl_6_0 : (List.range 40).all (fun i => chk 6 (i + 0) (ct6 (i + 0))) = true := by decide +kernel
set_option maxRecDepth 100000 in
theorem chl_6_40 : (List.range 40).all (fun i => chk 6 (i + 40) (ct6 (i + 40))) = true := by decide +kernel
set_option maxRecDepth 100000 in
theorem chl_6_80 : (List.range 40).all (fun i => chk 6 (i + 80) (ct6 (i + 80))) = true := by decide +kernel
set_option maxRecDepth 100000 in
theorem chl_6_120 : (List.range 40).all (fun i => chk 6 (i + 120) (ct6 (i + 120))) = true := by decide +kernel
set_option maxRecDepth 100000 in
theorem chl_6_160 : (List.range 40).all (fun i => chk 6 (i + 160) (ct6 (i + 160))) = true := by decide +kernel
set_option maxRecDepth 100000 in
theorem chl_6_200 : (List.range 40).all (fun i => chk 6 (i + 200) (ct6 (i + 200))) = true := by decide +kernel
set_option maxRecDepth 100000 in
theorem chl_6_240 : (List.range 40).all (fun i => chk 6 (i + 240) (ct6 (i + 240))) = true := by decide +kernel
set_option maxRecDepth 100000 in
theorem chl_6_280 : (List.range 40).all (fun i => chk 6 (i + 280) (ct6 (i + 280))) = true := by decide +kernel
set_option maxRecDepth 100000 in
theorem chl_6_320 : (List.range 40).all (fun i => chk 6 (i + 320) (ct6 (i + 320))) = true := by decide +kernel
set_option maxRecDepth 100000 in
theorem chl_6_360 : (List.range 40).all (fun i => chk 6 (i + 360) (ct6 (i + 360))) = true := by decide +kernel
set_option maxRecDepth 100000 in
theorem chl_6_400 : (List.range 40).all (fun i => chk 6 (i + 400) (ct6 (i + 400))) = true := by decide +kernel
set_option maxRecDepth 100000 in
theorem chl_6_440 : (List.range 40).all (fun i => chk 6 (i + 440) (ct6 (i + 440))) = true := by decide +kernel
set_option maxRecDepth 100000 in
theorem chl_6_480 : (List.range 9).all (fun i => chk 6 (i + 480) (ct6 (i + 480))) = true := by decide +kernel
theorem chl6_all (pc : Nat) (h : pc < 489) : chk 6 pc (ct6 pc) = true := by
  by_cases h0 : pc < 40
  · have := List.all_eq_true.mp chl_6_0 (pc - 0) (List.mem_range.mpr (by omega))
    rwa [show pc - 0 + 0 = pc by omega] at this
  by_cases h40 : pc < 80
  · have := List.all_eq_true.mp chl_6_40 (pc - 40) (List.mem_range.mpr (by omega))
    rwa [show pc - 40 + 40 = pc by omega] at this
  by_cases h80 : pc < 120
  · have := List.all_eq_true.mp chl_6_80 (pc - 80) (List.mem_range.mpr (by omega))
    rwa [show pc - 80 + 80 = pc by omega] at this
  by_cases h120 : pc < 160
  · have := List.all_eq_true.mp chl_6_120 (pc - 120) (List.mem_range.mpr (by omega))
    rwa [show pc - 120 + 120 = pc by omega] at this
  by_cases h160 : pc < 200
  · have := List.all_eq_true.mp chl_6_160 (pc - 160) (List.mem_range.mpr (by omega))
    rwa [show pc - 160 + 160 = pc by omega] at this
  by_cases h200 : pc < 240
  · have := List.all_eq_true.mp chl_6_200 (pc - 200) (List.mem_range.mpr (by omega))
    rwa [show pc - 200 + 200 = pc by omega] at this
  by_cases h240 : pc < 280
  · have := List.all_eq_true.mp chl_6_240 (pc - 240) (List.mem_range.mpr (by omega))
    rwa [show pc - 240 + 240 = pc by omega] at this
  by_cases h280 : pc < 320
  · have := List.all_eq_true.mp chl_6_280 (pc - 280) (List.mem_range.mpr (by omega))
    rwa [show pc - 280 + 280 = pc by omega] at this
  by_cases h320 : pc < 360
  · have := List.all_eq_true.mp chl_6_320 (pc - 320) (List.mem_range.mpr (by omega))
    rwa [show pc - 320 + 320 = pc by omega] at this
  by_cases h360 : pc < 400
  · have := List.all_eq_true.mp chl_6_360 (pc - 360) (List.mem_range.mpr (by omega))
    rwa [show pc - 360 + 360 = pc by omega] at this
  by_cases h400 : pc < 440
  · have := List.all_eq_true.mp chl_6_400 (pc - 400) (List.mem_range.mpr (by omega))
    rwa [show pc - 400 + 400 = pc by omega] at this
  by_cases h440 : pc < 480
  · have := List.all_eq_true.mp chl_6_440 (pc - 440) (List.mem_range.mpr (by omega))
    rwa [show pc - 440 + 440 = pc by omega] at this
  by_cases h480 : pc < 489
  · have := List.all_eq_true.mp chl_6_480 (pc - 480) (List.mem_range.mpr (by omega))
    rwa [show pc - 480 + 480 = pc by omega] at this
  · omega
set_option maxRecDepth 100000 in
theorem chl_7_0 : (List.range 40).all (fun i => chk 7 (i + 0) (ct7 (i + 0))) = true := by decide +kernel
set_option maxRecDepth 100000 in
theorem chl_7_40 : (List.range 40).all (fun i => chk 7 (i + 40) (ct7 (i + 40))) = true := by decide +kernel
set_option maxRecDepth 100000 in
theorem chl_7_80 : (List.range 10).all (fun i => chk 7 (i + 80) (ct7 (i + 80))) = true := by decide +kernel
theorem chl7_all (pc : Nat) (h : pc < 90) : chk 7 pc (ct7 pc) = true := by
  by_cases h0 : pc < 40
  · have := List.all_eq_true.mp chl_7_0 (pc - 0) (List.mem_range.mpr (by omega))
    rwa [show pc - 0 + 0 = pc by omega] at this
  by_cases h40 : pc < 80
  · have := List.all_eq_true.mp chl_7_40 (pc - 40) (List.mem_range.mpr (by omega))
    rwa [show pc - 40 + 40 = pc by omega] at this
  by_cases h80 : pc < 90
  · have := List.all_eq_true.mp chl_7_80 (pc - 80) (List.mem_range.mpr (by omega))
    rwa [show pc - 80 + 80 = pc by omega] at this
  · omega
set_option maxRecDepth 100000 in
theorem chl_8_0 : (List.range 40).all (fun i => chk 8 (i + 0) (ct8 (i + 0))) = true := by decide +kernel
set_option maxRecDepth 100000 in
theorem chl_8_40 : (List.range 40).all (fun i => chk 8 (i + 40) (ct8 (i + 40))) = true := by decide +kernel
set_option maxRecDepth 100000 in
theorem chl_8_80 : (List.range 40).all (fun i => chk 8 (i + 80) (ct8 (i + 80))) = true := by decide +kernel
set_option maxRecDepth 100000 in
theorem chl_8_120 : (List.range 40).all (fun i => chk 8 (i + 120) (ct8 (i + 120))) = true := by decide +kernel
set_option maxRecDepth 100000 in
theorem chl_8_160 : (List.range 40).all (fun i => chk 8 (i + 160) (ct8 (i + 160))) = true := by decide +kernel
set_option maxRecDepth 100000 in
theorem chl_8_200 : (List.range 13).all (fun i => chk 8 (i + 200) (ct8 (i + 200))) = true := by decide +kernel
theorem chl8_all (pc : Nat) (h : pc < 213) : chk 8 pc (ct8 pc) = true := by
  by_cases h0 : pc < 40
  · have := List.all_eq_true.mp chl_8_0 (pc - 0) (List.mem_range.mpr (by omega))
    rwa [show pc - 0 + 0 = pc by omega] at this
  by_cases h40 : pc < 80
  · have := List.all_eq_true.mp chl_8_40 (pc - 40) (List.mem_range.mpr (by omega))
    rwa [show pc - 40 + 40 = pc by omega] at this
  by_cases h80 : pc < 120
  · have := List.all_eq_true.mp chl_8_80 (pc - 80) (List.mem_range.mpr (by omega))
    rwa [show pc - 80 + 80 = pc by omega] at this
  by_cases h120 : pc < 160
  · have := List.all_eq_true.mp chl_8_120 (pc - 120) (List.mem_range.mpr (by omega))
    rwa [show pc - 120 + 120 = pc by omega] at this
  by_cases h160 : pc < 200
  · have := List.all_eq_true.mp chl_8_160 (pc - 160) (List.mem_range.mpr (by omega))
    rwa [show pc - 160 + 160 = pc by omega] at this
  by_cases h200 : pc < 213
  · have := List.all_eq_true.mp chl_8_200 (pc - 200) (List.mem_range.mpr (by omega))
    rwa [show pc - 200 + 200 = pc by omega] at this
  · omega
set_option maxRecDepth 100000 in
theorem chl_9_0 : (List.range 40).all (fun i => chk 9 (i + 0) (ct9 (i + 0))) = true := by decide +kernel
set_option maxRecDepth 100000 in
theorem chl_9_40 : (List.range 40).all (fun i => chk 9 (i + 40) (ct9 (i + 40))) = true := by decide +kernel
set_option maxRecDepth 100000 in
theorem chl_9_80 : (List.range 40).all (fun i => chk 9 (i + 80) (ct9 (i + 80))) = true := by decide +kernel
set_option maxRecDepth 100000 in
theorem chl_9_120 : (List.range 40).all (fun i => chk 9 (i + 120) (ct9 (i + 120))) = true := by decide +kernel
set_option maxRecDepth 100000 in
theorem chl_9_160 : (List.range 40).all (fun i => chk 9 (i + 160) (ct9 (i + 160))) = true := by decide +kernel
set_option maxRecDepth 100000 in
theorem chl_9_200 : (List.range 40).all (fun i => chk 9 (i + 200) (ct9 (i + 200))) = true := by decide +kernel
set_option maxRecDepth 100000 in
theorem chl_9_240 : (List.range 40).all (fun i => chk 9 (i + 240) (ct9 (i + 240))) = true := by decide +kernel
set_option maxRecDepth 100000 in
theorem chl_9_280 : (List.range 40).all (fun i => chk 9 (i + 280) (ct9 (i + 280))) = true := by decide +kernel
set_option maxRecDepth 100000 in
theorem chl_9_320 : (List.range 40).all (fun i => chk 9 (i + 320) (ct9 (i + 320))) = true := by decide +kernel
set_option maxRecDepth 100000 in
theorem chl_9_360 : (List.range 1).all (fun i => chk 9 (i + 360) (ct9 (i + 360))) = true := by decide +kernel
theorem chl9_all (pc : Nat) (h : pc < 361) : chk 9 pc (ct9 pc) = true := by
  by_cases h0 : pc < 40
  · have := List.all_eq_true.mp chl_9_0 (pc - 0) (List.mem_range.mpr (by omega))
    rwa [show pc - 0 + 0 = pc by omega] at this
  by_cases h40 : pc < 80
  · have := List.all_eq_true.mp chl_9_40 (pc - 40) (List.mem_range.mpr (by omega))
    rwa [show pc - 40 + 40 = pc by omega] at this
  by_cases h80 : pc < 120
  · have := List.all_eq_true.mp chl_9_80 (pc - 80) (List.mem_range.mpr (by omega))
    rwa [show pc - 80 + 80 = pc by omega] at this
  by_cases h120 : pc < 160
  · have := List.all_eq_true.mp chl_9_120 (pc - 120) (List.mem_range.mpr (by omega))
    rwa [show pc - 120 + 120 = pc by omega] at this
  by_cases h160 : pc < 200
  · have := List.all_eq_true.mp chl_9_160 (pc - 160) (List.mem_range.mpr (by omega))
    rwa [show pc - 160 + 160 = pc by omega] at this
  by_cases h200 : pc < 240
  · have := List.all_eq_true.mp chl_9_200 (pc - 200) (List.mem_range.mpr (by omega))
    rwa [show pc - 200 + 200 = pc by omega] at this
  by_cases h240 : pc < 280
  · have := List.all_eq_true.mp chl_9_240 (pc - 240) (List.mem_range.mpr (by omega))
    rwa [show pc - 240 + 240 = pc by omega] at this
  by_cases h280 : pc < 320
  · have := List.all_eq_true.mp chl_9_280 (pc - 280) (List.mem_range.mpr (by omega))
    rwa [show pc - 280 + 280 = pc by omega] at this
  by_cases h320 : pc < 360
  · have := List.all_eq_true.mp chl_9_320 (pc - 320) (List.mem_range.mpr (by omega))
    rwa [show pc - 320 + 320 = pc by omega] at this
  by_cases h360 : pc < 361
  · have := List.all_eq_true.mp chl_9_360 (pc - 360) (List.mem_range.mpr (by omega))
    rwa [show pc - 360 + 360 = pc by omega] at this
  · omega
set_option maxRecDepth 100000 in
theorem chl_10_0 : (List.range 40).all (fun i => chk 10 (i + 0) (ct10 (i + 0))) = true := by decide +kernel
set_option maxRecDepth 100000 in
theorem chl_10_40 : (List.range 40).all (fun i => chk 10 (i + 40) (ct10 (i + 40))) = true := by decide +kernel
set_option maxRecDepth 100000 in
theorem chl_10_80 : (List.range 40).all (fun i => chk 10 (i + 80) (ct10 (i + 80))) = true := by decide +kernel
set_option maxRecDepth 100000 in
theorem chl_10_120 : (List.range 40).all (fun i => chk 10 (i + 120) (ct10 (i + 120))) = true := by decide +kernel
set_option maxRecDepth 100000 in
theorem chl_10_160 : (List.range 40).all (fun i => chk 10 (i + 160) (ct10 (i + 160))) = true := by decide +kernel
set_option maxRecDepth 100000 in
theorem chl_10_200 : (List.range 40).all (fun i => chk 10 (i + 200) (ct10 (i + 200))) = true := by decide +kernel
set_option maxRecDepth 100000 in
theorem chl_10_240 : (List.range 40).all (fun i => chk 10 (i + 240) (ct10 (i + 240))) = true := by decide +kernel
set_option maxRecDepth 100000 in
theorem chl_10_280 : (List.range 40).all (fun i => chk 10 (i + 280) (ct10 (i + 280))) = true := by decide +kernel
set_option maxRecDepth 100000 in
theorem chl_10_320 : (List.range 40).all (fun i => chk 10 (i + 320) (ct10 (i + 320))) = true := by decide +kernel
set_option maxRecDepth 100000 in
theorem chl_10_360 : (List.range 40).all (fun i => chk 10 (i + 360) (ct10 (i + 360))) = true := by decide +kernel
set_option maxRecDepth 100000 in
theorem chl_10_400 : (List.range 40).all (fun i => chk 10 (i + 400) (ct10 (i + 400))) = true := by decide +kernel
set_option maxRecDepth 100000 in
theorem chl_10_440 : (List.range 40).all (fun i => chk 10 (i + 440) (ct10 (i + 440))) = true := by decide +kernel
set_option maxRecDepth 100000 in
theorem chl_10_480 : (List.range 40).all (fun i => chk 10 (i + 480) (ct10 (i + 480))) = true := by decide +kernel
set_option maxRecDepth 100000 in
theorem chl_10_520 : (List.range 40).all (fun i => chk 10 (i + 520) (ct10 (i + 520))) = true := by decide +kernel
set_option maxRecDepth 100000 in
theorem chl_10_560 : (List.range 40).all (fun i => chk 10 (i + 560) (ct10 (i + 560))) = true := by decide +kernel
set_option maxRecDepth 100000 in
theorem chl_10_600 : (List.range 40).all (fun i => chk 10 (i + 600) (ct10 (i + 600))) = true := by decide +kernel
set_option maxRecDepth 100000 in
theorem chl_10_640 : (List.range 40).all (fun i => chk 10 (i + 640) (ct10 (i + 640))) = true := by decide +kernel
set_option maxRecDepth 100000 in
theorem chl_10_680 : (List.range 40).all (fun i => chk 10 (i + 680) (ct10 (i + 680))) = true := by decide +kernel
set_option maxRecDepth 100000 in
theorem chl_10_720 : (List.range 40).all (fun i => chk 10 (i + 720) (ct10 (i + 720))) = true := by decide +kernel
set_option maxRecDepth 100000 in
theorem chl_10_760 : (List.range 40).all (fun i => chk 10 (i + 760) (ct10 (i + 760))) = true := by decide +kernel
set_option maxRecDepth 100000 in
theorem chl_10_800 : (List.range 40).all (fun i => chk 10 (i + 800) (ct10 (i + 800))) = true := by decide +kernel
set_option maxRecDepth 100000 in
theorem chl_10_840 : (List.range 40).all (fun i => chk 10 (i + 840) (ct10 (i + 840))) = true := by decide +kernel
set_option maxRecDepth 100000 in
theorem chl_10_880 : (List.range 40).all (fun i => chk 10 (i + 880) (ct10 (i + 880))) = true := by decide +kernel
set_option maxRecDepth 100000 in
theorem chl_10_920 : (List.range 40).all (fun i => chk 10 (i + 920) (ct10 (i + 920))) = true := by decide +kernel
set_option maxRecDepth 100000 in
theorem chl_10_960 : (List.range 40).all (fun i => chk 10 (i + 960) (ct10 (i + 960))) = true := by decide +kernel
set_option maxRecDepth 100000 in
theorem chl_10_1000 : (List.range 32).all (fun i => chk 10 (i + 1000) (ct10 (i + 1000))) = true := by decide +kernel
theorem chl10_all (pc : Nat) (h : pc < 1032) : chk 10 pc (ct10 pc) = true := by
  by_cases h0 : pc < 40
  · have := List.all_eq_true.mp chl_10_0 (pc - 0) (List.mem_range.mpr (by omega))
    rwa [show pc - 0 + 0 = pc by omega] at this
  by_cases h40 : pc < 80
  · have := List.all_eq_true.mp chl_10_40 (pc - 40) (List.mem_range.mpr (by omega))
    rwa [show pc - 40 + 40 = pc by omega] at this
  by_cases h80 : pc < 120
  · have := List.all_eq_true.mp chl_10_80 (pc - 80) (List.mem_range.mpr (by omega))
    rwa [show pc - 80 + 80 = pc by omega] at this
  by_cases h120 : pc < 160
  · have := List.all_eq_true.mp chl_10_120 (pc - 120) (List.mem_range.mpr (by omega))
    rwa [show pc - 120 + 120 = pc by omega] at this
  by_cases h160 : pc < 200
  · have := List.all_eq_true.mp chl_10_160 (pc - 160) (List.mem_range.mpr (by omega))
    rwa [show pc - 160 + 160 = pc by omega] at this
  by_cases h200 : pc < 240
  · have := List.all_eq_true.mp chl_10_200 (pc - 200) (List.mem_range.mpr (by omega))
    rwa [show pc - 200 + 200 = pc by omega] at this
  by_cases h240 : pc < 280
  · have := List.all_eq_true.mp chl_10_240 (pc - 240) (List.mem_range.mpr (by omega))
    rwa [show pc - 240 + 240 = pc by omega] at this
  by_cases h280 : pc < 320
  · have := List.all_eq_true.mp chl_10_280 (pc - 280) (List.mem_range.mpr (by omega))
    rwa [show pc - 280 + 280 = pc by omega] at this
  by_cases h320 : pc < 360
  · have := List.all_eq_true.mp chl_10_320 (pc - 320) (List.mem_range.mpr (by omega))
    rwa [show pc - 320 + 320 = pc by omega] at this
  by_cases h360 : pc < 400
  · have := List.all_eq_true.mp chl_10_360 (pc - 360) (List.mem_range.mpr (by omega))
    rwa [show pc - 360 + 360 = pc by omega] at this
  by_cases h400 : pc < 440
  · have := List.all_eq_true.mp chl_10_400 (pc - 400) (List.mem_range.mpr (by omega))
    rwa [show pc - 400 + 400 = pc by omega] at this
  by_cases h440 : pc < 480
  · have := List.all_eq_true.mp chl_10_440 (pc - 440) (List.mem_range.mpr (by omega))
    rwa [show pc - 440 + 440 = pc by omega] at this
  by_cases h480 : pc < 520
  · have := List.all_eq_true.mp chl_10_480 (pc - 480) (List.mem_range.mpr (by omega))
    rwa [show pc - 480 + 480 = pc by omega] at this
  by_cases h520 : pc < 560
  · have := List.all_eq_true.mp chl_10_520 (pc - 520) (List.mem_range.mpr (by omega))
    rwa [show pc - 520 + 520 = pc by omega] at this
  by_cases h560 : pc < 600
  · have := List.all_eq_true.mp chl_10_560 (pc - 560) (List.mem_range.mpr (by omega))
    rwa [show pc - 560 + 560 = pc by omega] at this
  by_cases h600 : pc < 640
  · have := List.all_eq_true.mp chl_10_600 (pc - 600) (List.mem_range.mpr (by omega))
    rwa [show pc - 600 + 600 = pc by omega] at this
  by_cases h640 : pc < 680
  · have := List.all_eq_true.mp chl_10_640 (pc - 640) (List.mem_range.mpr (by omega))
    rwa [show pc - 640 + 640 = pc by omega] at this
  by_cases h680 : pc < 720
  · have := List.all_eq_true.mp chl_10_680 (pc - 680) (List.mem_range.mpr (by omega))
    rwa [show pc - 680 + 680 = pc by omega] at this
  by_cases h720 : pc < 760
  · have := List.all_eq_true.mp chl_10_720 (pc - 720) (List.mem_range.mpr (by omega))
    rwa [show pc - 720 + 720 = pc by omega] at this
  by_cases h760 : pc < 800
  · have := List.all_eq_true.mp chl_10_760 (pc - 760) (List.mem_range.mpr (by omega))
    rwa [show pc - 760 + 760 = pc by omega] at this
  by_cases h800 : pc < 840
  · have := List.all_eq_true.mp chl_10_800 (pc - 800) (List.mem_range.mpr (by omega))
    rwa [show pc - 800 + 800 = pc by omega] at this
  by_cases h840 : pc < 880
  · have := List.all_eq_true.mp chl_10_840 (pc - 840) (List.mem_range.mpr (by omega))
    rwa [show pc - 840 + 840 = pc by omega] at this
  by_cases h880 : pc < 920
  · have := List.all_eq_true.mp chl_10_880 (pc - 880) (List.mem_range.mpr (by omega))
    rwa [show pc - 880 + 880 = pc by omega] at this
  by_cases h920 : pc < 960
  · have := List.all_eq_true.mp chl_10_920 (pc - 920) (List.mem_range.mpr (by omega))
    rwa [show pc - 920 + 920 = pc by omega] at this
  by_cases h960 : pc < 1000
  · have := List.all_eq_true.mp chl_10_960 (pc - 960) (List.mem_range.mpr (by omega))
    rwa [show pc - 960 + 960 = pc by omega] at this
  by_cases h1000 : pc < 1032
  · have := List.all_eq_true.mp chl_10_1000 (pc - 1000) (List.mem_range.mpr (by omega))
    rwa [show pc - 1000 + 1000 = pc by omega] at this
  · omega
set_option maxRecDepth 100000 in
theorem chl_11_0 : (List.range 40).all (fun i => chk 11 (i + 0) (ct11 (i + 0))) = true := by decide +kernel
set_option maxRecDepth 100000 in
theorem chl_11_40 : (List.range 40).all (fun i => chk 11 (i + 40) (ct11 (i + 40))) = true := by decide +kernel
set_option maxRecDepth 100000 in
theorem chl_11_80 : (List.range 40).all (fun i => chk 11 (i + 80) (ct11 (i + 80))) = true := by decide +kernel
set_option maxRecDepth 100000 in
theorem chl_11_120 : (List.range 40).all (fun i => chk 11 (i + 120) (ct11 (i + 120))) = true := by decide +kernel
set_option maxRecDepth 100000 in
theorem chl_11_160 : (List.range 40).all (fun i => chk 11 (i + 160) (ct11 (i + 160))) = true := by decide +kernel
set_option maxRecDepth 100000 in
theorem chl_11_200 : (List.range 40).all (fun i => chk 11 (i + 200) (ct11 (i + 200))) = true := by decide +kernel
set_option maxRecDepth 100000 in
theorem chl_11_240 : (List.range 40).all (fun i => chk 11 (i + 240) (ct11 (i + 240))) = true := by decide +kernel
set_option maxRecDepth 100000 in
theorem chl_11_280 : (List.range 40).all (fun i => chk 11 (i + 280) (ct11 (i + 280))) = true := by decide +kernel
set_option maxRecDepth 100000 in
theorem chl_11_320 : (List.range 40).all (fun i => chk 11 (i + 320) (ct11 (i + 320))) = true := by decide +kernel
set_option maxRecDepth 100000 in
theorem chl_11_360 : (List.range 40).all (fun i => chk 11 (i + 360) (ct11 (i + 360))) = true := by decide +kernel
set_option maxRecDepth 100000 in
theorem chl_11_400 : (List.range 40).all (fun i => chk 11 (i + 400) (ct11 (i + 400))) = true := by decide +kernel
set_option maxRecDepth 100000 in
theorem chl_11_440 : (List.range 40).all (fun i => chk 11 (i + 440) (ct11 (i + 440))) = true := by decide +kernel
set_option maxRecDepth 100000 in
theorem chl_11_480 : (List.range 40).all (fun i => chk 11 (i + 480) (ct11 (i + 480))) = true := by decide +kernel
set_option maxRecDepth 100000 in
theorem chl_11_520 : (List.range 40).all (fun i => chk 11 (i + 520) (ct11 (i + 520))) = true := by decide +kernel
set_option maxRecDepth 100000 in
theorem chl_11_560 : (List.range 40).all (fun i => chk 11 (i + 560) (ct11 (i + 560))) = true := by decide +kernel
set_option maxRecDepth 100000 in
theorem chl_11_600 : (List.range 40).all (fun i => chk 11 (i + 600) (ct11 (i + 600))) = true := by decide +kernel
set_option maxRecDepth 100000 in
theorem chl_11_640 : (List.range 40).all (fun i => chk 11 (i + 640) (ct11 (i + 640))) = true := by decide +kernel
set_option maxRecDepth 100000 in
theorem chl_11_680 : (List.range 27).all (fun i => chk 11 (i + 680) (ct11 (i + 680))) = true := by decide +kernel
theorem chl11_all (pc : Nat) (h : pc < 707) : chk 11 pc (ct11 pc) = true := by
  by_cases h0 : pc < 40
  · have := List.all_eq_true.mp chl_11_0 (pc - 0) (List.mem_range.mpr (by omega))
    rwa [show pc - 0 + 0 = pc by omega] at this
  by_cases h40 : pc < 80
  · have := List.all_eq_true.mp chl_11_40 (pc - 40) (List.mem_range.mpr (by omega))
    rwa [show pc - 40 + 40 = pc by omega] at this
  by_cases h80 : pc < 120
  · have := List.all_eq_true.mp chl_11_80 (pc - 80) (List.mem_range.mpr (by omega))
    rwa [show pc - 80 + 80 = pc by omega] at this
  by_cases h120 : pc < 160
  · have := List.all_eq_true.mp chl_11_120 (pc - 120) (List.mem_range.mpr (by omega))
    rwa [show pc - 120 + 120 = pc by omega] at this
  by_cases h160 : pc < 200
  · have := List.all_eq_true.mp chl_11_160 (pc - 160) (List.mem_range.mpr (by omega))
    rwa [show pc - 160 + 160 = pc by omega] at this
  by_cases h200 : pc < 240
  · have := List.all_eq_true.mp chl_11_200 (pc - 200) (List.mem_range.mpr (by omega))
    rwa [show pc - 200 + 200 = pc by omega] at this
  by_cases h240 : pc < 280
  · have := List.all_eq_true.mp chl_11_240 (pc - 240) (List.mem_range.mpr (by omega))
    rwa [show pc - 240 + 240 = pc by omega] at this
  by_cases h280 : pc < 320
  · have := List.all_eq_true.mp chl_11_280 (pc - 280) (List.mem_range.mpr (by omega))
    rwa [show pc - 280 + 280 = pc by omega] at this
  by_cases h320 : pc < 360
  · have := List.all_eq_true.mp chl_11_320 (pc - 320) (List.mem_range.mpr (by omega))
    rwa [show pc - 320 + 320 = pc by omega] at this
  by_cases h360 : pc < 400
  · have := List.all_eq_true.mp chl_11_360 (pc - 360) (List.mem_range.mpr (by omega))
    rwa [show pc - 360 + 360 = pc by omega] at this
  by_cases h400 : pc < 440
  · have := List.all_eq_true.mp chl_11_400 (pc - 400) (List.mem_range.mpr (by omega))
    rwa [show pc - 400 + 400 = pc by omega] at this
  by_cases h440 : pc < 480
  · have := List.all_eq_true.mp chl_11_440 (pc - 440) (List.mem_range.mpr (by omega))
    rwa [show pc - 440 + 440 = pc by omega] at this
  by_cases h480 : pc < 520
  · have := List.all_eq_true.mp chl_11_480 (pc - 480) (List.mem_range.mpr (by omega))
    rwa [show pc - 480 + 480 = pc by omega] at this
  by_cases h520 : pc < 560
  · have := List.all_eq_true.mp chl_11_520 (pc - 520) (List.mem_range.mpr (by omega))
    rwa [show pc - 520 + 520 = pc by omega] at this
  by_cases h560 : pc < 600
  · have := List.all_eq_true.mp chl_11_560 (pc - 560) (List.mem_range.mpr (by omega))
    rwa [show pc - 560 + 560 = pc by omega] at this
  by_cases h600 : pc < 640
  · have := List.all_eq_true.mp chl_11_600 (pc - 600) (List.mem_range.mpr (by omega))
    rwa [show pc - 600 + 600 = pc by omega] at this
  by_cases h640 : pc < 680
  · have := List.all_eq_true.mp chl_11_640 (pc - 640) (List.mem_range.mpr (by omega))
    rwa [show pc - 640 + 640 = pc by omega] at this
  by_cases h680 : pc < 707
  · have := List.all_eq_true.mp chl_11_680 (pc - 680) (List.mem_range.mpr (by omega))
    rwa [show pc - 680 + 680 = pc by omega] at this
  · omega
theorem chm_all (k : Nat) (h : k < 118) : chm k = true := by
  by_cases h0 : k = 0
  · subst h0
    refine List.all_eq_true.mpr fun pc hp => ?_
    exact chl0_all pc (List.mem_range.mp hp)
  by_cases h1 : k = 1
  · subst h1
    refine List.all_eq_true.mpr fun pc hp => ?_
    exact chl1_all pc (List.mem_range.mp hp)
  by_cases h2 : k = 2
  · subst h2
    refine List.all_eq_true.mpr fun pc hp => ?_
    exact chl2_all pc (List.mem_range.mp hp)
  by_cases h3 : k = 3
  · subst h3
    refine List.all_eq_true.mpr fun pc hp => ?_
    exact chl3_all pc (List.mem_range.mp hp)
  by_cases h4 : k = 4
  · subst h4
    refine List.all_eq_true.mpr fun pc hp => ?_
    exact chl4_all pc (List.mem_range.mp hp)
  by_cases h5 : k = 5
  · subst h5
    refine List.all_eq_true.mpr fun pc hp => ?_
    exact chl5_all pc (List.mem_range.mp hp)
  by_cases h6 : k = 6
  · subst h6
    refine List.all_eq_true.mpr fun pc hp => ?_
    exact chl6_all pc (List.mem_range.mp hp)
  by_cases h7 : k = 7
  · subst h7
    refine List.all_eq_true.mpr fun pc hp => ?_
    exact chl7_all pc (List.mem_range.mp hp)
  by_cases h8 : k = 8
  · subst h8
    refine List.all_eq_true.mpr fun pc hp => ?_
    exact chl8_all pc (List.mem_range.mp hp)
  by_cases h9 : k = 9
  · subst h9
    refine List.all_eq_true.mpr fun pc hp => ?_
    exact chl9_all pc (List.mem_range.mp hp)
  by_cases h10 : k = 10
  · subst h10
    refine List.all_eq_true.mpr fun pc hp => ?_
    exact chl10_all pc (List.mem_range.mp hp)
  by_cases h11 : k = 11
  · subst h11
    refine List.all_eq_true.mpr fun pc hp => ?_
    exact chl11_all pc (List.mem_range.mp hp)
  by_cases g12 : k < 22
  · have := List.all_eq_true.mp chm_11 (k - 12) (List.mem_range.mpr (by omega))
    rwa [show k - 12 + 12 = k by omega] at this
  by_cases g22 : k < 32
  · have := List.all_eq_true.mp chm_21 (k - 22) (List.mem_range.mpr (by omega))
    rwa [show k - 22 + 22 = k by omega] at this
  by_cases g32 : k < 42
  · have := List.all_eq_true.mp chm_31 (k - 32) (List.mem_range.mpr (by omega))
    rwa [show k - 32 + 32 = k by omega] at this
  by_cases g42 : k < 52
  · have := List.all_eq_true.mp chm_41 (k - 42) (List.mem_range.mpr (by omega))
    rwa [show k - 42 + 42 = k by omega] at this
  by_cases g52 : k < 62
  · have := List.all_eq_true.mp chm_51 (k - 52) (List.mem_range.mpr (by omega))
    rwa [show k - 52 + 52 = k by omega] at this
  by_cases g62 : k < 72
  · have := List.all_eq_true.mp chm_61 (k - 62) (List.mem_range.mpr (by omega))
    rwa [show k - 62 + 62 = k by omega] at this
  by_cases g72 : k < 82
  · have := List.all_eq_true.mp chm_71 (k - 72) (List.mem_range.mpr (by omega))
    rwa [show k - 72 + 72 = k by omega] at this
  by_cases g82 : k < 92
  · have := List.all_eq_true.mp chm_81 (k - 82) (List.mem_range.mpr (by omega))
    rwa [show k - 82 + 82 = k by omega] at this
  by_cases g92 : k < 102
  · have := List.all_eq_true.mp chm_91 (k - 92) (List.mem_range.mpr (by omega))
    rwa [show k - 92 + 92 = k by omega] at this
  by_cases g102 : k < 112
  · have := List.all_eq_true.mp chm_101 (k - 102) (List.mem_range.mpr (by omega))
    rwa [show k - 102 + 102 = k by omega] at this
  by_cases g112 : k < 118
  · have := List.all_eq_true.mp chm_111 (k - 112) (List.mem_range.mpr (by omega))
    rwa [show k - 112 + 112 = k by omega] at this
  · omega
theorem mlen_big {k : Nat} (h : ¬ k < 118) : mlen k = 0 := by
  have h1 : Nat.blt k 118 = false := by
    cases e : Nat.blt k 118 with
    | false => rfl
    | true => exact absurd (Nat.le_of_ble_eq_true e) h
  simp only [mlen, h1, cond_false]
theorem ct_ok {k pc : Nat} {ai : AI} (h : ct k pc = ai) (h9 : Nat.beq ai.1 99 = false) : decode (mb k) pc = .ok (exI k pc ai) ∧ nxI pc ai (exI k pc ai).2 = true ∧ sdI k pc ai = true ∧ k < 118 := by
  cases hp : Nat.blt pc (mlen k) with
  | false =>
    rw [ct, hp, cond_false] at h
    rw [← h] at h9
    cases h9
  | true =>
    rw [ct, hp, cond_true] at h
    have hlt : pc < mlen k := Nat.le_of_ble_eq_true hp
    by_cases hk : k < 118
    · have h1 := List.all_eq_true.mp (chm_all k hk) pc (List.mem_range.mpr hlt)
      rw [h, chk, h9, cond_false] at h1
      simp only [Bool.and_eq_true, decide_eq_true_eq] at h1
      exact ⟨h1.1.1, h1.1.2, h1.2, hk⟩
    · rw [mlen_big hk] at hlt
      omega
