set_option maxRecDepth 100000 in
theorem chl_0 : (List.range 40).all (fun i => chk 0 (i + 0) (ct0 (i + 0))) = true := by decide +kernel
set_option maxRecDepth 100000 in
theorem chl_40 : (List.range 40).all (fun i => chk 0 (i + 40) (ct0 (i + 40))) = true := by decide +kernel
set_option maxRecDepth 100000 in
theorem chl_80 : (List.range 40).all (fun i => chk 0 (i + 80) (ct0 (i + 80))) = true := by decide +kernel
set_option maxRecDepth 100000 in
theorem chl_120 : (List.range 40).all (fun i => chk 0 (i + 120) (ct0 (i + 120))) = true := by decide +kernel
set_option maxRecDepth 100000 in
theorem chl_160 : (List.range 40).all (fun i => chk 0 (i + 160) (ct0 (i + 160))) = true := by decide +kernel
set_option maxRecDepth 100000 in
theorem chl_200 : (List.range 40).all (fun i => chk 0 (i + 200) (ct0 (i + 200))) = true := by decide +kernel
set_option maxRecDepth 100000 in
theorem chl_240 : (List.range 40).all (fun i => chk 0 (i + 240) (ct0 (i + 240))) = true := by decide +kernel
set_option maxRecDepth 100000 in
theorem chl_280 : (List.range 40).all (fun i => chk 0 (i + 280) (ct0 (i + 280))) = true := by decide +kernel
set_option maxRecDepth 100000 in
theorem chl_320 : (List.range 40).all (fun i => chk 0 (i + 320) (ct0 (i + 320))) = true := by decide +kernel
set_option maxRecDepth 100000 in
theorem chl_360 : (List.range 40).all (fun i => chk 0 (i + 360) (ct0 (i + 360))) = true := by decide +kernel
set_option maxRecDepth 100000 in
theorem chl_400 : (List.range 40).all (fun i => chk 0 (i + 400) (ct0 (i + 400))) = true := by decide +kernel
set_option maxRecDepth 100000 in
theorem chl_440 : (List.range 40).all (fun i => chk 0 (i + 440) (ct0 (i + 440))) = true := by decide +kernel
set_option maxRecDepth 100000 in
theorem chl_480 : (List.range 40).all (fun i => chk 0 (i + 480) (ct0 (i + 480))) = true := by decide +kernel
set_option maxRecDepth 100000 in
theorem chl_520 : (List.range 40).all (fun i => chk 0 (i + 520) (ct0 (i + 520))) = true := by decide +kernel
set_option maxRecDepth 100000 in
theorem chl_560 : (List.range 40).all (fun i => chk 0 (i + 560) (ct0 (i + 560))) = true := by decide +kernel
set_option maxRecDepth 100000 in
theorem chl_600 : (List.range 40).all (fun i => chk 0 (i + 600) (ct0 (i + 600))) = true := by decide +kernel
set_option maxRecDepth 100000 in
theorem chl_640 : (List.range 40).all (fun i => chk 0 (i + 640) (ct0 (i + 640))) = true := by decide +kernel
set_option maxRecDepth 100000 in
theorem chl_680 : (List.range 40).all (fun i => chk 0 (i + 680) (ct0 (i + 680))) = true := by decide +kernel
set_option maxRecDepth 100000 in
theorem chl_720 : (List.range 40).all (fun i => chk 0 (i + 720) (ct0 (i + 720))) = true := by decide +kernel
set_option maxRecDepth 100000 in
theorem chl_760 : (List.range 40).all (fun i => chk 0 (i + 760) (ct0 (i + 760))) = true := by decide +kernel
set_option maxRecDepth 100000 in
theorem chl_800 : (List.range 40).all (fun i => chk 0 (i + 800) (ct0 (i + 800))) = true := by decide +kernel
set_option maxRecDepth 100000 in
theorem chl_840 : (List.range 40).all (fun i => chk 0 (i + 840) (ct0 (i + 840))) = true := by decide +kernel
set_option maxRecDepth 100000 in
theorem chl_880 : (List.range 40).all (fun i => chk 0 (i + 880) (ct0 (i + 880))) = true := by decide +kernel
theorem chl_all (pc : Nat) (h : pc < 920) : chk 0 pc (ct0 pc) = true := by
  by_cases h0 : pc < 40
  · have := List.all_eq_true.mp chl_0 (pc - 0) (List.mem_range.mpr (by omega))
    rwa [show pc - 0 + 0 = pc by omega] at this
  by_cases h40 : pc < 80
  · have := List.all_eq_true.mp chl_40 (pc - 40) (List.mem_range.mpr (by omega))
    rwa [show pc - 40 + 40 = pc by omega] at this
  by_cases h80 : pc < 120
  · have := List.all_eq_true.mp chl_80 (pc - 80) (List.mem_range.mpr (by omega))
    rwa [show pc - 80 + 80 = pc by omega] at this
  by_cases h120 : pc < 160
  · have := List.all_eq_true.mp chl_120 (pc - 120) (List.mem_range.mpr (by omega))
    rwa [show pc - 120 + 120 = pc by omega] at this
  by_cases h160 : pc < 200
  · have := List.all_eq_true.mp chl_160 (pc - 160) (List.mem_range.mpr (by omega))
    rwa [show pc - 160 + 160 = pc by omega] at this
  by_cases h200 : pc < 240
  · have := List.all_eq_true.mp chl_200 (pc - 200) (List.mem_range.mpr (by omega))
    rwa [show pc - 200 + 200 = pc by omega] at this
  by_cases h240 : pc < 280
  · have := List.all_eq_true.mp chl_240 (pc - 240) (List.mem_range.mpr (by omega))
    rwa [show pc - 240 + 240 = pc by omega] at this
  by_cases h280 : pc < 320
  · have := List.all_eq_true.mp chl_280 (pc - 280) (List.mem_range.mpr (by omega))
    rwa [show pc - 280 + 280 = pc by omega] at this
  by_cases h320 : pc < 360
  · have := List.all_eq_true.mp chl_320 (pc - 320) (List.mem_range.mpr (by omega))
    rwa [show pc - 320 + 320 = pc by omega] at this
  by_cases h360 : pc < 400
  · have := List.all_eq_true.mp chl_360 (pc - 360) (List.mem_range.mpr (by omega))
    rwa [show pc - 360 + 360 = pc by omega] at this
  by_cases h400 : pc < 440
  · have := List.all_eq_true.mp chl_400 (pc - 400) (List.mem_range.mpr (by omega))
    rwa [show pc - 400 + 400 = pc by omega] at this
  by_cases h440 : pc < 480
  · have := List.all_eq_true.mp chl_440 (pc - 440) (List.mem_range.mpr (by omega))
    rwa [show pc - 440 + 440 = pc by omega] at this
  by_cases h480 : pc < 520
  · have := List.all_eq_true.mp chl_480 (pc - 480) (List.mem_range.mpr (by omega))
    rwa [show pc - 480 + 480 = pc by omega] at this
  by_cases h520 : pc < 560
  · have := List.all_eq_true.mp chl_520 (pc - 520) (List.mem_range.mpr (by omega))
    rwa [show pc - 520 + 520 = pc by omega] at this
  by_cases h560 : pc < 600
  · have := List.all_eq_true.mp chl_560 (pc - 560) (List.mem_range.mpr (by omega))
    rwa [show pc - 560 + 560 = pc by omega] at this
  by_cases h600 : pc < 640
  · have := List.all_eq_true.mp chl_600 (pc - 600) (List.mem_range.mpr (by omega))
    rwa [show pc - 600 + 600 = pc by omega] at this
  by_cases h640 : pc < 680
  · have := List.all_eq_true.mp chl_640 (pc - 640) (List.mem_range.mpr (by omega))
    rwa [show pc - 640 + 640 = pc by omega] at this
  by_cases h680 : pc < 720
  · have := List.all_eq_true.mp chl_680 (pc - 680) (List.mem_range.mpr (by omega))
    rwa [show pc - 680 + 680 = pc by omega] at this
  by_cases h720 : pc < 760
  · have := List.all_eq_true.mp chl_720 (pc - 720) (List.mem_range.mpr (by omega))
    rwa [show pc - 720 + 720 = pc by omega] at this
  by_cases h760 : pc < 800
  · have := List.all_eq_true.mp chl_760 (pc - 760) (List.mem_range.mpr (by omega))
    rwa [show pc - 760 + 760 = pc by omega] at this
  by_cases h800 : pc < 840
  · have := List.all_eq_true.mp chl_800 (pc - 800) (List.mem_range.mpr (by omega))
    rwa [show pc - 800 + 800 = pc by omega] at this
  by_cases h840 : pc < 880
  · have := List.all_eq_true.mp chl_840 (pc - 840) (List.mem_range.mpr (by omega))
    rwa [show pc - 840 + 840 = pc by omega] at this
  by_cases h880 : pc < 920
  · have := List.all_eq_true.mp chl_880 (pc - 880) (List.mem_range.mpr (by omega))
    rwa [show pc - 880 + 880 = pc by omega] at this
  · omega
theorem chm_all (k : Nat) (h : k < 178) : chm k = true := by
  by_cases h0 : k = 0
  · subst h0
    refine List.all_eq_true.mpr fun pc hp => ?_
    exact chl_all pc (List.mem_range.mp hp)
  by_cases h1 : k < 11
  · have := List.all_eq_true.mp chm_0 (k - 1) (List.mem_range.mpr (by omega))
    rwa [show k - 1 + 1 = k by omega] at this
  by_cases h11 : k < 21
  · have := List.all_eq_true.mp chm_10 (k - 11) (List.mem_range.mpr (by omega))
    rwa [show k - 11 + 11 = k by omega] at this
  by_cases h21 : k < 31
  · have := List.all_eq_true.mp chm_20 (k - 21) (List.mem_range.mpr (by omega))
    rwa [show k - 21 + 21 = k by omega] at this
  by_cases h31 : k < 41
  · have := List.all_eq_true.mp chm_30 (k - 31) (List.mem_range.mpr (by omega))
    rwa [show k - 31 + 31 = k by omega] at this
  by_cases h41 : k < 51
  · have := List.all_eq_true.mp chm_40 (k - 41) (List.mem_range.mpr (by omega))
    rwa [show k - 41 + 41 = k by omega] at this
  by_cases h51 : k < 61
  · have := List.all_eq_true.mp chm_50 (k - 51) (List.mem_range.mpr (by omega))
    rwa [show k - 51 + 51 = k by omega] at this
  by_cases h61 : k < 71
  · have := List.all_eq_true.mp chm_60 (k - 61) (List.mem_range.mpr (by omega))
    rwa [show k - 61 + 61 = k by omega] at this
  by_cases h71 : k < 81
  · have := List.all_eq_true.mp chm_70 (k - 71) (List.mem_range.mpr (by omega))
    rwa [show k - 71 + 71 = k by omega] at this
  by_cases h81 : k < 91
  · have := List.all_eq_true.mp chm_80 (k - 81) (List.mem_range.mpr (by omega))
    rwa [show k - 81 + 81 = k by omega] at this
  by_cases h91 : k < 101
  · have := List.all_eq_true.mp chm_90 (k - 91) (List.mem_range.mpr (by omega))
    rwa [show k - 91 + 91 = k by omega] at this
  by_cases h101 : k < 111
  · have := List.all_eq_true.mp chm_100 (k - 101) (List.mem_range.mpr (by omega))
    rwa [show k - 101 + 101 = k by omega] at this
  by_cases h111 : k < 121
  · have := List.all_eq_true.mp chm_110 (k - 111) (List.mem_range.mpr (by omega))
    rwa [show k - 111 + 111 = k by omega] at this
  by_cases h121 : k < 131
  · have := List.all_eq_true.mp chm_120 (k - 121) (List.mem_range.mpr (by omega))
    rwa [show k - 121 + 121 = k by omega] at this
  by_cases h131 : k < 141
  · have := List.all_eq_true.mp chm_130 (k - 131) (List.mem_range.mpr (by omega))
    rwa [show k - 131 + 131 = k by omega] at this
  by_cases h141 : k < 151
  · have := List.all_eq_true.mp chm_140 (k - 141) (List.mem_range.mpr (by omega))
    rwa [show k - 141 + 141 = k by omega] at this
  by_cases h151 : k < 161
  · have := List.all_eq_true.mp chm_150 (k - 151) (List.mem_range.mpr (by omega))
    rwa [show k - 151 + 151 = k by omega] at this
  by_cases h161 : k < 171
  · have := List.all_eq_true.mp chm_160 (k - 161) (List.mem_range.mpr (by omega))
    rwa [show k - 161 + 161 = k by omega] at this
  by_cases h171 : k < 178
  · have := List.all_eq_true.mp chm_170 (k - 171) (List.mem_range.mpr (by omega))
    rwa [show k - 171 + 171 = k by omega] at this
  · omega
theorem mlen_big {k : Nat} (h : ¬ k < 178) : mlen k = 0 := by
  have h1 : Nat.blt k 178 = false := by
    cases e : Nat.blt k 178 with
    | false => rfl
    | true => exact absurd (Nat.le_of_ble_eq_true e) h
  simp only [mlen, h1, cond_false]
theorem ct_ok {k pc : Nat} {ai : AI} (h : ct k pc = ai) (h9 : Nat.beq ai.1 99 = false) : decode (mb k) pc = .ok (exI k pc ai) ∧ nxI pc ai (exI k pc ai).2 = true ∧ sdI k pc ai = true ∧ k < 178 := by
  cases hp : Nat.blt pc (mlen k) with
  | false =>
    rw [ct, hp, cond_false] at h
    rw [← h] at h9
    cases h9
  | true =>
    rw [ct, hp, cond_true] at h
    have hlt : pc < mlen k := Nat.le_of_ble_eq_true hp
    by_cases hk : k < 178
    · have h1 := List.all_eq_true.mp (chm_all k hk) pc (List.mem_range.mpr hlt)
      rw [h, chk, h9, cond_false] at h1
      simp only [Bool.and_eq_true, decide_eq_true_eq] at h1
      exact ⟨h1.1.1, h1.1.2, h1.2, hk⟩
    · rw [mlen_big hk] at hlt
      omega
