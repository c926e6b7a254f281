theorem zg_237 : z_good 237 := z_mk (N := 1494) (f := zc_237) (by
  intro pc h
  by_cases h0 : pc < 50
  · have q := zgl_0 (pc - 0) (by omega); rw [show 0 + (pc - 0) = pc by omega] at q; exact q
  by_cases h50 : pc < 100
  · have q := zgl_50 (pc - 50) (by omega); rw [show 50 + (pc - 50) = pc by omega] at q; exact q
  by_cases h100 : pc < 150
  · have q := zgl_100 (pc - 100) (by omega); rw [show 100 + (pc - 100) = pc by omega] at q; exact q
  by_cases h150 : pc < 200
  · have q := zgl_150 (pc - 150) (by omega); rw [show 150 + (pc - 150) = pc by omega] at q; exact q
  by_cases h200 : pc < 250
  · have q := zgl_200 (pc - 200) (by omega); rw [show 200 + (pc - 200) = pc by omega] at q; exact q
  by_cases h250 : pc < 300
  · have q := zgl_250 (pc - 250) (by omega); rw [show 250 + (pc - 250) = pc by omega] at q; exact q
  by_cases h300 : pc < 350
  · have q := zgl_300 (pc - 300) (by omega); rw [show 300 + (pc - 300) = pc by omega] at q; exact q
  by_cases h350 : pc < 400
  · have q := zgl_350 (pc - 350) (by omega); rw [show 350 + (pc - 350) = pc by omega] at q; exact q
  by_cases h400 : pc < 450
  · have q := zgl_400 (pc - 400) (by omega); rw [show 400 + (pc - 400) = pc by omega] at q; exact q
  by_cases h450 : pc < 500
  · have q := zgl_450 (pc - 450) (by omega); rw [show 450 + (pc - 450) = pc by omega] at q; exact q
  by_cases h500 : pc < 550
  · have q := zgl_500 (pc - 500) (by omega); rw [show 500 + (pc - 500) = pc by omega] at q; exact q
  by_cases h550 : pc < 600
  · have q := zgl_550 (pc - 550) (by omega); rw [show 550 + (pc - 550) = pc by omega] at q; exact q
  by_cases h600 : pc < 650
  · have q := zgl_600 (pc - 600) (by omega); rw [show 600 + (pc - 600) = pc by omega] at q; exact q
  by_cases h650 : pc < 700
  · have q := zgl_650 (pc - 650) (by omega); rw [show 650 + (pc - 650) = pc by omega] at q; exact q
  by_cases h700 : pc < 750
  · have q := zgl_700 (pc - 700) (by omega); rw [show 700 + (pc - 700) = pc by omega] at q; exact q
  by_cases h750 : pc < 800
  · have q := zgl_750 (pc - 750) (by omega); rw [show 750 + (pc - 750) = pc by omega] at q; exact q
  by_cases h800 : pc < 850
  · have q := zgl_800 (pc - 800) (by omega); rw [show 800 + (pc - 800) = pc by omega] at q; exact q
  by_cases h850 : pc < 900
  · have q := zgl_850 (pc - 850) (by omega); rw [show 850 + (pc - 850) = pc by omega] at q; exact q
  by_cases h900 : pc < 950
  · have q := zgl_900 (pc - 900) (by omega); rw [show 900 + (pc - 900) = pc by omega] at q; exact q
  by_cases h950 : pc < 1000
  · have q := zgl_950 (pc - 950) (by omega); rw [show 950 + (pc - 950) = pc by omega] at q; exact q
  by_cases h1000 : pc < 1050
  · have q := zgl_1000 (pc - 1000) (by omega); rw [show 1000 + (pc - 1000) = pc by omega] at q; exact q
  by_cases h1050 : pc < 1100
  · have q := zgl_1050 (pc - 1050) (by omega); rw [show 1050 + (pc - 1050) = pc by omega] at q; exact q
  by_cases h1100 : pc < 1150
  · have q := zgl_1100 (pc - 1100) (by omega); rw [show 1100 + (pc - 1100) = pc by omega] at q; exact q
  by_cases h1150 : pc < 1200
  · have q := zgl_1150 (pc - 1150) (by omega); rw [show 1150 + (pc - 1150) = pc by omega] at q; exact q
  by_cases h1200 : pc < 1250
  · have q := zgl_1200 (pc - 1200) (by omega); rw [show 1200 + (pc - 1200) = pc by omega] at q; exact q
  by_cases h1250 : pc < 1300
  · have q := zgl_1250 (pc - 1250) (by omega); rw [show 1250 + (pc - 1250) = pc by omega] at q; exact q
  by_cases h1300 : pc < 1350
  · have q := zgl_1300 (pc - 1300) (by omega); rw [show 1300 + (pc - 1300) = pc by omega] at q; exact q
  by_cases h1350 : pc < 1400
  · have q := zgl_1350 (pc - 1350) (by omega); rw [show 1350 + (pc - 1350) = pc by omega] at q; exact q
  by_cases h1400 : pc < 1450
  · have q := zgl_1400 (pc - 1400) (by omega); rw [show 1400 + (pc - 1400) = pc by omega] at q; exact q
  by_cases h1450 : pc < 1494
  · have q := zgl_1450 (pc - 1450) (by omega); rw [show 1450 + (pc - 1450) = pc by omega] at q; exact q
  omega) (fun _ => rfl) (fun pc h => by unfold zc_237; rw [h]; rfl)
theorem zgood_all (m : Nat) (h : m < 238) : z_good m := by
  by_cases q : m < 237
  · exact zgood_m m q
  · have e : m = 237 := by omega
    rw [e]; exact zg_237
