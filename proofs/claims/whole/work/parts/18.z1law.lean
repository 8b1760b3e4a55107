/-! the law: its code, checked by the kernel in pieces -/
theorem z_kc0_L_law : ∀ j, j < 25 → z_chk "BreatheAsOneLaw" false lk_L code k_L_law (0 + j) = true := by decide +kernel
theorem z_kc1_L_law : ∀ j, j < 25 → z_chk "BreatheAsOneLaw" false lk_L code k_L_law (25 + j) = true := by decide +kernel
theorem z_kc2_L_law : ∀ j, j < 25 → z_chk "BreatheAsOneLaw" false lk_L code k_L_law (50 + j) = true := by decide +kernel
theorem z_kc3_L_law : ∀ j, j < 25 → z_chk "BreatheAsOneLaw" false lk_L code k_L_law (75 + j) = true := by decide +kernel
theorem z_kc4_L_law : ∀ j, j < 25 → z_chk "BreatheAsOneLaw" false lk_L code k_L_law (100 + j) = true := by decide +kernel
theorem z_kc5_L_law : ∀ j, j < 25 → z_chk "BreatheAsOneLaw" false lk_L code k_L_law (125 + j) = true := by decide +kernel
theorem z_kc6_L_law : ∀ j, j < 25 → z_chk "BreatheAsOneLaw" false lk_L code k_L_law (150 + j) = true := by decide +kernel
theorem z_kc7_L_law : ∀ j, j < 25 → z_chk "BreatheAsOneLaw" false lk_L code k_L_law (175 + j) = true := by decide +kernel
theorem z_kc8_L_law : ∀ j, j < 25 → z_chk "BreatheAsOneLaw" false lk_L code k_L_law (200 + j) = true := by decide +kernel
theorem z_kc9_L_law : ∀ j, j < 25 → z_chk "BreatheAsOneLaw" false lk_L code k_L_law (225 + j) = true := by decide +kernel
theorem z_kc10_L_law : ∀ j, j < 25 → z_chk "BreatheAsOneLaw" false lk_L code k_L_law (250 + j) = true := by decide +kernel
theorem z_kc11_L_law : ∀ j, j < 25 → z_chk "BreatheAsOneLaw" false lk_L code k_L_law (275 + j) = true := by decide +kernel
theorem z_kc12_L_law : ∀ j, j < 25 → z_chk "BreatheAsOneLaw" false lk_L code k_L_law (300 + j) = true := by decide +kernel
theorem z_kc13_L_law : ∀ j, j < 25 → z_chk "BreatheAsOneLaw" false lk_L code k_L_law (325 + j) = true := by decide +kernel
theorem z_kc14_L_law : ∀ j, j < 25 → z_chk "BreatheAsOneLaw" false lk_L code k_L_law (350 + j) = true := by decide +kernel
theorem z_kc15_L_law : ∀ j, j < 25 → z_chk "BreatheAsOneLaw" false lk_L code k_L_law (375 + j) = true := by decide +kernel
theorem z_kc16_L_law : ∀ j, j < 25 → z_chk "BreatheAsOneLaw" false lk_L code k_L_law (400 + j) = true := by decide +kernel
theorem z_kc17_L_law : ∀ j, j < 25 → z_chk "BreatheAsOneLaw" false lk_L code k_L_law (425 + j) = true := by decide +kernel
theorem z_kc18_L_law : ∀ j, j < 25 → z_chk "BreatheAsOneLaw" false lk_L code k_L_law (450 + j) = true := by decide +kernel
theorem z_kc19_L_law : ∀ j, j < 25 → z_chk "BreatheAsOneLaw" false lk_L code k_L_law (475 + j) = true := by decide +kernel
theorem z_kc20_L_law : ∀ j, j < 25 → z_chk "BreatheAsOneLaw" false lk_L code k_L_law (500 + j) = true := by decide +kernel
theorem z_kc21_L_law : ∀ j, j < 25 → z_chk "BreatheAsOneLaw" false lk_L code k_L_law (525 + j) = true := by decide +kernel
theorem z_kc22_L_law : ∀ j, j < 25 → z_chk "BreatheAsOneLaw" false lk_L code k_L_law (550 + j) = true := by decide +kernel
theorem z_kc23_L_law : ∀ j, j < 25 → z_chk "BreatheAsOneLaw" false lk_L code k_L_law (575 + j) = true := by decide +kernel
theorem z_kc24_L_law : ∀ j, j < 25 → z_chk "BreatheAsOneLaw" false lk_L code k_L_law (600 + j) = true := by decide +kernel
theorem z_kc25_L_law : ∀ j, j < 25 → z_chk "BreatheAsOneLaw" false lk_L code k_L_law (625 + j) = true := by decide +kernel
theorem z_kc26_L_law : ∀ j, j < 25 → z_chk "BreatheAsOneLaw" false lk_L code k_L_law (650 + j) = true := by decide +kernel
theorem z_kc27_L_law : ∀ j, j < 25 → z_chk "BreatheAsOneLaw" false lk_L code k_L_law (675 + j) = true := by decide +kernel
theorem z_kc28_L_law : ∀ j, j < 25 → z_chk "BreatheAsOneLaw" false lk_L code k_L_law (700 + j) = true := by decide +kernel
theorem z_kc29_L_law : ∀ j, j < 25 → z_chk "BreatheAsOneLaw" false lk_L code k_L_law (725 + j) = true := by decide +kernel
theorem z_kc30_L_law : ∀ j, j < 25 → z_chk "BreatheAsOneLaw" false lk_L code k_L_law (750 + j) = true := by decide +kernel
theorem z_kc31_L_law : ∀ j, j < 25 → z_chk "BreatheAsOneLaw" false lk_L code k_L_law (775 + j) = true := by decide +kernel
theorem z_kc32_L_law : ∀ j, j < 25 → z_chk "BreatheAsOneLaw" false lk_L code k_L_law (800 + j) = true := by decide +kernel
theorem z_kc33_L_law : ∀ j, j < 25 → z_chk "BreatheAsOneLaw" false lk_L code k_L_law (825 + j) = true := by decide +kernel
theorem z_kc34_L_law : ∀ j, j < 25 → z_chk "BreatheAsOneLaw" false lk_L code k_L_law (850 + j) = true := by decide +kernel
theorem z_kc35_L_law : ∀ j, j < 25 → z_chk "BreatheAsOneLaw" false lk_L code k_L_law (875 + j) = true := by decide +kernel
theorem z_kc36_L_law : ∀ j, j < 25 → z_chk "BreatheAsOneLaw" false lk_L code k_L_law (900 + j) = true := by decide +kernel
theorem z_kc37_L_law : ∀ j, j < 25 → z_chk "BreatheAsOneLaw" false lk_L code k_L_law (925 + j) = true := by decide +kernel
theorem z_kc38_L_law : ∀ j, j < 25 → z_chk "BreatheAsOneLaw" false lk_L code k_L_law (950 + j) = true := by decide +kernel
theorem z_kc39_L_law : ∀ j, j < 25 → z_chk "BreatheAsOneLaw" false lk_L code k_L_law (975 + j) = true := by decide +kernel
theorem z_kc40_L_law : ∀ j, j < 25 → z_chk "BreatheAsOneLaw" false lk_L code k_L_law (1000 + j) = true := by decide +kernel
theorem z_kc41_L_law : ∀ j, j < 25 → z_chk "BreatheAsOneLaw" false lk_L code k_L_law (1025 + j) = true := by decide +kernel
theorem z_kc42_L_law : ∀ j, j < 25 → z_chk "BreatheAsOneLaw" false lk_L code k_L_law (1050 + j) = true := by decide +kernel
theorem z_kc43_L_law : ∀ j, j < 25 → z_chk "BreatheAsOneLaw" false lk_L code k_L_law (1075 + j) = true := by decide +kernel
theorem z_kc44_L_law : ∀ j, j < 25 → z_chk "BreatheAsOneLaw" false lk_L code k_L_law (1100 + j) = true := by decide +kernel
theorem z_kc45_L_law : ∀ j, j < 25 → z_chk "BreatheAsOneLaw" false lk_L code k_L_law (1125 + j) = true := by decide +kernel
theorem z_kc46_L_law : ∀ j, j < 25 → z_chk "BreatheAsOneLaw" false lk_L code k_L_law (1150 + j) = true := by decide +kernel
theorem z_kc47_L_law : ∀ j, j < 25 → z_chk "BreatheAsOneLaw" false lk_L code k_L_law (1175 + j) = true := by decide +kernel
theorem z_kc48_L_law : ∀ j, j < 25 → z_chk "BreatheAsOneLaw" false lk_L code k_L_law (1200 + j) = true := by decide +kernel
theorem z_kc49_L_law : ∀ j, j < 25 → z_chk "BreatheAsOneLaw" false lk_L code k_L_law (1225 + j) = true := by decide +kernel
theorem z_kc50_L_law : ∀ j, j < 25 → z_chk "BreatheAsOneLaw" false lk_L code k_L_law (1250 + j) = true := by decide +kernel
theorem z_kc51_L_law : ∀ j, j < 25 → z_chk "BreatheAsOneLaw" false lk_L code k_L_law (1275 + j) = true := by decide +kernel
theorem z_kc52_L_law : ∀ j, j < 25 → z_chk "BreatheAsOneLaw" false lk_L code k_L_law (1300 + j) = true := by decide +kernel
theorem z_kc53_L_law : ∀ j, j < 25 → z_chk "BreatheAsOneLaw" false lk_L code k_L_law (1325 + j) = true := by decide +kernel
theorem z_kc54_L_law : ∀ j, j < 25 → z_chk "BreatheAsOneLaw" false lk_L code k_L_law (1350 + j) = true := by decide +kernel
theorem z_kc55_L_law : ∀ j, j < 25 → z_chk "BreatheAsOneLaw" false lk_L code k_L_law (1375 + j) = true := by decide +kernel
theorem z_kc56_L_law : ∀ j, j < 25 → z_chk "BreatheAsOneLaw" false lk_L code k_L_law (1400 + j) = true := by decide +kernel
theorem z_kc57_L_law : ∀ j, j < 25 → z_chk "BreatheAsOneLaw" false lk_L code k_L_law (1425 + j) = true := by decide +kernel
theorem z_kc58_L_law : ∀ j, j < 25 → z_chk "BreatheAsOneLaw" false lk_L code k_L_law (1450 + j) = true := by decide +kernel
theorem z_kc59_L_law : ∀ j, j < 25 → z_chk "BreatheAsOneLaw" false lk_L code k_L_law (1475 + j) = true := by decide +kernel
theorem z_k0_L_law (i : Nat) (h : i < 1495) : z_chk "BreatheAsOneLaw" false lk_L code k_L_law i = true := by
  rcases Nat.lt_or_ge i 25 with q0 | q0
  · have c := z_kc0_L_law (i - 0) (by omega)
    rwa [show 0 + (i - 0) = i by omega] at c
  rcases Nat.lt_or_ge i 50 with q1 | q1
  · have c := z_kc1_L_law (i - 25) (by omega)
    rwa [show 25 + (i - 25) = i by omega] at c
  rcases Nat.lt_or_ge i 75 with q2 | q2
  · have c := z_kc2_L_law (i - 50) (by omega)
    rwa [show 50 + (i - 50) = i by omega] at c
  rcases Nat.lt_or_ge i 100 with q3 | q3
  · have c := z_kc3_L_law (i - 75) (by omega)
    rwa [show 75 + (i - 75) = i by omega] at c
  rcases Nat.lt_or_ge i 125 with q4 | q4
  · have c := z_kc4_L_law (i - 100) (by omega)
    rwa [show 100 + (i - 100) = i by omega] at c
  rcases Nat.lt_or_ge i 150 with q5 | q5
  · have c := z_kc5_L_law (i - 125) (by omega)
    rwa [show 125 + (i - 125) = i by omega] at c
  rcases Nat.lt_or_ge i 175 with q6 | q6
  · have c := z_kc6_L_law (i - 150) (by omega)
    rwa [show 150 + (i - 150) = i by omega] at c
  rcases Nat.lt_or_ge i 200 with q7 | q7
  · have c := z_kc7_L_law (i - 175) (by omega)
    rwa [show 175 + (i - 175) = i by omega] at c
  rcases Nat.lt_or_ge i 225 with q8 | q8
  · have c := z_kc8_L_law (i - 200) (by omega)
    rwa [show 200 + (i - 200) = i by omega] at c
  rcases Nat.lt_or_ge i 250 with q9 | q9
  · have c := z_kc9_L_law (i - 225) (by omega)
    rwa [show 225 + (i - 225) = i by omega] at c
  rcases Nat.lt_or_ge i 275 with q10 | q10
  · have c := z_kc10_L_law (i - 250) (by omega)
    rwa [show 250 + (i - 250) = i by omega] at c
  rcases Nat.lt_or_ge i 300 with q11 | q11
  · have c := z_kc11_L_law (i - 275) (by omega)
    rwa [show 275 + (i - 275) = i by omega] at c
  rcases Nat.lt_or_ge i 325 with q12 | q12
  · have c := z_kc12_L_law (i - 300) (by omega)
    rwa [show 300 + (i - 300) = i by omega] at c
  rcases Nat.lt_or_ge i 350 with q13 | q13
  · have c := z_kc13_L_law (i - 325) (by omega)
    rwa [show 325 + (i - 325) = i by omega] at c
  rcases Nat.lt_or_ge i 375 with q14 | q14
  · have c := z_kc14_L_law (i - 350) (by omega)
    rwa [show 350 + (i - 350) = i by omega] at c
  rcases Nat.lt_or_ge i 400 with q15 | q15
  · have c := z_kc15_L_law (i - 375) (by omega)
    rwa [show 375 + (i - 375) = i by omega] at c
  rcases Nat.lt_or_ge i 425 with q16 | q16
  · have c := z_kc16_L_law (i - 400) (by omega)
    rwa [show 400 + (i - 400) = i by omega] at c
  rcases Nat.lt_or_ge i 450 with q17 | q17
  · have c := z_kc17_L_law (i - 425) (by omega)
    rwa [show 425 + (i - 425) = i by omega] at c
  rcases Nat.lt_or_ge i 475 with q18 | q18
  · have c := z_kc18_L_law (i - 450) (by omega)
    rwa [show 450 + (i - 450) = i by omega] at c
  rcases Nat.lt_or_ge i 500 with q19 | q19
  · have c := z_kc19_L_law (i - 475) (by omega)
    rwa [show 475 + (i - 475) = i by omega] at c
  rcases Nat.lt_or_ge i 525 with q20 | q20
  · have c := z_kc20_L_law (i - 500) (by omega)
    rwa [show 500 + (i - 500) = i by omega] at c
  rcases Nat.lt_or_ge i 550 with q21 | q21
  · have c := z_kc21_L_law (i - 525) (by omega)
    rwa [show 525 + (i - 525) = i by omega] at c
  rcases Nat.lt_or_ge i 575 with q22 | q22
  · have c := z_kc22_L_law (i - 550) (by omega)
    rwa [show 550 + (i - 550) = i by omega] at c
  rcases Nat.lt_or_ge i 600 with q23 | q23
  · have c := z_kc23_L_law (i - 575) (by omega)
    rwa [show 575 + (i - 575) = i by omega] at c
  rcases Nat.lt_or_ge i 625 with q24 | q24
  · have c := z_kc24_L_law (i - 600) (by omega)
    rwa [show 600 + (i - 600) = i by omega] at c
  rcases Nat.lt_or_ge i 650 with q25 | q25
  · have c := z_kc25_L_law (i - 625) (by omega)
    rwa [show 625 + (i - 625) = i by omega] at c
  rcases Nat.lt_or_ge i 675 with q26 | q26
  · have c := z_kc26_L_law (i - 650) (by omega)
    rwa [show 650 + (i - 650) = i by omega] at c
  rcases Nat.lt_or_ge i 700 with q27 | q27
  · have c := z_kc27_L_law (i - 675) (by omega)
    rwa [show 675 + (i - 675) = i by omega] at c
  rcases Nat.lt_or_ge i 725 with q28 | q28
  · have c := z_kc28_L_law (i - 700) (by omega)
    rwa [show 700 + (i - 700) = i by omega] at c
  rcases Nat.lt_or_ge i 750 with q29 | q29
  · have c := z_kc29_L_law (i - 725) (by omega)
    rwa [show 725 + (i - 725) = i by omega] at c
  rcases Nat.lt_or_ge i 775 with q30 | q30
  · have c := z_kc30_L_law (i - 750) (by omega)
    rwa [show 750 + (i - 750) = i by omega] at c
  rcases Nat.lt_or_ge i 800 with q31 | q31
  · have c := z_kc31_L_law (i - 775) (by omega)
    rwa [show 775 + (i - 775) = i by omega] at c
  rcases Nat.lt_or_ge i 825 with q32 | q32
  · have c := z_kc32_L_law (i - 800) (by omega)
    rwa [show 800 + (i - 800) = i by omega] at c
  rcases Nat.lt_or_ge i 850 with q33 | q33
  · have c := z_kc33_L_law (i - 825) (by omega)
    rwa [show 825 + (i - 825) = i by omega] at c
  rcases Nat.lt_or_ge i 875 with q34 | q34
  · have c := z_kc34_L_law (i - 850) (by omega)
    rwa [show 850 + (i - 850) = i by omega] at c
  rcases Nat.lt_or_ge i 900 with q35 | q35
  · have c := z_kc35_L_law (i - 875) (by omega)
    rwa [show 875 + (i - 875) = i by omega] at c
  rcases Nat.lt_or_ge i 925 with q36 | q36
  · have c := z_kc36_L_law (i - 900) (by omega)
    rwa [show 900 + (i - 900) = i by omega] at c
  rcases Nat.lt_or_ge i 950 with q37 | q37
  · have c := z_kc37_L_law (i - 925) (by omega)
    rwa [show 925 + (i - 925) = i by omega] at c
  rcases Nat.lt_or_ge i 975 with q38 | q38
  · have c := z_kc38_L_law (i - 950) (by omega)
    rwa [show 950 + (i - 950) = i by omega] at c
  rcases Nat.lt_or_ge i 1000 with q39 | q39
  · have c := z_kc39_L_law (i - 975) (by omega)
    rwa [show 975 + (i - 975) = i by omega] at c
  rcases Nat.lt_or_ge i 1025 with q40 | q40
  · have c := z_kc40_L_law (i - 1000) (by omega)
    rwa [show 1000 + (i - 1000) = i by omega] at c
  rcases Nat.lt_or_ge i 1050 with q41 | q41
  · have c := z_kc41_L_law (i - 1025) (by omega)
    rwa [show 1025 + (i - 1025) = i by omega] at c
  rcases Nat.lt_or_ge i 1075 with q42 | q42
  · have c := z_kc42_L_law (i - 1050) (by omega)
    rwa [show 1050 + (i - 1050) = i by omega] at c
  rcases Nat.lt_or_ge i 1100 with q43 | q43
  · have c := z_kc43_L_law (i - 1075) (by omega)
    rwa [show 1075 + (i - 1075) = i by omega] at c
  rcases Nat.lt_or_ge i 1125 with q44 | q44
  · have c := z_kc44_L_law (i - 1100) (by omega)
    rwa [show 1100 + (i - 1100) = i by omega] at c
  rcases Nat.lt_or_ge i 1150 with q45 | q45
  · have c := z_kc45_L_law (i - 1125) (by omega)
    rwa [show 1125 + (i - 1125) = i by omega] at c
  rcases Nat.lt_or_ge i 1175 with q46 | q46
  · have c := z_kc46_L_law (i - 1150) (by omega)
    rwa [show 1150 + (i - 1150) = i by omega] at c
  rcases Nat.lt_or_ge i 1200 with q47 | q47
  · have c := z_kc47_L_law (i - 1175) (by omega)
    rwa [show 1175 + (i - 1175) = i by omega] at c
  rcases Nat.lt_or_ge i 1225 with q48 | q48
  · have c := z_kc48_L_law (i - 1200) (by omega)
    rwa [show 1200 + (i - 1200) = i by omega] at c
  rcases Nat.lt_or_ge i 1250 with q49 | q49
  · have c := z_kc49_L_law (i - 1225) (by omega)
    rwa [show 1225 + (i - 1225) = i by omega] at c
  rcases Nat.lt_or_ge i 1275 with q50 | q50
  · have c := z_kc50_L_law (i - 1250) (by omega)
    rwa [show 1250 + (i - 1250) = i by omega] at c
  rcases Nat.lt_or_ge i 1300 with q51 | q51
  · have c := z_kc51_L_law (i - 1275) (by omega)
    rwa [show 1275 + (i - 1275) = i by omega] at c
  rcases Nat.lt_or_ge i 1325 with q52 | q52
  · have c := z_kc52_L_law (i - 1300) (by omega)
    rwa [show 1300 + (i - 1300) = i by omega] at c
  rcases Nat.lt_or_ge i 1350 with q53 | q53
  · have c := z_kc53_L_law (i - 1325) (by omega)
    rwa [show 1325 + (i - 1325) = i by omega] at c
  rcases Nat.lt_or_ge i 1375 with q54 | q54
  · have c := z_kc54_L_law (i - 1350) (by omega)
    rwa [show 1350 + (i - 1350) = i by omega] at c
  rcases Nat.lt_or_ge i 1400 with q55 | q55
  · have c := z_kc55_L_law (i - 1375) (by omega)
    rwa [show 1375 + (i - 1375) = i by omega] at c
  rcases Nat.lt_or_ge i 1425 with q56 | q56
  · have c := z_kc56_L_law (i - 1400) (by omega)
    rwa [show 1400 + (i - 1400) = i by omega] at c
  rcases Nat.lt_or_ge i 1450 with q57 | q57
  · have c := z_kc57_L_law (i - 1425) (by omega)
    rwa [show 1425 + (i - 1425) = i by omega] at c
  rcases Nat.lt_or_ge i 1475 with q58 | q58
  · have c := z_kc58_L_law (i - 1450) (by omega)
    rwa [show 1450 + (i - 1450) = i by omega] at c
  rcases Nat.lt_or_ge i 1500 with q59 | q59
  · have c := z_kc59_L_law (i - 1475) (by omega)
    rwa [show 1475 + (i - 1475) = i by omega] at c
  omega
theorem z_k_L_law (i : Nat) : z_chk "BreatheAsOneLaw" false lk_L code k_L_law i = true := z_out_k (z_k0_L_law i)
theorem z_u0_L_law : ∀ i, i < 1495 → z_chu d_L_law.2.2.1 4 i = true := by decide +kernel
theorem z_u_L_law (i : Nat) : z_chu d_L_law.2.2.1 4 i = true := z_out_u (z_u0_L_law i)
