/-! each method: its code, links and cuts, checked by the kernel -/
theorem z_k0_M_coughs_II : ∀ i, i < 58 → z_chk "BreatheAsOneModel" false lk_M prog_13_method_96_code k_M_coughs_II i = true := by decide +kernel
theorem z_k_M_coughs_II (i : Nat) : z_chk "BreatheAsOneModel" false lk_M prog_13_method_96_code k_M_coughs_II i = true := z_out_k (z_k0_M_coughs_II i)
theorem z_u_M_coughs_II (i : Nat) : z_chu d_M_coughs_II.2.2.1 3 i = true := rfl
theorem z_g_M_coughs_II : z_good 213 d_M_coughs_II := ⟨_, _, _, _, _, _, _, _, _, _, _, rfl, by decide +kernel, rfl, by decide +kernel, by decide, z_lk_M, z_k_M_coughs_II, z_u_M_coughs_II⟩
theorem z_k0_Qu_takeAirs : ∀ i, i < 42 → z_chk "BreatheAsOne$Questions" false lk_Qu prog_7_method_3_code k_Qu_takeAirs i = true := by decide +kernel
theorem z_k_Qu_takeAirs (i : Nat) : z_chk "BreatheAsOne$Questions" false lk_Qu prog_7_method_3_code k_Qu_takeAirs i = true := z_out_k (z_k0_Qu_takeAirs i)
theorem z_u0_Qu_takeAirs : ∀ i, i < 42 → z_chu d_Qu_takeAirs.2.2.1 2 i = true := by decide +kernel
theorem z_u_Qu_takeAirs (i : Nat) : z_chu d_Qu_takeAirs.2.2.1 2 i = true := z_out_u (z_u0_Qu_takeAirs i)
theorem z_g_Qu_takeAirs : z_good 214 d_Qu_takeAirs := ⟨_, _, _, _, _, _, _, _, _, _, _, rfl, by decide +kernel, rfl, by decide +kernel, by decide, z_lk_Qu, z_k_Qu_takeAirs, z_u_Qu_takeAirs⟩
theorem z_k0_Qu_fallenBy : ∀ i, i < 56 → z_chk "BreatheAsOne$Questions" false lk_Qu prog_7_method_4_code k_Qu_fallenBy i = true := by decide +kernel
theorem z_k_Qu_fallenBy (i : Nat) : z_chk "BreatheAsOne$Questions" false lk_Qu prog_7_method_4_code k_Qu_fallenBy i = true := z_out_k (z_k0_Qu_fallenBy i)
theorem z_u0_Qu_fallenBy : ∀ i, i < 56 → z_chu d_Qu_fallenBy.2.2.1 4 i = true := by decide +kernel
theorem z_u_Qu_fallenBy (i : Nat) : z_chu d_Qu_fallenBy.2.2.1 4 i = true := z_out_u (z_u0_Qu_fallenBy i)
theorem z_g_Qu_fallenBy : z_good 215 d_Qu_fallenBy := ⟨_, _, _, _, _, _, _, _, _, _, _, rfl, by decide +kernel, rfl, by decide +kernel, by decide, z_lk_Qu, z_k_Qu_fallenBy, z_u_Qu_fallenBy⟩
theorem z_k0_Qu_fallen : ∀ i, i < 16 → z_chk "BreatheAsOne$Questions" false lk_Qu prog_7_method_2_code k_Qu_fallen i = true := by decide +kernel
theorem z_k_Qu_fallen (i : Nat) : z_chk "BreatheAsOne$Questions" false lk_Qu prog_7_method_2_code k_Qu_fallen i = true := z_out_k (z_k0_Qu_fallen i)
theorem z_u_Qu_fallen (i : Nat) : z_chu d_Qu_fallen.2.2.1 1 i = true := rfl
theorem z_g_Qu_fallen : z_good 216 d_Qu_fallen := ⟨_, _, _, _, _, _, _, _, _, _, _, rfl, by decide +kernel, rfl, by decide +kernel, by decide, z_lk_Qu, z_k_Qu_fallen, z_u_Qu_fallen⟩
theorem z_k0_B_fell : ∀ i, i < 8 → z_chk "BreatheAsOne" false lk_B prog_1_method_25_code k_B_fell i = true := by decide +kernel
theorem z_k_B_fell (i : Nat) : z_chk "BreatheAsOne" false lk_B prog_1_method_25_code k_B_fell i = true := z_out_k (z_k0_B_fell i)
theorem z_u_B_fell (i : Nat) : z_chu d_B_fell.2.2.1 1 i = true := rfl
theorem z_g_B_fell : z_good 217 d_B_fell := ⟨_, _, _, _, _, _, _, _, _, _, _, rfl, by decide +kernel, rfl, by decide +kernel, by decide, z_lk_B, z_k_B_fell, z_u_B_fell⟩
theorem z_k0_M_falls : ∀ i, i < 41 → z_chk "BreatheAsOneModel" false lk_M prog_13_method_74_code k_M_falls i = true := by decide +kernel
theorem z_k_M_falls (i : Nat) : z_chk "BreatheAsOneModel" false lk_M prog_13_method_74_code k_M_falls i = true := z_out_k (z_k0_M_falls i)
theorem z_u0_M_falls : ∀ i, i < 41 → z_chu d_M_falls.2.2.1 3 i = true := by decide +kernel
theorem z_u_M_falls (i : Nat) : z_chu d_M_falls.2.2.1 3 i = true := z_out_u (z_u0_M_falls i)
theorem z_g_M_falls : z_good 218 d_M_falls := ⟨_, _, _, _, _, _, _, _, _, _, _, rfl, by decide +kernel, rfl, by decide +kernel, by decide, z_lk_M, z_k_M_falls, z_u_M_falls⟩
theorem z_k0_M_fell : ∀ i, i < 5 → z_chk "BreatheAsOneModel" false lk_M prog_13_method_97_code k_M_fell i = true := by decide +kernel
theorem z_k_M_fell (i : Nat) : z_chk "BreatheAsOneModel" false lk_M prog_13_method_97_code k_M_fell i = true := z_out_k (z_k0_M_fell i)
theorem z_u_M_fell (i : Nat) : z_chu d_M_fell.2.2.1 1 i = true := rfl
theorem z_g_M_fell : z_good 219 d_M_fell := ⟨_, _, _, _, _, _, _, _, _, _, _, rfl, by decide +kernel, rfl, by decide +kernel, by decide, z_lk_M, z_k_M_fell, z_u_M_fell⟩
theorem z_k0_H_hasNotes : ∀ i, i < 20 → z_chk "BreatheAsOne$House" false lk_H prog_5_method_10_code k_H_hasNotes i = true := by decide +kernel
theorem z_k_H_hasNotes (i : Nat) : z_chk "BreatheAsOne$House" false lk_H prog_5_method_10_code k_H_hasNotes i = true := z_out_k (z_k0_H_hasNotes i)
theorem z_u_H_hasNotes (i : Nat) : z_chu d_H_hasNotes.2.2.1 2 i = true := rfl
theorem z_g_H_hasNotes : z_good 220 d_H_hasNotes := ⟨_, _, _, _, _, _, _, _, _, _, _, rfl, by decide +kernel, rfl, by decide +kernel, by decide, z_lk_H, z_k_H_hasNotes, z_u_H_hasNotes⟩
theorem z_k0_Br_breathOtherwise : ∀ i, i < 48 → z_chk "BreatheAsOne$Breathing" false lk_Br prog_2_method_6_code k_Br_breathOtherwise i = true := by decide +kernel
theorem z_k_Br_breathOtherwise (i : Nat) : z_chk "BreatheAsOne$Breathing" false lk_Br prog_2_method_6_code k_Br_breathOtherwise i = true := z_out_k (z_k0_Br_breathOtherwise i)
theorem z_u_Br_breathOtherwise (i : Nat) : z_chu d_Br_breathOtherwise.2.2.1 5 i = true := rfl
theorem z_g_Br_breathOtherwise : z_good 221 d_Br_breathOtherwise := ⟨_, _, _, _, _, _, _, _, _, _, _, rfl, by decide +kernel, rfl, by decide +kernel, by decide, z_lk_Br, z_k_Br_breathOtherwise, z_u_Br_breathOtherwise⟩
theorem z_k0_Qu_isOutBy : ∀ i, i < 89 → z_chk "BreatheAsOne$Questions" false lk_Qu prog_7_method_7_code k_Qu_isOutBy i = true := by decide +kernel
theorem z_k_Qu_isOutBy (i : Nat) : z_chk "BreatheAsOne$Questions" false lk_Qu prog_7_method_7_code k_Qu_isOutBy i = true := z_out_k (z_k0_Qu_isOutBy i)
theorem z_u0_Qu_isOutBy : ∀ i, i < 89 → z_chu d_Qu_isOutBy.2.2.1 6 i = true := by decide +kernel
theorem z_u_Qu_isOutBy (i : Nat) : z_chu d_Qu_isOutBy.2.2.1 6 i = true := z_out_u (z_u0_Qu_isOutBy i)
theorem z_g_Qu_isOutBy : z_good 222 d_Qu_isOutBy := ⟨_, _, _, _, _, _, _, _, _, _, _, rfl, by decide +kernel, rfl, by decide +kernel, by decide, z_lk_Qu, z_k_Qu_isOutBy, z_u_Qu_isOutBy⟩
theorem z_k0_Qu_outBy : ∀ i, i < 42 → z_chk "BreatheAsOne$Questions" false lk_Qu prog_7_method_6_code k_Qu_outBy i = true := by decide +kernel
theorem z_k_Qu_outBy (i : Nat) : z_chk "BreatheAsOne$Questions" false lk_Qu prog_7_method_6_code k_Qu_outBy i = true := z_out_k (z_k0_Qu_outBy i)
theorem z_u0_Qu_outBy : ∀ i, i < 42 → z_chu d_Qu_outBy.2.2.1 4 i = true := by decide +kernel
theorem z_u_Qu_outBy (i : Nat) : z_chu d_Qu_outBy.2.2.1 4 i = true := z_out_u (z_u0_Qu_outBy i)
theorem z_g_Qu_outBy : z_good 223 d_Qu_outBy := ⟨_, _, _, _, _, _, _, _, _, _, _, rfl, by decide +kernel, rfl, by decide +kernel, by decide, z_lk_Qu, z_k_Qu_outBy, z_u_Qu_outBy⟩
theorem z_k0_B_whoIsOut : ∀ i, i < 24 → z_chk "BreatheAsOne" false lk_B prog_1_method_26_code k_B_whoIsOut i = true := by decide +kernel
theorem z_k_B_whoIsOut (i : Nat) : z_chk "BreatheAsOne" false lk_B prog_1_method_26_code k_B_whoIsOut i = true := z_out_k (z_k0_B_whoIsOut i)
theorem z_u_B_whoIsOut (i : Nat) : z_chu d_B_whoIsOut.2.2.1 2 i = true := rfl
theorem z_g_B_whoIsOut : z_good 224 d_B_whoIsOut := ⟨_, _, _, _, _, _, _, _, _, _, _, rfl, by decide +kernel, rfl, by decide +kernel, by decide, z_lk_B, z_k_B_whoIsOut, z_u_B_whoIsOut⟩
theorem z_k0_M_areNotes : ∀ i, i < 16 → z_chk "BreatheAsOneModel" false lk_M prog_13_method_9_code k_M_areNotes i = true := by decide +kernel
theorem z_k_M_areNotes (i : Nat) : z_chk "BreatheAsOneModel" false lk_M prog_13_method_9_code k_M_areNotes i = true := z_out_k (z_k0_M_areNotes i)
theorem z_u_M_areNotes (i : Nat) : z_chu d_M_areNotes.2.2.1 2 i = true := rfl
theorem z_g_M_areNotes : z_good 225 d_M_areNotes := ⟨_, _, _, _, _, _, _, _, _, _, _, rfl, by decide +kernel, rfl, by decide +kernel, by decide, z_lk_M, z_k_M_areNotes, z_u_M_areNotes⟩
theorem z_k0_M_turned : ∀ i, i < 25 → z_chk "BreatheAsOneModel" false lk_M prog_13_method_98_code k_M_turned i = true := by decide +kernel
theorem z_k_M_turned (i : Nat) : z_chk "BreatheAsOneModel" false lk_M prog_13_method_98_code k_M_turned i = true := z_out_k (z_k0_M_turned i)
theorem z_u_M_turned (i : Nat) : z_chu d_M_turned.2.2.1 3 i = true := rfl
theorem z_g_M_turned : z_good 226 d_M_turned := ⟨_, _, _, _, _, _, _, _, _, _, _, rfl, by decide +kernel, rfl, by decide +kernel, by decide, z_lk_M, z_k_M_turned, z_u_M_turned⟩
theorem z_k0_M_whoIsOut : ∀ i, i < 65 → z_chk "BreatheAsOneModel" false lk_M prog_13_method_99_code k_M_whoIsOut i = true := by decide +kernel
theorem z_k_M_whoIsOut (i : Nat) : z_chk "BreatheAsOneModel" false lk_M prog_13_method_99_code k_M_whoIsOut i = true := z_out_k (z_k0_M_whoIsOut i)
theorem z_u0_M_whoIsOut : ∀ i, i < 65 → z_chu d_M_whoIsOut.2.2.1 5 i = true := by decide +kernel
theorem z_u_M_whoIsOut (i : Nat) : z_chu d_M_whoIsOut.2.2.1 5 i = true := z_out_u (z_u0_M_whoIsOut i)
theorem z_g_M_whoIsOut : z_good 227 d_M_whoIsOut := ⟨_, _, _, _, _, _, _, _, _, _, _, rfl, by decide +kernel, rfl, by decide +kernel, by decide, z_lk_M, z_k_M_whoIsOut, z_u_M_whoIsOut⟩
theorem z_k0_Qu_isHiccup : ∀ i, i < 127 → z_chk "BreatheAsOne$Questions" false lk_Qu prog_7_method_9_code k_Qu_isHiccup i = true := by decide +kernel
theorem z_k_Qu_isHiccup (i : Nat) : z_chk "BreatheAsOne$Questions" false lk_Qu prog_7_method_9_code k_Qu_isHiccup i = true := z_out_k (z_k0_Qu_isHiccup i)
theorem z_u0_Qu_isHiccup : ∀ i, i < 127 → z_chu d_Qu_isHiccup.2.2.1 9 i = true := by decide +kernel
theorem z_u_Qu_isHiccup (i : Nat) : z_chu d_Qu_isHiccup.2.2.1 9 i = true := z_out_u (z_u0_Qu_isHiccup i)
theorem z_g_Qu_isHiccup : z_good 228 d_Qu_isHiccup := ⟨_, _, _, _, _, _, _, _, _, _, _, rfl, by decide +kernel, rfl, by decide +kernel, by decide, z_lk_Qu, z_k_Qu_isHiccup, z_u_Qu_isHiccup⟩
theorem z_k0_Qu_hiccups : ∀ i, i < 111 → z_chk "BreatheAsOne$Questions" false lk_Qu prog_7_method_8_code k_Qu_hiccups i = true := by decide +kernel
theorem z_k_Qu_hiccups (i : Nat) : z_chk "BreatheAsOne$Questions" false lk_Qu prog_7_method_8_code k_Qu_hiccups i = true := z_out_k (z_k0_Qu_hiccups i)
theorem z_u0_Qu_hiccups : ∀ i, i < 111 → z_chu d_Qu_hiccups.2.2.1 7 i = true := by decide +kernel
theorem z_u_Qu_hiccups (i : Nat) : z_chu d_Qu_hiccups.2.2.1 7 i = true := z_out_u (z_u0_Qu_hiccups i)
theorem z_g_Qu_hiccups : z_good 229 d_Qu_hiccups := ⟨_, _, _, _, _, _, _, _, _, _, _, rfl, by decide +kernel, rfl, by decide +kernel, by decide, z_lk_Qu, z_k_Qu_hiccups, z_u_Qu_hiccups⟩
theorem z_k0_B_hiccupped : ∀ i, i < 25 → z_chk "BreatheAsOne" false lk_B prog_1_method_27_code k_B_hiccupped i = true := by decide +kernel
theorem z_k_B_hiccupped (i : Nat) : z_chk "BreatheAsOne" false lk_B prog_1_method_27_code k_B_hiccupped i = true := z_out_k (z_k0_B_hiccupped i)
theorem z_u_B_hiccupped (i : Nat) : z_chu d_B_hiccupped.2.2.1 3 i = true := rfl
theorem z_g_B_hiccupped : z_good 230 d_B_hiccupped := ⟨_, _, _, _, _, _, _, _, _, _, _, rfl, by decide +kernel, rfl, by decide +kernel, by decide, z_lk_B, z_k_B_hiccupped, z_u_B_hiccupped⟩
theorem z_k0_M_fallsWith : ∀ i, i < 22 → z_chk "BreatheAsOneModel" false lk_M prog_13_method_100_code k_M_fallsWith i = true := by decide +kernel
theorem z_k_M_fallsWith (i : Nat) : z_chk "BreatheAsOneModel" false lk_M prog_13_method_100_code k_M_fallsWith i = true := z_out_k (z_k0_M_fallsWith i)
theorem z_u_M_fallsWith (i : Nat) : z_chu d_M_fallsWith.2.2.1 4 i = true := rfl
theorem z_g_M_fallsWith : z_good 231 d_M_fallsWith := ⟨_, _, _, _, _, _, _, _, _, _, _, rfl, by decide +kernel, rfl, by decide +kernel, by decide, z_lk_M, z_k_M_fallsWith, z_u_M_fallsWith⟩
theorem z_k0_M_hiccupped : ∀ i, i < 125 → z_chk "BreatheAsOneModel" false lk_M prog_13_method_101_code k_M_hiccupped i = true := by decide +kernel
theorem z_k_M_hiccupped (i : Nat) : z_chk "BreatheAsOneModel" false lk_M prog_13_method_101_code k_M_hiccupped i = true := z_out_k (z_k0_M_hiccupped i)
theorem z_u0_M_hiccupped : ∀ i, i < 125 → z_chu d_M_hiccupped.2.2.1 7 i = true := by decide +kernel
theorem z_u_M_hiccupped (i : Nat) : z_chu d_M_hiccupped.2.2.1 7 i = true := z_out_u (z_u0_M_hiccupped i)
theorem z_g_M_hiccupped : z_good 232 d_M_hiccupped := ⟨_, _, _, _, _, _, _, _, _, _, _, rfl, by decide +kernel, rfl, by decide +kernel, by decide, z_lk_M, z_k_M_hiccupped, z_u_M_hiccupped⟩
theorem z_k0_In_bitCount : ∀ i, i < 53 → z_chk "java/lang/Integer" false lk_In prog_16_method_49_code k_In_bitCount i = true := by decide +kernel
theorem z_k_In_bitCount (i : Nat) : z_chk "java/lang/Integer" false lk_In prog_16_method_49_code k_In_bitCount i = true := z_out_k (z_k0_In_bitCount i)
theorem z_u_In_bitCount (i : Nat) : z_chu d_In_bitCount.2.2.1 1 i = true := rfl
theorem z_g_In_bitCount : z_good 233 d_In_bitCount := ⟨_, _, _, _, _, _, _, _, _, _, _, rfl, by decide +kernel, rfl, by decide +kernel, by decide, z_lk_In, z_k_In_bitCount, z_u_In_bitCount⟩
theorem z_k0_H_isSmallSet : ∀ i, i < 25 → z_chk "BreatheAsOne$House" false lk_H prog_5_method_11_code k_H_isSmallSet i = true := by decide +kernel
theorem z_k_H_isSmallSet (i : Nat) : z_chk "BreatheAsOne$House" false lk_H prog_5_method_11_code k_H_isSmallSet i = true := z_out_k (z_k0_H_isSmallSet i)
theorem z_u_H_isSmallSet (i : Nat) : z_chu d_H_isSmallSet.2.2.1 3 i = true := rfl
theorem z_g_H_isSmallSet : z_good 234 d_H_isSmallSet := ⟨_, _, _, _, _, _, _, _, _, _, _, rfl, by decide +kernel, rfl, by decide +kernel, by decide, z_lk_H, z_k_H_isSmallSet, z_u_H_isSmallSet⟩
theorem z_k0_Ga_listMembers : ∀ i, i < 39 → z_chk "BreatheAsOne$Games" false lk_Ga prog_4_method_2_code k_Ga_listMembers i = true := by decide +kernel
theorem z_k_Ga_listMembers (i : Nat) : z_chk "BreatheAsOne$Games" false lk_Ga prog_4_method_2_code k_Ga_listMembers i = true := z_out_k (z_k0_Ga_listMembers i)
theorem z_u0_Ga_listMembers : ∀ i, i < 39 → z_chu d_Ga_listMembers.2.2.1 4 i = true := by decide +kernel
theorem z_u_Ga_listMembers (i : Nat) : z_chu d_Ga_listMembers.2.2.1 4 i = true := z_out_u (z_u0_Ga_listMembers i)
theorem z_g_Ga_listMembers : z_good 235 d_Ga_listMembers := ⟨_, _, _, _, _, _, _, _, _, _, _, rfl, by decide +kernel, rfl, by decide +kernel, by decide, z_lk_Ga, z_k_Ga_listMembers, z_u_Ga_listMembers⟩
theorem z_k0_Ga_indexIn : ∀ i, i < 24 → z_chk "BreatheAsOne$Games" false lk_Ga prog_4_method_3_code k_Ga_indexIn i = true := by decide +kernel
theorem z_k_Ga_indexIn (i : Nat) : z_chk "BreatheAsOne$Games" false lk_Ga prog_4_method_3_code k_Ga_indexIn i = true := z_out_k (z_k0_Ga_indexIn i)
theorem z_u0_Ga_indexIn : ∀ i, i < 24 → z_chu d_Ga_indexIn.2.2.1 4 i = true := by decide +kernel
theorem z_u_Ga_indexIn (i : Nat) : z_chu d_Ga_indexIn.2.2.1 4 i = true := z_out_u (z_u0_Ga_indexIn i)
theorem z_g_Ga_indexIn : z_good 236 d_Ga_indexIn := ⟨_, _, _, _, _, _, _, _, _, _, _, rfl, by decide +kernel, rfl, by decide +kernel, by decide, z_lk_Ga, z_k_Ga_indexIn, z_u_Ga_indexIn⟩
theorem z_k0_Ga_airOfOthers : ∀ i, i < 107 → z_chk "BreatheAsOne$Games" false lk_Ga prog_4_method_9_code k_Ga_airOfOthers i = true := by decide +kernel
theorem z_k_Ga_airOfOthers (i : Nat) : z_chk "BreatheAsOne$Games" false lk_Ga prog_4_method_9_code k_Ga_airOfOthers i = true := z_out_k (z_k0_Ga_airOfOthers i)
theorem z_u0_Ga_airOfOthers : ∀ i, i < 107 → z_chu d_Ga_airOfOthers.2.2.1 7 i = true := by decide +kernel
theorem z_u_Ga_airOfOthers (i : Nat) : z_chu d_Ga_airOfOthers.2.2.1 7 i = true := z_out_u (z_u0_Ga_airOfOthers i)
theorem z_g_Ga_airOfOthers : z_good 237 d_Ga_airOfOthers := ⟨_, _, _, _, _, _, _, _, _, _, _, rfl, by decide +kernel, rfl, by decide +kernel, by decide, z_lk_Ga, z_k_Ga_airOfOthers, z_u_Ga_airOfOthers⟩
theorem z_k0_Br_askOf : ∀ i, i < 16 → z_chk "BreatheAsOne$Breathing" false lk_Br prog_2_method_12_code k_Br_askOf i = true := by decide +kernel
theorem z_k_Br_askOf (i : Nat) : z_chk "BreatheAsOne$Breathing" false lk_Br prog_2_method_12_code k_Br_askOf i = true := z_out_k (z_k0_Br_askOf i)
theorem z_u_Br_askOf (i : Nat) : z_chu d_Br_askOf.2.2.1 2 i = true := rfl
theorem z_g_Br_askOf : z_good 238 d_Br_askOf := ⟨_, _, _, _, _, _, _, _, _, _, _, rfl, by decide +kernel, rfl, by decide +kernel, by decide, z_lk_Br, z_k_Br_askOf, z_u_Br_askOf⟩
theorem z_k0_Ga_firstOrder : ∀ i, i < 21 → z_chk "BreatheAsOne$Games" false lk_Ga prog_4_method_4_code k_Ga_firstOrder i = true := by decide +kernel
theorem z_k_Ga_firstOrder (i : Nat) : z_chk "BreatheAsOne$Games" false lk_Ga prog_4_method_4_code k_Ga_firstOrder i = true := z_out_k (z_k0_Ga_firstOrder i)
theorem z_u0_Ga_firstOrder : ∀ i, i < 21 → z_chu d_Ga_firstOrder.2.2.1 3 i = true := by decide +kernel
theorem z_u_Ga_firstOrder (i : Nat) : z_chu d_Ga_firstOrder.2.2.1 3 i = true := z_out_u (z_u0_Ga_firstOrder i)
theorem z_g_Ga_firstOrder : z_good 239 d_Ga_firstOrder := ⟨_, _, _, _, _, _, _, _, _, _, _, rfl, by decide +kernel, rfl, by decide +kernel, by decide, z_lk_Ga, z_k_Ga_firstOrder, z_u_Ga_firstOrder⟩
theorem z_k0_Br_wouldHold : ∀ i, i < 120 → z_chk "BreatheAsOne$Breathing" false lk_Br prog_2_method_13_code k_Br_wouldHold i = true := by decide +kernel
theorem z_k_Br_wouldHold (i : Nat) : z_chk "BreatheAsOne$Breathing" false lk_Br prog_2_method_13_code k_Br_wouldHold i = true := z_out_k (z_k0_Br_wouldHold i)
theorem z_u0_Br_wouldHold : ∀ i, i < 120 → z_chu d_Br_wouldHold.2.2.1 5 i = true := by decide +kernel
theorem z_u_Br_wouldHold (i : Nat) : z_chu d_Br_wouldHold.2.2.1 5 i = true := z_out_u (z_u0_Br_wouldHold i)
theorem z_g_Br_wouldHold : z_good 240 d_Br_wouldHold := ⟨_, _, _, _, _, _, _, _, _, _, _, rfl, by decide +kernel, rfl, by decide +kernel, by decide, z_lk_Br, z_k_Br_wouldHold, z_u_Br_wouldHold⟩
theorem z_k0_Ga_swapOrder : ∀ i, i < 27 → z_chk "BreatheAsOne$Games" false lk_Ga prog_4_method_6_code k_Ga_swapOrder i = true := by decide +kernel
theorem z_k_Ga_swapOrder (i : Nat) : z_chk "BreatheAsOne$Games" false lk_Ga prog_4_method_6_code k_Ga_swapOrder i = true := z_out_k (z_k0_Ga_swapOrder i)
theorem z_u_Ga_swapOrder (i : Nat) : z_chu d_Ga_swapOrder.2.2.1 4 i = true := rfl
theorem z_g_Ga_swapOrder : z_good 241 d_Ga_swapOrder := ⟨_, _, _, _, _, _, _, _, _, _, _, rfl, by decide +kernel, rfl, by decide +kernel, by decide, z_lk_Ga, z_k_Ga_swapOrder, z_u_Ga_swapOrder⟩
theorem z_k0_Ga_nextOrder : ∀ i, i < 109 → z_chk "BreatheAsOne$Games" false lk_Ga prog_4_method_5_code k_Ga_nextOrder i = true := by decide +kernel
theorem z_k_Ga_nextOrder (i : Nat) : z_chk "BreatheAsOne$Games" false lk_Ga prog_4_method_5_code k_Ga_nextOrder i = true := z_out_k (z_k0_Ga_nextOrder i)
theorem z_u0_Ga_nextOrder : ∀ i, i < 109 → z_chu d_Ga_nextOrder.2.2.1 6 i = true := by decide +kernel
theorem z_u_Ga_nextOrder (i : Nat) : z_chu d_Ga_nextOrder.2.2.1 6 i = true := z_out_u (z_u0_Ga_nextOrder i)
theorem z_g_Ga_nextOrder : z_good 242 d_Ga_nextOrder := ⟨_, _, _, _, _, _, _, _, _, _, _, rfl, by decide +kernel, rfl, by decide +kernel, by decide, z_lk_Ga, z_k_Ga_nextOrder, z_u_Ga_nextOrder⟩
theorem z_k0_Ga_countHeld : ∀ i, i < 231 → z_chk "BreatheAsOne$Games" false lk_Ga prog_4_method_8_code k_Ga_countHeld i = true := by decide +kernel
theorem z_k_Ga_countHeld (i : Nat) : z_chk "BreatheAsOne$Games" false lk_Ga prog_4_method_8_code k_Ga_countHeld i = true := z_out_k (z_k0_Ga_countHeld i)
theorem z_u0_Ga_countHeld : ∀ i, i < 231 → z_chu d_Ga_countHeld.2.2.1 11 i = true := by decide +kernel
theorem z_u_Ga_countHeld (i : Nat) : z_chu d_Ga_countHeld.2.2.1 11 i = true := z_out_u (z_u0_Ga_countHeld i)
theorem z_g_Ga_countHeld : z_good 243 d_Ga_countHeld := ⟨_, _, _, _, _, _, _, _, _, _, _, rfl, by decide +kernel, rfl, by decide +kernel, by decide, z_lk_Ga, z_k_Ga_countHeld, z_u_Ga_countHeld⟩
theorem z_k0_Ga_orderAt : ∀ i, i < 46 → z_chk "BreatheAsOne$Games" false lk_Ga prog_4_method_10_code k_Ga_orderAt i = true := by decide +kernel
theorem z_k_Ga_orderAt (i : Nat) : z_chk "BreatheAsOne$Games" false lk_Ga prog_4_method_10_code k_Ga_orderAt i = true := z_out_k (z_k0_Ga_orderAt i)
theorem z_u0_Ga_orderAt : ∀ i, i < 46 → z_chu d_Ga_orderAt.2.2.1 5 i = true := by decide +kernel
theorem z_u_Ga_orderAt (i : Nat) : z_chu d_Ga_orderAt.2.2.1 5 i = true := z_out_u (z_u0_Ga_orderAt i)
theorem z_g_Ga_orderAt : z_good 244 d_Ga_orderAt := ⟨_, _, _, _, _, _, _, _, _, _, _, rfl, by decide +kernel, rfl, by decide +kernel, by decide, z_lk_Ga, z_k_Ga_orderAt, z_u_Ga_orderAt⟩
theorem z_k0_Ga_bestSeats : ∀ i, i < 203 → z_chk "BreatheAsOne$Games" false lk_Ga prog_4_method_7_code k_Ga_bestSeats i = true := by decide +kernel
theorem z_k_Ga_bestSeats (i : Nat) : z_chk "BreatheAsOne$Games" false lk_Ga prog_4_method_7_code k_Ga_bestSeats i = true := z_out_k (z_k0_Ga_bestSeats i)
theorem z_u0_Ga_bestSeats : ∀ i, i < 203 → z_chu d_Ga_bestSeats.2.2.1 8 i = true := by decide +kernel
theorem z_u_Ga_bestSeats (i : Nat) : z_chu d_Ga_bestSeats.2.2.1 8 i = true := z_out_u (z_u0_Ga_bestSeats i)
theorem z_g_Ga_bestSeats : z_good 245 d_Ga_bestSeats := ⟨_, _, _, _, _, _, _, _, _, _, _, rfl, by decide +kernel, rfl, by decide +kernel, by decide, z_lk_Ga, z_k_Ga_bestSeats, z_u_Ga_bestSeats⟩
theorem z_k0_B_seated : ∀ i, i < 11 → z_chk "BreatheAsOne" false lk_B prog_1_method_28_code k_B_seated i = true := by decide +kernel
theorem z_k_B_seated (i : Nat) : z_chk "BreatheAsOne" false lk_B prog_1_method_28_code k_B_seated i = true := z_out_k (z_k0_B_seated i)
theorem z_u_B_seated (i : Nat) : z_chu d_B_seated.2.2.1 4 i = true := rfl
theorem z_g_B_seated : z_good 246 d_B_seated := ⟨_, _, _, _, _, _, _, _, _, _, _, rfl, by decide +kernel, rfl, by decide +kernel, by decide, z_lk_B, z_k_B_seated, z_u_B_seated⟩
theorem z_k0_M_bits : ∀ i, i < 26 → z_chk "BreatheAsOneModel" false lk_M prog_13_method_5_code k_M_bits i = true := by decide +kernel
theorem z_k_M_bits (i : Nat) : z_chk "BreatheAsOneModel" false lk_M prog_13_method_5_code k_M_bits i = true := z_out_k (z_k0_M_bits i)
theorem z_u0_M_bits : ∀ i, i < 26 → z_chu d_M_bits.2.2.1 3 i = true := by decide +kernel
theorem z_u_M_bits (i : Nat) : z_chu d_M_bits.2.2.1 3 i = true := z_out_u (z_u0_M_bits i)
theorem z_g_M_bits : z_good 247 d_M_bits := ⟨_, _, _, _, _, _, _, _, _, _, _, rfl, by decide +kernel, rfl, by decide +kernel, by decide, z_lk_M, z_k_M_bits, z_u_M_bits⟩
theorem z_k0_M_isSome : ∀ i, i < 32 → z_chk "BreatheAsOneModel" false lk_M prog_13_method_104_code k_M_isSome i = true := by decide +kernel
theorem z_k_M_isSome (i : Nat) : z_chk "BreatheAsOneModel" false lk_M prog_13_method_104_code k_M_isSome i = true := z_out_k (z_k0_M_isSome i)
theorem z_u_M_isSome (i : Nat) : z_chu d_M_isSome.2.2.1 2 i = true := rfl
theorem z_g_M_isSome : z_good 248 d_M_isSome := ⟨_, _, _, _, _, _, _, _, _, _, _, rfl, by decide +kernel, rfl, by decide +kernel, by decide, z_lk_M, z_k_M_isSome, z_u_M_isSome⟩
theorem z_k0_M_layOut : ∀ i, i < 36 → z_chk "BreatheAsOneModel" false lk_M prog_13_method_102_code k_M_layOut i = true := by decide +kernel
theorem z_k_M_layOut (i : Nat) : z_chk "BreatheAsOneModel" false lk_M prog_13_method_102_code k_M_layOut i = true := z_out_k (z_k0_M_layOut i)
theorem z_u0_M_layOut : ∀ i, i < 36 → z_chu d_M_layOut.2.2.1 4 i = true := by decide +kernel
theorem z_u_M_layOut (i : Nat) : z_chu d_M_layOut.2.2.1 4 i = true := z_out_u (z_u0_M_layOut i)
theorem z_g_M_layOut : z_good 249 d_M_layOut := ⟨_, _, _, _, _, _, _, _, _, _, _, rfl, by decide +kernel, rfl, by decide +kernel, by decide, z_lk_M, z_k_M_layOut, z_u_M_layOut⟩
theorem z_k0_M_manyHold : ∀ i, i < 39 → z_chk "BreatheAsOneModel" false lk_M prog_13_method_75_code k_M_manyHold i = true := by decide +kernel
theorem z_k_M_manyHold (i : Nat) : z_chk "BreatheAsOneModel" false lk_M prog_13_method_75_code k_M_manyHold i = true := z_out_k (z_k0_M_manyHold i)
theorem z_u0_M_manyHold : ∀ i, i < 39 → z_chu d_M_manyHold.2.2.1 4 i = true := by decide +kernel
theorem z_u_M_manyHold (i : Nat) : z_chu d_M_manyHold.2.2.1 4 i = true := z_out_u (z_u0_M_manyHold i)
theorem z_g_M_manyHold : z_good 250 d_M_manyHold := ⟨_, _, _, _, _, _, _, _, _, _, _, rfl, by decide +kernel, rfl, by decide +kernel, by decide, z_lk_M, z_k_M_manyHold, z_u_M_manyHold⟩
theorem z_k0_M_nextOrder : ∀ i, i < 155 → z_chk "BreatheAsOneModel" false lk_M prog_13_method_103_code k_M_nextOrder i = true := by decide +kernel
theorem z_k_M_nextOrder (i : Nat) : z_chk "BreatheAsOneModel" false lk_M prog_13_method_103_code k_M_nextOrder i = true := z_out_k (z_k0_M_nextOrder i)
theorem z_u0_M_nextOrder : ∀ i, i < 155 → z_chu d_M_nextOrder.2.2.1 6 i = true := by decide +kernel
theorem z_u_M_nextOrder (i : Nat) : z_chu d_M_nextOrder.2.2.1 6 i = true := z_out_u (z_u0_M_nextOrder i)
theorem z_g_M_nextOrder : z_good 251 d_M_nextOrder := ⟨_, _, _, _, _, _, _, _, _, _, _, rfl, by decide +kernel, rfl, by decide +kernel, by decide, z_lk_M, z_k_M_nextOrder, z_u_M_nextOrder⟩
theorem z_k0_M_bestSeats : ∀ i, i < 217 → z_chk "BreatheAsOneModel" false lk_M prog_13_method_105_code k_M_bestSeats i = true := by decide +kernel
theorem z_k_M_bestSeats (i : Nat) : z_chk "BreatheAsOneModel" false lk_M prog_13_method_105_code k_M_bestSeats i = true := z_out_k (z_k0_M_bestSeats i)
theorem z_u0_M_bestSeats : ∀ i, i < 217 → z_chu d_M_bestSeats.2.2.1 6 i = true := by decide +kernel
theorem z_u_M_bestSeats (i : Nat) : z_chu d_M_bestSeats.2.2.1 6 i = true := z_out_u (z_u0_M_bestSeats i)
theorem z_g_M_bestSeats : z_good 252 d_M_bestSeats := ⟨_, _, _, _, _, _, _, _, _, _, _, rfl, by decide +kernel, rfl, by decide +kernel, by decide, z_lk_M, z_k_M_bestSeats, z_u_M_bestSeats⟩
theorem z_k0_M_seated : ∀ i, i < 153 → z_chk "BreatheAsOneModel" false lk_M prog_13_method_106_code k_M_seated i = true := by decide +kernel
theorem z_k_M_seated (i : Nat) : z_chk "BreatheAsOneModel" false lk_M prog_13_method_106_code k_M_seated i = true := z_out_k (z_k0_M_seated i)
theorem z_u0_M_seated : ∀ i, i < 153 → z_chu d_M_seated.2.2.1 6 i = true := by decide +kernel
theorem z_u_M_seated (i : Nat) : z_chu d_M_seated.2.2.1 6 i = true := z_out_u (z_u0_M_seated i)
theorem z_g_M_seated : z_good 253 d_M_seated := ⟨_, _, _, _, _, _, _, _, _, _, _, rfl, by decide +kernel, rfl, by decide +kernel, by decide, z_lk_M, z_k_M_seated, z_u_M_seated⟩
theorem z_k0_Qu_takeBlockAir : ∀ i, i < 129 → z_chk "BreatheAsOne$Questions" false lk_Qu prog_7_method_12_code k_Qu_takeBlockAir i = true := by decide +kernel
theorem z_k_Qu_takeBlockAir (i : Nat) : z_chk "BreatheAsOne$Questions" false lk_Qu prog_7_method_12_code k_Qu_takeBlockAir i = true := z_out_k (z_k0_Qu_takeBlockAir i)
theorem z_u0_Qu_takeBlockAir : ∀ i, i < 129 → z_chu d_Qu_takeBlockAir.2.2.1 6 i = true := by decide +kernel
theorem z_u_Qu_takeBlockAir (i : Nat) : z_chu d_Qu_takeBlockAir.2.2.1 6 i = true := z_out_u (z_u0_Qu_takeBlockAir i)
theorem z_g_Qu_takeBlockAir : z_good 254 d_Qu_takeBlockAir := ⟨_, _, _, _, _, _, _, _, _, _, _, rfl, by decide +kernel, rfl, by decide +kernel, by decide, z_lk_Qu, z_k_Qu_takeBlockAir, z_u_Qu_takeBlockAir⟩
theorem z_k0_Qu_airBy : ∀ i, i < 34 → z_chk "BreatheAsOne$Questions" false lk_Qu prog_7_method_14_code k_Qu_airBy i = true := by decide +kernel
theorem z_k_Qu_airBy (i : Nat) : z_chk "BreatheAsOne$Questions" false lk_Qu prog_7_method_14_code k_Qu_airBy i = true := z_out_k (z_k0_Qu_airBy i)
theorem z_u0_Qu_airBy : ∀ i, i < 34 → z_chu d_Qu_airBy.2.2.1 4 i = true := by decide +kernel
theorem z_u_Qu_airBy (i : Nat) : z_chu d_Qu_airBy.2.2.1 4 i = true := z_out_u (z_u0_Qu_airBy i)
theorem z_g_Qu_airBy : z_good 255 d_Qu_airBy := ⟨_, _, _, _, _, _, _, _, _, _, _, rfl, by decide +kernel, rfl, by decide +kernel, by decide, z_lk_Qu, z_k_Qu_airBy, z_u_Qu_airBy⟩
theorem z_k0_Qu_setsThatHold : ∀ i, i < 60 → z_chk "BreatheAsOne$Questions" false lk_Qu prog_7_method_11_code k_Qu_setsThatHold i = true := by decide +kernel
theorem z_k_Qu_setsThatHold (i : Nat) : z_chk "BreatheAsOne$Questions" false lk_Qu prog_7_method_11_code k_Qu_setsThatHold i = true := z_out_k (z_k0_Qu_setsThatHold i)
theorem z_u0_Qu_setsThatHold : ∀ i, i < 60 → z_chu d_Qu_setsThatHold.2.2.1 4 i = true := by decide +kernel
theorem z_u_Qu_setsThatHold (i : Nat) : z_chu d_Qu_setsThatHold.2.2.1 4 i = true := z_out_u (z_u0_Qu_setsThatHold i)
theorem z_g_Qu_setsThatHold : z_good 256 d_Qu_setsThatHold := ⟨_, _, _, _, _, _, _, _, _, _, _, rfl, by decide +kernel, rfl, by decide +kernel, by decide, z_lk_Qu, z_k_Qu_setsThatHold, z_u_Qu_setsThatHold⟩
theorem z_k0_Qu_fewestUshers : ∀ i, i < 87 → z_chk "BreatheAsOne$Questions" false lk_Qu prog_7_method_10_code k_Qu_fewestUshers i = true := by decide +kernel
theorem z_k_Qu_fewestUshers (i : Nat) : z_chk "BreatheAsOne$Questions" false lk_Qu prog_7_method_10_code k_Qu_fewestUshers i = true := z_out_k (z_k0_Qu_fewestUshers i)
theorem z_u0_Qu_fewestUshers : ∀ i, i < 87 → z_chu d_Qu_fewestUshers.2.2.1 5 i = true := by decide +kernel
theorem z_u_Qu_fewestUshers (i : Nat) : z_chu d_Qu_fewestUshers.2.2.1 5 i = true := z_out_u (z_u0_Qu_fewestUshers i)
theorem z_g_Qu_fewestUshers : z_good 257 d_Qu_fewestUshers := ⟨_, _, _, _, _, _, _, _, _, _, _, rfl, by decide +kernel, rfl, by decide +kernel, by decide, z_lk_Qu, z_k_Qu_fewestUshers, z_u_Qu_fewestUshers⟩
theorem z_k0_B_ushers : ∀ i, i < 24 → z_chk "BreatheAsOne" false lk_B prog_1_method_29_code k_B_ushers i = true := by decide +kernel
theorem z_k_B_ushers (i : Nat) : z_chk "BreatheAsOne" false lk_B prog_1_method_29_code k_B_ushers i = true := z_out_k (z_k0_B_ushers i)
theorem z_u_B_ushers (i : Nat) : z_chu d_B_ushers.2.2.1 2 i = true := rfl
theorem z_g_B_ushers : z_good 258 d_B_ushers := ⟨_, _, _, _, _, _, _, _, _, _, _, rfl, by decide +kernel, rfl, by decide +kernel, by decide, z_lk_B, z_k_B_ushers, z_u_B_ushers⟩
theorem z_k0_M_ushers : ∀ i, i < 87 → z_chk "BreatheAsOneModel" false lk_M prog_13_method_107_code k_M_ushers i = true := by decide +kernel
theorem z_k_M_ushers (i : Nat) : z_chk "BreatheAsOneModel" false lk_M prog_13_method_107_code k_M_ushers i = true := z_out_k (z_k0_M_ushers i)
theorem z_u0_M_ushers : ∀ i, i < 87 → z_chu d_M_ushers.2.2.1 5 i = true := by decide +kernel
theorem z_u_M_ushers (i : Nat) : z_chu d_M_ushers.2.2.1 5 i = true := z_out_u (z_u0_M_ushers i)
theorem z_g_M_ushers : z_good 259 d_M_ushers := ⟨_, _, _, _, _, _, _, _, _, _, _, rfl, by decide +kernel, rfl, by decide +kernel, by decide, z_lk_M, z_k_M_ushers, z_u_M_ushers⟩
theorem z_k0_Qu_takeChanges : ∀ i, i < 64 → z_chk "BreatheAsOne$Questions" false lk_Qu prog_7_method_13_code k_Qu_takeChanges i = true := by decide +kernel
theorem z_k_Qu_takeChanges (i : Nat) : z_chk "BreatheAsOne$Questions" false lk_Qu prog_7_method_13_code k_Qu_takeChanges i = true := z_out_k (z_k0_Qu_takeChanges i)
theorem z_u0_Qu_takeChanges : ∀ i, i < 64 → z_chu d_Qu_takeChanges.2.2.1 3 i = true := by decide +kernel
theorem z_u_Qu_takeChanges (i : Nat) : z_chu d_Qu_takeChanges.2.2.1 3 i = true := z_out_u (z_u0_Qu_takeChanges i)
theorem z_g_Qu_takeChanges : z_good 260 d_Qu_takeChanges := ⟨_, _, _, _, _, _, _, _, _, _, _, rfl, by decide +kernel, rfl, by decide +kernel, by decide, z_lk_Qu, z_k_Qu_takeChanges, z_u_Qu_takeChanges⟩
theorem z_k0_Qu_canBeHad : ∀ i, i < 122 → z_chk "BreatheAsOne$Questions" false lk_Qu prog_7_method_16_code k_Qu_canBeHad i = true := by decide +kernel
theorem z_k_Qu_canBeHad (i : Nat) : z_chk "BreatheAsOne$Questions" false lk_Qu prog_7_method_16_code k_Qu_canBeHad i = true := z_out_k (z_k0_Qu_canBeHad i)
theorem z_u0_Qu_canBeHad : ∀ i, i < 122 → z_chu d_Qu_canBeHad.2.2.1 6 i = true := by decide +kernel
theorem z_u_Qu_canBeHad (i : Nat) : z_chu d_Qu_canBeHad.2.2.1 6 i = true := z_out_u (z_u0_Qu_canBeHad i)
theorem z_g_Qu_canBeHad : z_good 261 d_Qu_canBeHad := ⟨_, _, _, _, _, _, _, _, _, _, _, rfl, by decide +kernel, rfl, by decide +kernel, by decide, z_lk_Qu, z_k_Qu_canBeHad, z_u_Qu_canBeHad⟩
theorem z_k0_Qu_outOfReach : ∀ i, i < 37 → z_chk "BreatheAsOne$Questions" false lk_Qu prog_7_method_15_code k_Qu_outOfReach i = true := by decide +kernel
theorem z_k_Qu_outOfReach (i : Nat) : z_chk "BreatheAsOne$Questions" false lk_Qu prog_7_method_15_code k_Qu_outOfReach i = true := z_out_k (z_k0_Qu_outOfReach i)
theorem z_u0_Qu_outOfReach : ∀ i, i < 37 → z_chu d_Qu_outOfReach.2.2.1 3 i = true := by decide +kernel
theorem z_u_Qu_outOfReach (i : Nat) : z_chu d_Qu_outOfReach.2.2.1 3 i = true := z_out_u (z_u0_Qu_outOfReach i)
theorem z_g_Qu_outOfReach : z_good 262 d_Qu_outOfReach := ⟨_, _, _, _, _, _, _, _, _, _, _, rfl, by decide +kernel, rfl, by decide +kernel, by decide, z_lk_Qu, z_k_Qu_outOfReach, z_u_Qu_outOfReach⟩
theorem z_k0_B_cannot : ∀ i, i < 8 → z_chk "BreatheAsOne" false lk_B prog_1_method_30_code k_B_cannot i = true := by decide +kernel
theorem z_k_B_cannot (i : Nat) : z_chk "BreatheAsOne" false lk_B prog_1_method_30_code k_B_cannot i = true := z_out_k (z_k0_B_cannot i)
theorem z_u_B_cannot (i : Nat) : z_chu d_B_cannot.2.2.1 1 i = true := rfl
theorem z_g_B_cannot : z_good 263 d_B_cannot := ⟨_, _, _, _, _, _, _, _, _, _, _, rfl, by decide +kernel, rfl, by decide +kernel, by decide, z_lk_B, z_k_B_cannot, z_u_B_cannot⟩
theorem z_k0_M_cannot : ∀ i, i < 102 → z_chk "BreatheAsOneModel" false lk_M prog_13_method_108_code k_M_cannot i = true := by decide +kernel
theorem z_k_M_cannot (i : Nat) : z_chk "BreatheAsOneModel" false lk_M prog_13_method_108_code k_M_cannot i = true := z_out_k (z_k0_M_cannot i)
theorem z_u0_M_cannot : ∀ i, i < 102 → z_chu d_M_cannot.2.2.1 6 i = true := by decide +kernel
theorem z_u_M_cannot (i : Nat) : z_chu d_M_cannot.2.2.1 6 i = true := z_out_u (z_u0_M_cannot i)
theorem z_g_M_cannot : z_good 264 d_M_cannot := ⟨_, _, _, _, _, _, _, _, _, _, _, rfl, by decide +kernel, rfl, by decide +kernel, by decide, z_lk_M, z_k_M_cannot, z_u_M_cannot⟩
theorem z_k0_Qu_heldLater : ∀ i, i < 68 → z_chk "BreatheAsOne$Questions" false lk_Qu prog_7_method_18_code k_Qu_heldLater i = true := by decide +kernel
theorem z_k_Qu_heldLater (i : Nat) : z_chk "BreatheAsOne$Questions" false lk_Qu prog_7_method_18_code k_Qu_heldLater i = true := z_out_k (z_k0_Qu_heldLater i)
theorem z_u0_Qu_heldLater : ∀ i, i < 68 → z_chu d_Qu_heldLater.2.2.1 5 i = true := by decide +kernel
theorem z_u_Qu_heldLater (i : Nat) : z_chu d_Qu_heldLater.2.2.1 5 i = true := z_out_u (z_u0_Qu_heldLater i)
theorem z_g_Qu_heldLater : z_good 265 d_Qu_heldLater := ⟨_, _, _, _, _, _, _, _, _, _, _, rfl, by decide +kernel, rfl, by decide +kernel, by decide, z_lk_Qu, z_k_Qu_heldLater, z_u_Qu_heldLater⟩
theorem z_k0_Qu_bestShift : ∀ i, i < 50 → z_chk "BreatheAsOne$Questions" false lk_Qu prog_7_method_17_code k_Qu_bestShift i = true := by decide +kernel
theorem z_k_Qu_bestShift (i : Nat) : z_chk "BreatheAsOne$Questions" false lk_Qu prog_7_method_17_code k_Qu_bestShift i = true := z_out_k (z_k0_Qu_bestShift i)
theorem z_u0_Qu_bestShift : ∀ i, i < 50 → z_chu d_Qu_bestShift.2.2.1 6 i = true := by decide +kernel
theorem z_u_Qu_bestShift (i : Nat) : z_chu d_Qu_bestShift.2.2.1 6 i = true := z_out_u (z_u0_Qu_bestShift i)
theorem z_g_Qu_bestShift : z_good 266 d_Qu_bestShift := ⟨_, _, _, _, _, _, _, _, _, _, _, rfl, by decide +kernel, rfl, by decide +kernel, by decide, z_lk_Qu, z_k_Qu_bestShift, z_u_Qu_bestShift⟩
theorem z_k0_B_shift : ∀ i, i < 9 → z_chk "BreatheAsOne" false lk_B prog_1_method_31_code k_B_shift i = true := by decide +kernel
theorem z_k_B_shift (i : Nat) : z_chk "BreatheAsOne" false lk_B prog_1_method_31_code k_B_shift i = true := z_out_k (z_k0_B_shift i)
theorem z_u_B_shift (i : Nat) : z_chu d_B_shift.2.2.1 2 i = true := rfl
theorem z_g_B_shift : z_good 267 d_B_shift := ⟨_, _, _, _, _, _, _, _, _, _, _, rfl, by decide +kernel, rfl, by decide +kernel, by decide, z_lk_B, z_k_B_shift, z_u_B_shift⟩
theorem z_k0_M_shift : ∀ i, i < 45 → z_chk "BreatheAsOneModel" false lk_M prog_13_method_109_code k_M_shift i = true := by decide +kernel
theorem z_k_M_shift (i : Nat) : z_chk "BreatheAsOneModel" false lk_M prog_13_method_109_code k_M_shift i = true := z_out_k (z_k0_M_shift i)
theorem z_u0_M_shift : ∀ i, i < 45 → z_chu d_M_shift.2.2.1 4 i = true := by decide +kernel
theorem z_u_M_shift (i : Nat) : z_chu d_M_shift.2.2.1 4 i = true := z_out_u (z_u0_M_shift i)
theorem z_g_M_shift : z_good 268 d_M_shift := ⟨_, _, _, _, _, _, _, _, _, _, _, rfl, by decide +kernel, rfl, by decide +kernel, by decide, z_lk_M, z_k_M_shift, z_u_M_shift⟩
theorem z_k0_Qu_phaseOf : ∀ i, i < 24 → z_chk "BreatheAsOne$Questions" false lk_Qu prog_7_method_20_code k_Qu_phaseOf i = true := by decide +kernel
theorem z_k_Qu_phaseOf (i : Nat) : z_chk "BreatheAsOne$Questions" false lk_Qu prog_7_method_20_code k_Qu_phaseOf i = true := z_out_k (z_k0_Qu_phaseOf i)
theorem z_u_Qu_phaseOf (i : Nat) : z_chu d_Qu_phaseOf.2.2.1 2 i = true := rfl
theorem z_g_Qu_phaseOf : z_good 269 d_Qu_phaseOf := ⟨_, _, _, _, _, _, _, _, _, _, _, rfl, by decide +kernel, rfl, by decide +kernel, by decide, z_lk_Qu, z_k_Qu_phaseOf, z_u_Qu_phaseOf⟩
theorem z_k0_Qu_togetherWith : ∀ i, i < 76 → z_chk "BreatheAsOne$Questions" false lk_Qu prog_7_method_19_code k_Qu_togetherWith i = true := by decide +kernel
theorem z_k_Qu_togetherWith (i : Nat) : z_chk "BreatheAsOne$Questions" false lk_Qu prog_7_method_19_code k_Qu_togetherWith i = true := z_out_k (z_k0_Qu_togetherWith i)
theorem z_u0_Qu_togetherWith : ∀ i, i < 76 → z_chu d_Qu_togetherWith.2.2.1 6 i = true := by decide +kernel
theorem z_u_Qu_togetherWith (i : Nat) : z_chu d_Qu_togetherWith.2.2.1 6 i = true := z_out_u (z_u0_Qu_togetherWith i)
theorem z_g_Qu_togetherWith : z_good 270 d_Qu_togetherWith := ⟨_, _, _, _, _, _, _, _, _, _, _, rfl, by decide +kernel, rfl, by decide +kernel, by decide, z_lk_Qu, z_k_Qu_togetherWith, z_u_Qu_togetherWith⟩
theorem z_k0_B_inTime : ∀ i, i < 24 → z_chk "BreatheAsOne" false lk_B prog_1_method_32_code k_B_inTime i = true := by decide +kernel
theorem z_k_B_inTime (i : Nat) : z_chk "BreatheAsOne" false lk_B prog_1_method_32_code k_B_inTime i = true := z_out_k (z_k0_B_inTime i)
theorem z_u_B_inTime (i : Nat) : z_chu d_B_inTime.2.2.1 2 i = true := rfl
theorem z_g_B_inTime : z_good 271 d_B_inTime := ⟨_, _, _, _, _, _, _, _, _, _, _, rfl, by decide +kernel, rfl, by decide +kernel, by decide, z_lk_B, z_k_B_inTime, z_u_B_inTime⟩
theorem z_k0_M_inTimeWith : ∀ i, i < 81 → z_chk "BreatheAsOneModel" false lk_M prog_13_method_110_code k_M_inTimeWith i = true := by decide +kernel
theorem z_k_M_inTimeWith (i : Nat) : z_chk "BreatheAsOneModel" false lk_M prog_13_method_110_code k_M_inTimeWith i = true := z_out_k (z_k0_M_inTimeWith i)
theorem z_u0_M_inTimeWith : ∀ i, i < 81 → z_chu d_M_inTimeWith.2.2.1 5 i = true := by decide +kernel
theorem z_u_M_inTimeWith (i : Nat) : z_chu d_M_inTimeWith.2.2.1 5 i = true := z_out_u (z_u0_M_inTimeWith i)
theorem z_g_M_inTimeWith : z_good 272 d_M_inTimeWith := ⟨_, _, _, _, _, _, _, _, _, _, _, rfl, by decide +kernel, rfl, by decide +kernel, by decide, z_lk_M, z_k_M_inTimeWith, z_u_M_inTimeWith⟩
theorem z_k0_M_inTime : ∀ i, i < 18 → z_chk "BreatheAsOneModel" false lk_M prog_13_method_111_code k_M_inTime i = true := by decide +kernel
theorem z_k_M_inTime (i : Nat) : z_chk "BreatheAsOneModel" false lk_M prog_13_method_111_code k_M_inTime i = true := z_out_k (z_k0_M_inTime i)
theorem z_u_M_inTime (i : Nat) : z_chu d_M_inTime.2.2.1 2 i = true := rfl
theorem z_g_M_inTime : z_good 273 d_M_inTime := ⟨_, _, _, _, _, _, _, _, _, _, _, rfl, by decide +kernel, rfl, by decide +kernel, by decide, z_lk_M, z_k_M_inTime, z_u_M_inTime⟩
theorem z_k0_Qu_greatestChoir : ∀ i, i < 36 → z_chk "BreatheAsOne$Questions" false lk_Qu prog_7_method_21_code k_Qu_greatestChoir i = true := by decide +kernel
theorem z_k_Qu_greatestChoir (i : Nat) : z_chk "BreatheAsOne$Questions" false lk_Qu prog_7_method_21_code k_Qu_greatestChoir i = true := z_out_k (z_k0_Qu_greatestChoir i)
theorem z_u0_Qu_greatestChoir : ∀ i, i < 36 → z_chu d_Qu_greatestChoir.2.2.1 3 i = true := by decide +kernel
theorem z_u_Qu_greatestChoir (i : Nat) : z_chu d_Qu_greatestChoir.2.2.1 3 i = true := z_out_u (z_u0_Qu_greatestChoir i)
theorem z_g_Qu_greatestChoir : z_good 274 d_Qu_greatestChoir := ⟨_, _, _, _, _, _, _, _, _, _, _, rfl, by decide +kernel, rfl, by decide +kernel, by decide, z_lk_Qu, z_k_Qu_greatestChoir, z_u_Qu_greatestChoir⟩
theorem z_k0_B_choir : ∀ i, i < 8 → z_chk "BreatheAsOne" false lk_B prog_1_method_33_code k_B_choir i = true := by decide +kernel
theorem z_k_B_choir (i : Nat) : z_chk "BreatheAsOne" false lk_B prog_1_method_33_code k_B_choir i = true := z_out_k (z_k0_B_choir i)
theorem z_u_B_choir (i : Nat) : z_chu d_B_choir.2.2.1 1 i = true := rfl
theorem z_g_B_choir : z_good 275 d_B_choir := ⟨_, _, _, _, _, _, _, _, _, _, _, rfl, by decide +kernel, rfl, by decide +kernel, by decide, z_lk_B, z_k_B_choir, z_u_B_choir⟩
theorem z_k0_M_choir : ∀ i, i < 47 → z_chk "BreatheAsOneModel" false lk_M prog_13_method_112_code k_M_choir i = true := by decide +kernel
theorem z_k_M_choir (i : Nat) : z_chk "BreatheAsOneModel" false lk_M prog_13_method_112_code k_M_choir i = true := z_out_k (z_k0_M_choir i)
theorem z_u0_M_choir : ∀ i, i < 47 → z_chu d_M_choir.2.2.1 3 i = true := by decide +kernel
theorem z_u_M_choir (i : Nat) : z_chu d_M_choir.2.2.1 3 i = true := z_out_u (z_u0_M_choir i)
theorem z_g_M_choir : z_good 276 d_M_choir := ⟨_, _, _, _, _, _, _, _, _, _, _, rfl, by decide +kernel, rfl, by decide +kernel, by decide, z_lk_M, z_k_M_choir, z_u_M_choir⟩
theorem z_k0_Ma_abs : ∀ i, i < 11 → z_chk "java/lang/Math" false lk_Ma prog_17_method_59_code k_Ma_abs i = true := by decide +kernel
theorem z_k_Ma_abs (i : Nat) : z_chk "java/lang/Math" false lk_Ma prog_17_method_59_code k_Ma_abs i = true := z_out_k (z_k0_Ma_abs i)
theorem z_u_Ma_abs (i : Nat) : z_chu d_Ma_abs.2.2.1 1 i = true := rfl
theorem z_g_Ma_abs : z_good 277 d_Ma_abs := ⟨_, _, _, _, _, _, _, _, _, _, _, rfl, by decide +kernel, rfl, by decide +kernel, by decide, z_lk_Ma, z_k_Ma_abs, z_u_Ma_abs⟩
theorem z_k0_Qu_greatestDivisor : ∀ i, i < 59 → z_chk "BreatheAsOne$Questions" false lk_Qu prog_7_method_23_code k_Qu_greatestDivisor i = true := by decide +kernel
theorem z_k_Qu_greatestDivisor (i : Nat) : z_chk "BreatheAsOne$Questions" false lk_Qu prog_7_method_23_code k_Qu_greatestDivisor i = true := z_out_k (z_k0_Qu_greatestDivisor i)
theorem z_u0_Qu_greatestDivisor : ∀ i, i < 59 → z_chu d_Qu_greatestDivisor.2.2.1 11 i = true := by decide +kernel
theorem z_u_Qu_greatestDivisor (i : Nat) : z_chu d_Qu_greatestDivisor.2.2.1 11 i = true := z_out_u (z_u0_Qu_greatestDivisor i)
theorem z_g_Qu_greatestDivisor : z_good 278 d_Qu_greatestDivisor := ⟨_, _, _, _, _, _, _, _, _, _, _, rfl, by decide +kernel, rfl, by decide +kernel, by decide, z_lk_Qu, z_k_Qu_greatestDivisor, z_u_Qu_greatestDivisor⟩
theorem z_k0_Qu_odds : ∀ i, i < 171 → z_chk "BreatheAsOne$Questions" false lk_Qu prog_7_method_22_code k_Qu_odds i = true := by decide +kernel
theorem z_k_Qu_odds (i : Nat) : z_chk "BreatheAsOne$Questions" false lk_Qu prog_7_method_22_code k_Qu_odds i = true := z_out_k (z_k0_Qu_odds i)
theorem z_u0_Qu_odds : ∀ i, i < 171 → z_chu d_Qu_odds.2.2.1 14 i = true := by decide +kernel
theorem z_u_Qu_odds (i : Nat) : z_chu d_Qu_odds.2.2.1 14 i = true := z_out_u (z_u0_Qu_odds i)
theorem z_g_Qu_odds : z_good 279 d_Qu_odds := ⟨_, _, _, _, _, _, _, _, _, _, _, rfl, by decide +kernel, rfl, by decide +kernel, by decide, z_lk_Qu, z_k_Qu_odds, z_u_Qu_odds⟩
theorem z_k0_B_comes : ∀ i, i < 37 → z_chk "BreatheAsOne" false lk_B prog_1_method_34_code k_B_comes i = true := by decide +kernel
theorem z_k_B_comes (i : Nat) : z_chk "BreatheAsOne" false lk_B prog_1_method_34_code k_B_comes i = true := z_out_k (z_k0_B_comes i)
theorem z_u_B_comes (i : Nat) : z_chu d_B_comes.2.2.1 4 i = true := rfl
theorem z_g_B_comes : z_good 280 d_B_comes := ⟨_, _, _, _, _, _, _, _, _, _, _, rfl, by decide +kernel, rfl, by decide +kernel, by decide, z_lk_B, z_k_B_comes, z_u_B_comes⟩
theorem z_k0_M_common : ∀ i, i < 34 → z_chk "BreatheAsOneModel" false lk_M prog_13_method_113_code k_M_common i = true := by decide +kernel
theorem z_k_M_common (i : Nat) : z_chk "BreatheAsOneModel" false lk_M prog_13_method_113_code k_M_common i = true := z_out_k (z_k0_M_common i)
theorem z_u0_M_common : ∀ i, i < 34 → z_chu d_M_common.2.2.1 10 i = true := by decide +kernel
theorem z_u_M_common (i : Nat) : z_chu d_M_common.2.2.1 10 i = true := z_out_u (z_u0_M_common i)
theorem z_g_M_common : z_good 281 d_M_common := ⟨_, _, _, _, _, _, _, _, _, _, _, rfl, by decide +kernel, rfl, by decide +kernel, by decide, z_lk_M, z_k_M_common, z_u_M_common⟩
theorem z_k0_M_comes : ∀ i, i < 184 → z_chk "BreatheAsOneModel" false lk_M prog_13_method_114_code k_M_comes i = true := by decide +kernel
theorem z_k_M_comes (i : Nat) : z_chk "BreatheAsOneModel" false lk_M prog_13_method_114_code k_M_comes i = true := z_out_k (z_k0_M_comes i)
theorem z_u0_M_comes : ∀ i, i < 184 → z_chu d_M_comes.2.2.1 10 i = true := by decide +kernel
theorem z_u_M_comes (i : Nat) : z_chu d_M_comes.2.2.1 10 i = true := z_out_u (z_u0_M_comes i)
theorem z_g_M_comes : z_good 282 d_M_comes := ⟨_, _, _, _, _, _, _, _, _, _, _, rfl, by decide +kernel, rfl, by decide +kernel, by decide, z_lk_M, z_k_M_comes, z_u_M_comes⟩
theorem z_k0_Qu_airNeeded : ∀ i, i < 149 → z_chk "BreatheAsOne$Questions" false lk_Qu prog_7_method_24_code k_Qu_airNeeded i = true := by decide +kernel
theorem z_k_Qu_airNeeded (i : Nat) : z_chk "BreatheAsOne$Questions" false lk_Qu prog_7_method_24_code k_Qu_airNeeded i = true := z_out_k (z_k0_Qu_airNeeded i)
theorem z_u0_Qu_airNeeded : ∀ i, i < 149 → z_chu d_Qu_airNeeded.2.2.1 9 i = true := by decide +kernel
theorem z_u_Qu_airNeeded (i : Nat) : z_chu d_Qu_airNeeded.2.2.1 9 i = true := z_out_u (z_u0_Qu_airNeeded i)
theorem z_g_Qu_airNeeded : z_good 283 d_Qu_airNeeded := ⟨_, _, _, _, _, _, _, _, _, _, _, rfl, by decide +kernel, rfl, by decide +kernel, by decide, z_lk_Qu, z_k_Qu_airNeeded, z_u_Qu_airNeeded⟩
theorem z_k0_B_needed : ∀ i, i < 10 → z_chk "BreatheAsOne" false lk_B prog_1_method_35_code k_B_needed i = true := by decide +kernel
theorem z_k_B_needed (i : Nat) : z_chk "BreatheAsOne" false lk_B prog_1_method_35_code k_B_needed i = true := z_out_k (z_k0_B_needed i)
theorem z_u_B_needed (i : Nat) : z_chu d_B_needed.2.2.1 3 i = true := rfl
theorem z_g_B_needed : z_good 284 d_B_needed := ⟨_, _, _, _, _, _, _, _, _, _, _, rfl, by decide +kernel, rfl, by decide +kernel, by decide, z_lk_B, z_k_B_needed, z_u_B_needed⟩
theorem z_k0_M_needed : ∀ i, i < 162 → z_chk "BreatheAsOneModel" false lk_M prog_13_method_115_code k_M_needed i = true := by decide +kernel
theorem z_k_M_needed (i : Nat) : z_chk "BreatheAsOneModel" false lk_M prog_13_method_115_code k_M_needed i = true := z_out_k (z_k0_M_needed i)
theorem z_u0_M_needed : ∀ i, i < 162 → z_chu d_M_needed.2.2.1 9 i = true := by decide +kernel
theorem z_u_M_needed (i : Nat) : z_chu d_M_needed.2.2.1 9 i = true := z_out_u (z_u0_M_needed i)
theorem z_g_M_needed : z_good 285 d_M_needed := ⟨_, _, _, _, _, _, _, _, _, _, _, rfl, by decide +kernel, rfl, by decide +kernel, by decide, z_lk_M, z_k_M_needed, z_u_M_needed⟩
theorem z_k0_Ga_takeSide : ∀ i, i < 157 → z_chk "BreatheAsOne$Games" false lk_Ga prog_4_method_14_code k_Ga_takeSide i = true := by decide +kernel
theorem z_k_Ga_takeSide (i : Nat) : z_chk "BreatheAsOne$Games" false lk_Ga prog_4_method_14_code k_Ga_takeSide i = true := z_out_k (z_k0_Ga_takeSide i)
theorem z_u0_Ga_takeSide : ∀ i, i < 157 → z_chu d_Ga_takeSide.2.2.1 10 i = true := by decide +kernel
theorem z_u_Ga_takeSide (i : Nat) : z_chu d_Ga_takeSide.2.2.1 10 i = true := z_out_u (z_u0_Ga_takeSide i)
theorem z_g_Ga_takeSide : z_good 286 d_Ga_takeSide := ⟨_, _, _, _, _, _, _, _, _, _, _, rfl, by decide +kernel, rfl, by decide +kernel, by decide, z_lk_Ga, z_k_Ga_takeSide, z_u_Ga_takeSide⟩
theorem z_k0_Ga_firstMove : ∀ i, i < 75 → z_chk "BreatheAsOne$Games" false lk_Ga prog_4_method_15_code k_Ga_firstMove i = true := by decide +kernel
theorem z_k_Ga_firstMove (i : Nat) : z_chk "BreatheAsOne$Games" false lk_Ga prog_4_method_15_code k_Ga_firstMove i = true := z_out_k (z_k0_Ga_firstMove i)
theorem z_u0_Ga_firstMove : ∀ i, i < 75 → z_chu d_Ga_firstMove.2.2.1 7 i = true := by decide +kernel
theorem z_u_Ga_firstMove (i : Nat) : z_chu d_Ga_firstMove.2.2.1 7 i = true := z_out_u (z_u0_Ga_firstMove i)
theorem z_g_Ga_firstMove : z_good 287 d_Ga_firstMove := ⟨_, _, _, _, _, _, _, _, _, _, _, rfl, by decide +kernel, rfl, by decide +kernel, by decide, z_lk_Ga, z_k_Ga_firstMove, z_u_Ga_firstMove⟩
theorem z_k0_Ga_secondWins : ∀ i, i < 74 → z_chk "BreatheAsOne$Games" false lk_Ga prog_4_method_16_code k_Ga_secondWins i = true := by decide +kernel
theorem z_k_Ga_secondWins (i : Nat) : z_chk "BreatheAsOne$Games" false lk_Ga prog_4_method_16_code k_Ga_secondWins i = true := z_out_k (z_k0_Ga_secondWins i)
theorem z_u0_Ga_secondWins : ∀ i, i < 74 → z_chu d_Ga_secondWins.2.2.1 7 i = true := by decide +kernel
theorem z_u_Ga_secondWins (i : Nat) : z_chu d_Ga_secondWins.2.2.1 7 i = true := z_out_u (z_u0_Ga_secondWins i)
theorem z_g_Ga_secondWins : z_good 288 d_Ga_secondWins := ⟨_, _, _, _, _, _, _, _, _, _, _, rfl, by decide +kernel, rfl, by decide +kernel, by decide, z_lk_Ga, z_k_Ga_secondWins, z_u_Ga_secondWins⟩
theorem z_k0_Ga_fight : ∀ i, i < 249 → z_chk "BreatheAsOne$Games" false lk_Ga prog_4_method_13_code k_Ga_fight i = true := by decide +kernel
theorem z_k_Ga_fight (i : Nat) : z_chk "BreatheAsOne$Games" false lk_Ga prog_4_method_13_code k_Ga_fight i = true := z_out_k (z_k0_Ga_fight i)
theorem z_u0_Ga_fight : ∀ i, i < 249 → z_chu d_Ga_fight.2.2.1 12 i = true := by decide +kernel
theorem z_u_Ga_fight (i : Nat) : z_chu d_Ga_fight.2.2.1 12 i = true := z_out_u (z_u0_Ga_fight i)
theorem z_g_Ga_fight : z_good 289 d_Ga_fight := ⟨_, _, _, _, _, _, _, _, _, _, _, rfl, by decide +kernel, rfl, by decide +kernel, by decide, z_lk_Ga, z_k_Ga_fight, z_u_Ga_fight⟩
theorem z_k0_B_duel : ∀ i, i < 50 → z_chk "BreatheAsOne" false lk_B prog_1_method_36_code k_B_duel i = true := by decide +kernel
theorem z_k_B_duel (i : Nat) : z_chk "BreatheAsOne" false lk_B prog_1_method_36_code k_B_duel i = true := z_out_k (z_k0_B_duel i)
theorem z_u_B_duel (i : Nat) : z_chu d_B_duel.2.2.1 5 i = true := rfl
theorem z_g_B_duel : z_good 290 d_B_duel := ⟨_, _, _, _, _, _, _, _, _, _, _, rfl, by decide +kernel, rfl, by decide +kernel, by decide, z_lk_B, z_k_B_duel, z_u_B_duel⟩
theorem z_k0_M_laySides : ∀ i, i < 131 → z_chk "BreatheAsOneModel" false lk_M prog_13_method_116_code k_M_laySides i = true := by decide +kernel
theorem z_k_M_laySides (i : Nat) : z_chk "BreatheAsOneModel" false lk_M prog_13_method_116_code k_M_laySides i = true := z_out_k (z_k0_M_laySides i)
theorem z_u0_M_laySides : ∀ i, i < 131 → z_chu d_M_laySides.2.2.1 6 i = true := by decide +kernel
theorem z_u_M_laySides (i : Nat) : z_chu d_M_laySides.2.2.1 6 i = true := z_out_u (z_u0_M_laySides i)
theorem z_g_M_laySides : z_good 291 d_M_laySides := ⟨_, _, _, _, _, _, _, _, _, _, _, rfl, by decide +kernel, rfl, by decide +kernel, by decide, z_lk_M, z_k_M_laySides, z_u_M_laySides⟩
theorem z_k0_M_findFalls : ∀ i, i < 150 → z_chk "BreatheAsOneModel" false lk_M prog_13_method_117_code k_M_findFalls i = true := by decide +kernel
theorem z_k_M_findFalls (i : Nat) : z_chk "BreatheAsOneModel" false lk_M prog_13_method_117_code k_M_findFalls i = true := z_out_k (z_k0_M_findFalls i)
theorem z_u0_M_findFalls : ∀ i, i < 150 → z_chu d_M_findFalls.2.2.1 4 i = true := by decide +kernel
theorem z_u_M_findFalls (i : Nat) : z_chu d_M_findFalls.2.2.1 4 i = true := z_out_u (z_u0_M_findFalls i)
theorem z_g_M_findFalls : z_good 292 d_M_findFalls := ⟨_, _, _, _, _, _, _, _, _, _, _, rfl, by decide +kernel, rfl, by decide +kernel, by decide, z_lk_M, z_k_M_findFalls, z_u_M_findFalls⟩
theorem z_k0_M_isGood : ∀ i, i < 74 → z_chk "BreatheAsOneModel" false lk_M prog_13_method_118_code k_M_isGood i = true := by decide +kernel
theorem z_k_M_isGood (i : Nat) : z_chk "BreatheAsOneModel" false lk_M prog_13_method_118_code k_M_isGood i = true := z_out_k (z_k0_M_isGood i)
theorem z_u0_M_isGood : ∀ i, i < 74 → z_chu d_M_isGood.2.2.1 5 i = true := by decide +kernel
theorem z_u_M_isGood (i : Nat) : z_chu d_M_isGood.2.2.1 5 i = true := z_out_u (z_u0_M_isGood i)
theorem z_g_M_isGood : z_good 293 d_M_isGood := ⟨_, _, _, _, _, _, _, _, _, _, _, rfl, by decide +kernel, rfl, by decide +kernel, by decide, z_lk_M, z_k_M_isGood, z_u_M_isGood⟩
theorem z_k0_M_duel : ∀ i, i < 214 → z_chk "BreatheAsOneModel" false lk_M prog_13_method_119_code k_M_duel i = true := by decide +kernel
theorem z_k_M_duel (i : Nat) : z_chk "BreatheAsOneModel" false lk_M prog_13_method_119_code k_M_duel i = true := z_out_k (z_k0_M_duel i)
theorem z_u0_M_duel : ∀ i, i < 214 → z_chu d_M_duel.2.2.1 8 i = true := by decide +kernel
theorem z_u_M_duel (i : Nat) : z_chu d_M_duel.2.2.1 8 i = true := z_out_u (z_u0_M_duel i)
theorem z_g_M_duel : z_good 294 d_M_duel := ⟨_, _, _, _, _, _, _, _, _, _, _, rfl, by decide +kernel, rfl, by decide +kernel, by decide, z_lk_M, z_k_M_duel, z_u_M_duel⟩
theorem z_k0_To_addBeside : ∀ i, i < 47 → z_chk "BreatheAsOne$Told" false lk_To prog_11_method_2_code k_To_addBeside i = true := by decide +kernel
theorem z_k_To_addBeside (i : Nat) : z_chk "BreatheAsOne$Told" false lk_To prog_11_method_2_code k_To_addBeside i = true := z_out_k (z_k0_To_addBeside i)
theorem z_u_To_addBeside (i : Nat) : z_chu d_To_addBeside.2.2.1 3 i = true := rfl
theorem z_g_To_addBeside : z_good 295 d_To_addBeside := ⟨_, _, _, _, _, _, _, _, _, _, _, rfl, by decide +kernel, rfl, by decide +kernel, by decide, z_lk_To, z_k_To_addBeside, z_u_To_addBeside⟩
theorem z_k0_B_beside : ∀ i, i < 55 → z_chk "BreatheAsOne" false lk_B prog_1_method_37_code k_B_beside i = true := by decide +kernel
theorem z_k_B_beside (i : Nat) : z_chk "BreatheAsOne" false lk_B prog_1_method_37_code k_B_beside i = true := z_out_k (z_k0_B_beside i)
theorem z_u_B_beside (i : Nat) : z_chu d_B_beside.2.2.1 3 i = true := rfl
theorem z_g_B_beside : z_good 296 d_B_beside := ⟨_, _, _, _, _, _, _, _, _, _, _, rfl, by decide +kernel, rfl, by decide +kernel, by decide, z_lk_B, z_k_B_beside, z_u_B_beside⟩
theorem z_k0_M_beside : ∀ i, i < 110 → z_chk "BreatheAsOneModel" false lk_M prog_13_method_120_code k_M_beside i = true := by decide +kernel
theorem z_k_M_beside (i : Nat) : z_chk "BreatheAsOneModel" false lk_M prog_13_method_120_code k_M_beside i = true := z_out_k (z_k0_M_beside i)
theorem z_u_M_beside (i : Nat) : z_chu d_M_beside.2.2.1 3 i = true := rfl
theorem z_g_M_beside : z_good 297 d_M_beside := ⟨_, _, _, _, _, _, _, _, _, _, _, rfl, by decide +kernel, rfl, by decide +kernel, by decide, z_lk_M, z_k_M_beside, z_u_M_beside⟩
theorem z_k0_Ga_isAsTold : ∀ i, i < 92 → z_chk "BreatheAsOne$Games" false lk_Ga prog_4_method_12_code k_Ga_isAsTold i = true := by decide +kernel
theorem z_k_Ga_isAsTold (i : Nat) : z_chk "BreatheAsOne$Games" false lk_Ga prog_4_method_12_code k_Ga_isAsTold i = true := z_out_k (z_k0_Ga_isAsTold i)
theorem z_u0_Ga_isAsTold : ∀ i, i < 92 → z_chu d_Ga_isAsTold.2.2.1 5 i = true := by decide +kernel
theorem z_u_Ga_isAsTold (i : Nat) : z_chu d_Ga_isAsTold.2.2.1 5 i = true := z_out_u (z_u0_Ga_isAsTold i)
theorem z_g_Ga_isAsTold : z_good 298 d_Ga_isAsTold := ⟨_, _, _, _, _, _, _, _, _, _, _, rfl, by decide +kernel, rfl, by decide +kernel, by decide, z_lk_Ga, z_k_Ga_isAsTold, z_u_Ga_isAsTold⟩
theorem z_k0_Ga_seatings : ∀ i, i < 138 → z_chk "BreatheAsOne$Games" false lk_Ga prog_4_method_11_code k_Ga_seatings i = true := by decide +kernel
theorem z_k_Ga_seatings (i : Nat) : z_chk "BreatheAsOne$Games" false lk_Ga prog_4_method_11_code k_Ga_seatings i = true := z_out_k (z_k0_Ga_seatings i)
theorem z_u0_Ga_seatings : ∀ i, i < 138 → z_chu d_Ga_seatings.2.2.1 9 i = true := by decide +kernel
theorem z_u_Ga_seatings (i : Nat) : z_chu d_Ga_seatings.2.2.1 9 i = true := z_out_u (z_u0_Ga_seatings i)
theorem z_g_Ga_seatings : z_good 299 d_Ga_seatings := ⟨_, _, _, _, _, _, _, _, _, _, _, rfl, by decide +kernel, rfl, by decide +kernel, by decide, z_lk_Ga, z_k_Ga_seatings, z_u_Ga_seatings⟩
theorem z_k0_B_chairs : ∀ i, i < 11 → z_chk "BreatheAsOne" false lk_B prog_1_method_38_code k_B_chairs i = true := by decide +kernel
theorem z_k_B_chairs (i : Nat) : z_chk "BreatheAsOne" false lk_B prog_1_method_38_code k_B_chairs i = true := z_out_k (z_k0_B_chairs i)
theorem z_u_B_chairs (i : Nat) : z_chu d_B_chairs.2.2.1 4 i = true := rfl
theorem z_g_B_chairs : z_good 300 d_B_chairs := ⟨_, _, _, _, _, _, _, _, _, _, _, rfl, by decide +kernel, rfl, by decide +kernel, by decide, z_lk_B, z_k_B_chairs, z_u_B_chairs⟩
theorem z_k0_M_nthOf : ∀ i, i < 30 → z_chk "BreatheAsOneModel" false lk_M prog_13_method_121_code k_M_nthOf i = true := by decide +kernel
theorem z_k_M_nthOf (i : Nat) : z_chk "BreatheAsOneModel" false lk_M prog_13_method_121_code k_M_nthOf i = true := z_out_k (z_k0_M_nthOf i)
theorem z_u0_M_nthOf : ∀ i, i < 30 → z_chu d_M_nthOf.2.2.1 3 i = true := by decide +kernel
theorem z_u_M_nthOf (i : Nat) : z_chu d_M_nthOf.2.2.1 3 i = true := z_out_u (z_u0_M_nthOf i)
theorem z_g_M_nthOf : z_good 301 d_M_nthOf := ⟨_, _, _, _, _, _, _, _, _, _, _, rfl, by decide +kernel, rfl, by decide +kernel, by decide, z_lk_M, z_k_M_nthOf, z_u_M_nthOf⟩
theorem z_k0_M_isAsTold : ∀ i, i < 103 → z_chk "BreatheAsOneModel" false lk_M prog_13_method_122_code k_M_isAsTold i = true := by decide +kernel
theorem z_k_M_isAsTold (i : Nat) : z_chk "BreatheAsOneModel" false lk_M prog_13_method_122_code k_M_isAsTold i = true := z_out_k (z_k0_M_isAsTold i)
theorem z_u0_M_isAsTold : ∀ i, i < 103 → z_chu d_M_isAsTold.2.2.1 4 i = true := by decide +kernel
theorem z_u_M_isAsTold (i : Nat) : z_chu d_M_isAsTold.2.2.1 4 i = true := z_out_u (z_u0_M_isAsTold i)
theorem z_g_M_isAsTold : z_good 302 d_M_isAsTold := ⟨_, _, _, _, _, _, _, _, _, _, _, rfl, by decide +kernel, rfl, by decide +kernel, by decide, z_lk_M, z_k_M_isAsTold, z_u_M_isAsTold⟩
theorem z_k0_M_chairs : ∀ i, i < 142 → z_chk "BreatheAsOneModel" false lk_M prog_13_method_123_code k_M_chairs i = true := by decide +kernel
theorem z_k_M_chairs (i : Nat) : z_chk "BreatheAsOneModel" false lk_M prog_13_method_123_code k_M_chairs i = true := z_out_k (z_k0_M_chairs i)
theorem z_u0_M_chairs : ∀ i, i < 142 → z_chu d_M_chairs.2.2.1 7 i = true := by decide +kernel
theorem z_u_M_chairs (i : Nat) : z_chu d_M_chairs.2.2.1 7 i = true := z_out_u (z_u0_M_chairs i)
theorem z_g_M_chairs : z_good 303 d_M_chairs := ⟨_, _, _, _, _, _, _, _, _, _, _, rfl, by decide +kernel, rfl, by decide +kernel, by decide, z_lk_M, z_k_M_chairs, z_u_M_chairs⟩
theorem z_k0_Qu_lawsBy : ∀ i, i < 49 → z_chk "BreatheAsOne$Questions" false lk_Qu prog_7_method_5_code k_Qu_lawsBy i = true := by decide +kernel
theorem z_k_Qu_lawsBy (i : Nat) : z_chk "BreatheAsOne$Questions" false lk_Qu prog_7_method_5_code k_Qu_lawsBy i = true := z_out_k (z_k0_Qu_lawsBy i)
theorem z_u0_Qu_lawsBy : ∀ i, i < 49 → z_chu d_Qu_lawsBy.2.2.1 4 i = true := by decide +kernel
theorem z_u_Qu_lawsBy (i : Nat) : z_chu d_Qu_lawsBy.2.2.1 4 i = true := z_out_u (z_u0_Qu_lawsBy i)
theorem z_g_Qu_lawsBy : z_good 304 d_Qu_lawsBy := ⟨_, _, _, _, _, _, _, _, _, _, _, rfl, by decide +kernel, rfl, by decide +kernel, by decide, z_lk_Qu, z_k_Qu_lawsBy, z_u_Qu_lawsBy⟩
theorem z_k0_B_whoseLaw : ∀ i, i < 24 → z_chk "BreatheAsOne" false lk_B prog_1_method_39_code k_B_whoseLaw i = true := by decide +kernel
theorem z_k_B_whoseLaw (i : Nat) : z_chk "BreatheAsOne" false lk_B prog_1_method_39_code k_B_whoseLaw i = true := z_out_k (z_k0_B_whoseLaw i)
theorem z_u_B_whoseLaw (i : Nat) : z_chu d_B_whoseLaw.2.2.1 2 i = true := rfl
theorem z_g_B_whoseLaw : z_good 305 d_B_whoseLaw := ⟨_, _, _, _, _, _, _, _, _, _, _, rfl, by decide +kernel, rfl, by decide +kernel, by decide, z_lk_B, z_k_B_whoseLaw, z_u_B_whoseLaw⟩
theorem z_k0_M_whoseLaw : ∀ i, i < 122 → z_chk "BreatheAsOneModel" false lk_M prog_13_method_124_code k_M_whoseLaw i = true := by decide +kernel
theorem z_k_M_whoseLaw (i : Nat) : z_chk "BreatheAsOneModel" false lk_M prog_13_method_124_code k_M_whoseLaw i = true := z_out_k (z_k0_M_whoseLaw i)
theorem z_u0_M_whoseLaw : ∀ i, i < 122 → z_chu d_M_whoseLaw.2.2.1 6 i = true := by decide +kernel
theorem z_u_M_whoseLaw (i : Nat) : z_chu d_M_whoseLaw.2.2.1 6 i = true := z_out_u (z_u0_M_whoseLaw i)
theorem z_g_M_whoseLaw : z_good 306 d_M_whoseLaw := ⟨_, _, _, _, _, _, _, _, _, _, _, rfl, by decide +kernel, rfl, by decide +kernel, by decide, z_lk_M, z_k_M_whoseLaw, z_u_M_whoseLaw⟩
theorem z_k0_To_addSeen : ∀ i, i < 57 → z_chk "BreatheAsOne$Told" false lk_To prog_11_method_3_code k_To_addSeen i = true := by decide +kernel
theorem z_k_To_addSeen (i : Nat) : z_chk "BreatheAsOne$Told" false lk_To prog_11_method_3_code k_To_addSeen i = true := z_out_k (z_k0_To_addSeen i)
theorem z_u_To_addSeen (i : Nat) : z_chu d_To_addSeen.2.2.1 4 i = true := rfl
theorem z_g_To_addSeen : z_good 307 d_To_addSeen := ⟨_, _, _, _, _, _, _, _, _, _, _, rfl, by decide +kernel, rfl, by decide +kernel, by decide, z_lk_To, z_k_To_addSeen, z_u_To_addSeen⟩
