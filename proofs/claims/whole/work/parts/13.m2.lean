/-! each method: its code, links and cuts, checked by the kernel -/
theorem z_k0_M_worded : ∀ i, i < 24 → z_chk "BreatheAsOneModel" false lk_M prog_13_method_47_code k_M_worded i = true := by decide +kernel
theorem z_k_M_worded (i : Nat) : z_chk "BreatheAsOneModel" false lk_M prog_13_method_47_code k_M_worded i = true := z_out_k (z_k0_M_worded i)
theorem z_u_M_worded (i : Nat) : z_chu d_M_worded.2.2.1 6 i = true := rfl
theorem z_g_M_worded : z_good 106 d_M_worded := ⟨_, _, _, _, _, _, _, _, _, _, _, rfl, by decide +kernel, rfl, by decide +kernel, by decide, z_lk_M, z_k_M_worded, z_u_M_worded⟩
theorem z_k0_M_pair : ∀ i, i < 33 → z_chk "BreatheAsOneModel" false lk_M prog_13_method_50_code k_M_pair i = true := by decide +kernel
theorem z_k_M_pair (i : Nat) : z_chk "BreatheAsOneModel" false lk_M prog_13_method_50_code k_M_pair i = true := z_out_k (z_k0_M_pair i)
theorem z_u_M_pair (i : Nat) : z_chu d_M_pair.2.2.1 7 i = true := rfl
theorem z_g_M_pair : z_good 107 d_M_pair := ⟨_, _, _, _, _, _, _, _, _, _, _, rfl, by decide +kernel, rfl, by decide +kernel, by decide, z_lk_M, z_k_M_pair, z_u_M_pair⟩
theorem z_k0_M_oneClause : ∀ i, i < 71 → z_chk "BreatheAsOneModel" false lk_M prog_13_method_49_code k_M_oneClause i = true := by decide +kernel
theorem z_k_M_oneClause (i : Nat) : z_chk "BreatheAsOneModel" false lk_M prog_13_method_49_code k_M_oneClause i = true := z_out_k (z_k0_M_oneClause i)
theorem z_u_M_oneClause (i : Nat) : z_chu d_M_oneClause.2.2.1 3 i = true := rfl
theorem z_g_M_oneClause : z_good 108 d_M_oneClause := ⟨_, _, _, _, _, _, _, _, _, _, _, rfl, by decide +kernel, rfl, by decide +kernel, by decide, z_lk_M, z_k_M_oneClause, z_u_M_oneClause⟩
theorem z_k0_M_body : ∀ i, i < 185 → z_chk "BreatheAsOneModel" false lk_M prog_13_method_51_code k_M_body i = true := by decide +kernel
theorem z_k_M_body (i : Nat) : z_chk "BreatheAsOneModel" false lk_M prog_13_method_51_code k_M_body i = true := z_out_k (z_k0_M_body i)
theorem z_u_M_body (i : Nat) : z_chu d_M_body.2.2.1 3 i = true := rfl
theorem z_g_M_body : z_good 109 d_M_body := ⟨_, _, _, _, _, _, _, _, _, _, _, rfl, by decide +kernel, rfl, by decide +kernel, by decide, z_lk_M, z_k_M_body, z_u_M_body⟩
theorem z_k0_M_clause : ∀ i, i < 138 → z_chk "BreatheAsOneModel" false lk_M prog_13_method_53_code k_M_clause i = true := by decide +kernel
theorem z_k_M_clause (i : Nat) : z_chk "BreatheAsOneModel" false lk_M prog_13_method_53_code k_M_clause i = true := z_out_k (z_k0_M_clause i)
theorem z_u0_M_clause : ∀ i, i < 138 → z_chu d_M_clause.2.2.1 5 i = true := by decide +kernel
theorem z_u_M_clause (i : Nat) : z_chu d_M_clause.2.2.1 5 i = true := z_out_u (z_u0_M_clause i)
theorem z_g_M_clause : z_good 110 d_M_clause := ⟨_, _, _, _, _, _, _, _, _, _, _, rfl, by decide +kernel, rfl, by decide +kernel, by decide, z_lk_M, z_k_M_clause, z_u_M_clause⟩
theorem z_k0_M_readText : ∀ i, i < 66 → z_chk "BreatheAsOneModel" false lk_M prog_13_method_54_code k_M_readText i = true := by decide +kernel
theorem z_k_M_readText (i : Nat) : z_chk "BreatheAsOneModel" false lk_M prog_13_method_54_code k_M_readText i = true := z_out_k (z_k0_M_readText i)
theorem z_u0_M_readText : ∀ i, i < 66 → z_chu d_M_readText.2.2.1 2 i = true := by decide +kernel
theorem z_u_M_readText (i : Nat) : z_chu d_M_readText.2.2.1 2 i = true := z_out_u (z_u0_M_readText i)
theorem z_g_M_readText : z_good 111 d_M_readText := ⟨_, _, _, _, _, _, _, _, _, _, _, rfl, by decide +kernel, rfl, by decide +kernel, by decide, z_lk_M, z_k_M_readText, z_u_M_readText⟩
theorem z_k0_M_text : ∀ i, i < 72 → z_chk "BreatheAsOneModel" false lk_M prog_13_method_55_code k_M_text i = true := by decide +kernel
theorem z_k_M_text (i : Nat) : z_chk "BreatheAsOneModel" false lk_M prog_13_method_55_code k_M_text i = true := z_out_k (z_k0_M_text i)
theorem z_u_M_text (i : Nat) : z_chu d_M_text.2.2.1 1 i = true := rfl
theorem z_g_M_text : z_good 112 d_M_text := ⟨_, _, _, _, _, _, _, _, _, _, _, rfl, by decide +kernel, rfl, by decide +kernel, by decide, z_lk_M, z_k_M_text, z_u_M_text⟩
theorem z_k0_B_fault : ∀ i, i < 43 → z_chk "BreatheAsOne" false lk_B prog_1_method_9_code k_B_fault i = true := by decide +kernel
theorem z_k_B_fault (i : Nat) : z_chk "BreatheAsOne" false lk_B prog_1_method_9_code k_B_fault i = true := z_out_k (z_k0_B_fault i)
theorem z_u_B_fault (i : Nat) : z_chu d_B_fault.2.2.1 2 i = true := rfl
theorem z_g_B_fault : z_good 113 d_B_fault := ⟨_, _, _, _, _, _, _, _, _, _, _, rfl, by decide +kernel, rfl, by decide +kernel, by decide, z_lk_B, z_k_B_fault, z_u_B_fault⟩
theorem z_k0_M_fault : ∀ i, i < 25 → z_chk "BreatheAsOneModel" false lk_M prog_13_method_56_code k_M_fault i = true := by decide +kernel
theorem z_k_M_fault (i : Nat) : z_chk "BreatheAsOneModel" false lk_M prog_13_method_56_code k_M_fault i = true := z_out_k (z_k0_M_fault i)
theorem z_u_M_fault (i : Nat) : z_chu d_M_fault.2.2.1 2 i = true := rfl
theorem z_g_M_fault : z_good 114 d_M_fault := ⟨_, _, _, _, _, _, _, _, _, _, _, rfl, by decide +kernel, rfl, by decide +kernel, by decide, z_lk_M, z_k_M_fault, z_u_M_fault⟩
theorem z_k0_H_hasText : ∀ i, i < 18 → z_chk "BreatheAsOne$House" false lk_H prog_5_method_9_code k_H_hasText i = true := by decide +kernel
theorem z_k_H_hasText (i : Nat) : z_chk "BreatheAsOne$House" false lk_H prog_5_method_9_code k_H_hasText i = true := z_out_k (z_k0_H_hasText i)
theorem z_u_H_hasText (i : Nat) : z_chu d_H_hasText.2.2.1 2 i = true := rfl
theorem z_g_H_hasText : z_good 115 d_H_hasText := ⟨_, _, _, _, _, _, _, _, _, _, _, rfl, by decide +kernel, rfl, by decide +kernel, by decide, z_lk_H, z_k_H_hasText, z_u_H_hasText⟩
theorem z_k0_B_by : ∀ i, i < 28 → z_chk "BreatheAsOne" false lk_B prog_1_method_10_code k_B_by i = true := by decide +kernel
theorem z_k_B_by (i : Nat) : z_chk "BreatheAsOne" false lk_B prog_1_method_10_code k_B_by i = true := z_out_k (z_k0_B_by i)
theorem z_u_B_by (i : Nat) : z_chu d_B_by.2.2.1 2 i = true := rfl
theorem z_g_B_by : z_good 116 d_B_by := ⟨_, _, _, _, _, _, _, _, _, _, _, rfl, by decide +kernel, rfl, by decide +kernel, by decide, z_lk_B, z_k_B_by, z_u_B_by⟩
theorem z_k0_M_by : ∀ i, i < 28 → z_chk "BreatheAsOneModel" false lk_M prog_13_method_57_code k_M_by i = true := by decide +kernel
theorem z_k_M_by (i : Nat) : z_chk "BreatheAsOneModel" false lk_M prog_13_method_57_code k_M_by i = true := z_out_k (z_k0_M_by i)
theorem z_u_M_by (i : Nat) : z_chu d_M_by.2.2.1 2 i = true := rfl
theorem z_g_M_by : z_good 117 d_M_by := ⟨_, _, _, _, _, _, _, _, _, _, _, rfl, by decide +kernel, rfl, by decide +kernel, by decide, z_lk_M, z_k_M_by, z_u_M_by⟩
theorem z_k0_H_hasPerson : ∀ i, i < 18 → z_chk "BreatheAsOne$House" false lk_H prog_5_method_7_code k_H_hasPerson i = true := by decide +kernel
theorem z_k_H_hasPerson (i : Nat) : z_chk "BreatheAsOne$House" false lk_H prog_5_method_7_code k_H_hasPerson i = true := z_out_k (z_k0_H_hasPerson i)
theorem z_u_H_hasPerson (i : Nat) : z_chu d_H_hasPerson.2.2.1 2 i = true := rfl
theorem z_g_H_hasPerson : z_good 118 d_H_hasPerson := ⟨_, _, _, _, _, _, _, _, _, _, _, rfl, by decide +kernel, rfl, by decide +kernel, by decide, z_lk_H, z_k_H_hasPerson, z_u_H_hasPerson⟩
theorem z_k0_H_hasSeat : ∀ i, i < 18 → z_chk "BreatheAsOne$House" false lk_H prog_5_method_6_code k_H_hasSeat i = true := by decide +kernel
theorem z_k_H_hasSeat (i : Nat) : z_chk "BreatheAsOne$House" false lk_H prog_5_method_6_code k_H_hasSeat i = true := z_out_k (z_k0_H_hasSeat i)
theorem z_u_H_hasSeat (i : Nat) : z_chu d_H_hasSeat.2.2.1 2 i = true := rfl
theorem z_g_H_hasSeat : z_good 119 d_H_hasSeat := ⟨_, _, _, _, _, _, _, _, _, _, _, rfl, by decide +kernel, rfl, by decide +kernel, by decide, z_lk_H, z_k_H_hasSeat, z_u_H_hasSeat⟩
theorem z_k0_Mo_whoSits : ∀ i, i < 28 → z_chk "BreatheAsOne$Moment" false lk_Mo prog_6_method_2_code k_Mo_whoSits i = true := by decide +kernel
theorem z_k_Mo_whoSits (i : Nat) : z_chk "BreatheAsOne$Moment" false lk_Mo prog_6_method_2_code k_Mo_whoSits i = true := z_out_k (z_k0_Mo_whoSits i)
theorem z_u0_Mo_whoSits : ∀ i, i < 28 → z_chu d_Mo_whoSits.2.2.1 3 i = true := by decide +kernel
theorem z_u_Mo_whoSits (i : Nat) : z_chu d_Mo_whoSits.2.2.1 3 i = true := z_out_u (z_u0_Mo_whoSits i)
theorem z_g_Mo_whoSits : z_good 120 d_Mo_whoSits := ⟨_, _, _, _, _, _, _, _, _, _, _, rfl, by decide +kernel, rfl, by decide +kernel, by decide, z_lk_Mo, z_k_Mo_whoSits, z_u_Mo_whoSits⟩
theorem z_k0_Mo_writeTo : ∀ i, i < 67 → z_chk "BreatheAsOne$Moment" false lk_Mo prog_6_method_6_code k_Mo_writeTo i = true := by decide +kernel
theorem z_k_Mo_writeTo (i : Nat) : z_chk "BreatheAsOne$Moment" false lk_Mo prog_6_method_6_code k_Mo_writeTo i = true := z_out_k (z_k0_Mo_writeTo i)
theorem z_u_Mo_writeTo (i : Nat) : z_chu d_Mo_writeTo.2.2.1 4 i = true := rfl
theorem z_g_Mo_writeTo : z_good 121 d_Mo_writeTo := ⟨_, _, _, _, _, _, _, _, _, _, _, rfl, by decide +kernel, rfl, by decide +kernel, by decide, z_lk_Mo, z_k_Mo_writeTo, z_u_Mo_writeTo⟩
theorem z_k0_St_keep : ∀ i, i < 48 → z_chk "BreatheAsOne$Steps" false lk_St prog_9_method_2_code k_St_keep i = true := by decide +kernel
theorem z_k_St_keep (i : Nat) : z_chk "BreatheAsOne$Steps" false lk_St prog_9_method_2_code k_St_keep i = true := z_out_k (z_k0_St_keep i)
theorem z_u_St_keep (i : Nat) : z_chu d_St_keep.2.2.1 2 i = true := rfl
theorem z_g_St_keep : z_good 122 d_St_keep := ⟨_, _, _, _, _, _, _, _, _, _, _, rfl, by decide +kernel, rfl, by decide +kernel, by decide, z_lk_St, z_k_St_keep, z_u_St_keep⟩
theorem z_k0_De_sits : ∀ i, i < 79 → z_chk "BreatheAsOne$Deeds" false lk_De prog_3_method_2_code k_De_sits i = true := by decide +kernel
theorem z_k_De_sits (i : Nat) : z_chk "BreatheAsOne$Deeds" false lk_De prog_3_method_2_code k_De_sits i = true := z_out_k (z_k0_De_sits i)
theorem z_u_De_sits (i : Nat) : z_chu d_De_sits.2.2.1 3 i = true := rfl
theorem z_g_De_sits : z_good 123 d_De_sits := ⟨_, _, _, _, _, _, _, _, _, _, _, rfl, by decide +kernel, rfl, by decide +kernel, by decide, z_lk_De, z_k_De_sits, z_u_De_sits⟩
theorem z_k0_B_sit : ∀ i, i < 10 → z_chk "BreatheAsOne" false lk_B prog_1_method_11_code k_B_sit i = true := by decide +kernel
theorem z_k_B_sit (i : Nat) : z_chk "BreatheAsOne" false lk_B prog_1_method_11_code k_B_sit i = true := z_out_k (z_k0_B_sit i)
theorem z_u_B_sit (i : Nat) : z_chu d_B_sit.2.2.1 3 i = true := rfl
theorem z_g_B_sit : z_good 124 d_B_sit := ⟨_, _, _, _, _, _, _, _, _, _, _, rfl, by decide +kernel, rfl, by decide +kernel, by decide, z_lk_B, z_k_B_sit, z_u_B_sit⟩
theorem z_k0_M_isPerson : ∀ i, i < 14 → z_chk "BreatheAsOneModel" false lk_M prog_13_method_7_code k_M_isPerson i = true := by decide +kernel
theorem z_k_M_isPerson (i : Nat) : z_chk "BreatheAsOneModel" false lk_M prog_13_method_7_code k_M_isPerson i = true := z_out_k (z_k0_M_isPerson i)
theorem z_u_M_isPerson (i : Nat) : z_chu d_M_isPerson.2.2.1 2 i = true := rfl
theorem z_g_M_isPerson : z_good 125 d_M_isPerson := ⟨_, _, _, _, _, _, _, _, _, _, _, rfl, by decide +kernel, rfl, by decide +kernel, by decide, z_lk_M, z_k_M_isPerson, z_u_M_isPerson⟩
theorem z_k0_M_get : ∀ i, i < 14 → z_chk "BreatheAsOneModel" false lk_M prog_13_method_11_code k_M_get i = true := by decide +kernel
theorem z_k_M_get (i : Nat) : z_chk "BreatheAsOneModel" false lk_M prog_13_method_11_code k_M_get i = true := z_out_k (z_k0_M_get i)
theorem z_u_M_get (i : Nat) : z_chu d_M_get.2.2.1 3 i = true := rfl
theorem z_g_M_get : z_good 126 d_M_get := ⟨_, _, _, _, _, _, _, _, _, _, _, rfl, by decide +kernel, rfl, by decide +kernel, by decide, z_lk_M, z_k_M_get, z_u_M_get⟩
theorem z_k0_M_isSeat : ∀ i, i < 14 → z_chk "BreatheAsOneModel" false lk_M prog_13_method_6_code k_M_isSeat i = true := by decide +kernel
theorem z_k_M_isSeat (i : Nat) : z_chk "BreatheAsOneModel" false lk_M prog_13_method_6_code k_M_isSeat i = true := z_out_k (z_k0_M_isSeat i)
theorem z_u_M_isSeat (i : Nat) : z_chu d_M_isSeat.2.2.1 2 i = true := rfl
theorem z_g_M_isSeat : z_good 127 d_M_isSeat := ⟨_, _, _, _, _, _, _, _, _, _, _, rfl, by decide +kernel, rfl, by decide +kernel, by decide, z_lk_M, z_k_M_isSeat, z_u_M_isSeat⟩
theorem z_k0_M_sitterOf : ∀ i, i < 32 → z_chk "BreatheAsOneModel" false lk_M prog_13_method_13_code k_M_sitterOf i = true := by decide +kernel
theorem z_k_M_sitterOf (i : Nat) : z_chk "BreatheAsOneModel" false lk_M prog_13_method_13_code k_M_sitterOf i = true := z_out_k (z_k0_M_sitterOf i)
theorem z_u0_M_sitterOf : ∀ i, i < 32 → z_chu d_M_sitterOf.2.2.1 3 i = true := by decide +kernel
theorem z_u_M_sitterOf (i : Nat) : z_chu d_M_sitterOf.2.2.1 3 i = true := z_out_u (z_u0_M_sitterOf i)
theorem z_g_M_sitterOf : z_good 128 d_M_sitterOf := ⟨_, _, _, _, _, _, _, _, _, _, _, rfl, by decide +kernel, rfl, by decide +kernel, by decide, z_lk_M, z_k_M_sitterOf, z_u_M_sitterOf⟩
theorem z_k0_M_keep : ∀ i, i < 240 → z_chk "BreatheAsOneModel" false lk_M prog_13_method_76_code k_M_keep i = true := by decide +kernel
theorem z_k_M_keep (i : Nat) : z_chk "BreatheAsOneModel" false lk_M prog_13_method_76_code k_M_keep i = true := z_out_k (z_k0_M_keep i)
theorem z_u0_M_keep : ∀ i, i < 240 → z_chu d_M_keep.2.2.1 3 i = true := by decide +kernel
theorem z_u_M_keep (i : Nat) : z_chu d_M_keep.2.2.1 3 i = true := z_out_u (z_u0_M_keep i)
theorem z_g_M_keep : z_good 129 d_M_keep := ⟨_, _, _, _, _, _, _, _, _, _, _, rfl, by decide +kernel, rfl, by decide +kernel, by decide, z_lk_M, z_k_M_keep, z_u_M_keep⟩
theorem z_k0_M_sit : ∀ i, i < 55 → z_chk "BreatheAsOneModel" false lk_M prog_13_method_78_code k_M_sit i = true := by decide +kernel
theorem z_k_M_sit (i : Nat) : z_chk "BreatheAsOneModel" false lk_M prog_13_method_78_code k_M_sit i = true := z_out_k (z_k0_M_sit i)
theorem z_u_M_sit (i : Nat) : z_chu d_M_sit.2.2.1 3 i = true := rfl
theorem z_g_M_sit : z_good 130 d_M_sit := ⟨_, _, _, _, _, _, _, _, _, _, _, rfl, by decide +kernel, rfl, by decide +kernel, by decide, z_lk_M, z_k_M_sit, z_u_M_sit⟩
theorem z_k0_De_swaps : ∀ i, i < 97 → z_chk "BreatheAsOne$Deeds" false lk_De prog_3_method_3_code k_De_swaps i = true := by decide +kernel
theorem z_k_De_swaps (i : Nat) : z_chk "BreatheAsOne$Deeds" false lk_De prog_3_method_3_code k_De_swaps i = true := z_out_k (z_k0_De_swaps i)
theorem z_u_De_swaps (i : Nat) : z_chu d_De_swaps.2.2.1 5 i = true := rfl
theorem z_g_De_swaps : z_good 131 d_De_swaps := ⟨_, _, _, _, _, _, _, _, _, _, _, rfl, by decide +kernel, rfl, by decide +kernel, by decide, z_lk_De, z_k_De_swaps, z_u_De_swaps⟩
theorem z_k0_B_change : ∀ i, i < 10 → z_chk "BreatheAsOne" false lk_B prog_1_method_12_code k_B_change i = true := by decide +kernel
theorem z_k_B_change (i : Nat) : z_chk "BreatheAsOne" false lk_B prog_1_method_12_code k_B_change i = true := z_out_k (z_k0_B_change i)
theorem z_u_B_change (i : Nat) : z_chu d_B_change.2.2.1 3 i = true := rfl
theorem z_g_B_change : z_good 132 d_B_change := ⟨_, _, _, _, _, _, _, _, _, _, _, rfl, by decide +kernel, rfl, by decide +kernel, by decide, z_lk_B, z_k_B_change, z_u_B_change⟩
theorem z_k0_M_change : ∀ i, i < 75 → z_chk "BreatheAsOneModel" false lk_M prog_13_method_79_code k_M_change i = true := by decide +kernel
theorem z_k_M_change (i : Nat) : z_chk "BreatheAsOneModel" false lk_M prog_13_method_79_code k_M_change i = true := z_out_k (z_k0_M_change i)
theorem z_u_M_change (i : Nat) : z_chu d_M_change.2.2.1 4 i = true := rfl
theorem z_g_M_change : z_good 133 d_M_change := ⟨_, _, _, _, _, _, _, _, _, _, _, rfl, by decide +kernel, rfl, by decide +kernel, by decide, z_lk_M, z_k_M_change, z_u_M_change⟩
theorem z_k0_De_turns : ∀ i, i < 58 → z_chk "BreatheAsOne$Deeds" false lk_De prog_3_method_4_code k_De_turns i = true := by decide +kernel
theorem z_k_De_turns (i : Nat) : z_chk "BreatheAsOne$Deeds" false lk_De prog_3_method_4_code k_De_turns i = true := z_out_k (z_k0_De_turns i)
theorem z_u_De_turns (i : Nat) : z_chu d_De_turns.2.2.1 3 i = true := rfl
theorem z_g_De_turns : z_good 134 d_De_turns := ⟨_, _, _, _, _, _, _, _, _, _, _, rfl, by decide +kernel, rfl, by decide +kernel, by decide, z_lk_De, z_k_De_turns, z_u_De_turns⟩
theorem z_k0_B_be : ∀ i, i < 10 → z_chk "BreatheAsOne" false lk_B prog_1_method_13_code k_B_be i = true := by decide +kernel
theorem z_k_B_be (i : Nat) : z_chk "BreatheAsOne" false lk_B prog_1_method_13_code k_B_be i = true := z_out_k (z_k0_B_be i)
theorem z_u_B_be (i : Nat) : z_chu d_B_be.2.2.1 3 i = true := rfl
theorem z_g_B_be : z_good 135 d_B_be := ⟨_, _, _, _, _, _, _, _, _, _, _, rfl, by decide +kernel, rfl, by decide +kernel, by decide, z_lk_B, z_k_B_be, z_u_B_be⟩
theorem z_k0_M_be : ∀ i, i < 42 → z_chk "BreatheAsOneModel" false lk_M prog_13_method_80_code k_M_be i = true := by decide +kernel
theorem z_k_M_be (i : Nat) : z_chk "BreatheAsOneModel" false lk_M prog_13_method_80_code k_M_be i = true := z_out_k (z_k0_M_be i)
theorem z_u_M_be (i : Nat) : z_chu d_M_be.2.2.1 3 i = true := rfl
theorem z_g_M_be : z_good 136 d_M_be := ⟨_, _, _, _, _, _, _, _, _, _, _, rfl, by decide +kernel, rfl, by decide +kernel, by decide, z_lk_M, z_k_M_be, z_u_M_be⟩
theorem z_k0_B_has : ∀ i, i < 14 → z_chk "BreatheAsOne" false lk_B prog_1_method_46_code k_B_has i = true := by decide +kernel
theorem z_k_B_has (i : Nat) : z_chk "BreatheAsOne" false lk_B prog_1_method_46_code k_B_has i = true := z_out_k (z_k0_B_has i)
theorem z_u_B_has (i : Nat) : z_chu d_B_has.2.2.1 2 i = true := rfl
theorem z_g_B_has : z_good 137 d_B_has := ⟨_, _, _, _, _, _, _, _, _, _, _, rfl, by decide +kernel, rfl, by decide +kernel, by decide, z_lk_B, z_k_B_has, z_u_B_has⟩
theorem z_k0_De_posts : ∀ i, i < 54 → z_chk "BreatheAsOne$Deeds" false lk_De prog_3_method_5_code k_De_posts i = true := by decide +kernel
theorem z_k_De_posts (i : Nat) : z_chk "BreatheAsOne$Deeds" false lk_De prog_3_method_5_code k_De_posts i = true := z_out_k (z_k0_De_posts i)
theorem z_u_De_posts (i : Nat) : z_chu d_De_posts.2.2.1 3 i = true := rfl
theorem z_g_De_posts : z_good 138 d_De_posts := ⟨_, _, _, _, _, _, _, _, _, _, _, rfl, by decide +kernel, rfl, by decide +kernel, by decide, z_lk_De, z_k_De_posts, z_u_De_posts⟩
theorem z_k0_B_usher : ∀ i, i < 10 → z_chk "BreatheAsOne" false lk_B prog_1_method_14_code k_B_usher i = true := by decide +kernel
theorem z_k_B_usher (i : Nat) : z_chk "BreatheAsOne" false lk_B prog_1_method_14_code k_B_usher i = true := z_out_k (z_k0_B_usher i)
theorem z_u_B_usher (i : Nat) : z_chu d_B_usher.2.2.1 3 i = true := rfl
theorem z_g_B_usher : z_good 139 d_B_usher := ⟨_, _, _, _, _, _, _, _, _, _, _, rfl, by decide +kernel, rfl, by decide +kernel, by decide, z_lk_B, z_k_B_usher, z_u_B_usher⟩
theorem z_k0_M_usher : ∀ i, i < 45 → z_chk "BreatheAsOneModel" false lk_M prog_13_method_81_code k_M_usher i = true := by decide +kernel
theorem z_k_M_usher (i : Nat) : z_chk "BreatheAsOneModel" false lk_M prog_13_method_81_code k_M_usher i = true := z_out_k (z_k0_M_usher i)
theorem z_u_M_usher (i : Nat) : z_chu d_M_usher.2.2.1 3 i = true := rfl
theorem z_g_M_usher : z_good 140 d_M_usher := ⟨_, _, _, _, _, _, _, _, _, _, _, rfl, by decide +kernel, rfl, by decide +kernel, by decide, z_lk_M, z_k_M_usher, z_u_M_usher⟩
theorem z_k0_Mo_isCoughing : ∀ i, i < 40 → z_chk "BreatheAsOne$Moment" false lk_Mo prog_6_method_3_code k_Mo_isCoughing i = true := by decide +kernel
theorem z_k_Mo_isCoughing (i : Nat) : z_chk "BreatheAsOne$Moment" false lk_Mo prog_6_method_3_code k_Mo_isCoughing i = true := z_out_k (z_k0_Mo_isCoughing i)
theorem z_u0_Mo_isCoughing : ∀ i, i < 40 → z_chu d_Mo_isCoughing.2.2.1 4 i = true := by decide +kernel
theorem z_u_Mo_isCoughing (i : Nat) : z_chu d_Mo_isCoughing.2.2.1 4 i = true := z_out_u (z_u0_Mo_isCoughing i)
theorem z_g_Mo_isCoughing : z_good 141 d_Mo_isCoughing := ⟨_, _, _, _, _, _, _, _, _, _, _, rfl, by decide +kernel, rfl, by decide +kernel, by decide, z_lk_Mo, z_k_Mo_isCoughing, z_u_Mo_isCoughing⟩
theorem z_k0_Mo_keepCough : ∀ i, i < 55 → z_chk "BreatheAsOne$Moment" false lk_Mo prog_6_method_4_code k_Mo_keepCough i = true := by decide +kernel
theorem z_k_Mo_keepCough (i : Nat) : z_chk "BreatheAsOne$Moment" false lk_Mo prog_6_method_4_code k_Mo_keepCough i = true := z_out_k (z_k0_Mo_keepCough i)
theorem z_u_Mo_keepCough (i : Nat) : z_chu d_Mo_keepCough.2.2.1 2 i = true := rfl
theorem z_g_Mo_keepCough : z_good 142 d_Mo_keepCough := ⟨_, _, _, _, _, _, _, _, _, _, _, rfl, by decide +kernel, rfl, by decide +kernel, by decide, z_lk_Mo, z_k_Mo_keepCough, z_u_Mo_keepCough⟩
theorem z_k0_Mo_draw : ∀ i, i < 27 → z_chk "BreatheAsOne$Moment" false lk_Mo prog_6_method_5_code k_Mo_draw i = true := by decide +kernel
theorem z_k_Mo_draw (i : Nat) : z_chk "BreatheAsOne$Moment" false lk_Mo prog_6_method_5_code k_Mo_draw i = true := z_out_k (z_k0_Mo_draw i)
theorem z_u_Mo_draw (i : Nat) : z_chu d_Mo_draw.2.2.1 2 i = true := rfl
theorem z_g_Mo_draw : z_good 143 d_Mo_draw := ⟨_, _, _, _, _, _, _, _, _, _, _, rfl, by decide +kernel, rfl, by decide +kernel, by decide, z_lk_Mo, z_k_Mo_draw, z_u_Mo_draw⟩
theorem z_k0_H_rulingText : ∀ i, i < 9 → z_chk "BreatheAsOne$House" false lk_H prog_5_method_13_code k_H_rulingText i = true := by decide +kernel
theorem z_k_H_rulingText (i : Nat) : z_chk "BreatheAsOne$House" false lk_H prog_5_method_13_code k_H_rulingText i = true := z_out_k (z_k0_H_rulingText i)
theorem z_u_H_rulingText (i : Nat) : z_chu d_H_rulingText.2.2.1 1 i = true := rfl
theorem z_g_H_rulingText : z_good 144 d_H_rulingText := ⟨_, _, _, _, _, _, _, _, _, _, _, rfl, by decide +kernel, rfl, by decide +kernel, by decide, z_lk_H, z_k_H_rulingText, z_u_H_rulingText⟩
theorem z_k0_Br_timeAs : ∀ i, i < 74 → z_chk "BreatheAsOne$Breathing" false lk_Br prog_2_method_2_code k_Br_timeAs i = true := by decide +kernel
theorem z_k_Br_timeAs (i : Nat) : z_chk "BreatheAsOne$Breathing" false lk_Br prog_2_method_2_code k_Br_timeAs i = true := z_out_k (z_k0_Br_timeAs i)
theorem z_u_Br_timeAs (i : Nat) : z_chu d_Br_timeAs.2.2.1 8 i = true := rfl
theorem z_g_Br_timeAs : z_good 145 d_Br_timeAs := ⟨_, _, _, _, _, _, _, _, _, _, _, rfl, by decide +kernel, rfl, by decide +kernel, by decide, z_lk_Br, z_k_Br_timeAs, z_u_Br_timeAs⟩
theorem z_k0_Br_namePerson : ∀ i, i < 95 → z_chk "BreatheAsOne$Breathing" false lk_Br prog_2_method_14_code k_Br_namePerson i = true := by decide +kernel
theorem z_k_Br_namePerson (i : Nat) : z_chk "BreatheAsOne$Breathing" false lk_Br prog_2_method_14_code k_Br_namePerson i = true := z_out_k (z_k0_Br_namePerson i)
theorem z_u_Br_namePerson (i : Nat) : z_chu d_Br_namePerson.2.2.1 6 i = true := rfl
theorem z_g_Br_namePerson : z_good 146 d_Br_namePerson := ⟨_, _, _, _, _, _, _, _, _, _, _, rfl, by decide +kernel, rfl, by decide +kernel, by decide, z_lk_Br, z_k_Br_namePerson, z_u_Br_namePerson⟩
theorem z_k0_Br_joined : ∀ i, i < 296 → z_chk "BreatheAsOne$Breathing" false lk_Br prog_2_method_16_code k_Br_joined i = true := by decide +kernel
theorem z_k_Br_joined (i : Nat) : z_chk "BreatheAsOne$Breathing" false lk_Br prog_2_method_16_code k_Br_joined i = true := z_out_k (z_k0_Br_joined i)
theorem z_u_Br_joined (i : Nat) : z_chu d_Br_joined.2.2.1 3 i = true := rfl
theorem z_g_Br_joined : z_good 147 d_Br_joined := ⟨_, _, _, _, _, _, _, _, _, _, _, rfl, by decide +kernel, rfl, by decide +kernel, by decide, z_lk_Br, z_k_Br_joined, z_u_Br_joined⟩
theorem z_k0_Ma_min_JJ : ∀ i, i < 12 → z_chk "java/lang/Math" false lk_Ma prog_17_method_70_code k_Ma_min_JJ i = true := by decide +kernel
theorem z_k_Ma_min_JJ (i : Nat) : z_chk "java/lang/Math" false lk_Ma prog_17_method_70_code k_Ma_min_JJ i = true := z_out_k (z_k0_Ma_min_JJ i)
theorem z_u_Ma_min_JJ (i : Nat) : z_chu d_Ma_min_JJ.2.2.1 4 i = true := rfl
theorem z_g_Ma_min_JJ : z_good 148 d_Ma_min_JJ := ⟨_, _, _, _, _, _, _, _, _, _, _, rfl, by decide +kernel, rfl, by decide +kernel, by decide, z_lk_Ma, z_k_Ma_min_JJ, z_u_Ma_min_JJ⟩
theorem z_k0_Ma_max_JJ : ∀ i, i < 12 → z_chk "java/lang/Math" false lk_Ma prog_17_method_66_code k_Ma_max_JJ i = true := by decide +kernel
theorem z_k_Ma_max_JJ (i : Nat) : z_chk "java/lang/Math" false lk_Ma prog_17_method_66_code k_Ma_max_JJ i = true := z_out_k (z_k0_Ma_max_JJ i)
theorem z_u_Ma_max_JJ (i : Nat) : z_chu d_Ma_max_JJ.2.2.1 4 i = true := rfl
theorem z_g_Ma_max_JJ : z_good 149 d_Ma_max_JJ := ⟨_, _, _, _, _, _, _, _, _, _, _, rfl, by decide +kernel, rfl, by decide +kernel, by decide, z_lk_Ma, z_k_Ma_max_JJ, z_u_Ma_max_JJ⟩
theorem z_k0_Br_worth : ∀ i, i < 302 → z_chk "BreatheAsOne$Breathing" false lk_Br prog_2_method_15_code k_Br_worth i = true := by decide +kernel
theorem z_k_Br_worth (i : Nat) : z_chk "BreatheAsOne$Breathing" false lk_Br prog_2_method_15_code k_Br_worth i = true := z_out_k (z_k0_Br_worth i)
theorem z_u0_Br_worth : ∀ i, i < 302 → z_chu d_Br_worth.2.2.1 7 i = true := by decide +kernel
theorem z_u_Br_worth (i : Nat) : z_chu d_Br_worth.2.2.1 7 i = true := z_out_u (z_u0_Br_worth i)
theorem z_g_Br_worth : z_good 150 d_Br_worth := ⟨_, _, _, _, _, _, _, _, _, _, _, rfl, by decide +kernel, rfl, by decide +kernel, by decide, z_lk_Br, z_k_Br_worth, z_u_Br_worth⟩
theorem z_k0_Br_passesOf : ∀ i, i < 117 → z_chk "BreatheAsOne$Breathing" false lk_Br prog_2_method_8_code k_Br_passesOf i = true := by decide +kernel
theorem z_k_Br_passesOf (i : Nat) : z_chk "BreatheAsOne$Breathing" false lk_Br prog_2_method_8_code k_Br_passesOf i = true := z_out_k (z_k0_Br_passesOf i)
theorem z_u_Br_passesOf (i : Nat) : z_chu d_Br_passesOf.2.2.1 6 i = true := rfl
theorem z_g_Br_passesOf : z_good 151 d_Br_passesOf := ⟨_, _, _, _, _, _, _, _, _, _, _, rfl, by decide +kernel, rfl, by decide +kernel, by decide, z_lk_Br, z_k_Br_passesOf, z_u_Br_passesOf⟩
theorem z_k0_De_spread : ∀ i, i < 145 → z_chk "BreatheAsOne$Deeds" false lk_De prog_3_method_7_code k_De_spread i = true := by decide +kernel
theorem z_k_De_spread (i : Nat) : z_chk "BreatheAsOne$Deeds" false lk_De prog_3_method_7_code k_De_spread i = true := z_out_k (z_k0_De_spread i)
theorem z_u0_De_spread : ∀ i, i < 145 → z_chu d_De_spread.2.2.1 8 i = true := by decide +kernel
theorem z_u_De_spread (i : Nat) : z_chu d_De_spread.2.2.1 8 i = true := z_out_u (z_u0_De_spread i)
theorem z_g_De_spread : z_good 152 d_De_spread := ⟨_, _, _, _, _, _, _, _, _, _, _, rfl, by decide +kernel, rfl, by decide +kernel, by decide, z_lk_De, z_k_De_spread, z_u_De_spread⟩
theorem z_k0_De_coughsNow : ∀ i, i < 65 → z_chk "BreatheAsOne$Deeds" false lk_De prog_3_method_6_code k_De_coughsNow i = true := by decide +kernel
theorem z_k_De_coughsNow (i : Nat) : z_chk "BreatheAsOne$Deeds" false lk_De prog_3_method_6_code k_De_coughsNow i = true := z_out_k (z_k0_De_coughsNow i)
theorem z_u_De_coughsNow (i : Nat) : z_chu d_De_coughsNow.2.2.1 3 i = true := rfl
theorem z_g_De_coughsNow : z_good 153 d_De_coughsNow := ⟨_, _, _, _, _, _, _, _, _, _, _, rfl, by decide +kernel, rfl, by decide +kernel, by decide, z_lk_De, z_k_De_coughsNow, z_u_De_coughsNow⟩
theorem z_k0_B_cough : ∀ i, i < 9 → z_chk "BreatheAsOne" false lk_B prog_1_method_15_code k_B_cough i = true := by decide +kernel
theorem z_k_B_cough (i : Nat) : z_chk "BreatheAsOne" false lk_B prog_1_method_15_code k_B_cough i = true := z_out_k (z_k0_B_cough i)
theorem z_u_B_cough (i : Nat) : z_chu d_B_cough.2.2.1 2 i = true := rfl
theorem z_g_B_cough : z_good 154 d_B_cough := ⟨_, _, _, _, _, _, _, _, _, _, _, rfl, by decide +kernel, rfl, by decide +kernel, by decide, z_lk_B, z_k_B_cough, z_u_B_cough⟩
theorem z_k0_M_isCoughing : ∀ i, i < 55 → z_chk "BreatheAsOneModel" false lk_M prog_13_method_66_code k_M_isCoughing i = true := by decide +kernel
theorem z_k_M_isCoughing (i : Nat) : z_chk "BreatheAsOneModel" false lk_M prog_13_method_66_code k_M_isCoughing i = true := z_out_k (z_k0_M_isCoughing i)
theorem z_u0_M_isCoughing : ∀ i, i < 55 → z_chu d_M_isCoughing.2.2.1 4 i = true := by decide +kernel
theorem z_u_M_isCoughing (i : Nat) : z_chu d_M_isCoughing.2.2.1 4 i = true := z_out_u (z_u0_M_isCoughing i)
theorem z_g_M_isCoughing : z_good 155 d_M_isCoughing := ⟨_, _, _, _, _, _, _, _, _, _, _, rfl, by decide +kernel, rfl, by decide +kernel, by decide, z_lk_M, z_k_M_isCoughing, z_u_M_isCoughing⟩
theorem z_k0_M_coughs_I : ∀ i, i < 84 → z_chk "BreatheAsOneModel" false lk_M prog_13_method_84_code k_M_coughs_I i = true := by decide +kernel
theorem z_k_M_coughs_I (i : Nat) : z_chk "BreatheAsOneModel" false lk_M prog_13_method_84_code k_M_coughs_I i = true := z_out_k (z_k0_M_coughs_I i)
theorem z_u_M_coughs_I (i : Nat) : z_chu d_M_coughs_I.2.2.1 2 i = true := rfl
theorem z_g_M_coughs_I : z_good 156 d_M_coughs_I := ⟨_, _, _, _, _, _, _, _, _, _, _, rfl, by decide +kernel, rfl, by decide +kernel, by decide, z_lk_M, z_k_M_coughs_I, z_u_M_coughs_I⟩
theorem z_k0_M_anew : ∀ i, i < 25 → z_chk "BreatheAsOneModel" false lk_M prog_13_method_83_code k_M_anew i = true := by decide +kernel
theorem z_k_M_anew (i : Nat) : z_chk "BreatheAsOneModel" false lk_M prog_13_method_83_code k_M_anew i = true := z_out_k (z_k0_M_anew i)
theorem z_u_M_anew (i : Nat) : z_chu d_M_anew.2.2.1 1 i = true := rfl
theorem z_g_M_anew : z_good 157 d_M_anew := ⟨_, _, _, _, _, _, _, _, _, _, _, rfl, by decide +kernel, rfl, by decide +kernel, by decide, z_lk_M, z_k_M_anew, z_u_M_anew⟩
theorem z_k0_M_drawn : ∀ i, i < 16 → z_chk "BreatheAsOneModel" false lk_M prog_13_method_82_code k_M_drawn i = true := by decide +kernel
theorem z_k_M_drawn (i : Nat) : z_chk "BreatheAsOneModel" false lk_M prog_13_method_82_code k_M_drawn i = true := z_out_k (z_k0_M_drawn i)
theorem z_u_M_drawn (i : Nat) : z_chu d_M_drawn.2.2.1 2 i = true := rfl
theorem z_g_M_drawn : z_good 158 d_M_drawn := ⟨_, _, _, _, _, _, _, _, _, _, _, rfl, by decide +kernel, rfl, by decide +kernel, by decide, z_lk_M, z_k_M_drawn, z_u_M_drawn⟩
theorem z_k0_M_seatOf : ∀ i, i < 14 → z_chk "BreatheAsOneModel" false lk_M prog_13_method_10_code k_M_seatOf i = true := by decide +kernel
theorem z_k_M_seatOf (i : Nat) : z_chk "BreatheAsOneModel" false lk_M prog_13_method_10_code k_M_seatOf i = true := z_out_k (z_k0_M_seatOf i)
theorem z_u_M_seatOf (i : Nat) : z_chu d_M_seatOf.2.2.1 3 i = true := rfl
theorem z_g_M_seatOf : z_good 159 d_M_seatOf := ⟨_, _, _, _, _, _, _, _, _, _, _, rfl, by decide +kernel, rfl, by decide +kernel, by decide, z_lk_M, z_k_M_seatOf, z_u_M_seatOf⟩
theorem z_k0_M_timeOf : ∀ i, i < 95 → z_chk "BreatheAsOneModel" false lk_M prog_13_method_65_code k_M_timeOf i = true := by decide +kernel
theorem z_k_M_timeOf (i : Nat) : z_chk "BreatheAsOneModel" false lk_M prog_13_method_65_code k_M_timeOf i = true := z_out_k (z_k0_M_timeOf i)
theorem z_u0_M_timeOf : ∀ i, i < 95 → z_chu d_M_timeOf.2.2.1 6 i = true := by decide +kernel
theorem z_u_M_timeOf (i : Nat) : z_chu d_M_timeOf.2.2.1 6 i = true := z_out_u (z_u0_M_timeOf i)
theorem z_g_M_timeOf : z_good 160 d_M_timeOf := ⟨_, _, _, _, _, _, _, _, _, _, _, rfl, by decide +kernel, rfl, by decide +kernel, by decide, z_lk_M, z_k_M_timeOf, z_u_M_timeOf⟩
theorem z_k0_M_name : ∀ i, i < 100 → z_chk "BreatheAsOneModel" false lk_M prog_13_method_68_code k_M_name i = true := by decide +kernel
theorem z_k_M_name (i : Nat) : z_chk "BreatheAsOneModel" false lk_M prog_13_method_68_code k_M_name i = true := z_out_k (z_k0_M_name i)
theorem z_u_M_name (i : Nat) : z_chu d_M_name.2.2.1 3 i = true := rfl
theorem z_g_M_name : z_good 161 d_M_name := ⟨_, _, _, _, _, _, _, _, _, _, _, rfl, by decide +kernel, rfl, by decide +kernel, by decide, z_lk_M, z_k_M_name, z_u_M_name⟩
theorem z_k0_M_clauseOf : ∀ i, i < 50 → z_chk "BreatheAsOneModel" false lk_M prog_13_method_63_code k_M_clauseOf i = true := by decide +kernel
theorem z_k_M_clauseOf (i : Nat) : z_chk "BreatheAsOneModel" false lk_M prog_13_method_63_code k_M_clauseOf i = true := z_out_k (z_k0_M_clauseOf i)
theorem z_u0_M_clauseOf : ∀ i, i < 50 → z_chu d_M_clauseOf.2.2.1 4 i = true := by decide +kernel
theorem z_u_M_clauseOf (i : Nat) : z_chu d_M_clauseOf.2.2.1 4 i = true := z_out_u (z_u0_M_clauseOf i)
theorem z_g_M_clauseOf : z_good 162 d_M_clauseOf := ⟨_, _, _, _, _, _, _, _, _, _, _, rfl, by decide +kernel, rfl, by decide +kernel, by decide, z_lk_M, z_k_M_clauseOf, z_u_M_clauseOf⟩
theorem z_k0_M_middleOf : ∀ i, i < 55 → z_chk "BreatheAsOneModel" false lk_M prog_13_method_61_code k_M_middleOf i = true := by decide +kernel
theorem z_k_M_middleOf (i : Nat) : z_chk "BreatheAsOneModel" false lk_M prog_13_method_61_code k_M_middleOf i = true := z_out_k (z_k0_M_middleOf i)
theorem z_u_M_middleOf (i : Nat) : z_chu d_M_middleOf.2.2.1 10 i = true := rfl
theorem z_g_M_middleOf : z_good 163 d_M_middleOf := ⟨_, _, _, _, _, _, _, _, _, _, _, rfl, by decide +kernel, rfl, by decide +kernel, by decide, z_lk_M, z_k_M_middleOf, z_u_M_middleOf⟩
theorem z_k0_M_clip : ∀ i, i < 30 → z_chk "BreatheAsOneModel" false lk_M prog_13_method_58_code k_M_clip i = true := by decide +kernel
theorem z_k_M_clip (i : Nat) : z_chk "BreatheAsOneModel" false lk_M prog_13_method_58_code k_M_clip i = true := z_out_k (z_k0_M_clip i)
theorem z_u_M_clip (i : Nat) : z_chu d_M_clip.2.2.1 2 i = true := rfl
theorem z_g_M_clip : z_good 164 d_M_clip := ⟨_, _, _, _, _, _, _, _, _, _, _, rfl, by decide +kernel, rfl, by decide +kernel, by decide, z_lk_M, z_k_M_clip, z_u_M_clip⟩
theorem z_k0_M_two : ∀ i, i < 88 → z_chk "BreatheAsOneModel" false lk_M prog_13_method_59_code k_M_two i = true := by decide +kernel
theorem z_k_M_two (i : Nat) : z_chk "BreatheAsOneModel" false lk_M prog_13_method_59_code k_M_two i = true := z_out_k (z_k0_M_two i)
theorem z_u_M_two (i : Nat) : z_chu d_M_two.2.2.1 5 i = true := rfl
theorem z_g_M_two : z_good 165 d_M_two := ⟨_, _, _, _, _, _, _, _, _, _, _, rfl, by decide +kernel, rfl, by decide +kernel, by decide, z_lk_M, z_k_M_two, z_u_M_two⟩
theorem z_k0_M_isAsked : ∀ i, i < 112 → z_chk "BreatheAsOneModel" false lk_M prog_13_method_60_code k_M_isAsked i = true := by decide +kernel
theorem z_k_M_isAsked (i : Nat) : z_chk "BreatheAsOneModel" false lk_M prog_13_method_60_code k_M_isAsked i = true := z_out_k (z_k0_M_isAsked i)
theorem z_u_M_isAsked (i : Nat) : z_chu d_M_isAsked.2.2.1 5 i = true := rfl
theorem z_g_M_isAsked : z_good 166 d_M_isAsked := ⟨_, _, _, _, _, _, _, _, _, _, _, rfl, by decide +kernel, rfl, by decide +kernel, by decide, z_lk_M, z_k_M_isAsked, z_u_M_isAsked⟩
theorem z_k0_M_work : ∀ i, i < 402 → z_chk "BreatheAsOneModel" false lk_M prog_13_method_62_code k_M_work i = true := by decide +kernel
theorem z_k_M_work (i : Nat) : z_chk "BreatheAsOneModel" false lk_M prog_13_method_62_code k_M_work i = true := z_out_k (z_k0_M_work i)
theorem z_u0_M_work : ∀ i, i < 402 → z_chu d_M_work.2.2.1 10 i = true := by decide +kernel
theorem z_u_M_work (i : Nat) : z_chu d_M_work.2.2.1 10 i = true := z_out_u (z_u0_M_work i)
theorem z_g_M_work : z_good 167 d_M_work := ⟨_, _, _, _, _, _, _, _, _, _, _, rfl, by decide +kernel, rfl, by decide +kernel, by decide, z_lk_M, z_k_M_work, z_u_M_work⟩
theorem z_k0_M_says : ∀ i, i < 76 → z_chk "BreatheAsOneModel" false lk_M prog_13_method_64_code k_M_says i = true := by decide +kernel
theorem z_k_M_says (i : Nat) : z_chk "BreatheAsOneModel" false lk_M prog_13_method_64_code k_M_says i = true := z_out_k (z_k0_M_says i)
theorem z_u_M_says (i : Nat) : z_chu d_M_says.2.2.1 6 i = true := rfl
theorem z_g_M_says : z_good 168 d_M_says := ⟨_, _, _, _, _, _, _, _, _, _, _, rfl, by decide +kernel, rfl, by decide +kernel, by decide, z_lk_M, z_k_M_says, z_u_M_says⟩
theorem z_k0_M_passesOf : ∀ i, i < 21 → z_chk "BreatheAsOneModel" false lk_M prog_13_method_71_code k_M_passesOf i = true := by decide +kernel
theorem z_k_M_passesOf (i : Nat) : z_chk "BreatheAsOneModel" false lk_M prog_13_method_71_code k_M_passesOf i = true := z_out_k (z_k0_M_passesOf i)
theorem z_u_M_passesOf (i : Nat) : z_chu d_M_passesOf.2.2.1 2 i = true := rfl
theorem z_g_M_passesOf : z_good 169 d_M_passesOf := ⟨_, _, _, _, _, _, _, _, _, _, _, rfl, by decide +kernel, rfl, by decide +kernel, by decide, z_lk_M, z_k_M_passesOf, z_u_M_passesOf⟩
theorem z_k0_M_coughNow : ∀ i, i < 126 → z_chk "BreatheAsOneModel" false lk_M prog_13_method_85_code k_M_coughNow i = true := by decide +kernel
theorem z_k_M_coughNow (i : Nat) : z_chk "BreatheAsOneModel" false lk_M prog_13_method_85_code k_M_coughNow i = true := z_out_k (z_k0_M_coughNow i)
theorem z_u0_M_coughNow : ∀ i, i < 126 → z_chu d_M_coughNow.2.2.1 6 i = true := by decide +kernel
theorem z_u_M_coughNow (i : Nat) : z_chu d_M_coughNow.2.2.1 6 i = true := z_out_u (z_u0_M_coughNow i)
theorem z_g_M_coughNow : z_good 170 d_M_coughNow := ⟨_, _, _, _, _, _, _, _, _, _, _, rfl, by decide +kernel, rfl, by decide +kernel, by decide, z_lk_M, z_k_M_coughNow, z_u_M_coughNow⟩
theorem z_k0_M_cough : ∀ i, i < 34 → z_chk "BreatheAsOneModel" false lk_M prog_13_method_86_code k_M_cough i = true := by decide +kernel
theorem z_k_M_cough (i : Nat) : z_chk "BreatheAsOneModel" false lk_M prog_13_method_86_code k_M_cough i = true := z_out_k (z_k0_M_cough i)
theorem z_u_M_cough (i : Nat) : z_chu d_M_cough.2.2.1 2 i = true := rfl
theorem z_g_M_cough : z_good 171 d_M_cough := ⟨_, _, _, _, _, _, _, _, _, _, _, rfl, by decide +kernel, rfl, by decide +kernel, by decide, z_lk_M, z_k_M_cough, z_u_M_cough⟩
theorem z_k0_De_passBeats : ∀ i, i < 60 → z_chk "BreatheAsOne$Deeds" false lk_De prog_3_method_8_code k_De_passBeats i = true := by decide +kernel
theorem z_k_De_passBeats (i : Nat) : z_chk "BreatheAsOne$Deeds" false lk_De prog_3_method_8_code k_De_passBeats i = true := z_out_k (z_k0_De_passBeats i)
theorem z_u_De_passBeats (i : Nat) : z_chu d_De_passBeats.2.2.1 2 i = true := rfl
theorem z_g_De_passBeats : z_good 172 d_De_passBeats := ⟨_, _, _, _, _, _, _, _, _, _, _, rfl, by decide +kernel, rfl, by decide +kernel, by decide, z_lk_De, z_k_De_passBeats, z_u_De_passBeats⟩
theorem z_k0_B_beat : ∀ i, i < 9 → z_chk "BreatheAsOne" false lk_B prog_1_method_16_code k_B_beat i = true := by decide +kernel
theorem z_k_B_beat (i : Nat) : z_chk "BreatheAsOne" false lk_B prog_1_method_16_code k_B_beat i = true := z_out_k (z_k0_B_beat i)
theorem z_u_B_beat (i : Nat) : z_chu d_B_beat.2.2.1 2 i = true := rfl
theorem z_g_B_beat : z_good 173 d_B_beat := ⟨_, _, _, _, _, _, _, _, _, _, _, rfl, by decide +kernel, rfl, by decide +kernel, by decide, z_lk_B, z_k_B_beat, z_u_B_beat⟩
theorem z_k0_M_beat : ∀ i, i < 48 → z_chk "BreatheAsOneModel" false lk_M prog_13_method_87_code k_M_beat i = true := by decide +kernel
theorem z_k_M_beat (i : Nat) : z_chk "BreatheAsOneModel" false lk_M prog_13_method_87_code k_M_beat i = true := z_out_k (z_k0_M_beat i)
theorem z_u_M_beat (i : Nat) : z_chu d_M_beat.2.2.1 2 i = true := rfl
theorem z_g_M_beat : z_good 174 d_M_beat := ⟨_, _, _, _, _, _, _, _, _, _, _, rfl, by decide +kernel, rfl, by decide +kernel, by decide, z_lk_M, z_k_M_beat, z_u_M_beat⟩
theorem z_k0_De_doClause : ∀ i, i < 290 → z_chk "BreatheAsOne$Deeds" false lk_De prog_3_method_9_code k_De_doClause i = true := by decide +kernel
theorem z_k_De_doClause (i : Nat) : z_chk "BreatheAsOne$Deeds" false lk_De prog_3_method_9_code k_De_doClause i = true := z_out_k (z_k0_De_doClause i)
theorem z_u_De_doClause (i : Nat) : z_chu d_De_doClause.2.2.1 6 i = true := rfl
theorem z_g_De_doClause : z_good 175 d_De_doClause := ⟨_, _, _, _, _, _, _, _, _, _, _, rfl, by decide +kernel, rfl, by decide +kernel, by decide, z_lk_De, z_k_De_doClause, z_u_De_doClause⟩
theorem z_k0_B_played : ∀ i, i < 48 → z_chk "BreatheAsOne" false lk_B prog_1_method_17_code k_B_played i = true := by decide +kernel
theorem z_k_B_played (i : Nat) : z_chk "BreatheAsOne" false lk_B prog_1_method_17_code k_B_played i = true := z_out_k (z_k0_B_played i)
theorem z_u0_B_played : ∀ i, i < 48 → z_chu d_B_played.2.2.1 4 i = true := by decide +kernel
theorem z_u_B_played (i : Nat) : z_chu d_B_played.2.2.1 4 i = true := z_out_u (z_u0_B_played i)
theorem z_g_B_played : z_good 176 d_B_played := ⟨_, _, _, _, _, _, _, _, _, _, _, rfl, by decide +kernel, rfl, by decide +kernel, by decide, z_lk_B, z_k_B_played, z_u_B_played⟩
theorem z_k0_M_isPlayed : ∀ i, i < 198 → z_chk "BreatheAsOneModel" false lk_M prog_13_method_88_code k_M_isPlayed i = true := by decide +kernel
theorem z_k_M_isPlayed (i : Nat) : z_chk "BreatheAsOneModel" false lk_M prog_13_method_88_code k_M_isPlayed i = true := z_out_k (z_k0_M_isPlayed i)
theorem z_u_M_isPlayed (i : Nat) : z_chu d_M_isPlayed.2.2.1 4 i = true := rfl
theorem z_g_M_isPlayed : z_good 177 d_M_isPlayed := ⟨_, _, _, _, _, _, _, _, _, _, _, rfl, by decide +kernel, rfl, by decide +kernel, by decide, z_lk_M, z_k_M_isPlayed, z_u_M_isPlayed⟩
theorem z_k0_M_played : ∀ i, i < 63 → z_chk "BreatheAsOneModel" false lk_M prog_13_method_89_code k_M_played i = true := by decide +kernel
theorem z_k_M_played (i : Nat) : z_chk "BreatheAsOneModel" false lk_M prog_13_method_89_code k_M_played i = true := z_out_k (z_k0_M_played i)
theorem z_u0_M_played : ∀ i, i < 63 → z_chu d_M_played.2.2.1 3 i = true := by decide +kernel
theorem z_u_M_played (i : Nat) : z_chu d_M_played.2.2.1 3 i = true := z_out_u (z_u0_M_played i)
theorem z_g_M_played : z_good 178 d_M_played := ⟨_, _, _, _, _, _, _, _, _, _, _, rfl, by decide +kernel, rfl, by decide +kernel, by decide, z_lk_M, z_k_M_played, z_u_M_played⟩
theorem z_k0_De_sitByChance : ∀ i, i < 39 → z_chk "BreatheAsOne$Deeds" false lk_De prog_3_method_12_code k_De_sitByChance i = true := by decide +kernel
theorem z_k_De_sitByChance (i : Nat) : z_chk "BreatheAsOne$Deeds" false lk_De prog_3_method_12_code k_De_sitByChance i = true := z_out_k (z_k0_De_sitByChance i)
theorem z_u_De_sitByChance (i : Nat) : z_chu d_De_sitByChance.2.2.1 4 i = true := rfl
theorem z_g_De_sitByChance : z_good 179 d_De_sitByChance := ⟨_, _, _, _, _, _, _, _, _, _, _, rfl, by decide +kernel, rfl, by decide +kernel, by decide, z_lk_De, z_k_De_sitByChance, z_u_De_sitByChance⟩
theorem z_k0_De_happen : ∀ i, i < 141 → z_chk "BreatheAsOne$Deeds" false lk_De prog_3_method_11_code k_De_happen i = true := by decide +kernel
theorem z_k_De_happen (i : Nat) : z_chk "BreatheAsOne$Deeds" false lk_De prog_3_method_11_code k_De_happen i = true := z_out_k (z_k0_De_happen i)
theorem z_u0_De_happen : ∀ i, i < 141 → z_chu d_De_happen.2.2.1 4 i = true := by decide +kernel
theorem z_u_De_happen (i : Nat) : z_chu d_De_happen.2.2.1 4 i = true := z_out_u (z_u0_De_happen i)
theorem z_g_De_happen : z_good 180 d_De_happen := ⟨_, _, _, _, _, _, _, _, _, _, _, rfl, by decide +kernel, rfl, by decide +kernel, by decide, z_lk_De, z_k_De_happen, z_u_De_happen⟩
theorem z_k0_De_runSeason : ∀ i, i < 96 → z_chk "BreatheAsOne$Deeds" false lk_De prog_3_method_10_code k_De_runSeason i = true := by decide +kernel
theorem z_k_De_runSeason (i : Nat) : z_chk "BreatheAsOne$Deeds" false lk_De prog_3_method_10_code k_De_runSeason i = true := z_out_k (z_k0_De_runSeason i)
theorem z_u0_De_runSeason : ∀ i, i < 96 → z_chu d_De_runSeason.2.2.1 4 i = true := by decide +kernel
theorem z_u_De_runSeason (i : Nat) : z_chu d_De_runSeason.2.2.1 4 i = true := z_out_u (z_u0_De_runSeason i)
theorem z_g_De_runSeason : z_good 181 d_De_runSeason := ⟨_, _, _, _, _, _, _, _, _, _, _, rfl, by decide +kernel, rfl, by decide +kernel, by decide, z_lk_De, z_k_De_runSeason, z_u_De_runSeason⟩
theorem z_k0_B_season : ∀ i, i < 10 → z_chk "BreatheAsOne" false lk_B prog_1_method_18_code k_B_season i = true := by decide +kernel
theorem z_k_B_season (i : Nat) : z_chk "BreatheAsOne" false lk_B prog_1_method_18_code k_B_season i = true := z_out_k (z_k0_B_season i)
theorem z_u_B_season (i : Nat) : z_chu d_B_season.2.2.1 3 i = true := rfl
theorem z_g_B_season : z_good 182 d_B_season := ⟨_, _, _, _, _, _, _, _, _, _, _, rfl, by decide +kernel, rfl, by decide +kernel, by decide, z_lk_B, z_k_B_season, z_u_B_season⟩
theorem z_k0_M_happens : ∀ i, i < 164 → z_chk "BreatheAsOneModel" false lk_M prog_13_method_90_code k_M_happens i = true := by decide +kernel
theorem z_k_M_happens (i : Nat) : z_chk "BreatheAsOneModel" false lk_M prog_13_method_90_code k_M_happens i = true := z_out_k (z_k0_M_happens i)
theorem z_u0_M_happens : ∀ i, i < 164 → z_chu d_M_happens.2.2.1 4 i = true := by decide +kernel
theorem z_u_M_happens (i : Nat) : z_chu d_M_happens.2.2.1 4 i = true := z_out_u (z_u0_M_happens i)
theorem z_g_M_happens : z_good 183 d_M_happens := ⟨_, _, _, _, _, _, _, _, _, _, _, rfl, by decide +kernel, rfl, by decide +kernel, by decide, z_lk_M, z_k_M_happens, z_u_M_happens⟩
theorem z_k0_M_season : ∀ i, i < 86 → z_chk "BreatheAsOneModel" false lk_M prog_13_method_91_code k_M_season i = true := by decide +kernel
theorem z_k_M_season (i : Nat) : z_chk "BreatheAsOneModel" false lk_M prog_13_method_91_code k_M_season i = true := z_out_k (z_k0_M_season i)
theorem z_u0_M_season : ∀ i, i < 86 → z_chu d_M_season.2.2.1 5 i = true := by decide +kernel
theorem z_u_M_season (i : Nat) : z_chu d_M_season.2.2.1 5 i = true := z_out_u (z_u0_M_season i)
theorem z_g_M_season : z_good 184 d_M_season := ⟨_, _, _, _, _, _, _, _, _, _, _, rfl, by decide +kernel, rfl, by decide +kernel, by decide, z_lk_M, z_k_M_season, z_u_M_season⟩
theorem z_k0_Mo_readFrom : ∀ i, i < 67 → z_chk "BreatheAsOne$Moment" false lk_Mo prog_6_method_7_code k_Mo_readFrom i = true := by decide +kernel
theorem z_k_Mo_readFrom (i : Nat) : z_chk "BreatheAsOne$Moment" false lk_Mo prog_6_method_7_code k_Mo_readFrom i = true := z_out_k (z_k0_Mo_readFrom i)
theorem z_u_Mo_readFrom (i : Nat) : z_chu d_Mo_readFrom.2.2.1 4 i = true := rfl
theorem z_g_Mo_readFrom : z_good 185 d_Mo_readFrom := ⟨_, _, _, _, _, _, _, _, _, _, _, rfl, by decide +kernel, rfl, by decide +kernel, by decide, z_lk_Mo, z_k_Mo_readFrom, z_u_Mo_readFrom⟩
theorem z_k0_St_takeBack : ∀ i, i < 52 → z_chk "BreatheAsOne$Steps" false lk_St prog_9_method_3_code k_St_takeBack i = true := by decide +kernel
theorem z_k_St_takeBack (i : Nat) : z_chk "BreatheAsOne$Steps" false lk_St prog_9_method_3_code k_St_takeBack i = true := z_out_k (z_k0_St_takeBack i)
theorem z_u_St_takeBack (i : Nat) : z_chu d_St_takeBack.2.2.1 2 i = true := rfl
theorem z_g_St_takeBack : z_good 186 d_St_takeBack := ⟨_, _, _, _, _, _, _, _, _, _, _, rfl, by decide +kernel, rfl, by decide +kernel, by decide, z_lk_St, z_k_St_takeBack, z_u_St_takeBack⟩
theorem z_k0_B_undo : ∀ i, i < 26 → z_chk "BreatheAsOne" false lk_B prog_1_method_19_code k_B_undo i = true := by decide +kernel
theorem z_k_B_undo (i : Nat) : z_chk "BreatheAsOne" false lk_B prog_1_method_19_code k_B_undo i = true := z_out_k (z_k0_B_undo i)
theorem z_u_B_undo (i : Nat) : z_chu d_B_undo.2.2.1 1 i = true := rfl
theorem z_g_B_undo : z_good 187 d_B_undo := ⟨_, _, _, _, _, _, _, _, _, _, _, rfl, by decide +kernel, rfl, by decide +kernel, by decide, z_lk_B, z_k_B_undo, z_u_B_undo⟩
theorem z_k0_M_undo : ∀ i, i < 221 → z_chk "BreatheAsOneModel" false lk_M prog_13_method_77_code k_M_undo i = true := by decide +kernel
theorem z_k_M_undo (i : Nat) : z_chk "BreatheAsOneModel" false lk_M prog_13_method_77_code k_M_undo i = true := z_out_k (z_k0_M_undo i)
theorem z_u0_M_undo : ∀ i, i < 221 → z_chu d_M_undo.2.2.1 3 i = true := by decide +kernel
theorem z_u_M_undo (i : Nat) : z_chu d_M_undo.2.2.1 3 i = true := z_out_u (z_u0_M_undo i)
theorem z_g_M_undo : z_good 188 d_M_undo := ⟨_, _, _, _, _, _, _, _, _, _, _, rfl, by decide +kernel, rfl, by decide +kernel, by decide, z_lk_M, z_k_M_undo, z_u_M_undo⟩
theorem z_k0_Br_timeNow : ∀ i, i < 41 → z_chk "BreatheAsOne$Breathing" false lk_Br prog_2_method_3_code k_Br_timeNow i = true := by decide +kernel
theorem z_k_Br_timeNow (i : Nat) : z_chk "BreatheAsOne$Breathing" false lk_Br prog_2_method_3_code k_Br_timeNow i = true := z_out_k (z_k0_Br_timeNow i)
theorem z_u_Br_timeNow (i : Nat) : z_chu d_Br_timeNow.2.2.1 3 i = true := rfl
theorem z_g_Br_timeNow : z_good 189 d_Br_timeNow := ⟨_, _, _, _, _, _, _, _, _, _, _, rfl, by decide +kernel, rfl, by decide +kernel, by decide, z_lk_Br, z_k_Br_timeNow, z_u_Br_timeNow⟩
theorem z_k0_Ma_floorMod : ∀ i, i < 20 → z_chk "java/lang/Math" false lk_Ma prog_17_method_50_code k_Ma_floorMod i = true := by decide +kernel
theorem z_k_Ma_floorMod (i : Nat) : z_chk "java/lang/Math" false lk_Ma prog_17_method_50_code k_Ma_floorMod i = true := z_out_k (z_k0_Ma_floorMod i)
theorem z_u_Ma_floorMod (i : Nat) : z_chu d_Ma_floorMod.2.2.1 3 i = true := rfl
theorem z_g_Ma_floorMod : z_good 190 d_Ma_floorMod := ⟨_, _, _, _, _, _, _, _, _, _, _, rfl, by decide +kernel, rfl, by decide +kernel, by decide, z_lk_Ma, z_k_Ma_floorMod, z_u_Ma_floorMod⟩
theorem z_k0_Br_breathAs : ∀ i, i < 156 → z_chk "BreatheAsOne$Breathing" false lk_Br prog_2_method_4_code k_Br_breathAs i = true := by decide +kernel
theorem z_k_Br_breathAs (i : Nat) : z_chk "BreatheAsOne$Breathing" false lk_Br prog_2_method_4_code k_Br_breathAs i = true := z_out_k (z_k0_Br_breathAs i)
theorem z_u0_Br_breathAs : ∀ i, i < 156 → z_chu d_Br_breathAs.2.2.1 10 i = true := by decide +kernel
theorem z_u_Br_breathAs (i : Nat) : z_chu d_Br_breathAs.2.2.1 10 i = true := z_out_u (z_u0_Br_breathAs i)
theorem z_g_Br_breathAs : z_good 191 d_Br_breathAs := ⟨_, _, _, _, _, _, _, _, _, _, _, rfl, by decide +kernel, rfl, by decide +kernel, by decide, z_lk_Br, z_k_Br_breathAs, z_u_Br_breathAs⟩
theorem z_k0_Br_breathNow : ∀ i, i < 41 → z_chk "BreatheAsOne$Breathing" false lk_Br prog_2_method_5_code k_Br_breathNow i = true := by decide +kernel
theorem z_k_Br_breathNow (i : Nat) : z_chk "BreatheAsOne$Breathing" false lk_Br prog_2_method_5_code k_Br_breathNow i = true := z_out_k (z_k0_Br_breathNow i)
theorem z_u_Br_breathNow (i : Nat) : z_chu d_Br_breathNow.2.2.1 3 i = true := rfl
theorem z_g_Br_breathNow : z_good 192 d_Br_breathNow := ⟨_, _, _, _, _, _, _, _, _, _, _, rfl, by decide +kernel, rfl, by decide +kernel, by decide, z_lk_Br, z_k_Br_breathNow, z_u_Br_breathNow⟩
theorem z_k0_B_of : ∀ i, i < 141 → z_chk "BreatheAsOne" false lk_B prog_1_method_20_code k_B_of i = true := by decide +kernel
theorem z_k_B_of (i : Nat) : z_chk "BreatheAsOne" false lk_B prog_1_method_20_code k_B_of i = true := z_out_k (z_k0_B_of i)
theorem z_u_B_of (i : Nat) : z_chu d_B_of.2.2.1 3 i = true := rfl
theorem z_g_B_of : z_good 193 d_B_of := ⟨_, _, _, _, _, _, _, _, _, _, _, rfl, by decide +kernel, rfl, by decide +kernel, by decide, z_lk_B, z_k_B_of, z_u_B_of⟩
theorem z_k0_M_mod : ∀ i, i < 16 → z_chk "BreatheAsOneModel" false lk_M prog_13_method_67_code k_M_mod i = true := by decide +kernel
theorem z_k_M_mod (i : Nat) : z_chk "BreatheAsOneModel" false lk_M prog_13_method_67_code k_M_mod i = true := z_out_k (z_k0_M_mod i)
theorem z_u_M_mod (i : Nat) : z_chu d_M_mod.2.2.1 3 i = true := rfl
theorem z_g_M_mod : z_good 194 d_M_mod := ⟨_, _, _, _, _, _, _, _, _, _, _, rfl, by decide +kernel, rfl, by decide +kernel, by decide, z_lk_M, z_k_M_mod, z_u_M_mod⟩
theorem z_k0_M_breathOf : ∀ i, i < 102 → z_chk "BreatheAsOneModel" false lk_M prog_13_method_69_code k_M_breathOf i = true := by decide +kernel
theorem z_k_M_breathOf (i : Nat) : z_chk "BreatheAsOneModel" false lk_M prog_13_method_69_code k_M_breathOf i = true := z_out_k (z_k0_M_breathOf i)
theorem z_u0_M_breathOf : ∀ i, i < 102 → z_chu d_M_breathOf.2.2.1 4 i = true := by decide +kernel
theorem z_u_M_breathOf (i : Nat) : z_chu d_M_breathOf.2.2.1 4 i = true := z_out_u (z_u0_M_breathOf i)
theorem z_g_M_breathOf : z_good 195 d_M_breathOf := ⟨_, _, _, _, _, _, _, _, _, _, _, rfl, by decide +kernel, rfl, by decide +kernel, by decide, z_lk_M, z_k_M_breathOf, z_u_M_breathOf⟩
theorem z_k0_M_of : ∀ i, i < 68 → z_chk "BreatheAsOneModel" false lk_M prog_13_method_92_code k_M_of i = true := by decide +kernel
theorem z_k_M_of (i : Nat) : z_chk "BreatheAsOneModel" false lk_M prog_13_method_92_code k_M_of i = true := z_out_k (z_k0_M_of i)
theorem z_u_M_of (i : Nat) : z_chu d_M_of.2.2.1 3 i = true := rfl
theorem z_g_M_of : z_good 196 d_M_of := ⟨_, _, _, _, _, _, _, _, _, _, _, rfl, by decide +kernel, rfl, by decide +kernel, by decide, z_lk_M, z_k_M_of, z_u_M_of⟩
theorem z_k0_B_ofSeat : ∀ i, i < 72 → z_chk "BreatheAsOne" false lk_B prog_1_method_21_code k_B_ofSeat i = true := by decide +kernel
theorem z_k_B_ofSeat (i : Nat) : z_chk "BreatheAsOne" false lk_B prog_1_method_21_code k_B_ofSeat i = true := z_out_k (z_k0_B_ofSeat i)
theorem z_u_B_ofSeat (i : Nat) : z_chu d_B_ofSeat.2.2.1 3 i = true := rfl
theorem z_g_B_ofSeat : z_good 197 d_B_ofSeat := ⟨_, _, _, _, _, _, _, _, _, _, _, rfl, by decide +kernel, rfl, by decide +kernel, by decide, z_lk_B, z_k_B_ofSeat, z_u_B_ofSeat⟩
theorem z_k0_M_ofSeat : ∀ i, i < 40 → z_chk "BreatheAsOneModel" false lk_M prog_13_method_93_code k_M_ofSeat i = true := by decide +kernel
theorem z_k_M_ofSeat (i : Nat) : z_chk "BreatheAsOneModel" false lk_M prog_13_method_93_code k_M_ofSeat i = true := z_out_k (z_k0_M_ofSeat i)
theorem z_u_M_ofSeat (i : Nat) : z_chu d_M_ofSeat.2.2.1 3 i = true := rfl
theorem z_g_M_ofSeat : z_good 198 d_M_ofSeat := ⟨_, _, _, _, _, _, _, _, _, _, _, rfl, by decide +kernel, rfl, by decide +kernel, by decide, z_lk_M, z_k_M_ofSeat, z_u_M_ofSeat⟩
theorem z_k0_H_hasNote : ∀ i, i < 18 → z_chk "BreatheAsOne$House" false lk_H prog_5_method_8_code k_H_hasNote i = true := by decide +kernel
theorem z_k_H_hasNote (i : Nat) : z_chk "BreatheAsOne$House" false lk_H prog_5_method_8_code k_H_hasNote i = true := z_out_k (z_k0_H_hasNote i)
theorem z_u_H_hasNote (i : Nat) : z_chu d_H_hasNote.2.2.1 2 i = true := rfl
theorem z_g_H_hasNote : z_good 199 d_H_hasNote := ⟨_, _, _, _, _, _, _, _, _, _, _, rfl, by decide +kernel, rfl, by decide +kernel, by decide, z_lk_H, z_k_H_hasNote, z_u_H_hasNote⟩
theorem z_k0_Br_airAt : ∀ i, i < 66 → z_chk "BreatheAsOne$Breathing" false lk_Br prog_2_method_7_code k_Br_airAt i = true := by decide +kernel
theorem z_k_Br_airAt (i : Nat) : z_chk "BreatheAsOne$Breathing" false lk_Br prog_2_method_7_code k_Br_airAt i = true := z_out_k (z_k0_Br_airAt i)
theorem z_u0_Br_airAt : ∀ i, i < 66 → z_chu d_Br_airAt.2.2.1 4 i = true := by decide +kernel
theorem z_u_Br_airAt (i : Nat) : z_chu d_Br_airAt.2.2.1 4 i = true := z_out_u (z_u0_Br_airAt i)
theorem z_g_Br_airAt : z_good 200 d_Br_airAt := ⟨_, _, _, _, _, _, _, _, _, _, _, rfl, by decide +kernel, rfl, by decide +kernel, by decide, z_lk_Br, z_k_Br_airAt, z_u_Br_airAt⟩
theorem z_k0_Br_holdsBy : ∀ i, i < 88 → z_chk "BreatheAsOne$Breathing" false lk_Br prog_2_method_9_code k_Br_holdsBy i = true := by decide +kernel
theorem z_k_Br_holdsBy (i : Nat) : z_chk "BreatheAsOne$Breathing" false lk_Br prog_2_method_9_code k_Br_holdsBy i = true := z_out_k (z_k0_Br_holdsBy i)
theorem z_u_Br_holdsBy (i : Nat) : z_chu d_Br_holdsBy.2.2.1 5 i = true := rfl
theorem z_g_Br_holdsBy : z_good 201 d_Br_holdsBy := ⟨_, _, _, _, _, _, _, _, _, _, _, rfl, by decide +kernel, rfl, by decide +kernel, by decide, z_lk_Br, z_k_Br_holdsBy, z_u_Br_holdsBy⟩
theorem z_k0_Br_holdsWith : ∀ i, i < 23 → z_chk "BreatheAsOne$Breathing" false lk_Br prog_2_method_10_code k_Br_holdsWith i = true := by decide +kernel
theorem z_k_Br_holdsWith (i : Nat) : z_chk "BreatheAsOne$Breathing" false lk_Br prog_2_method_10_code k_Br_holdsWith i = true := z_out_k (z_k0_Br_holdsWith i)
theorem z_u_Br_holdsWith (i : Nat) : z_chu d_Br_holdsWith.2.2.1 3 i = true := rfl
theorem z_g_Br_holdsWith : z_good 202 d_Br_holdsWith := ⟨_, _, _, _, _, _, _, _, _, _, _, rfl, by decide +kernel, rfl, by decide +kernel, by decide, z_lk_Br, z_k_Br_holdsWith, z_u_Br_holdsWith⟩
theorem z_k0_Br_holdsNow : ∀ i, i < 19 → z_chk "BreatheAsOne$Breathing" false lk_Br prog_2_method_11_code k_Br_holdsNow i = true := by decide +kernel
theorem z_k_Br_holdsNow (i : Nat) : z_chk "BreatheAsOne$Breathing" false lk_Br prog_2_method_11_code k_Br_holdsNow i = true := z_out_k (z_k0_Br_holdsNow i)
theorem z_u_Br_holdsNow (i : Nat) : z_chu d_Br_holdsNow.2.2.1 2 i = true := rfl
theorem z_g_Br_holdsNow : z_good 203 d_Br_holdsNow := ⟨_, _, _, _, _, _, _, _, _, _, _, rfl, by decide +kernel, rfl, by decide +kernel, by decide, z_lk_Br, z_k_Br_holdsNow, z_u_Br_holdsNow⟩
theorem z_k0_B_ofNote : ∀ i, i < 101 → z_chk "BreatheAsOne" false lk_B prog_1_method_22_code k_B_ofNote i = true := by decide +kernel
theorem z_k_B_ofNote (i : Nat) : z_chk "BreatheAsOne" false lk_B prog_1_method_22_code k_B_ofNote i = true := z_out_k (z_k0_B_ofNote i)
theorem z_u_B_ofNote (i : Nat) : z_chu d_B_ofNote.2.2.1 3 i = true := rfl
theorem z_g_B_ofNote : z_good 204 d_B_ofNote := ⟨_, _, _, _, _, _, _, _, _, _, _, rfl, by decide +kernel, rfl, by decide +kernel, by decide, z_lk_B, z_k_B_ofNote, z_u_B_ofNote⟩
theorem z_k0_M_isNote : ∀ i, i < 14 → z_chk "BreatheAsOneModel" false lk_M prog_13_method_8_code k_M_isNote i = true := by decide +kernel
theorem z_k_M_isNote (i : Nat) : z_chk "BreatheAsOneModel" false lk_M prog_13_method_8_code k_M_isNote i = true := z_out_k (z_k0_M_isNote i)
theorem z_u_M_isNote (i : Nat) : z_chu d_M_isNote.2.2.1 2 i = true := rfl
theorem z_g_M_isNote : z_good 205 d_M_isNote := ⟨_, _, _, _, _, _, _, _, _, _, _, rfl, by decide +kernel, rfl, by decide +kernel, by decide, z_lk_M, z_k_M_isNote, z_u_M_isNote⟩
theorem z_k0_M_airAt : ∀ i, i < 31 → z_chk "BreatheAsOneModel" false lk_M prog_13_method_70_code k_M_airAt i = true := by decide +kernel
theorem z_k_M_airAt (i : Nat) : z_chk "BreatheAsOneModel" false lk_M prog_13_method_70_code k_M_airAt i = true := z_out_k (z_k0_M_airAt i)
theorem z_u0_M_airAt : ∀ i, i < 31 → z_chu d_M_airAt.2.2.1 4 i = true := by decide +kernel
theorem z_u_M_airAt (i : Nat) : z_chu d_M_airAt.2.2.1 4 i = true := z_out_u (z_u0_M_airAt i)
theorem z_g_M_airAt : z_good 206 d_M_airAt := ⟨_, _, _, _, _, _, _, _, _, _, _, rfl, by decide +kernel, rfl, by decide +kernel, by decide, z_lk_M, z_k_M_airAt, z_u_M_airAt⟩
theorem z_k0_M_holdsBy : ∀ i, i < 87 → z_chk "BreatheAsOneModel" false lk_M prog_13_method_72_code k_M_holdsBy i = true := by decide +kernel
theorem z_k_M_holdsBy (i : Nat) : z_chk "BreatheAsOneModel" false lk_M prog_13_method_72_code k_M_holdsBy i = true := z_out_k (z_k0_M_holdsBy i)
theorem z_u_M_holdsBy (i : Nat) : z_chu d_M_holdsBy.2.2.1 7 i = true := rfl
theorem z_g_M_holdsBy : z_good 207 d_M_holdsBy := ⟨_, _, _, _, _, _, _, _, _, _, _, rfl, by decide +kernel, rfl, by decide +kernel, by decide, z_lk_M, z_k_M_holdsBy, z_u_M_holdsBy⟩
theorem z_k0_M_isHeld : ∀ i, i < 33 → z_chk "BreatheAsOneModel" false lk_M prog_13_method_73_code k_M_isHeld i = true := by decide +kernel
theorem z_k_M_isHeld (i : Nat) : z_chk "BreatheAsOneModel" false lk_M prog_13_method_73_code k_M_isHeld i = true := z_out_k (z_k0_M_isHeld i)
theorem z_u_M_isHeld (i : Nat) : z_chu d_M_isHeld.2.2.1 4 i = true := rfl
theorem z_g_M_isHeld : z_good 208 d_M_isHeld := ⟨_, _, _, _, _, _, _, _, _, _, _, rfl, by decide +kernel, rfl, by decide +kernel, by decide, z_lk_M, z_k_M_isHeld, z_u_M_isHeld⟩
theorem z_k0_M_ofNote : ∀ i, i < 105 → z_chk "BreatheAsOneModel" false lk_M prog_13_method_94_code k_M_ofNote i = true := by decide +kernel
theorem z_k_M_ofNote (i : Nat) : z_chk "BreatheAsOneModel" false lk_M prog_13_method_94_code k_M_ofNote i = true := z_out_k (z_k0_M_ofNote i)
theorem z_u_M_ofNote (i : Nat) : z_chu d_M_ofNote.2.2.1 3 i = true := rfl
theorem z_g_M_ofNote : z_good 209 d_M_ofNote := ⟨_, _, _, _, _, _, _, _, _, _, _, rfl, by decide +kernel, rfl, by decide +kernel, by decide, z_lk_M, z_k_M_ofNote, z_u_M_ofNote⟩
theorem z_k0_B_air : ∀ i, i < 25 → z_chk "BreatheAsOne" false lk_B prog_1_method_23_code k_B_air i = true := by decide +kernel
theorem z_k_B_air (i : Nat) : z_chk "BreatheAsOne" false lk_B prog_1_method_23_code k_B_air i = true := z_out_k (z_k0_B_air i)
theorem z_u_B_air (i : Nat) : z_chu d_B_air.2.2.1 2 i = true := rfl
theorem z_g_B_air : z_good 210 d_B_air := ⟨_, _, _, _, _, _, _, _, _, _, _, rfl, by decide +kernel, rfl, by decide +kernel, by decide, z_lk_B, z_k_B_air, z_u_B_air⟩
theorem z_k0_M_air : ∀ i, i < 23 → z_chk "BreatheAsOneModel" false lk_M prog_13_method_95_code k_M_air i = true := by decide +kernel
theorem z_k_M_air (i : Nat) : z_chk "BreatheAsOneModel" false lk_M prog_13_method_95_code k_M_air i = true := z_out_k (z_k0_M_air i)
theorem z_u_M_air (i : Nat) : z_chu d_M_air.2.2.1 2 i = true := rfl
theorem z_g_M_air : z_good 211 d_M_air := ⟨_, _, _, _, _, _, _, _, _, _, _, rfl, by decide +kernel, rfl, by decide +kernel, by decide, z_lk_M, z_k_M_air, z_u_M_air⟩
theorem z_k0_B_coughs : ∀ i, i < 66 → z_chk "BreatheAsOne" false lk_B prog_1_method_24_code k_B_coughs i = true := by decide +kernel
theorem z_k_B_coughs (i : Nat) : z_chk "BreatheAsOne" false lk_B prog_1_method_24_code k_B_coughs i = true := z_out_k (z_k0_B_coughs i)
theorem z_u_B_coughs (i : Nat) : z_chu d_B_coughs.2.2.1 3 i = true := rfl
theorem z_g_B_coughs : z_good 212 d_B_coughs := ⟨_, _, _, _, _, _, _, _, _, _, _, rfl, by decide +kernel, rfl, by decide +kernel, by decide, z_lk_B, z_k_B_coughs, z_u_B_coughs⟩
