/-! each method: its code, links and cuts, checked by the kernel -/
/-- what is known of a method -/
def z_good (mn : Nat) (d : ZD) : Prop := ∃ (y : MethodName) (bs : ByteArray) (rt : Option FieldType) (f p1 p2 p3 p4 q s n : Nat → Nat), z_inf mn = some (y, bs, d.2.2.2.2, rt) ∧ z_has (z_cp0 mn) (.code y bs d.2.2.2.2 rt) = true ∧ d.2.2.2.1 = z_rs rt ∧ plainFor y = true ∧ d.2.2.2.2 ≤ 30 ∧ z_lk y.cls d.1 f p1 p2 p3 p4 q s n ∧ (∀ pc, z_chk y.cls (y.name == "<init>") d.1 bs d.2.1 pc = true) ∧ ∀ pc, z_chu d.2.2.1 d.2.2.2.2 pc = true
theorem z_out_k {own : String} {ini : Bool} {lk : ZC} {bs : ByteArray} {i N : Nat} {t : Nat → Option (Instr × Nat)} (h : i < N + 1 → z_chk own ini lk bs (fun n => cond (Nat.ble n N) (t n) none) i = true) : z_chk own ini lk bs (fun n => cond (Nat.ble n N) (t n) none) i = true := by
  rcases Nat.lt_or_ge i (N + 1) with q | q
  · exact h q
  · have e : Nat.ble i N = false := by
      cases hb : Nat.ble i N with
      | false => rfl
      | true => have := Nat.le_of_ble_eq_true hb; omega
    unfold z_chk
    simp only [e, cond_false]
theorem z_out_u {i N n : Nat} {t : Nat → Option (List Bool)} (h : i < N + 1 → z_chu (fun n => cond (Nat.ble n N) (t n) none) n i = true) : z_chu (fun n => cond (Nat.ble n N) (t n) none) n i = true := by
  rcases Nat.lt_or_ge i (N + 1) with q | q
  · exact h q
  · have e : Nat.ble i N = false := by
      cases hb : Nat.ble i N with
      | false => rfl
      | true => have := Nat.le_of_ble_eq_true hb; omega
    unfold z_chu
    simp only [e, cond_false]
theorem z_tr_n {n k : Nat} {a b : Option ZD} {d : ZD} {P : Prop} (h1 : a = some d → P) (h2 : b = some d → P) (h : cond (Nat.ble n k) a b = some d) : P := by
  cases hb : Nat.ble n k with
  | true => rw [hb] at h; exact h1 h
  | false => rw [hb] at h; exact h2 h
theorem z_tr_l {n k : Nat} {v d : ZD} (hg : z_good k v) (h : cond (Nat.beq n k) (some v) none = some d) : z_good n d := by
  cases hb : Nat.beq n k with
  | true =>
    rw [hb] at h
    cases h
    have e := Nat.eq_of_beq_eq_true hb
    subst e
    exact hg
  | false => rw [hb] at h; cases h
theorem z_k0_H_init : ∀ i, i < 94 → z_chk "BreatheAsOne$House" true lk_H prog_5_method_1_code k_H_init i = true := by decide +kernel
theorem z_k_H_init (i : Nat) : z_chk "BreatheAsOne$House" true lk_H prog_5_method_1_code k_H_init i = true := z_out_k (z_k0_H_init i)
theorem z_u_H_init (i : Nat) : z_chu d_H_init.2.2.1 1 i = true := rfl
theorem z_g_H_init : z_good 3 d_H_init := ⟨_, _, _, _, _, _, _, _, _, _, _, rfl, by decide +kernel, rfl, by decide +kernel, by decide, z_lk_H, z_k_H_init, z_u_H_init⟩
theorem z_k0_Ar_fill : ∀ i, i < 21 → z_chk "java/util/Arrays" false lk_Ar prog_22_method_103_code k_Ar_fill i = true := by decide +kernel
theorem z_k_Ar_fill (i : Nat) : z_chk "java/util/Arrays" false lk_Ar prog_22_method_103_code k_Ar_fill i = true := z_out_k (z_k0_Ar_fill i)
theorem z_u0_Ar_fill : ∀ i, i < 21 → z_chu d_Ar_fill.2.2.1 4 i = true := by decide +kernel
theorem z_u_Ar_fill (i : Nat) : z_chu d_Ar_fill.2.2.1 4 i = true := z_out_u (z_u0_Ar_fill i)
theorem z_g_Ar_fill : z_good 4 d_Ar_fill := ⟨_, _, _, _, _, _, _, _, _, _, _, rfl, by decide +kernel, rfl, by decide +kernel, by decide, z_lk_Ar, z_k_Ar_fill, z_u_Ar_fill⟩
theorem z_k0_Mo_init : ∀ i, i < 66 → z_chk "BreatheAsOne$Moment" true lk_Mo prog_6_method_1_code k_Mo_init i = true := by decide +kernel
theorem z_k_Mo_init (i : Nat) : z_chk "BreatheAsOne$Moment" true lk_Mo prog_6_method_1_code k_Mo_init i = true := z_out_k (z_k0_Mo_init i)
theorem z_u_Mo_init (i : Nat) : z_chu d_Mo_init.2.2.1 1 i = true := rfl
theorem z_g_Mo_init : z_good 5 d_Mo_init := ⟨_, _, _, _, _, _, _, _, _, _, _, rfl, by decide +kernel, rfl, by decide +kernel, by decide, z_lk_Mo, z_k_Mo_init, z_u_Mo_init⟩
theorem z_k0_St_init : ∀ i, i < 24 → z_chk "BreatheAsOne$Steps" true lk_St prog_9_method_1_code k_St_init i = true := by decide +kernel
theorem z_k_St_init (i : Nat) : z_chk "BreatheAsOne$Steps" true lk_St prog_9_method_1_code k_St_init i = true := z_out_k (z_k0_St_init i)
theorem z_u_St_init (i : Nat) : z_chu d_St_init.2.2.1 1 i = true := rfl
theorem z_g_St_init : z_good 6 d_St_init := ⟨_, _, _, _, _, _, _, _, _, _, _, rfl, by decide +kernel, rfl, by decide +kernel, by decide, z_lk_St, z_k_St_init, z_u_St_init⟩
theorem z_k0_To_init : ∀ i, i < 55 → z_chk "BreatheAsOne$Told" true lk_To prog_11_method_1_code k_To_init i = true := by decide +kernel
theorem z_k_To_init (i : Nat) : z_chk "BreatheAsOne$Told" true lk_To prog_11_method_1_code k_To_init i = true := z_out_k (z_k0_To_init i)
theorem z_u_To_init (i : Nat) : z_chu d_To_init.2.2.1 1 i = true := rfl
theorem z_g_To_init : z_good 7 d_To_init := ⟨_, _, _, _, _, _, _, _, _, _, _, rfl, by decide +kernel, rfl, by decide +kernel, by decide, z_lk_To, z_k_To_init, z_u_To_init⟩
theorem z_k0_Re_init : ∀ i, i < 100 → z_chk "BreatheAsOne$Reader" true lk_Re prog_8_method_1_code k_Re_init i = true := by decide +kernel
theorem z_k_Re_init (i : Nat) : z_chk "BreatheAsOne$Reader" true lk_Re prog_8_method_1_code k_Re_init i = true := z_out_k (z_k0_Re_init i)
theorem z_u_Re_init (i : Nat) : z_chu d_Re_init.2.2.1 1 i = true := rfl
theorem z_g_Re_init : z_good 8 d_Re_init := ⟨_, _, _, _, _, _, _, _, _, _, _, rfl, by decide +kernel, rfl, by decide +kernel, by decide, z_lk_Re, z_k_Re_init, z_u_Re_init⟩
theorem z_k0_Br_init : ∀ i, i < 50 → z_chk "BreatheAsOne$Breathing" true lk_Br prog_2_method_1_code k_Br_init i = true := by decide +kernel
theorem z_k_Br_init (i : Nat) : z_chk "BreatheAsOne$Breathing" true lk_Br prog_2_method_1_code k_Br_init i = true := z_out_k (z_k0_Br_init i)
theorem z_u_Br_init (i : Nat) : z_chu d_Br_init.2.2.1 3 i = true := rfl
theorem z_g_Br_init : z_good 9 d_Br_init := ⟨_, _, _, _, _, _, _, _, _, _, _, rfl, by decide +kernel, rfl, by decide +kernel, by decide, z_lk_Br, z_k_Br_init, z_u_Br_init⟩
theorem z_k0_De_init : ∀ i, i < 26 → z_chk "BreatheAsOne$Deeds" true lk_De prog_3_method_1_code k_De_init i = true := by decide +kernel
theorem z_k_De_init (i : Nat) : z_chk "BreatheAsOne$Deeds" true lk_De prog_3_method_1_code k_De_init i = true := z_out_k (z_k0_De_init i)
theorem z_u_De_init (i : Nat) : z_chu d_De_init.2.2.1 5 i = true := rfl
theorem z_g_De_init : z_good 10 d_De_init := ⟨_, _, _, _, _, _, _, _, _, _, _, rfl, by decide +kernel, rfl, by decide +kernel, by decide, z_lk_De, z_k_De_init, z_u_De_init⟩
theorem z_k0_Qu_init : ∀ i, i < 50 → z_chk "BreatheAsOne$Questions" true lk_Qu prog_7_method_1_code k_Qu_init i = true := by decide +kernel
theorem z_k_Qu_init (i : Nat) : z_chk "BreatheAsOne$Questions" true lk_Qu prog_7_method_1_code k_Qu_init i = true := z_out_k (z_k0_Qu_init i)
theorem z_u_Qu_init (i : Nat) : z_chu d_Qu_init.2.2.1 5 i = true := rfl
theorem z_g_Qu_init : z_good 11 d_Qu_init := ⟨_, _, _, _, _, _, _, _, _, _, _, rfl, by decide +kernel, rfl, by decide +kernel, by decide, z_lk_Qu, z_k_Qu_init, z_u_Qu_init⟩
theorem z_k0_Ga_init : ∀ i, i < 94 → z_chk "BreatheAsOne$Games" true lk_Ga prog_4_method_1_code k_Ga_init i = true := by decide +kernel
theorem z_k_Ga_init (i : Nat) : z_chk "BreatheAsOne$Games" true lk_Ga prog_4_method_1_code k_Ga_init i = true := z_out_k (z_k0_Ga_init i)
theorem z_u_Ga_init (i : Nat) : z_chu d_Ga_init.2.2.1 5 i = true := rfl
theorem z_g_Ga_init : z_good 12 d_Ga_init := ⟨_, _, _, _, _, _, _, _, _, _, _, rfl, by decide +kernel, rfl, by decide +kernel, by decide, z_lk_Ga, z_k_Ga_init, z_u_Ga_init⟩
theorem z_k0_B_init : ∀ i, i < 218 → z_chk "BreatheAsOne" true lk_B prog_1_method_1_code k_B_init i = true := by decide +kernel
theorem z_k_B_init (i : Nat) : z_chk "BreatheAsOne" true lk_B prog_1_method_1_code k_B_init i = true := z_out_k (z_k0_B_init i)
theorem z_u_B_init (i : Nat) : z_chu d_B_init.2.2.1 1 i = true := rfl
theorem z_g_B_init : z_good 13 d_B_init := ⟨_, _, _, _, _, _, _, _, _, _, _, rfl, by decide +kernel, rfl, by decide +kernel, by decide, z_lk_B, z_k_B_init, z_u_B_init⟩
theorem z_k0_M_copy : ∀ i, i < 22 → z_chk "BreatheAsOneModel" false lk_M prog_13_method_2_code k_M_copy i = true := by decide +kernel
theorem z_k_M_copy (i : Nat) : z_chk "BreatheAsOneModel" false lk_M prog_13_method_2_code k_M_copy i = true := z_out_k (z_k0_M_copy i)
theorem z_u0_M_copy : ∀ i, i < 22 → z_chu d_M_copy.2.2.1 3 i = true := by decide +kernel
theorem z_u_M_copy (i : Nat) : z_chu d_M_copy.2.2.1 3 i = true := z_out_u (z_u0_M_copy i)
theorem z_g_M_copy : z_good 14 d_M_copy := ⟨_, _, _, _, _, _, _, _, _, _, _, rfl, by decide +kernel, rfl, by decide +kernel, by decide, z_lk_M, z_k_M_copy, z_u_M_copy⟩
theorem z_k0_M_init : ∀ i, i < 192 → z_chk "BreatheAsOneModel" true lk_M prog_13_method_1_code k_M_init i = true := by decide +kernel
theorem z_k_M_init (i : Nat) : z_chk "BreatheAsOneModel" true lk_M prog_13_method_1_code k_M_init i = true := z_out_k (z_k0_M_init i)
theorem z_u_M_init (i : Nat) : z_chu d_M_init.2.2.1 1 i = true := rfl
theorem z_g_M_init : z_good 15 d_M_init := ⟨_, _, _, _, _, _, _, _, _, _, _, rfl, by decide +kernel, rfl, by decide +kernel, by decide, z_lk_M, z_k_M_init, z_u_M_init⟩
theorem z_k0_B_within : ∀ i, i < 16 → z_chk "BreatheAsOne" false lk_B prog_1_method_45_code k_B_within i = true := by decide +kernel
theorem z_k_B_within (i : Nat) : z_chk "BreatheAsOne" false lk_B prog_1_method_45_code k_B_within i = true := z_out_k (z_k0_B_within i)
theorem z_u_B_within (i : Nat) : z_chu d_B_within.2.2.1 3 i = true := rfl
theorem z_g_B_within : z_good 16 d_B_within := ⟨_, _, _, _, _, _, _, _, _, _, _, rfl, by decide +kernel, rfl, by decide +kernel, by decide, z_lk_B, z_k_B_within, z_u_B_within⟩
theorem z_k0_H_addSeat : ∀ i, i < 67 → z_chk "BreatheAsOne$House" false lk_H prog_5_method_2_code k_H_addSeat i = true := by decide +kernel
theorem z_k_H_addSeat (i : Nat) : z_chk "BreatheAsOne$House" false lk_H prog_5_method_2_code k_H_addSeat i = true := z_out_k (z_k0_H_addSeat i)
theorem z_u_H_addSeat (i : Nat) : z_chu d_H_addSeat.2.2.1 3 i = true := rfl
theorem z_g_H_addSeat : z_good 17 d_H_addSeat := ⟨_, _, _, _, _, _, _, _, _, _, _, rfl, by decide +kernel, rfl, by decide +kernel, by decide, z_lk_H, z_k_H_addSeat, z_u_H_addSeat⟩
theorem z_k0_B_seat : ∀ i, i < 10 → z_chk "BreatheAsOne" false lk_B prog_1_method_2_code k_B_seat i = true := by decide +kernel
theorem z_k_B_seat (i : Nat) : z_chk "BreatheAsOne" false lk_B prog_1_method_2_code k_B_seat i = true := z_out_k (z_k0_B_seat i)
theorem z_u_B_seat (i : Nat) : z_chu d_B_seat.2.2.1 3 i = true := rfl
theorem z_g_B_seat : z_good 18 d_B_seat := ⟨_, _, _, _, _, _, _, _, _, _, _, rfl, by decide +kernel, rfl, by decide +kernel, by decide, z_lk_B, z_k_B_seat, z_u_B_seat⟩
theorem z_k0_M_isIn : ∀ i, i < 16 → z_chk "BreatheAsOneModel" false lk_M prog_13_method_3_code k_M_isIn i = true := by decide +kernel
theorem z_k_M_isIn (i : Nat) : z_chk "BreatheAsOneModel" false lk_M prog_13_method_3_code k_M_isIn i = true := z_out_k (z_k0_M_isIn i)
theorem z_u_M_isIn (i : Nat) : z_chu d_M_isIn.2.2.1 3 i = true := rfl
theorem z_g_M_isIn : z_good 19 d_M_isIn := ⟨_, _, _, _, _, _, _, _, _, _, _, rfl, by decide +kernel, rfl, by decide +kernel, by decide, z_lk_M, z_k_M_isIn, z_u_M_isIn⟩
theorem z_k0_M_seat : ∀ i, i < 87 → z_chk "BreatheAsOneModel" false lk_M prog_13_method_14_code k_M_seat i = true := by decide +kernel
theorem z_k_M_seat (i : Nat) : z_chk "BreatheAsOneModel" false lk_M prog_13_method_14_code k_M_seat i = true := z_out_k (z_k0_M_seat i)
theorem z_u_M_seat (i : Nat) : z_chu d_M_seat.2.2.1 3 i = true := rfl
theorem z_g_M_seat : z_good 20 d_M_seat := ⟨_, _, _, _, _, _, _, _, _, _, _, rfl, by decide +kernel, rfl, by decide +kernel, by decide, z_lk_M, z_k_M_seat, z_u_M_seat⟩
theorem z_k0_H_addPerson : ∀ i, i < 88 → z_chk "BreatheAsOne$House" false lk_H prog_5_method_3_code k_H_addPerson i = true := by decide +kernel
theorem z_k_H_addPerson (i : Nat) : z_chk "BreatheAsOne$House" false lk_H prog_5_method_3_code k_H_addPerson i = true := z_out_k (z_k0_H_addPerson i)
theorem z_u_H_addPerson (i : Nat) : z_chu d_H_addPerson.2.2.1 4 i = true := rfl
theorem z_g_H_addPerson : z_good 21 d_H_addPerson := ⟨_, _, _, _, _, _, _, _, _, _, _, rfl, by decide +kernel, rfl, by decide +kernel, by decide, z_lk_H, z_k_H_addPerson, z_u_H_addPerson⟩
theorem z_k0_B_person : ∀ i, i < 11 → z_chk "BreatheAsOne" false lk_B prog_1_method_3_code k_B_person i = true := by decide +kernel
theorem z_k_B_person (i : Nat) : z_chk "BreatheAsOne" false lk_B prog_1_method_3_code k_B_person i = true := z_out_k (z_k0_B_person i)
theorem z_u_B_person (i : Nat) : z_chu d_B_person.2.2.1 4 i = true := rfl
theorem z_g_B_person : z_good 22 d_B_person := ⟨_, _, _, _, _, _, _, _, _, _, _, rfl, by decide +kernel, rfl, by decide +kernel, by decide, z_lk_B, z_k_B_person, z_u_B_person⟩
theorem z_k0_M_set : ∀ i, i < 15 → z_chk "BreatheAsOneModel" false lk_M prog_13_method_12_code k_M_set i = true := by decide +kernel
theorem z_k_M_set (i : Nat) : z_chk "BreatheAsOneModel" false lk_M prog_13_method_12_code k_M_set i = true := z_out_k (z_k0_M_set i)
theorem z_u_M_set (i : Nat) : z_chu d_M_set.2.2.1 4 i = true := rfl
theorem z_g_M_set : z_good 23 d_M_set := ⟨_, _, _, _, _, _, _, _, _, _, _, rfl, by decide +kernel, rfl, by decide +kernel, by decide, z_lk_M, z_k_M_set, z_u_M_set⟩
theorem z_k0_M_person : ∀ i, i < 104 → z_chk "BreatheAsOneModel" false lk_M prog_13_method_15_code k_M_person i = true := by decide +kernel
theorem z_k_M_person (i : Nat) : z_chk "BreatheAsOneModel" false lk_M prog_13_method_15_code k_M_person i = true := z_out_k (z_k0_M_person i)
theorem z_u_M_person (i : Nat) : z_chu d_M_person.2.2.1 5 i = true := rfl
theorem z_g_M_person : z_good 24 d_M_person := ⟨_, _, _, _, _, _, _, _, _, _, _, rfl, by decide +kernel, rfl, by decide +kernel, by decide, z_lk_M, z_k_M_person, z_u_M_person⟩
theorem z_k0_H_addNote : ∀ i, i < 69 → z_chk "BreatheAsOne$House" false lk_H prog_5_method_4_code k_H_addNote i = true := by decide +kernel
theorem z_k_H_addNote (i : Nat) : z_chk "BreatheAsOne$House" false lk_H prog_5_method_4_code k_H_addNote i = true := z_out_k (z_k0_H_addNote i)
theorem z_u_H_addNote (i : Nat) : z_chu d_H_addNote.2.2.1 3 i = true := rfl
theorem z_g_H_addNote : z_good 25 d_H_addNote := ⟨_, _, _, _, _, _, _, _, _, _, _, rfl, by decide +kernel, rfl, by decide +kernel, by decide, z_lk_H, z_k_H_addNote, z_u_H_addNote⟩
theorem z_k0_B_note : ∀ i, i < 10 → z_chk "BreatheAsOne" false lk_B prog_1_method_4_code k_B_note i = true := by decide +kernel
theorem z_k_B_note (i : Nat) : z_chk "BreatheAsOne" false lk_B prog_1_method_4_code k_B_note i = true := z_out_k (z_k0_B_note i)
theorem z_u_B_note (i : Nat) : z_chu d_B_note.2.2.1 3 i = true := rfl
theorem z_g_B_note : z_good 26 d_B_note := ⟨_, _, _, _, _, _, _, _, _, _, _, rfl, by decide +kernel, rfl, by decide +kernel, by decide, z_lk_B, z_k_B_note, z_u_B_note⟩
theorem z_k0_M_note : ∀ i, i < 89 → z_chk "BreatheAsOneModel" false lk_M prog_13_method_16_code k_M_note i = true := by decide +kernel
theorem z_k_M_note (i : Nat) : z_chk "BreatheAsOneModel" false lk_M prog_13_method_16_code k_M_note i = true := z_out_k (z_k0_M_note i)
theorem z_u_M_note (i : Nat) : z_chu d_M_note.2.2.1 3 i = true := rfl
theorem z_g_M_note : z_good 27 d_M_note := ⟨_, _, _, _, _, _, _, _, _, _, _, rfl, by decide +kernel, rfl, by decide +kernel, by decide, z_lk_M, z_k_M_note, z_u_M_note⟩
theorem z_k0_B_putBytes : ∀ i, i < 47 → z_chk "BreatheAsOne" false lk_B prog_1_method_6_code k_B_putBytes i = true := by decide +kernel
theorem z_k_B_putBytes (i : Nat) : z_chk "BreatheAsOne" false lk_B prog_1_method_6_code k_B_putBytes i = true := z_out_k (z_k0_B_putBytes i)
theorem z_u0_B_putBytes : ∀ i, i < 47 → z_chu d_B_putBytes.2.2.1 3 i = true := by decide +kernel
theorem z_u_B_putBytes (i : Nat) : z_chu d_B_putBytes.2.2.1 3 i = true := z_out_u (z_u0_B_putBytes i)
theorem z_g_B_putBytes : z_good 28 d_B_putBytes := ⟨_, _, _, _, _, _, _, _, _, _, _, rfl, by decide +kernel, rfl, by decide +kernel, by decide, z_lk_B, z_k_B_putBytes, z_u_B_putBytes⟩
theorem z_k0_B_feed : ∀ i, i < 44 → z_chk "BreatheAsOne" false lk_B prog_1_method_5_code k_B_feed i = true := by decide +kernel
theorem z_k_B_feed (i : Nat) : z_chk "BreatheAsOne" false lk_B prog_1_method_5_code k_B_feed i = true := z_out_k (z_k0_B_feed i)
theorem z_u_B_feed (i : Nat) : z_chu d_B_feed.2.2.1 6 i = true := rfl
theorem z_g_B_feed : z_good 29 d_B_feed := ⟨_, _, _, _, _, _, _, _, _, _, _, rfl, by decide +kernel, rfl, by decide +kernel, by decide, z_lk_B, z_k_B_feed, z_u_B_feed⟩
theorem z_k0_M_four : ∀ i, i < 40 → z_chk "BreatheAsOneModel" false lk_M prog_13_method_17_code k_M_four i = true := by decide +kernel
theorem z_k_M_four (i : Nat) : z_chk "BreatheAsOneModel" false lk_M prog_13_method_17_code k_M_four i = true := z_out_k (z_k0_M_four i)
theorem z_u0_M_four : ∀ i, i < 40 → z_chu d_M_four.2.2.1 3 i = true := by decide +kernel
theorem z_u_M_four (i : Nat) : z_chu d_M_four.2.2.1 3 i = true := z_out_u (z_u0_M_four i)
theorem z_g_M_four : z_good 30 d_M_four := ⟨_, _, _, _, _, _, _, _, _, _, _, rfl, by decide +kernel, rfl, by decide +kernel, by decide, z_lk_M, z_k_M_four, z_u_M_four⟩
theorem z_k0_M_feed : ∀ i, i < 47 → z_chk "BreatheAsOneModel" false lk_M prog_13_method_18_code k_M_feed i = true := by decide +kernel
theorem z_k_M_feed (i : Nat) : z_chk "BreatheAsOneModel" false lk_M prog_13_method_18_code k_M_feed i = true := z_out_k (z_k0_M_feed i)
theorem z_u_M_feed (i : Nat) : z_chu d_M_feed.2.2.1 6 i = true := rfl
theorem z_g_M_feed : z_good 31 d_M_feed := ⟨_, _, _, _, _, _, _, _, _, _, _, rfl, by decide +kernel, rfl, by decide +kernel, by decide, z_lk_M, z_k_M_feed, z_u_M_feed⟩
theorem z_k0_B_end : ∀ i, i < 21 → z_chk "BreatheAsOne" false lk_B prog_1_method_7_code k_B_end i = true := by decide +kernel
theorem z_k_B_end (i : Nat) : z_chk "BreatheAsOne" false lk_B prog_1_method_7_code k_B_end i = true := z_out_k (z_k0_B_end i)
theorem z_u_B_end (i : Nat) : z_chu d_B_end.2.2.1 2 i = true := rfl
theorem z_g_B_end : z_good 32 d_B_end := ⟨_, _, _, _, _, _, _, _, _, _, _, rfl, by decide +kernel, rfl, by decide +kernel, by decide, z_lk_B, z_k_B_end, z_u_B_end⟩
theorem z_k0_M_end : ∀ i, i < 21 → z_chk "BreatheAsOneModel" false lk_M prog_13_method_19_code k_M_end i = true := by decide +kernel
theorem z_k_M_end (i : Nat) : z_chk "BreatheAsOneModel" false lk_M prog_13_method_19_code k_M_end i = true := z_out_k (z_k0_M_end i)
theorem z_u_M_end (i : Nat) : z_chu d_M_end.2.2.1 2 i = true := rfl
theorem z_g_M_end : z_good 33 d_M_end := ⟨_, _, _, _, _, _, _, _, _, _, _, rfl, by decide +kernel, rfl, by decide +kernel, by decide, z_lk_M, z_k_M_end, z_u_M_end⟩
theorem z_k0_Ma_min_II : ∀ i, i < 11 → z_chk "java/lang/Math" false lk_Ma prog_17_method_69_code k_Ma_min_II i = true := by decide +kernel
theorem z_k_Ma_min_II (i : Nat) : z_chk "java/lang/Math" false lk_Ma prog_17_method_69_code k_Ma_min_II i = true := z_out_k (z_k0_Ma_min_II i)
theorem z_u_Ma_min_II (i : Nat) : z_chu d_Ma_min_II.2.2.1 2 i = true := rfl
theorem z_g_Ma_min_II : z_good 34 d_Ma_min_II := ⟨_, _, _, _, _, _, _, _, _, _, _, rfl, by decide +kernel, rfl, by decide +kernel, by decide, z_lk_Ma, z_k_Ma_min_II, z_u_Ma_min_II⟩
theorem z_k0_Re_isLetter : ∀ i, i < 30 → z_chk "BreatheAsOne$Reader" false lk_Re prog_8_method_8_code k_Re_isLetter i = true := by decide +kernel
theorem z_k_Re_isLetter (i : Nat) : z_chk "BreatheAsOne$Reader" false lk_Re prog_8_method_8_code k_Re_isLetter i = true := z_out_k (z_k0_Re_isLetter i)
theorem z_u_Re_isLetter (i : Nat) : z_chu d_Re_isLetter.2.2.1 1 i = true := rfl
theorem z_g_Re_isLetter : z_good 35 d_Re_isLetter := ⟨_, _, _, _, _, _, _, _, _, _, _, rfl, by decide +kernel, rfl, by decide +kernel, by decide, z_lk_Re, z_k_Re_isLetter, z_u_Re_isLetter⟩
theorem z_k0_Re_isDigit : ∀ i, i < 18 → z_chk "BreatheAsOne$Reader" false lk_Re prog_8_method_9_code k_Re_isDigit i = true := by decide +kernel
theorem z_k_Re_isDigit (i : Nat) : z_chk "BreatheAsOne$Reader" false lk_Re prog_8_method_9_code k_Re_isDigit i = true := z_out_k (z_k0_Re_isDigit i)
theorem z_u_Re_isDigit (i : Nat) : z_chu d_Re_isDigit.2.2.1 1 i = true := rfl
theorem z_g_Re_isDigit : z_good 36 d_Re_isDigit := ⟨_, _, _, _, _, _, _, _, _, _, _, rfl, by decide +kernel, rfl, by decide +kernel, by decide, z_lk_Re, z_k_Re_isDigit, z_u_Re_isDigit⟩
theorem z_k0_Re_endOfToken : ∀ i, i < 96 → z_chk "BreatheAsOne$Reader" false lk_Re prog_8_method_4_code k_Re_endOfToken i = true := by decide +kernel
theorem z_k_Re_endOfToken (i : Nat) : z_chk "BreatheAsOne$Reader" false lk_Re prog_8_method_4_code k_Re_endOfToken i = true := z_out_k (z_k0_Re_endOfToken i)
theorem z_u0_Re_endOfToken : ∀ i, i < 96 → z_chu d_Re_endOfToken.2.2.1 4 i = true := by decide +kernel
theorem z_u_Re_endOfToken (i : Nat) : z_chu d_Re_endOfToken.2.2.1 4 i = true := z_out_u (z_u0_Re_endOfToken i)
theorem z_g_Re_endOfToken : z_good 37 d_Re_endOfToken := ⟨_, _, _, _, _, _, _, _, _, _, _, rfl, by decide +kernel, rfl, by decide +kernel, by decide, z_lk_Re, z_k_Re_endOfToken, z_u_Re_endOfToken⟩
theorem z_k0_Sg_coder : ∀ i, i < 15 → z_chk "java/lang/String" false lk_Sg prog_18_method_152_code k_Sg_coder i = true := by decide +kernel
theorem z_k_Sg_coder (i : Nat) : z_chk "java/lang/String" false lk_Sg prog_18_method_152_code k_Sg_coder i = true := z_out_k (z_k0_Sg_coder i)
theorem z_u_Sg_coder (i : Nat) : z_chu d_Sg_coder.2.2.1 1 i = true := rfl
theorem z_g_Sg_coder : z_good 38 d_Sg_coder := ⟨_, _, _, _, _, _, _, _, _, _, _, rfl, by decide +kernel, rfl, by decide +kernel, by decide, z_lk_Sg, z_k_Sg_coder, z_u_Sg_coder⟩
theorem z_k0_Sg_length : ∀ i, i < 11 → z_chk "java/lang/String" false lk_Sg prog_18_method_54_code k_Sg_length i = true := by decide +kernel
theorem z_k_Sg_length (i : Nat) : z_chk "java/lang/String" false lk_Sg prog_18_method_54_code k_Sg_length i = true := z_out_k (z_k0_Sg_length i)
theorem z_u_Sg_length (i : Nat) : z_chu d_Sg_length.2.2.1 1 i = true := rfl
theorem z_g_Sg_length : z_good 39 d_Sg_length := ⟨_, _, _, _, _, _, _, _, _, _, _, rfl, by decide +kernel, rfl, by decide +kernel, by decide, z_lk_Sg, z_k_Sg_length, z_u_Sg_length⟩
theorem z_k0_Sg_isLatin1 : ∀ i, i < 19 → z_chk "java/lang/String" false lk_Sg prog_18_method_154_code k_Sg_isLatin1 i = true := by decide +kernel
theorem z_k_Sg_isLatin1 (i : Nat) : z_chk "java/lang/String" false lk_Sg prog_18_method_154_code k_Sg_isLatin1 i = true := z_out_k (z_k0_Sg_isLatin1 i)
theorem z_u_Sg_isLatin1 (i : Nat) : z_chu d_Sg_isLatin1.2.2.1 1 i = true := rfl
theorem z_g_Sg_isLatin1 : z_good 40 d_Sg_isLatin1 := ⟨_, _, _, _, _, _, _, _, _, _, _, rfl, by decide +kernel, rfl, by decide +kernel, by decide, z_lk_Sg, z_k_Sg_isLatin1, z_u_Sg_isLatin1⟩
theorem z_k0_Pr_checkIndex : ∀ i, i < 18 → z_chk "jdk/internal/util/Preconditions" false lk_Pr prog_23_method_11_code k_Pr_checkIndex i = true := by decide +kernel
theorem z_k_Pr_checkIndex (i : Nat) : z_chk "jdk/internal/util/Preconditions" false lk_Pr prog_23_method_11_code k_Pr_checkIndex i = true := z_out_k (z_k0_Pr_checkIndex i)
theorem z_u_Pr_checkIndex (i : Nat) : z_chu d_Pr_checkIndex.2.2.1 3 i = true := rfl
theorem z_g_Pr_checkIndex : z_good 41 d_Pr_checkIndex := ⟨_, _, _, _, _, _, _, _, _, _, _, rfl, by decide +kernel, rfl, by decide +kernel, by decide, z_lk_Pr, z_k_Pr_checkIndex, z_u_Pr_checkIndex⟩
theorem z_k0_Sg_checkIndex : ∀ i, i < 10 → z_chk "java/lang/String" false lk_Sg prog_18_method_155_code k_Sg_checkIndex i = true := by decide +kernel
theorem z_k_Sg_checkIndex (i : Nat) : z_chk "java/lang/String" false lk_Sg prog_18_method_155_code k_Sg_checkIndex i = true := z_out_k (z_k0_Sg_checkIndex i)
theorem z_u_Sg_checkIndex (i : Nat) : z_chu d_Sg_checkIndex.2.2.1 2 i = true := rfl
theorem z_g_Sg_checkIndex : z_good 42 d_Sg_checkIndex := ⟨_, _, _, _, _, _, _, _, _, _, _, rfl, by decide +kernel, rfl, by decide +kernel, by decide, z_lk_Sg, z_k_Sg_checkIndex, z_u_Sg_checkIndex⟩
theorem z_k0_Sl_charAt : ∀ i, i < 15 → z_chk "java/lang/StringLatin1" false lk_Sl prog_19_method_2_code k_Sl_charAt i = true := by decide +kernel
theorem z_k_Sl_charAt (i : Nat) : z_chk "java/lang/StringLatin1" false lk_Sl prog_19_method_2_code k_Sl_charAt i = true := z_out_k (z_k0_Sl_charAt i)
theorem z_u_Sl_charAt (i : Nat) : z_chu d_Sl_charAt.2.2.1 2 i = true := rfl
theorem z_g_Sl_charAt : z_good 43 d_Sl_charAt := ⟨_, _, _, _, _, _, _, _, _, _, _, rfl, by decide +kernel, rfl, by decide +kernel, by decide, z_lk_Sl, z_k_Sl_charAt, z_u_Sl_charAt⟩
theorem z_k0_Sg_charAt : ∀ i, i < 25 → z_chk "java/lang/String" false lk_Sg prog_18_method_56_code k_Sg_charAt i = true := by decide +kernel
theorem z_k_Sg_charAt (i : Nat) : z_chk "java/lang/String" false lk_Sg prog_18_method_56_code k_Sg_charAt i = true := z_out_k (z_k0_Sg_charAt i)
theorem z_u_Sg_charAt (i : Nat) : z_chu d_Sg_charAt.2.2.1 2 i = true := rfl
theorem z_g_Sg_charAt : z_good 44 d_Sg_charAt := ⟨_, _, _, _, _, _, _, _, _, _, _, rfl, by decide +kernel, rfl, by decide +kernel, by decide, z_lk_Sg, z_k_Sg_charAt, z_u_Sg_charAt⟩
theorem z_k0_Re_wordOf : ∀ i, i < 87 → z_chk "BreatheAsOne$Reader" false lk_Re prog_8_method_6_code k_Re_wordOf i = true := by decide +kernel
theorem z_k_Re_wordOf (i : Nat) : z_chk "BreatheAsOne$Reader" false lk_Re prog_8_method_6_code k_Re_wordOf i = true := z_out_k (z_k0_Re_wordOf i)
theorem z_u0_Re_wordOf : ∀ i, i < 87 → z_chu d_Re_wordOf.2.2.1 7 i = true := by decide +kernel
theorem z_u_Re_wordOf (i : Nat) : z_chu d_Re_wordOf.2.2.1 7 i = true := z_out_u (z_u0_Re_wordOf i)
theorem z_g_Re_wordOf : z_good 45 d_Re_wordOf := ⟨_, _, _, _, _, _, _, _, _, _, _, rfl, by decide +kernel, rfl, by decide +kernel, by decide, z_lk_Re, z_k_Re_wordOf, z_u_Re_wordOf⟩
theorem z_k0_Re_numberOf : ∀ i, i < 38 → z_chk "BreatheAsOne$Reader" false lk_Re prog_8_method_7_code k_Re_numberOf i = true := by decide +kernel
theorem z_k_Re_numberOf (i : Nat) : z_chk "BreatheAsOne$Reader" false lk_Re prog_8_method_7_code k_Re_numberOf i = true := z_out_k (z_k0_Re_numberOf i)
theorem z_u0_Re_numberOf : ∀ i, i < 38 → z_chu d_Re_numberOf.2.2.1 5 i = true := by decide +kernel
theorem z_u_Re_numberOf (i : Nat) : z_chu d_Re_numberOf.2.2.1 5 i = true := z_out_u (z_u0_Re_numberOf i)
theorem z_g_Re_numberOf : z_good 46 d_Re_numberOf := ⟨_, _, _, _, _, _, _, _, _, _, _, rfl, by decide +kernel, rfl, by decide +kernel, by decide, z_lk_Re, z_k_Re_numberOf, z_u_Re_numberOf⟩
theorem z_k0_Sl_canEncode : ∀ i, i < 17 → z_chk "java/lang/StringLatin1" false lk_Sl prog_19_method_4_code k_Sl_canEncode i = true := by decide +kernel
theorem z_k_Sl_canEncode (i : Nat) : z_chk "java/lang/StringLatin1" false lk_Sl prog_19_method_4_code k_Sl_canEncode i = true := z_out_k (z_k0_Sl_canEncode i)
theorem z_u_Sl_canEncode (i : Nat) : z_chu d_Sl_canEncode.2.2.1 1 i = true := rfl
theorem z_g_Sl_canEncode : z_good 47 d_Sl_canEncode := ⟨_, _, _, _, _, _, _, _, _, _, _, rfl, by decide +kernel, rfl, by decide +kernel, by decide, z_lk_Sl, z_k_Sl_canEncode, z_u_Sl_canEncode⟩
theorem z_k0_Ma_max_II : ∀ i, i < 11 → z_chk "java/lang/Math" false lk_Ma prog_17_method_65_code k_Ma_max_II i = true := by decide +kernel
theorem z_k_Ma_max_II (i : Nat) : z_chk "java/lang/Math" false lk_Ma prog_17_method_65_code k_Ma_max_II i = true := z_out_k (z_k0_Ma_max_II i)
theorem z_u_Ma_max_II (i : Nat) : z_chu d_Ma_max_II.2.2.1 2 i = true := rfl
theorem z_g_Ma_max_II : z_good 48 d_Ma_max_II := ⟨_, _, _, _, _, _, _, _, _, _, _, rfl, by decide +kernel, rfl, by decide +kernel, by decide, z_lk_Ma, z_k_Ma_max_II, z_u_Ma_max_II⟩
theorem z_k0_Sl_indexOfChar : ∀ i, i < 33 → z_chk "java/lang/StringLatin1" false lk_Sl prog_19_method_23_code k_Sl_indexOfChar i = true := by decide +kernel
theorem z_k_Sl_indexOfChar (i : Nat) : z_chk "java/lang/StringLatin1" false lk_Sl prog_19_method_23_code k_Sl_indexOfChar i = true := z_out_k (z_k0_Sl_indexOfChar i)
theorem z_u0_Sl_indexOfChar : ∀ i, i < 33 → z_chu d_Sl_indexOfChar.2.2.1 6 i = true := by decide +kernel
theorem z_u_Sl_indexOfChar (i : Nat) : z_chu d_Sl_indexOfChar.2.2.1 6 i = true := z_out_u (z_u0_Sl_indexOfChar i)
theorem z_g_Sl_indexOfChar : z_good 49 d_Sl_indexOfChar := ⟨_, _, _, _, _, _, _, _, _, _, _, rfl, by decide +kernel, rfl, by decide +kernel, by decide, z_lk_Sl, z_k_Sl_indexOfChar, z_u_Sl_indexOfChar⟩
theorem z_k0_Sl_indexOf : ∀ i, i < 37 → z_chk "java/lang/StringLatin1" false lk_Sl prog_19_method_22_code k_Sl_indexOf i = true := by decide +kernel
theorem z_k_Sl_indexOf (i : Nat) : z_chk "java/lang/StringLatin1" false lk_Sl prog_19_method_22_code k_Sl_indexOf i = true := z_out_k (z_k0_Sl_indexOf i)
theorem z_u_Sl_indexOf (i : Nat) : z_chu d_Sl_indexOf.2.2.1 4 i = true := rfl
theorem z_g_Sl_indexOf : z_good 50 d_Sl_indexOf := ⟨_, _, _, _, _, _, _, _, _, _, _, rfl, by decide +kernel, rfl, by decide +kernel, by decide, z_lk_Sl, z_k_Sl_indexOf, z_u_Sl_indexOf⟩
theorem z_k0_Sg_indexOf_II : ∀ i, i < 37 → z_chk "java/lang/String" false lk_Sg prog_18_method_80_code k_Sg_indexOf_II i = true := by decide +kernel
theorem z_k_Sg_indexOf_II (i : Nat) : z_chk "java/lang/String" false lk_Sg prog_18_method_80_code k_Sg_indexOf_II i = true := z_out_k (z_k0_Sg_indexOf_II i)
theorem z_u_Sg_indexOf_II (i : Nat) : z_chu d_Sg_indexOf_II.2.2.1 3 i = true := rfl
theorem z_g_Sg_indexOf_II : z_good 51 d_Sg_indexOf_II := ⟨_, _, _, _, _, _, _, _, _, _, _, rfl, by decide +kernel, rfl, by decide +kernel, by decide, z_lk_Sg, z_k_Sg_indexOf_II, z_u_Sg_indexOf_II⟩
theorem z_k0_Sg_indexOf_I : ∀ i, i < 7 → z_chk "java/lang/String" false lk_Sg prog_18_method_79_code k_Sg_indexOf_I i = true := by decide +kernel
theorem z_k_Sg_indexOf_I (i : Nat) : z_chk "java/lang/String" false lk_Sg prog_18_method_79_code k_Sg_indexOf_I i = true := z_out_k (z_k0_Sg_indexOf_I i)
theorem z_u_Sg_indexOf_I (i : Nat) : z_chu d_Sg_indexOf_I.2.2.1 2 i = true := rfl
theorem z_g_Sg_indexOf_I : z_good 52 d_Sg_indexOf_I := ⟨_, _, _, _, _, _, _, _, _, _, _, rfl, by decide +kernel, rfl, by decide +kernel, by decide, z_lk_Sg, z_k_Sg_indexOf_I, z_u_Sg_indexOf_I⟩
theorem z_k0_Re_tokenOf : ∀ i, i < 86 → z_chk "BreatheAsOne$Reader" false lk_Re prog_8_method_5_code k_Re_tokenOf i = true := by decide +kernel
theorem z_k_Re_tokenOf (i : Nat) : z_chk "BreatheAsOne$Reader" false lk_Re prog_8_method_5_code k_Re_tokenOf i = true := z_out_k (z_k0_Re_tokenOf i)
theorem z_u_Re_tokenOf (i : Nat) : z_chu d_Re_tokenOf.2.2.1 4 i = true := rfl
theorem z_g_Re_tokenOf : z_good 53 d_Re_tokenOf := ⟨_, _, _, _, _, _, _, _, _, _, _, rfl, by decide +kernel, rfl, by decide +kernel, by decide, z_lk_Re, z_k_Re_tokenOf, z_u_Re_tokenOf⟩
theorem z_k0_Re_scan : ∀ i, i < 99 → z_chk "BreatheAsOne$Reader" false lk_Re prog_8_method_3_code k_Re_scan i = true := by decide +kernel
theorem z_k_Re_scan (i : Nat) : z_chk "BreatheAsOne$Reader" false lk_Re prog_8_method_3_code k_Re_scan i = true := z_out_k (z_k0_Re_scan i)
theorem z_u0_Re_scan : ∀ i, i < 99 → z_chu d_Re_scan.2.2.1 7 i = true := by decide +kernel
theorem z_u_Re_scan (i : Nat) : z_chu d_Re_scan.2.2.1 7 i = true := z_out_u (z_u0_Re_scan i)
theorem z_g_Re_scan : z_good 54 d_Re_scan := ⟨_, _, _, _, _, _, _, _, _, _, _, rfl, by decide +kernel, rfl, by decide +kernel, by decide, z_lk_Re, z_k_Re_scan, z_u_Re_scan⟩
theorem z_k0_Re_goTo : ∀ i, i < 45 → z_chk "BreatheAsOne$Reader" false lk_Re prog_8_method_10_code k_Re_goTo i = true := by decide +kernel
theorem z_k_Re_goTo (i : Nat) : z_chk "BreatheAsOne$Reader" false lk_Re prog_8_method_10_code k_Re_goTo i = true := z_out_k (z_k0_Re_goTo i)
theorem z_u_Re_goTo (i : Nat) : z_chu d_Re_goTo.2.2.1 2 i = true := rfl
theorem z_g_Re_goTo : z_good 55 d_Re_goTo := ⟨_, _, _, _, _, _, _, _, _, _, _, rfl, by decide +kernel, rfl, by decide +kernel, by decide, z_lk_Re, z_k_Re_goTo, z_u_Re_goTo⟩
theorem z_k0_Re_formOf : ∀ i, i < 29 → z_chk "BreatheAsOne$Reader" false lk_Re prog_8_method_15_code k_Re_formOf i = true := by decide +kernel
theorem z_k_Re_formOf (i : Nat) : z_chk "BreatheAsOne$Reader" false lk_Re prog_8_method_15_code k_Re_formOf i = true := z_out_k (z_k0_Re_formOf i)
theorem z_u0_Re_formOf : ∀ i, i < 29 → z_chu d_Re_formOf.2.2.1 3 i = true := by decide +kernel
theorem z_u_Re_formOf (i : Nat) : z_chu d_Re_formOf.2.2.1 3 i = true := z_out_u (z_u0_Re_formOf i)
theorem z_g_Re_formOf : z_good 56 d_Re_formOf := ⟨_, _, _, _, _, _, _, _, _, _, _, rfl, by decide +kernel, rfl, by decide +kernel, by decide, z_lk_Re, z_k_Re_formOf, z_u_Re_formOf⟩
theorem z_k0_Re_refuse : ∀ i, i < 20 → z_chk "BreatheAsOne$Reader" false lk_Re prog_8_method_13_code k_Re_refuse i = true := by decide +kernel
theorem z_k_Re_refuse (i : Nat) : z_chk "BreatheAsOne$Reader" false lk_Re prog_8_method_13_code k_Re_refuse i = true := z_out_k (z_k0_Re_refuse i)
theorem z_u_Re_refuse (i : Nat) : z_chu d_Re_refuse.2.2.1 2 i = true := rfl
theorem z_g_Re_refuse : z_good 57 d_Re_refuse := ⟨_, _, _, _, _, _, _, _, _, _, _, rfl, by decide +kernel, rfl, by decide +kernel, by decide, z_lk_Re, z_k_Re_refuse, z_u_Re_refuse⟩
theorem z_k0_Re_lawOf : ∀ i, i < 31 → z_chk "BreatheAsOne$Reader" false lk_Re prog_8_method_16_code k_Re_lawOf i = true := by decide +kernel
theorem z_k_Re_lawOf (i : Nat) : z_chk "BreatheAsOne$Reader" false lk_Re prog_8_method_16_code k_Re_lawOf i = true := z_out_k (z_k0_Re_lawOf i)
theorem z_u_Re_lawOf (i : Nat) : z_chu d_Re_lawOf.2.2.1 2 i = true := rfl
theorem z_g_Re_lawOf : z_good 58 d_Re_lawOf := ⟨_, _, _, _, _, _, _, _, _, _, _, rfl, by decide +kernel, rfl, by decide +kernel, by decide, z_lk_Re, z_k_Re_lawOf, z_u_Re_lawOf⟩
theorem z_k0_Re_next : ∀ i, i < 12 → z_chk "BreatheAsOne$Reader" false lk_Re prog_8_method_11_code k_Re_next i = true := by decide +kernel
theorem z_k_Re_next (i : Nat) : z_chk "BreatheAsOne$Reader" false lk_Re prog_8_method_11_code k_Re_next i = true := z_out_k (z_k0_Re_next i)
theorem z_u_Re_next (i : Nat) : z_chu d_Re_next.2.2.1 1 i = true := rfl
theorem z_g_Re_next : z_good 59 d_Re_next := ⟨_, _, _, _, _, _, _, _, _, _, _, rfl, by decide +kernel, rfl, by decide +kernel, by decide, z_lk_Re, z_k_Re_next, z_u_Re_next⟩
theorem z_k0_Re_expect : ∀ i, i < 21 → z_chk "BreatheAsOne$Reader" false lk_Re prog_8_method_12_code k_Re_expect i = true := by decide +kernel
theorem z_k_Re_expect (i : Nat) : z_chk "BreatheAsOne$Reader" false lk_Re prog_8_method_12_code k_Re_expect i = true := z_out_k (z_k0_Re_expect i)
theorem z_u_Re_expect (i : Nat) : z_chu d_Re_expect.2.2.1 2 i = true := rfl
theorem z_g_Re_expect : z_good 60 d_Re_expect := ⟨_, _, _, _, _, _, _, _, _, _, _, rfl, by decide +kernel, rfl, by decide +kernel, by decide, z_lk_Re, z_k_Re_expect, z_u_Re_expect⟩
theorem z_k0_Re_readNumbers : ∀ i, i < 116 → z_chk "BreatheAsOne$Reader" false lk_Re prog_8_method_17_code k_Re_readNumbers i = true := by decide +kernel
theorem z_k_Re_readNumbers (i : Nat) : z_chk "BreatheAsOne$Reader" false lk_Re prog_8_method_17_code k_Re_readNumbers i = true := z_out_k (z_k0_Re_readNumbers i)
theorem z_u0_Re_readNumbers : ∀ i, i < 116 → z_chu d_Re_readNumbers.2.2.1 4 i = true := by decide +kernel
theorem z_u_Re_readNumbers (i : Nat) : z_chu d_Re_readNumbers.2.2.1 4 i = true := z_out_u (z_u0_Re_readNumbers i)
theorem z_g_Re_readNumbers : z_good 61 d_Re_readNumbers := ⟨_, _, _, _, _, _, _, _, _, _, _, rfl, by decide +kernel, rfl, by decide +kernel, by decide, z_lk_Re, z_k_Re_readNumbers, z_u_Re_readNumbers⟩
theorem z_k0_Re_emit : ∀ i, i < 34 → z_chk "BreatheAsOne$Reader" false lk_Re prog_8_method_25_code k_Re_emit i = true := by decide +kernel
theorem z_k_Re_emit (i : Nat) : z_chk "BreatheAsOne$Reader" false lk_Re prog_8_method_25_code k_Re_emit i = true := z_out_k (z_k0_Re_emit i)
theorem z_u_Re_emit (i : Nat) : z_chu d_Re_emit.2.2.1 2 i = true := rfl
theorem z_g_Re_emit : z_good 62 d_Re_emit := ⟨_, _, _, _, _, _, _, _, _, _, _, rfl, by decide +kernel, rfl, by decide +kernel, by decide, z_lk_Re, z_k_Re_emit, z_u_Re_emit⟩
theorem z_k0_Re_isNameOfLaw : ∀ i, i < 53 → z_chk "BreatheAsOne$Reader" false lk_Re prog_8_method_24_code k_Re_isNameOfLaw i = true := by decide +kernel
theorem z_k_Re_isNameOfLaw (i : Nat) : z_chk "BreatheAsOne$Reader" false lk_Re prog_8_method_24_code k_Re_isNameOfLaw i = true := z_out_k (z_k0_Re_isNameOfLaw i)
theorem z_u_Re_isNameOfLaw (i : Nat) : z_chu d_Re_isNameOfLaw.2.2.1 2 i = true := rfl
theorem z_g_Re_isNameOfLaw : z_good 63 d_Re_isNameOfLaw := ⟨_, _, _, _, _, _, _, _, _, _, _, rfl, by decide +kernel, rfl, by decide +kernel, by decide, z_lk_Re, z_k_Re_isNameOfLaw, z_u_Re_isNameOfLaw⟩
theorem z_k0_Re_readOne : ∀ i, i < 308 → z_chk "BreatheAsOne$Reader" false lk_Re prog_8_method_23_code k_Re_readOne i = true := by decide +kernel
theorem z_k_Re_readOne (i : Nat) : z_chk "BreatheAsOne$Reader" false lk_Re prog_8_method_23_code k_Re_readOne i = true := z_out_k (z_k0_Re_readOne i)
theorem z_u0_Re_readOne : ∀ i, i < 308 → z_chu d_Re_readOne.2.2.1 3 i = true := by decide +kernel
theorem z_u_Re_readOne (i : Nat) : z_chu d_Re_readOne.2.2.1 3 i = true := z_out_u (z_u0_Re_readOne i)
theorem z_g_Re_readOne : z_good 64 d_Re_readOne := ⟨_, _, _, _, _, _, _, _, _, _, _, rfl, by decide +kernel, rfl, by decide +kernel, by decide, z_lk_Re, z_k_Re_readOne, z_u_Re_readOne⟩
theorem z_k0_Re_readProduct : ∀ i, i < 66 → z_chk "BreatheAsOne$Reader" false lk_Re prog_8_method_22_code k_Re_readProduct i = true := by decide +kernel
theorem z_k_Re_readProduct (i : Nat) : z_chk "BreatheAsOne$Reader" false lk_Re prog_8_method_22_code k_Re_readProduct i = true := z_out_k (z_k0_Re_readProduct i)
theorem z_u0_Re_readProduct : ∀ i, i < 66 → z_chu d_Re_readProduct.2.2.1 4 i = true := by decide +kernel
theorem z_u_Re_readProduct (i : Nat) : z_chu d_Re_readProduct.2.2.1 4 i = true := z_out_u (z_u0_Re_readProduct i)
theorem z_g_Re_readProduct : z_good 65 d_Re_readProduct := ⟨_, _, _, _, _, _, _, _, _, _, _, rfl, by decide +kernel, rfl, by decide +kernel, by decide, z_lk_Re, z_k_Re_readProduct, z_u_Re_readProduct⟩
theorem z_k0_Re_readSum : ∀ i, i < 65 → z_chk "BreatheAsOne$Reader" false lk_Re prog_8_method_21_code k_Re_readSum i = true := by decide +kernel
theorem z_k_Re_readSum (i : Nat) : z_chk "BreatheAsOne$Reader" false lk_Re prog_8_method_21_code k_Re_readSum i = true := z_out_k (z_k0_Re_readSum i)
theorem z_u0_Re_readSum : ∀ i, i < 65 → z_chu d_Re_readSum.2.2.1 4 i = true := by decide +kernel
theorem z_u_Re_readSum (i : Nat) : z_chu d_Re_readSum.2.2.1 4 i = true := z_out_u (z_u0_Re_readSum i)
theorem z_g_Re_readSum : z_good 66 d_Re_readSum := ⟨_, _, _, _, _, _, _, _, _, _, _, rfl, by decide +kernel, rfl, by decide +kernel, by decide, z_lk_Re, z_k_Re_readSum, z_u_Re_readSum⟩
theorem z_k0_Re_readAsk : ∀ i, i < 122 → z_chk "BreatheAsOne$Reader" false lk_Re prog_8_method_20_code k_Re_readAsk i = true := by decide +kernel
theorem z_k_Re_readAsk (i : Nat) : z_chk "BreatheAsOne$Reader" false lk_Re prog_8_method_20_code k_Re_readAsk i = true := z_out_k (z_k0_Re_readAsk i)
theorem z_u_Re_readAsk (i : Nat) : z_chu d_Re_readAsk.2.2.1 3 i = true := rfl
theorem z_g_Re_readAsk : z_good 67 d_Re_readAsk := ⟨_, _, _, _, _, _, _, _, _, _, _, rfl, by decide +kernel, rfl, by decide +kernel, by decide, z_lk_Re, z_k_Re_readAsk, z_u_Re_readAsk⟩
theorem z_k0_Re_readEither : ∀ i, i < 114 → z_chk "BreatheAsOne$Reader" false lk_Re prog_8_method_19_code k_Re_readEither i = true := by decide +kernel
theorem z_k_Re_readEither (i : Nat) : z_chk "BreatheAsOne$Reader" false lk_Re prog_8_method_19_code k_Re_readEither i = true := z_out_k (z_k0_Re_readEither i)
theorem z_u0_Re_readEither : ∀ i, i < 114 → z_chu d_Re_readEither.2.2.1 4 i = true := by decide +kernel
theorem z_u_Re_readEither (i : Nat) : z_chu d_Re_readEither.2.2.1 4 i = true := z_out_u (z_u0_Re_readEither i)
theorem z_g_Re_readEither : z_good 68 d_Re_readEither := ⟨_, _, _, _, _, _, _, _, _, _, _, rfl, by decide +kernel, rfl, by decide +kernel, by decide, z_lk_Re, z_k_Re_readEither, z_u_Re_readEither⟩
theorem z_k0_Ar_copyOf : ∀ i, i < 33 → z_chk "java/util/Arrays" false lk_Ar prog_22_method_123_code k_Ar_copyOf i = true := by decide +kernel
theorem z_k_Ar_copyOf (i : Nat) : z_chk "java/util/Arrays" false lk_Ar prog_22_method_123_code k_Ar_copyOf i = true := z_out_k (z_k0_Ar_copyOf i)
theorem z_u_Ar_copyOf (i : Nat) : z_chu d_Ar_copyOf.2.2.1 3 i = true := rfl
theorem z_g_Ar_copyOf : z_good 69 d_Ar_copyOf := ⟨_, _, _, _, _, _, _, _, _, _, _, rfl, by decide +kernel, rfl, by decide +kernel, by decide, z_lk_Ar, z_k_Ar_copyOf, z_u_Ar_copyOf⟩
theorem z_k0_Re_keepLaw : ∀ i, i < 52 → z_chk "BreatheAsOne$Reader" false lk_Re prog_8_method_18_code k_Re_keepLaw i = true := by decide +kernel
theorem z_k_Re_keepLaw (i : Nat) : z_chk "BreatheAsOne$Reader" false lk_Re prog_8_method_18_code k_Re_keepLaw i = true := z_out_k (z_k0_Re_keepLaw i)
theorem z_u_Re_keepLaw (i : Nat) : z_chu d_Re_keepLaw.2.2.1 2 i = true := rfl
theorem z_g_Re_keepLaw : z_good 70 d_Re_keepLaw := ⟨_, _, _, _, _, _, _, _, _, _, _, rfl, by decide +kernel, rfl, by decide +kernel, by decide, z_lk_Re, z_k_Re_keepLaw, z_u_Re_keepLaw⟩
theorem z_k0_Re_readClause : ∀ i, i < 187 → z_chk "BreatheAsOne$Reader" false lk_Re prog_8_method_14_code k_Re_readClause i = true := by decide +kernel
theorem z_k_Re_readClause (i : Nat) : z_chk "BreatheAsOne$Reader" false lk_Re prog_8_method_14_code k_Re_readClause i = true := z_out_k (z_k0_Re_readClause i)
theorem z_u0_Re_readClause : ∀ i, i < 187 → z_chu d_Re_readClause.2.2.1 5 i = true := by decide +kernel
theorem z_u_Re_readClause (i : Nat) : z_chu d_Re_readClause.2.2.1 5 i = true := z_out_u (z_u0_Re_readClause i)
theorem z_g_Re_readClause : z_good 71 d_Re_readClause := ⟨_, _, _, _, _, _, _, _, _, _, _, rfl, by decide +kernel, rfl, by decide +kernel, by decide, z_lk_Re, z_k_Re_readClause, z_u_Re_readClause⟩
theorem z_k0_Te_init : ∀ i, i < 32 → z_chk "BreatheAsOne$Text" true lk_Te prog_10_method_1_code k_Te_init i = true := by decide +kernel
theorem z_k_Te_init (i : Nat) : z_chk "BreatheAsOne$Text" true lk_Te prog_10_method_1_code k_Te_init i = true := z_out_k (z_k0_Te_init i)
theorem z_u_Te_init (i : Nat) : z_chu d_Te_init.2.2.1 6 i = true := rfl
theorem z_g_Te_init : z_good 72 d_Te_init := ⟨_, _, _, _, _, _, _, _, _, _, _, rfl, by decide +kernel, rfl, by decide +kernel, by decide, z_lk_Te, z_k_Te_init, z_u_Te_init⟩
theorem z_k0_Re_read : ∀ i, i < 121 → z_chk "BreatheAsOne$Reader" false lk_Re prog_8_method_2_code k_Re_read i = true := by decide +kernel
theorem z_k_Re_read (i : Nat) : z_chk "BreatheAsOne$Reader" false lk_Re prog_8_method_2_code k_Re_read i = true := z_out_k (z_k0_Re_read i)
theorem z_u0_Re_read : ∀ i, i < 121 → z_chu d_Re_read.2.2.1 4 i = true := by decide +kernel
theorem z_u_Re_read (i : Nat) : z_chu d_Re_read.2.2.1 4 i = true := z_out_u (z_u0_Re_read i)
theorem z_g_Re_read : z_good 73 d_Re_read := ⟨_, _, _, _, _, _, _, _, _, _, _, rfl, by decide +kernel, rfl, by decide +kernel, by decide, z_lk_Re, z_k_Re_read, z_u_Re_read⟩
theorem z_k0_H_addText : ∀ i, i < 37 → z_chk "BreatheAsOne$House" false lk_H prog_5_method_5_code k_H_addText i = true := by decide +kernel
theorem z_k_H_addText (i : Nat) : z_chk "BreatheAsOne$House" false lk_H prog_5_method_5_code k_H_addText i = true := z_out_k (z_k0_H_addText i)
theorem z_u_H_addText (i : Nat) : z_chu d_H_addText.2.2.1 2 i = true := rfl
theorem z_g_H_addText : z_good 74 d_H_addText := ⟨_, _, _, _, _, _, _, _, _, _, _, rfl, by decide +kernel, rfl, by decide +kernel, by decide, z_lk_H, z_k_H_addText, z_u_H_addText⟩
theorem z_k0_B_text : ∀ i, i < 51 → z_chk "BreatheAsOne" false lk_B prog_1_method_8_code k_B_text i = true := by decide +kernel
theorem z_k_B_text (i : Nat) : z_chk "BreatheAsOne" false lk_B prog_1_method_8_code k_B_text i = true := z_out_k (z_k0_B_text i)
theorem z_u_B_text (i : Nat) : z_chu d_B_text.2.2.1 2 i = true := rfl
theorem z_g_B_text : z_good 75 d_B_text := ⟨_, _, _, _, _, _, _, _, _, _, _, rfl, by decide +kernel, rfl, by decide +kernel, by decide, z_lk_B, z_k_B_text, z_u_B_text⟩
theorem z_k0_M_byteAt : ∀ i, i < 19 → z_chk "BreatheAsOneModel" false lk_M prog_13_method_20_code k_M_byteAt i = true := by decide +kernel
theorem z_k_M_byteAt (i : Nat) : z_chk "BreatheAsOneModel" false lk_M prog_13_method_20_code k_M_byteAt i = true := z_out_k (z_k0_M_byteAt i)
theorem z_u_M_byteAt (i : Nat) : z_chu d_M_byteAt.2.2.1 2 i = true := rfl
theorem z_g_M_byteAt : z_good 76 d_M_byteAt := ⟨_, _, _, _, _, _, _, _, _, _, _, rfl, by decide +kernel, rfl, by decide +kernel, by decide, z_lk_M, z_k_M_byteAt, z_u_M_byteAt⟩
theorem z_k0_M_isFigure : ∀ i, i < 18 → z_chk "BreatheAsOneModel" false lk_M prog_13_method_22_code k_M_isFigure i = true := by decide +kernel
theorem z_k_M_isFigure (i : Nat) : z_chk "BreatheAsOneModel" false lk_M prog_13_method_22_code k_M_isFigure i = true := z_out_k (z_k0_M_isFigure i)
theorem z_u_M_isFigure (i : Nat) : z_chu d_M_isFigure.2.2.1 1 i = true := rfl
theorem z_g_M_isFigure : z_good 77 d_M_isFigure := ⟨_, _, _, _, _, _, _, _, _, _, _, rfl, by decide +kernel, rfl, by decide +kernel, by decide, z_lk_M, z_k_M_isFigure, z_u_M_isFigure⟩
theorem z_k0_M_isLetterByte : ∀ i, i < 30 → z_chk "BreatheAsOneModel" false lk_M prog_13_method_21_code k_M_isLetterByte i = true := by decide +kernel
theorem z_k_M_isLetterByte (i : Nat) : z_chk "BreatheAsOneModel" false lk_M prog_13_method_21_code k_M_isLetterByte i = true := z_out_k (z_k0_M_isLetterByte i)
theorem z_u_M_isLetterByte (i : Nat) : z_chu d_M_isLetterByte.2.2.1 1 i = true := rfl
theorem z_g_M_isLetterByte : z_good 78 d_M_isLetterByte := ⟨_, _, _, _, _, _, _, _, _, _, _, rfl, by decide +kernel, rfl, by decide +kernel, by decide, z_lk_M, z_k_M_isLetterByte, z_u_M_isLetterByte⟩
theorem z_k0_M_isSign : ∀ i, i < 132 → z_chk "BreatheAsOneModel" false lk_M prog_13_method_23_code k_M_isSign i = true := by decide +kernel
theorem z_k_M_isSign (i : Nat) : z_chk "BreatheAsOneModel" false lk_M prog_13_method_23_code k_M_isSign i = true := z_out_k (z_k0_M_isSign i)
theorem z_u_M_isSign (i : Nat) : z_chu d_M_isSign.2.2.1 1 i = true := rfl
theorem z_g_M_isSign : z_good 79 d_M_isSign := ⟨_, _, _, _, _, _, _, _, _, _, _, rfl, by decide +kernel, rfl, by decide +kernel, by decide, z_lk_M, z_k_M_isSign, z_u_M_isSign⟩
theorem z_k0_M_nextToken : ∀ i, i < 311 → z_chk "BreatheAsOneModel" false lk_M prog_13_method_24_code k_M_nextToken i = true := by decide +kernel
theorem z_k_M_nextToken (i : Nat) : z_chk "BreatheAsOneModel" false lk_M prog_13_method_24_code k_M_nextToken i = true := z_out_k (z_k0_M_nextToken i)
theorem z_u0_M_nextToken : ∀ i, i < 311 → z_chu d_M_nextToken.2.2.1 2 i = true := by decide +kernel
theorem z_u_M_nextToken (i : Nat) : z_chu d_M_nextToken.2.2.1 2 i = true := z_out_u (z_u0_M_nextToken i)
theorem z_g_M_nextToken : z_good 80 d_M_nextToken := ⟨_, _, _, _, _, _, _, _, _, _, _, rfl, by decide +kernel, rfl, by decide +kernel, by decide, z_lk_M, z_k_M_nextToken, z_u_M_nextToken⟩
theorem z_k0_M_w2 : ∀ i, i < 9 → z_chk "BreatheAsOneModel" false lk_M prog_13_method_25_code k_M_w2 i = true := by decide +kernel
theorem z_k_M_w2 (i : Nat) : z_chk "BreatheAsOneModel" false lk_M prog_13_method_25_code k_M_w2 i = true := z_out_k (z_k0_M_w2 i)
theorem z_u_M_w2 (i : Nat) : z_chu d_M_w2.2.2.1 2 i = true := rfl
theorem z_g_M_w2 : z_good 81 d_M_w2 := ⟨_, _, _, _, _, _, _, _, _, _, _, rfl, by decide +kernel, rfl, by decide +kernel, by decide, z_lk_M, z_k_M_w2, z_u_M_w2⟩
theorem z_k0_M_w3 : ∀ i, i < 12 → z_chk "BreatheAsOneModel" false lk_M prog_13_method_26_code k_M_w3 i = true := by decide +kernel
theorem z_k_M_w3 (i : Nat) : z_chk "BreatheAsOneModel" false lk_M prog_13_method_26_code k_M_w3 i = true := z_out_k (z_k0_M_w3 i)
theorem z_u_M_w3 (i : Nat) : z_chu d_M_w3.2.2.1 3 i = true := rfl
theorem z_g_M_w3 : z_good 82 d_M_w3 := ⟨_, _, _, _, _, _, _, _, _, _, _, rfl, by decide +kernel, rfl, by decide +kernel, by decide, z_lk_M, z_k_M_w3, z_u_M_w3⟩
theorem z_k0_M_w4 : ∀ i, i < 13 → z_chk "BreatheAsOneModel" false lk_M prog_13_method_27_code k_M_w4 i = true := by decide +kernel
theorem z_k_M_w4 (i : Nat) : z_chk "BreatheAsOneModel" false lk_M prog_13_method_27_code k_M_w4 i = true := z_out_k (z_k0_M_w4 i)
theorem z_u_M_w4 (i : Nat) : z_chu d_M_w4.2.2.1 4 i = true := rfl
theorem z_g_M_w4 : z_good 83 d_M_w4 := ⟨_, _, _, _, _, _, _, _, _, _, _, rfl, by decide +kernel, rfl, by decide +kernel, by decide, z_lk_M, z_k_M_w4, z_u_M_w4⟩
theorem z_k0_M_w5 : ∀ i, i < 15 → z_chk "BreatheAsOneModel" false lk_M prog_13_method_28_code k_M_w5 i = true := by decide +kernel
theorem z_k_M_w5 (i : Nat) : z_chk "BreatheAsOneModel" false lk_M prog_13_method_28_code k_M_w5 i = true := z_out_k (z_k0_M_w5 i)
theorem z_u_M_w5 (i : Nat) : z_chu d_M_w5.2.2.1 5 i = true := rfl
theorem z_g_M_w5 : z_good 84 d_M_w5 := ⟨_, _, _, _, _, _, _, _, _, _, _, rfl, by decide +kernel, rfl, by decide +kernel, by decide, z_lk_M, z_k_M_w5, z_u_M_w5⟩
theorem z_k0_M_w6 : ∀ i, i < 17 → z_chk "BreatheAsOneModel" false lk_M prog_13_method_29_code k_M_w6 i = true := by decide +kernel
theorem z_k_M_w6 (i : Nat) : z_chk "BreatheAsOneModel" false lk_M prog_13_method_29_code k_M_w6 i = true := z_out_k (z_k0_M_w6 i)
theorem z_u_M_w6 (i : Nat) : z_chu d_M_w6.2.2.1 6 i = true := rfl
theorem z_g_M_w6 : z_good 85 d_M_w6 := ⟨_, _, _, _, _, _, _, _, _, _, _, rfl, by decide +kernel, rfl, by decide +kernel, by decide, z_lk_M, z_k_M_w6, z_u_M_w6⟩
theorem z_k0_M_isWord : ∀ i, i < 23 → z_chk "BreatheAsOneModel" false lk_M prog_13_method_30_code k_M_isWord i = true := by decide +kernel
theorem z_k_M_isWord (i : Nat) : z_chk "BreatheAsOneModel" false lk_M prog_13_method_30_code k_M_isWord i = true := z_out_k (z_k0_M_isWord i)
theorem z_u_M_isWord (i : Nat) : z_chu d_M_isWord.2.2.1 3 i = true := rfl
theorem z_g_M_isWord : z_good 86 d_M_isWord := ⟨_, _, _, _, _, _, _, _, _, _, _, rfl, by decide +kernel, rfl, by decide +kernel, by decide, z_lk_M, z_k_M_isWord, z_u_M_isWord⟩
theorem z_k0_M_sortOf : ∀ i, i < 285 → z_chk "BreatheAsOneModel" false lk_M prog_13_method_52_code k_M_sortOf i = true := by decide +kernel
theorem z_k_M_sortOf (i : Nat) : z_chk "BreatheAsOneModel" false lk_M prog_13_method_52_code k_M_sortOf i = true := z_out_k (z_k0_M_sortOf i)
theorem z_u_M_sortOf (i : Nat) : z_chu d_M_sortOf.2.2.1 1 i = true := rfl
theorem z_g_M_sortOf : z_good 87 d_M_sortOf := ⟨_, _, _, _, _, _, _, _, _, _, _, rfl, by decide +kernel, rfl, by decide +kernel, by decide, z_lk_M, z_k_M_sortOf, z_u_M_sortOf⟩
theorem z_k0_M_has : ∀ i, i < 15 → z_chk "BreatheAsOneModel" false lk_M prog_13_method_4_code k_M_has i = true := by decide +kernel
theorem z_k_M_has (i : Nat) : z_chk "BreatheAsOneModel" false lk_M prog_13_method_4_code k_M_has i = true := z_out_k (z_k0_M_has i)
theorem z_u_M_has (i : Nat) : z_chu d_M_has.2.2.1 2 i = true := rfl
theorem z_g_M_has : z_good 88 d_M_has := ⟨_, _, _, _, _, _, _, _, _, _, _, rfl, by decide +kernel, rfl, by decide +kernel, by decide, z_lk_M, z_k_M_has, z_u_M_has⟩
theorem z_k0_M_openNow : ∀ i, i < 43 → z_chk "BreatheAsOneModel" false lk_M prog_13_method_36_code k_M_openNow i = true := by decide +kernel
theorem z_k_M_openNow (i : Nat) : z_chk "BreatheAsOneModel" false lk_M prog_13_method_36_code k_M_openNow i = true := z_out_k (z_k0_M_openNow i)
theorem z_u0_M_openNow : ∀ i, i < 43 → z_chu d_M_openNow.2.2.1 2 i = true := by decide +kernel
theorem z_u_M_openNow (i : Nat) : z_chu d_M_openNow.2.2.1 2 i = true := z_out_u (z_u0_M_openNow i)
theorem z_g_M_openNow : z_good 89 d_M_openNow := ⟨_, _, _, _, _, _, _, _, _, _, _, rfl, by decide +kernel, rfl, by decide +kernel, by decide, z_lk_M, z_k_M_openNow, z_u_M_openNow⟩
theorem z_k0_M_isAskHere : ∀ i, i < 21 → z_chk "BreatheAsOneModel" false lk_M prog_13_method_38_code k_M_isAskHere i = true := by decide +kernel
theorem z_k_M_isAskHere (i : Nat) : z_chk "BreatheAsOneModel" false lk_M prog_13_method_38_code k_M_isAskHere i = true := z_out_k (z_k0_M_isAskHere i)
theorem z_u_M_isAskHere (i : Nat) : z_chu d_M_isAskHere.2.2.1 1 i = true := rfl
theorem z_g_M_isAskHere : z_good 90 d_M_isAskHere := ⟨_, _, _, _, _, _, _, _, _, _, _, rfl, by decide +kernel, rfl, by decide +kernel, by decide, z_lk_M, z_k_M_isAskHere, z_u_M_isAskHere⟩
theorem z_k0_M_rank : ∀ i, i < 73 → z_chk "BreatheAsOneModel" false lk_M prog_13_method_34_code k_M_rank i = true := by decide +kernel
theorem z_k_M_rank (i : Nat) : z_chk "BreatheAsOneModel" false lk_M prog_13_method_34_code k_M_rank i = true := z_out_k (z_k0_M_rank i)
theorem z_u_M_rank (i : Nat) : z_chu d_M_rank.2.2.1 1 i = true := rfl
theorem z_g_M_rank : z_good 91 d_M_rank := ⟨_, _, _, _, _, _, _, _, _, _, _, rfl, by decide +kernel, rfl, by decide +kernel, by decide, z_lk_M, z_k_M_rank, z_u_M_rank⟩
theorem z_k0_M_isCompared : ∀ i, i < 53 → z_chk "BreatheAsOneModel" false lk_M prog_13_method_37_code k_M_isCompared i = true := by decide +kernel
theorem z_k_M_isCompared (i : Nat) : z_chk "BreatheAsOneModel" false lk_M prog_13_method_37_code k_M_isCompared i = true := z_out_k (z_k0_M_isCompared i)
theorem z_u0_M_isCompared : ∀ i, i < 53 → z_chu d_M_isCompared.2.2.1 2 i = true := by decide +kernel
theorem z_u_M_isCompared (i : Nat) : z_chu d_M_isCompared.2.2.1 2 i = true := z_out_u (z_u0_M_isCompared i)
theorem z_g_M_isCompared : z_good 92 d_M_isCompared := ⟨_, _, _, _, _, _, _, _, _, _, _, rfl, by decide +kernel, rfl, by decide +kernel, by decide, z_lk_M, z_k_M_isCompared, z_u_M_isCompared⟩
theorem z_k0_M_compareOf : ∀ i, i < 84 → z_chk "BreatheAsOneModel" false lk_M prog_13_method_42_code k_M_compareOf i = true := by decide +kernel
theorem z_k_M_compareOf (i : Nat) : z_chk "BreatheAsOneModel" false lk_M prog_13_method_42_code k_M_compareOf i = true := z_out_k (z_k0_M_compareOf i)
theorem z_u_M_compareOf (i : Nat) : z_chu d_M_compareOf.2.2.1 1 i = true := rfl
theorem z_g_M_compareOf : z_good 93 d_M_compareOf := ⟨_, _, _, _, _, _, _, _, _, _, _, rfl, by decide +kernel, rfl, by decide +kernel, by decide, z_lk_M, z_k_M_compareOf, z_u_M_compareOf⟩
theorem z_k0_M_betweenOf : ∀ i, i < 121 → z_chk "BreatheAsOneModel" false lk_M prog_13_method_43_code k_M_betweenOf i = true := by decide +kernel
theorem z_k_M_betweenOf (i : Nat) : z_chk "BreatheAsOneModel" false lk_M prog_13_method_43_code k_M_betweenOf i = true := z_out_k (z_k0_M_betweenOf i)
theorem z_u_M_betweenOf (i : Nat) : z_chu d_M_betweenOf.2.2.1 1 i = true := rfl
theorem z_g_M_betweenOf : z_good 94 d_M_betweenOf := ⟨_, _, _, _, _, _, _, _, _, _, _, rfl, by decide +kernel, rfl, by decide +kernel, by decide, z_lk_M, z_k_M_betweenOf, z_u_M_betweenOf⟩
theorem z_k0_M_emit : ∀ i, i < 53 → z_chk "BreatheAsOneModel" false lk_M prog_13_method_31_code k_M_emit i = true := by decide +kernel
theorem z_k_M_emit (i : Nat) : z_chk "BreatheAsOneModel" false lk_M prog_13_method_31_code k_M_emit i = true := z_out_k (z_k0_M_emit i)
theorem z_u_M_emit (i : Nat) : z_chu d_M_emit.2.2.1 3 i = true := rfl
theorem z_g_M_emit : z_good 95 d_M_emit := ⟨_, _, _, _, _, _, _, _, _, _, _, rfl, by decide +kernel, rfl, by decide +kernel, by decide, z_lk_M, z_k_M_emit, z_u_M_emit⟩
theorem z_k0_M_settle : ∀ i, i < 90 → z_chk "BreatheAsOneModel" false lk_M prog_13_method_35_code k_M_settle i = true := by decide +kernel
theorem z_k_M_settle (i : Nat) : z_chk "BreatheAsOneModel" false lk_M prog_13_method_35_code k_M_settle i = true := z_out_k (z_k0_M_settle i)
theorem z_u0_M_settle : ∀ i, i < 90 → z_chu d_M_settle.2.2.1 2 i = true := by decide +kernel
theorem z_u_M_settle (i : Nat) : z_chu d_M_settle.2.2.1 2 i = true := z_out_u (z_u0_M_settle i)
theorem z_g_M_settle : z_good 96 d_M_settle := ⟨_, _, _, _, _, _, _, _, _, _, _, rfl, by decide +kernel, rfl, by decide +kernel, by decide, z_lk_M, z_k_M_settle, z_u_M_settle⟩
theorem z_k0_M_behindOne : ∀ i, i < 176 → z_chk "BreatheAsOneModel" false lk_M prog_13_method_44_code k_M_behindOne i = true := by decide +kernel
theorem z_k_M_behindOne (i : Nat) : z_chk "BreatheAsOneModel" false lk_M prog_13_method_44_code k_M_behindOne i = true := z_out_k (z_k0_M_behindOne i)
theorem z_u0_M_behindOne : ∀ i, i < 176 → z_chu d_M_behindOne.2.2.1 3 i = true := by decide +kernel
theorem z_u_M_behindOne (i : Nat) : z_chu d_M_behindOne.2.2.1 3 i = true := z_out_u (z_u0_M_behindOne i)
theorem z_g_M_behindOne : z_good 97 d_M_behindOne := ⟨_, _, _, _, _, _, _, _, _, _, _, rfl, by decide +kernel, rfl, by decide +kernel, by decide, z_lk_M, z_k_M_behindOne, z_u_M_behindOne⟩
theorem z_k0_M_nameOf : ∀ i, i < 236 → z_chk "BreatheAsOneModel" false lk_M prog_13_method_32_code k_M_nameOf i = true := by decide +kernel
theorem z_k_M_nameOf (i : Nat) : z_chk "BreatheAsOneModel" false lk_M prog_13_method_32_code k_M_nameOf i = true := z_out_k (z_k0_M_nameOf i)
theorem z_u_M_nameOf (i : Nat) : z_chu d_M_nameOf.2.2.1 1 i = true := rfl
theorem z_g_M_nameOf : z_good 98 d_M_nameOf := ⟨_, _, _, _, _, _, _, _, _, _, _, rfl, by decide +kernel, rfl, by decide +kernel, by decide, z_lk_M, z_k_M_nameOf, z_u_M_nameOf⟩
theorem z_k0_M_isOf : ∀ i, i < 52 → z_chk "BreatheAsOneModel" false lk_M prog_13_method_33_code k_M_isOf i = true := by decide +kernel
theorem z_k_M_isOf (i : Nat) : z_chk "BreatheAsOneModel" false lk_M prog_13_method_33_code k_M_isOf i = true := z_out_k (z_k0_M_isOf i)
theorem z_u_M_isOf (i : Nat) : z_chu d_M_isOf.2.2.1 2 i = true := rfl
theorem z_g_M_isOf : z_good 99 d_M_isOf := ⟨_, _, _, _, _, _, _, _, _, _, _, rfl, by decide +kernel, rfl, by decide +kernel, by decide, z_lk_M, z_k_M_isOf, z_u_M_isOf⟩
theorem z_k0_M_opened : ∀ i, i < 70 → z_chk "BreatheAsOneModel" false lk_M prog_13_method_40_code k_M_opened i = true := by decide +kernel
theorem z_k_M_opened (i : Nat) : z_chk "BreatheAsOneModel" false lk_M prog_13_method_40_code k_M_opened i = true := z_out_k (z_k0_M_opened i)
theorem z_u_M_opened (i : Nat) : z_chu d_M_opened.2.2.1 2 i = true := rfl
theorem z_g_M_opened : z_good 100 d_M_opened := ⟨_, _, _, _, _, _, _, _, _, _, _, rfl, by decide +kernel, rfl, by decide +kernel, by decide, z_lk_M, z_k_M_opened, z_u_M_opened⟩
theorem z_k0_M_isAskAhead : ∀ i, i < 42 → z_chk "BreatheAsOneModel" false lk_M prog_13_method_39_code k_M_isAskAhead i = true := by decide +kernel
theorem z_k_M_isAskAhead (i : Nat) : z_chk "BreatheAsOneModel" false lk_M prog_13_method_39_code k_M_isAskAhead i = true := z_out_k (z_k0_M_isAskAhead i)
theorem z_u_M_isAskAhead (i : Nat) : z_chu d_M_isAskAhead.2.2.1 1 i = true := rfl
theorem z_g_M_isAskAhead : z_good 101 d_M_isAskAhead := ⟨_, _, _, _, _, _, _, _, _, _, _, rfl, by decide +kernel, rfl, by decide +kernel, by decide, z_lk_M, z_k_M_isAskAhead, z_u_M_isAskAhead⟩
theorem z_k0_M_beginOne : ∀ i, i < 195 → z_chk "BreatheAsOneModel" false lk_M prog_13_method_41_code k_M_beginOne i = true := by decide +kernel
theorem z_k_M_beginOne (i : Nat) : z_chk "BreatheAsOneModel" false lk_M prog_13_method_41_code k_M_beginOne i = true := z_out_k (z_k0_M_beginOne i)
theorem z_u0_M_beginOne : ∀ i, i < 195 → z_chu d_M_beginOne.2.2.1 2 i = true := by decide +kernel
theorem z_u_M_beginOne (i : Nat) : z_chu d_M_beginOne.2.2.1 2 i = true := z_out_u (z_u0_M_beginOne i)
theorem z_g_M_beginOne : z_good 102 d_M_beginOne := ⟨_, _, _, _, _, _, _, _, _, _, _, rfl, by decide +kernel, rfl, by decide +kernel, by decide, z_lk_M, z_k_M_beginOne, z_u_M_beginOne⟩
theorem z_k0_M_parsed : ∀ i, i < 76 → z_chk "BreatheAsOneModel" false lk_M prog_13_method_45_code k_M_parsed i = true := by decide +kernel
theorem z_k_M_parsed (i : Nat) : z_chk "BreatheAsOneModel" false lk_M prog_13_method_45_code k_M_parsed i = true := z_out_k (z_k0_M_parsed i)
theorem z_u0_M_parsed : ∀ i, i < 76 → z_chu d_M_parsed.2.2.1 3 i = true := by decide +kernel
theorem z_u_M_parsed (i : Nat) : z_chu d_M_parsed.2.2.1 3 i = true := z_out_u (z_u0_M_parsed i)
theorem z_g_M_parsed : z_good 103 d_M_parsed := ⟨_, _, _, _, _, _, _, _, _, _, _, rfl, by decide +kernel, rfl, by decide +kernel, by decide, z_lk_M, z_k_M_parsed, z_u_M_parsed⟩
theorem z_k0_M_lawClause : ∀ i, i < 32 → z_chk "BreatheAsOneModel" false lk_M prog_13_method_48_code k_M_lawClause i = true := by decide +kernel
theorem z_k_M_lawClause (i : Nat) : z_chk "BreatheAsOneModel" false lk_M prog_13_method_48_code k_M_lawClause i = true := z_out_k (z_k0_M_lawClause i)
theorem z_u_M_lawClause (i : Nat) : z_chu d_M_lawClause.2.2.1 4 i = true := rfl
theorem z_g_M_lawClause : z_good 104 d_M_lawClause := ⟨_, _, _, _, _, _, _, _, _, _, _, rfl, by decide +kernel, rfl, by decide +kernel, by decide, z_lk_M, z_k_M_lawClause, z_u_M_lawClause⟩
theorem z_k0_M_figure : ∀ i, i < 40 → z_chk "BreatheAsOneModel" false lk_M prog_13_method_46_code k_M_figure i = true := by decide +kernel
theorem z_k_M_figure (i : Nat) : z_chk "BreatheAsOneModel" false lk_M prog_13_method_46_code k_M_figure i = true := z_out_k (z_k0_M_figure i)
theorem z_u_M_figure (i : Nat) : z_chu d_M_figure.2.2.1 4 i = true := rfl
theorem z_g_M_figure : z_good 105 d_M_figure := ⟨_, _, _, _, _, _, _, _, _, _, _, rfl, by decide +kernel, rfl, by decide +kernel, by decide, z_lk_M, z_k_M_figure, z_u_M_figure⟩
