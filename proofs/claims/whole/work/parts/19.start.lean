/-! THE CLAIM OUT OF ONE WALK OF THE LAW'S BODY. Your part is whole_start (and what it stands on); all else here is the same for every law, but numbers. -/
def R_law : String := "BreatheAsOneLaw"
def lw_P (b : Addr) (xs : List Int32) (args : Array Value) (s : State) : Prop := args = #[.ref b] ∧ s.IntsAt b xs ∧ xs.length ≤ 3072 ∧ (Jvm.Cond.and given_1 narrow_1).before args s = true
def lw_Q (_ : Array Value) (s : State) (o : Outcome) (t : State) : Prop := o = .returned (some (.int 1)) ∧ Framed s o t [] 600000 7302250
def lw_Z (below : List Frame) (a : Array Value) (s : State) : State → Prop := fun t => ∃ o, t.status = .running ∧ Ended t below o ∧ lw_Q a s o t
/-- the law's own end, with 1 on the stack, nothing written that was there before, its room as the claim has it -/
theorem lw_ret {p : Program} {l : Launch} {e : Env} {s : State} {m : MethodId} {below : List Frame} {meth : Method} {c : Code} {b : Nat} (hx : p.tables.exec = Jvm.exec) (hb : c.code = code) (hr : meth.sig.returnType = ret) (hlocks : meth.locks = false) {pc : Nat} {H : Heap} {ls : Array Slot} (hdg : decode code pc = .ok (.ireturn, 1)) : W p l e room_1 s m #[Value.ref b] below meth c H [] 600000 7302250 (lw_Z below #[Value.ref b] s) (F0 m pc ls [.int 1]) := by
  intro T hT X
  obtain ⟨fs, hret, hrun, hended, hW, hframe⟩ := X.leave (v := some (.int 1)) (hlocks := hlocks) (fun h => by rw [hr] at h; cases h)
  have hmeth' : T.vm.method? m = some meth := X.method'
  refine ⟨T.setFrames fs, ?_, .returned (some (.int 1)), hrun, hended, rfl, ⟨_, rfl⟩, hW, hframe⟩
  jvm_step X.here [X.here.top, hx, hb, hdg, hmeth', hr, ret, narrow_b1]
  (try refine ⟨rfl, ?_⟩); (try refine ⟨rfl, ?_⟩)
  first | (intro acts; rw [hret _ acts rfl rfl rfl]) | rw [hret _ _ rfl rfl rfl]
  exact Steps.refl _
/-- what holds at the law's entry: the machine, the code, the tables' words (any of lw_tbl by 'hts w (by decide +kernel)'), the script of L ints xs at the cell b, what the Statement gives of the start (any of its parts by flat_of_before) -/
def lw_At (p : Program) (s : State) (m : MethodId) (meth : Method) (c : Code) (b L : Nat) (xs : Nat → Int32) : Prop :=
  p.tables.exec = Jvm.exec ∧ c.code = code ∧ meth.sig.returnType = ret ∧ c.maxLocals = 4 ∧ s.vm.findClass R_law = some m.cls ∧ (∀ w ∈ lw_tbl, w.before #[Value.ref b] s = true) ∧ va_X b L xs s s.heap ∧ b < s.heap.size ∧ meth.locks = false ∧ (Jvm.Cond.and given_1 narrow_1).before #[Value.ref b] s = true
/-! the law's start -/
def z_forms : List Int32 := [31, 0, 3, 24, 0, 9, 1, 0, 0, 32, 1, 9, 20, 1, 9, 39, 0, 17, 27, 0, 9999, 26, 0, 99, 1, 0, 0, 33, 0, 9, 40, 0, 9, 1, 0, 0, 34, 0, 9, 1, 0, 0, 1, 0, 0, 35, 0, 9, 1, 0, 0, 1, 0, 0, 36, 0, 9, 1, 0, 0, 1, 0, 0, 37, 0, 3, 1, 0, 0, 1, 0, 0, 38, 0, 9, 1, 0, 0, 1, 0, 0, 18, 1, 999, 1, 0, 0, 1, 0, 0]
def z_byt : List (List Int32) := [[43, 45, 42, 47, 37, 60, 62, 61, 35, 40, 41, 44, 59], [98, 101, 97, 116, 32, 99, 104, 101, 115, 116, 32, 112, 117, 108, 115, 101, 32, 116, 105, 109, 101, 32, 98, 108, 111, 99, 107, 32, 97, 115, 108, 101, 101, 112, 32, 108, 97, 103, 32, 97, 105, 114, 32, 104, 105, 103, 104, 32, 110, 111, 116, 101, 32, 98, 114, 101, 97, 116, 104, 32, 112, 97, 115, 115, 101, 115, 32, 104, 111, 108, 100, 115, 32, 115, 101, 97, 116, 32, 111, 110, 101, 32, 115, 105, 116, 32, 115, 108, 101, 101, 112, 32, 119, 97, 107, 101, 32, 104, 111, 108, 100, 32, 117, 115, 104, 101, 114, 32, 99, 111, 117, 103, 104, 32, 115, 116, 97, 114, 116, 32, 111, 110, 32, 111, 114, 32, 97, 110, 100, 32, 110, 111, 116, 32, 109, 105, 100, 100, 108, 101, 32]]
def z_len : List Nat := [13, 141]
def z_tm (i : Nat) : Term := if i = 0 then .string "BreatheAsOne$Reader" 111 else .string "BreatheAsOne$Reader" 119
/-- the memory at the law's start -/
def z_s0 (L : Nat) (xs : Nat → Int32) : ZM :=
  ((fun r => match r with | 1 => (20, L) | 2 => (20, 90) | 3 => (13, 0) | 4 => (21, 13) | 5 => (13, 0) | 6 => (21, 141) | _ => (0, 0)),
   (fun r j => match r with | 1 => xs j | 2 => z_forms.getD j 0 | 4 => (z_byt.getD 0 []).getD j 0 | 6 => (z_byt.getD 1 []).getD j 0 | _ => 0),
   (fun _ _ => 0), (fun r _ => match r with | 3 => 4 | 5 => 6 | _ => 0), 10, 0)
abbrev z_gn : Jvm.Cond := Jvm.Cond.and given_1 narrow_1
theorem z_m_forms : ∀ j, j < 90 → Cond.eq (.elem (.static "BreatheAsOne$Reader" "FORMS" "[I") (.int (Int32.ofNat j))) (.int (z_forms.getD j 0)) ∈ flatC z_gn := by decide +kernel
theorem z_m_b0 : ∀ j, j < 13 → Cond.eq (.elem (.field (z_tm 0) "java/lang/String" "value" "[B") (.int (Int32.ofNat j))) (.int ((z_byt.getD 0 []).getD j 0)) ∈ flatC z_gn := by decide +kernel
theorem z_m_b1_0 : ∀ j, j < 18 → 0 + j < 141 → Cond.eq (.elem (.field (z_tm 1) "java/lang/String" "value" "[B") (.int (Int32.ofNat (0 + j)))) (.int ((z_byt.getD 1 []).getD (0 + j) 0)) ∈ flatC z_gn := by decide +kernel
theorem z_m_b1_1 : ∀ j, j < 18 → 18 + j < 141 → Cond.eq (.elem (.field (z_tm 1) "java/lang/String" "value" "[B") (.int (Int32.ofNat (18 + j)))) (.int ((z_byt.getD 1 []).getD (18 + j) 0)) ∈ flatC z_gn := by decide +kernel
theorem z_m_b1_2 : ∀ j, j < 18 → 36 + j < 141 → Cond.eq (.elem (.field (z_tm 1) "java/lang/String" "value" "[B") (.int (Int32.ofNat (36 + j)))) (.int ((z_byt.getD 1 []).getD (36 + j) 0)) ∈ flatC z_gn := by decide +kernel
theorem z_m_b1_3 : ∀ j, j < 18 → 54 + j < 141 → Cond.eq (.elem (.field (z_tm 1) "java/lang/String" "value" "[B") (.int (Int32.ofNat (54 + j)))) (.int ((z_byt.getD 1 []).getD (54 + j) 0)) ∈ flatC z_gn := by decide +kernel
theorem z_m_b1_4 : ∀ j, j < 18 → 72 + j < 141 → Cond.eq (.elem (.field (z_tm 1) "java/lang/String" "value" "[B") (.int (Int32.ofNat (72 + j)))) (.int ((z_byt.getD 1 []).getD (72 + j) 0)) ∈ flatC z_gn := by decide +kernel
theorem z_m_b1_5 : ∀ j, j < 18 → 90 + j < 141 → Cond.eq (.elem (.field (z_tm 1) "java/lang/String" "value" "[B") (.int (Int32.ofNat (90 + j)))) (.int ((z_byt.getD 1 []).getD (90 + j) 0)) ∈ flatC z_gn := by decide +kernel
theorem z_m_b1_6 : ∀ j, j < 18 → 108 + j < 141 → Cond.eq (.elem (.field (z_tm 1) "java/lang/String" "value" "[B") (.int (Int32.ofNat (108 + j)))) (.int ((z_byt.getD 1 []).getD (108 + j) 0)) ∈ flatC z_gn := by decide +kernel
theorem z_m_b1_7 : ∀ j, j < 18 → 126 + j < 141 → Cond.eq (.elem (.field (z_tm 1) "java/lang/String" "value" "[B") (.int (Int32.ofNat (126 + j)))) (.int ((z_byt.getD 1 []).getD (126 + j) 0)) ∈ flatC z_gn := by decide +kernel
theorem z_m_b1 (j : Nat) (h : j < 141) : Cond.eq (.elem (.field (z_tm 1) "java/lang/String" "value" "[B") (.int (Int32.ofNat (j)))) (.int ((z_byt.getD 1 []).getD (j) 0)) ∈ flatC z_gn := by
  rcases Nat.lt_or_ge j 18 with q0 | q0
  · have c := z_m_b1_0 (j - 0) (by omega) (by omega)
    rwa [show 0 + (j - 0) = j by omega] at c
  rcases Nat.lt_or_ge j 36 with q1 | q1
  · have c := z_m_b1_1 (j - 18) (by omega) (by omega)
    rwa [show 18 + (j - 18) = j by omega] at c
  rcases Nat.lt_or_ge j 54 with q2 | q2
  · have c := z_m_b1_2 (j - 36) (by omega) (by omega)
    rwa [show 36 + (j - 36) = j by omega] at c
  rcases Nat.lt_or_ge j 72 with q3 | q3
  · have c := z_m_b1_3 (j - 54) (by omega) (by omega)
    rwa [show 54 + (j - 54) = j by omega] at c
  rcases Nat.lt_or_ge j 90 with q4 | q4
  · have c := z_m_b1_4 (j - 72) (by omega) (by omega)
    rwa [show 72 + (j - 72) = j by omega] at c
  rcases Nat.lt_or_ge j 108 with q5 | q5
  · have c := z_m_b1_5 (j - 90) (by omega) (by omega)
    rwa [show 90 + (j - 90) = j by omega] at c
  rcases Nat.lt_or_ge j 126 with q6 | q6
  · have c := z_m_b1_6 (j - 108) (by omega) (by omega)
    rwa [show 108 + (j - 108) = j by omega] at c
  rcases Nat.lt_or_ge j 144 with q7 | q7
  · have c := z_m_b1_7 (j - 126) (by omega) (by omega)
    rwa [show 126 + (j - 126) = j by omega] at c
  omega
theorem z_pu0 (L : Nat) (xs : Nat → Int32) : z_pu (z_s0 L xs) (z_s0 L xs) := by
  refine ⟨Nat.le_refl _, fun r hr => ?_, fun r hr => ⟨rfl, rfl, fun k => ⟨rfl, rfl⟩⟩, fun r hr h => ?_, fun r j h => ?_⟩
  · rcases Nat.lt_or_ge r 10 with q | q
    · exact q
    · exfalso; apply hr; unfold z_kd z_s0; dsimp only; split <;> first | omega | rfl
  · unfold z_kd z_s0 at h; dsimp only at h; split at h <;> first | omega | cases h
  · unfold z_kd z_s0 at h; dsimp only at h; split at h <;> first | omega | cases h
theorem z_pO0 (L : Nat) (xs : Nat → Int32) : z_pO (z_s0 L xs) := by
  intro r _
  unfold z_kd z_s0
  dsimp only
  split <;> simp
theorem z_ws0 (cA : Nat → ClassId) (A : Nat → Value) (base L : Nat) (xs : Nat → Int32) : z_ws cA A base (z_s0 L xs) = [] := rfl
theorem z_nest_in : ∀ q ∈ z_nest, Cond.methodLinkNest q.1 q.2.1 q.2.2.1 q.2.2.2 ∈ lw_tbl := by decide +kernel
theorem z_nest_c : Cond.castable "[I" "java/lang/Cloneable" ∈ lw_tbl := by decide +kernel
theorem z_str {args : Array Value} {s : State} (hfl : ∀ c ∈ flatC z_gn, c.before args s = true) {A : Nat → Prop} (hA : ∀ a : Nat, a < s.heap.size → ¬ A a) : ∃ adK adV : Nat → Nat, vk_S 2 z_len z_byt adK adV A s s.heap ∧ ∀ i : Nat, i < 2 → (z_tm i).eval args s none [] s = some (.ref (adK i)) := by
  refine vk_Sof (tm := z_tm) (fun i hi => ?_) (fun i hi => ?_) (fun i hi => ?_) (fun i hi => ?_) (fun i hi => ?_) (fun i hi j hj => ?_) (fun i j hi hj hij => ?_) hA
  · rcases (show i = 0 ∨ i = 1 by omega) with rfl | rfl <;> decide
  · rcases (show i = 0 ∨ i = 1 by omega) with rfl | rfl <;> exact hfl _ (by decide +kernel)
  · rcases (show i = 0 ∨ i = 1 by omega) with rfl | rfl <;> exact hfl _ (by decide +kernel)
  · rcases (show i = 0 ∨ i = 1 by omega) with rfl | rfl <;> exact hfl _ (by decide +kernel)
  · rcases (show i = 0 ∨ i = 1 by omega) with rfl | rfl <;> exact hfl _ (by decide +kernel)
  · rcases (show i = 0 ∨ i = 1 by omega) with rfl | rfl
    · exact hfl _ (z_m_b0 j hj)
    · exact hfl _ (z_m_b1 j hj)
  · rcases (show i = 0 ∨ i = 1 by omega) with rfl | rfl <;> rcases (show j = 0 ∨ j = 1 by omega) with rfl | rfl
    · exact absurd rfl hij
    · exact Or.inr (hfl _ (by decide +kernel))
    · exact Or.inl (hfl _ (by decide +kernel))
    · exact absurd rfl hij
theorem z_arr1 {args : Array Value} {s : State} {ty : FieldType} (hne : ∀ C, ty ≠ .object C) (h : (Cond.arrayClass ty).before args s = true) : ∃ c : ClassId, ArrOfT s c ty ∧ va_RA s c ty := by
  obtain ⟨c, k, comp, h1, h2, h3⟩ := Cond.arrayClass_spec h
  refine ⟨c, fun n z => ⟨fun q e => (by cases e), k, h2, comp, h3⟩, ?_⟩
  unfold va_RA
  cases ty <;> first | exact absurd rfl (hne _) | exact h1
theorem z_arrT {args : Array Value} {s : State} {C : String} (h : (Cond.arrayOver (.object C)).before args s = true) : ∃ c : ClassId, ArrOfT s c (.object C) ∧ va_RA s c (.object C) := by
  obtain ⟨comp, c, k, h1, h2, h3, h4, h5⟩ := Cond.arrayOver_spec h
  exact ⟨c, fun n z => ⟨fun q e => (by cases e), k, h3, comp, h4⟩, k, comp, h3, h4, h1, h5⟩
set_option maxHeartbeats 4000000 in
/-- the law, out of a run of the small machine -/
theorem z_law_W {p : Program} {e : Env} {s : State} {m : MethodId} {below : List Frame} {meth : Method} {c : Code} (l : Launch) {b L : Nat} {xs : Nat → Int32} (hL : L ≤ 3072) (C0 : lw_At p s m meth c b L xs) {τ : ZM} (hrun : z_w d_L_law (z_call 60) 0 [some (vr 1), none, none, none] [] (z_s0 L xs) = some (vi 1, τ)) (hc : z_sz τ ≤ 600010) (hw : z_sw τ ≤ 7302250) : W p l e room_1 s m #[Value.ref b] below meth c s.heap [] 0 0 (lw_Z below #[Value.ref b] s) (entryFrame m ([Value.ref b] : List Value).toArray 4) := by
  obtain ⟨hx, hb, hr, hml, hown, hts, hX, hbl, hlocks, hgv⟩ := id C0
  have hfl := flat_of_before _ hgv
  have hA : ∀ a : Nat, a < s.heap.size → ¬ z_B s.heap.size a := fun a h q => by
    have q' : s.heap.size ≤ a := q
    omega
  obtain ⟨fA, hfA, hfT⟩ := va_Tof (args := #[Value.ref b]) (s := s) (tm := .static "BreatheAsOne$Reader" "FORMS" "[I") (ty := .int) (N := 90) (f := fun j => .int (z_forms.getD j 0)) (A := z_B s.heap.size) (by decide) (hfl _ (by decide +kernel)) (va_eqt (hfl _ (by decide +kernel))) (fun j hj => va_eqt (hfl _ (z_m_forms j hj))) hA
  have hZ1 := va_Zof (A := z_B s.heap.size) (hts (.laysStatic "BreatheAsOne$Reader" "FORMS" "[I") (by decide +kernel)) (hts (.initialized "BreatheAsOne$Reader") (by decide +kernel)) hfA hA
  have hZ2 := va_Zof (A := z_B s.heap.size) (hts (.laysStatic "java/lang/String" "COMPACT_STRINGS" "Z") (by decide +kernel)) (hts (.initialized "java/lang/String") (by decide +kernel)) (va_eqi (z := 1) (hfl _ (by decide +kernel))) hA
  have hZ3 : ∃ v : Value, (v = .null ∨ ∃ a, v = .ref a) ∧ va_Z "jdk/internal/util/Preconditions" "SIOOBE_FORMATTER" "Ljava/util/function/BiFunction;" v (z_B s.heap.size) s s.heap := by
    rcases va_Zqof (A := z_B s.heap.size) (hts (.laysStatic "jdk/internal/util/Preconditions" "SIOOBE_FORMATTER" "Ljava/util/function/BiFunction;") (by decide +kernel)) (hts (.initialized "jdk/internal/util/Preconditions") (by decide +kernel)) (hfl _ (by decide +kernel)) hA with h | ⟨t, h⟩
    · exact ⟨_, Or.inl rfl, h⟩
    · exact ⟨_, Or.inr ⟨t, rfl⟩, h⟩
  obtain ⟨fm, hfm, hZ3⟩ := hZ3
  obtain ⟨adK, adV, hS2, hadK⟩ := z_str hfl hA
  obtain ⟨o, ho⟩ : ∃ o : Nat → Value, o = fun r => match r with
    | 1 => .ref b
    | 2 => .ref fA
    | 3 => .ref (adK 0)
    | 4 => .ref (adV 0)
    | 5 => .ref (adK 1)
    | 6 => .ref (adV 1)
    | 9 => fm
    | _ => .ref 0 := ⟨_, rfl⟩
  have hAr : ∀ r, r ≠ 0 → r < 10 → z_A s.heap.size o r = o r := fun r h0 h => by unfold z_A; rw [if_neg h0, if_pos h]
  have hA10 : ∀ r, 10 ≤ r → z_A s.heap.size o r = .ref (s.heap.size + (r - 10)) := fun r h => by unfold z_A; rw [if_neg (by omega), if_neg (by omega)]
  have hA0 : z_A s.heap.size o 0 = .null := rfl
  have hAok : z_Aok (z_s0 L xs) (z_A s.heap.size o) s.heap.size := by
    refine ⟨fun r => ?_, ⟨fun r h => by rw [h]; exact hA0, fun r h => ?_⟩, hA10, z_pO0 L xs⟩
    · rcases Nat.eq_zero_or_pos r with h0 | h0
      · rw [h0]; exact Or.inl hA0
      · rcases Nat.lt_or_ge r 10 with h | h
        · rw [hAr r (by omega) h, ho]
          dsimp only
          split <;> first | exact hfm | exact Or.inr ⟨_, rfl⟩
        · rw [hA10 r h]; exact Or.inr ⟨_, rfl⟩
    · rcases Nat.eq_zero_or_pos r with h0 | h0
      · exact Or.inl h0
      · rcases Nat.lt_or_ge r 10 with h1 | h1
        · rw [hAr r (by omega) h1, ho] at h
          dsimp only at h
          split at h <;> first | (cases h; done) | exact Or.inr rfl
        · rw [hA10 r h1] at h; cases h
  have hKn : ∀ i : Nat, ∃ q : ClassId × (Nat → Nat), i < 12 → u_Kn s (z_R i) (z_T i) (z_nf i) q.1 q.2 := by
    intro i
    by_cases hi : i < 12
    · obtain ⟨cC, iS, h⟩ := u_known (n := z_nf i) hts (z_all_in hi) (hts _ (z_all_ib hi).1)
      exact ⟨(cC, iS), fun _ => h⟩
    · exact ⟨(default, fun _ => 0), fun h => absurd h hi⟩
  obtain ⟨qD, hqD⟩ := Classical.axiomOfChoice hKn
  obtain ⟨c0, a0, r0⟩ := z_arr1 (fun _ h => by cases h) (hts (.arrayClass .int) (by decide +kernel))
  obtain ⟨c1, a1, r1⟩ := z_arr1 (fun _ h => by cases h) (hts (.arrayClass .byte) (by decide +kernel))
  obtain ⟨c2, a2, r2⟩ := z_arr1 (fun _ h => by cases h) (hts (.arrayClass .boolean) (by decide +kernel))
  obtain ⟨c3, a3, r3⟩ := z_arr1 (fun _ h => by cases h) (hts (.arrayClass .long) (by decide +kernel))
  have hao := hts (.arrayOver (.object "BreatheAsOne$Text")) (by decide +kernel)
  obtain ⟨c4, a4, r4⟩ := z_arrT hao
  obtain ⟨cA, hcA⟩ : ∃ cA : Nat → ClassId, cA = fun k => match k with
    | 0 => c0
    | 1 => c1
    | 2 => c2
    | 3 => c3
    | _ => c4 := ⟨_, rfl⟩
  have hK : va_K (fun i => (qD i).1, fun i => (qD i).2) vwCl (z_tys cA) s := by
    refine ⟨fun i q hq => ?_, fun k q hk => ?_⟩
    · have hi : i < 12 := (List.getElem?_eq_some_iff.mp hq).1
      rw [z_cl hi] at hq
      cases hq
      exact hqD i hi
    · rw [hcA] at hk
      match k, hk with
      | 0, hk => cases hk; exact ⟨a0, r0⟩
      | 1, hk => cases hk; exact ⟨a1, r1⟩
      | 2, hk => cases hk; exact ⟨a2, r2⟩
      | 3, hk => cases hk; exact ⟨a3, r3⟩
      | 4, hk => cases hk; exact ⟨a4, r4⟩
      | k + 5, hk => cases hk
  have hst := hts (.stringRef "BreatheAsOne$Reader" 111 "+-*/%<>=#(),;") (by decide +kernel)
  have hst2 := hts (.stringRef "BreatheAsOne$Reader" 119 "beat chest pulse time block asleep lag air high note breath passes holds seat one sit sleep wake hold usher cough start on or and not middle ") (by decide +kernel)
  have ho1 : z_A s.heap.size o 1 = .ref b := by rw [hAr 1 (by decide) (by decide), ho]; rfl
  have ho2 : z_A s.heap.size o 2 = .ref fA := by rw [hAr 2 (by decide) (by decide), ho]; rfl
  have ho3 : z_A s.heap.size o 3 = .ref (adK 0) := by rw [hAr 3 (by decide) (by decide), ho]; rfl
  have ho4 : z_A s.heap.size o 4 = .ref (adV 0) := by rw [hAr 4 (by decide) (by decide), ho]; rfl
  have ho5 : z_A s.heap.size o 5 = .ref (adK 1) := by rw [hAr 5 (by decide) (by decide), ho]; rfl
  have ho6 : z_A s.heap.size o 6 = .ref (adV 1) := by rw [hAr 6 (by decide) (by decide), ho]; rfl
  have ho9 : z_A s.heap.size o 9 = fm := by rw [hAr 9 (by decide) (by decide), ho]; rfl
  have hT0 := (hS2.1 0 (by decide)).2.2.2
  have hT1 := (hS2.1 1 (by decide)).2.2.2
  have hom : z_om (z_s0 L xs) (z_A s.heap.size o) s.heap.size s s.heap := by
    intro r hr hk
    match r, hr, hk with
    | 0, _, hk => exact absurd rfl hk
    | 1, _, _ =>
      obtain ⟨scr, x1, x2, x3, x4, x5⟩ := hX
      exact ⟨b, ho1, fun _ => ⟨scr, x1, x2, x3, by rw [x4]; exact Nat.le_refl _, by rw [x4]; rfl, x5, hA b hbl⟩, fun h => (by cases h), fun h => (by cases h)⟩
    | 2, _, _ => exact ⟨fA, ho2, fun _ => hfT, fun h => (by cases h), fun h => (by cases h)⟩
    | 3, _, _ => exact ⟨adK 0, ho3, fun h => (by cases h), fun h => (by cases h), fun _ => ⟨(hS2.1 0 (by decide)).1, (hS2.1 0 (by decide)).2.1, by show va_OF _ _ _ (z_A s.heap.size o 4) _ _ _ _; rw [ho4]; exact (hS2.1 0 (by decide)).2.2.1⟩⟩
    | 4, _, _ => exact ⟨adV 0, ho4, fun h => (by cases h), fun _ => hT0, fun h => (by cases h)⟩
    | 5, _, _ => exact ⟨adK 1, ho5, fun h => (by cases h), fun h => (by cases h), fun _ => ⟨(hS2.1 1 (by decide)).1, (hS2.1 1 (by decide)).2.1, by show va_OF _ _ _ (z_A s.heap.size o 6) _ _ _ _; rw [ho6]; exact (hS2.1 1 (by decide)).2.2.1⟩⟩
    | 6, _, _ => exact ⟨adV 1, ho6, fun h => (by cases h), fun _ => hT1, fun h => (by cases h)⟩
    | 7, _, hk => exact absurd rfl hk
    | 8, _, hk => exact absurd rfl hk
    | 9, _, hk => exact absurd rfl hk
  have hfix : z_fix (fun i => (qD i).1, fun i => (qD i).2) cA (z_s0 L xs) (z_A s.heap.size o) s.heap.size s s.heap := by
    refine ⟨hK, fun q hq => ?_, va_Nw.of rfl (hts _ z_nest_c), va_AO.of hao, ⟨adK 0, ho3, vk_R.of hst (hadK 0 (by decide))⟩, ⟨adK 1, ho5, vk_R.of hst2 (hadK 1 (by decide))⟩, ?_, hZ2, ?_, hom⟩
    · exact va_Nw.of rfl (hts _ (z_nest_in q hq))
    · rw [ho2]; exact hZ1
    · rw [ho9]; exact hZ3
  have X : z_C p s m #[Value.ref b] c code "BreatheAsOneLaw" 4 (fun i => (qD i).1, fun i => (qD i).2) cA (z_s0 L xs) (z_A s.heap.size o) s.heap.size 10 := ⟨⟨hx, hb, hml, hown, fun w hw => hts w (z_tb_lw hw)⟩, hfix, hAok.1, hAok.2.1, hAok.2.2.1, by omega, Nat.le_refl _, hAok.2.2.2⟩
  have G := z_w_ok (l := l) (e := e) (R := room_1) (below := below) (meth := meth) (Q := lw_Z below #[Value.ref b] s) (w0 := 0) (rF := vi 1) (σF := τ) (ini := false) (d := d_L_law) X z_lk_L (z_call_ok hAok 60) ⟨by decide, by decide⟩ (by show z_sz τ ≤ 10 + 600000; omega) (by show z_sw τ ≤ 0 + 7302250; omega) (fun h => by cases h) z_k_L_law z_u_L_law ?_ rfl hrun
  · have w := G.2.2 s.heap [] _ (by rw [z_ws0]; exact fun k q h => by simp at h) (z_pu0 L xs) va_S.rf (z_entry (as := [vr 1]) (n := 4) hAok.1 (by decide)) (Nat.le_refl _) (Nat.le_refl _)
    have ee : ([vr 1] : List ZV).map (z_cv (z_A s.heap.size o)) = [Value.ref b] := by show [z_A s.heap.size o 1] = _; rw [ho1]
    rw [ee] at w
    rw [lg_entry_eq]
    exact w
  · intro pc L' S he H locs ls hP2 hu2 hS hl hn hw2
    rcases he with ⟨hd, x, hx1, hfit, rfl⟩ | ⟨hd, x, hx1, _⟩ | ⟨hd, x, hx1, _⟩ | ⟨hd, hx1, _⟩
    · cases hx1
      refine va_forget (fun q hq => hS.2.2 q hq) ?_
      refine W.widen (k := 600000) (n := 7302250) (by omega) (by omega) ?_
      exact lw_ret hx hb hr hlocks hd
    · cases hx1
    · cases hx1
    · exact absurd (Sum.inl.inj hx1) (by decide)
