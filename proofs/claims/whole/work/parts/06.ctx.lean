/-! the context of a method's walk, and its rows -/
def z_tb : List Cond := lw_tbl.filter goodWord
theorem z_tb_of {w : Cond} {i : Nat} (h : tables_1[i]? = some w) (hg : goodWord w = true) : w ∈ z_tb := List.mem_filter.mpr ⟨List.mem_append_right _ (List.mem_of_getElem? h), hg⟩
theorem z_tb_in {w : Cond} (h : w ∈ lw_tbl) (hg : goodWord w = true) : w ∈ z_tb := List.mem_filter.mpr ⟨h, hg⟩
theorem z_tb_lw {w : Cond} (h : w ∈ z_tb) : w ∈ lw_tbl := (List.mem_filter.mp h).1
theorem z_tb_good : GoodIn z_tb z_tb := fun w h => ⟨h, good_of_word (List.mem_filter.mp h).2⟩
def z_nest : List (String × Nat × MethodName × String) := [("BreatheAsOne", 11, ⟨"BreatheAsOne$House", "<init>", "()V"⟩, "BreatheAsOne"), ("BreatheAsOne", 25, ⟨"BreatheAsOne$Steps", "<init>", "()V"⟩, "BreatheAsOne"), ("BreatheAsOne", 32, ⟨"BreatheAsOne$Told", "<init>", "()V"⟩, "BreatheAsOne"), ("BreatheAsOne", 59, ⟨"BreatheAsOne$Reader", "<init>", "()V"⟩, "BreatheAsOne"), ("BreatheAsOne$House", 55, ⟨"BreatheAsOne", "within", "(III)Z"⟩, "BreatheAsOne"), ("BreatheAsOne$Reader", 166, ⟨"BreatheAsOne", "within", "(III)Z"⟩, "BreatheAsOne"), ("BreatheAsOne$Deeds", 52, ⟨"BreatheAsOne", "within", "(III)Z"⟩, "BreatheAsOne"), ("BreatheAsOne$Deeds", 63, ⟨"BreatheAsOne", "has", "(II)Z"⟩, "BreatheAsOne"), ("BreatheAsOne$Breathing", 41, ⟨"BreatheAsOne", "has", "(II)Z"⟩, "BreatheAsOne"), ("BreatheAsOne$Breathing", 136, ⟨"BreatheAsOne", "within", "(III)Z"⟩, "BreatheAsOne"), ("BreatheAsOne$Questions", 97, ⟨"BreatheAsOne", "has", "(II)Z"⟩, "BreatheAsOne"), ("BreatheAsOne$Games", 55, ⟨"BreatheAsOne", "has", "(II)Z"⟩, "BreatheAsOne"), ("BreatheAsOne$Questions", 196, ⟨"BreatheAsOne", "within", "(III)Z"⟩, "BreatheAsOne")]
abbrev z_B (base : Nat) : Nat → Prop := fun q => base ≤ q
/-- the cells that were there before: what they are on the machine -/
def z_om (O : ZM) (A : Nat → Value) (base : Nat) (U : State) (H : Heap) : Prop := ∀ r, r < 10 → z_kd O r ≠ 0 → ∃ a, A r = .ref a ∧
  (z_kd O r = 20 → va_T .int a (z_ln O r) (fun j => .int (z_i O r j)) (z_B base) U H) ∧ (z_kd O r = 21 → va_T .byte a (z_ln O r) (fun j => .int (z_i O r j)) (z_B base) U H) ∧
  (z_kd O r = 13 → va_O "java/lang/String" a (z_B base) U H ∧ va_OF "java/lang/String" "coder" "B" (.int (z_i O r 1)) a (z_B base) U H ∧ va_OF "java/lang/String" "value" "[B" (A (z_r O r 0)) a (z_B base) U H)
def z_fix (D : va_G) (cA : Nat → ClassId) (O : ZM) (A : Nat → Value) (base : Nat) (U : State) (H : Heap) : Prop :=
  va_K D vwCl (z_tys cA) U ∧ (∀ q ∈ z_nest, va_Nw (.methodLinkNest q.1 q.2.1 q.2.2.1 q.2.2.2) U) ∧ va_Nw (.castable "[I" "java/lang/Cloneable") U ∧ va_AO "BreatheAsOne$Text" U ∧
  (∃ q, A 3 = .ref q ∧ vk_R "BreatheAsOne$Reader" 111 "+-*/%<>=#(),;" q U) ∧ (∃ q, A 5 = .ref q ∧ vk_R "BreatheAsOne$Reader" 119 "beat chest pulse time block asleep lag air high note breath passes holds seat one sit sleep wake hold usher cough start on or and not middle " q U) ∧
  va_Z "BreatheAsOne$Reader" "FORMS" "[I" (A 2) (z_B base) U H ∧ va_Z "java/lang/String" "COMPACT_STRINGS" "Z" (.int 1) (z_B base) U H ∧ va_Z "jdk/internal/util/Preconditions" "SIOOBE_FORMATTER" "Ljava/util/function/BiFunction;" (A 9) (z_B base) U H ∧ z_om O A base U H
theorem z_om_to {O : ZM} {A : Nat → Value} {base : Nat} {s U : State} {H H1 : Heap} (hvm : s.vm.Alike U.vm) (hq : ∀ a : Nat, a < H.size → ¬ base ≤ a → H1[a]? = H[a]?) (h : z_om O A base s H) : z_om O A base U H1 := by
  intro r hr hk
  obtain ⟨a, h1, h2, h3, h4⟩ := h r hr hk
  exact ⟨a, h1, fun e => ((h2 e).moved hvm).kept hq, fun e => ((h3 e).moved hvm).kept hq, fun e => ⟨((h4 e).1.moved hvm).kept hq, ((h4 e).2.1.moved hvm).kept hq, ((h4 e).2.2.moved hvm).kept hq⟩⟩
theorem z_fix_to {D : va_G} {cA : Nat → ClassId} {O : ZM} {A : Nat → Value} {base : Nat} {s U : State} {H H1 : Heap} (hW : s.WarmedH U.vm) (hq : ∀ a : Nat, a < H.size → ¬ base ≤ a → H1[a]? = H[a]?) (h : z_fix D cA O A base s H) : z_fix D cA O A base U H1 := by
  obtain ⟨h1, h2, h3, h4, ⟨q5, e5, h5⟩, ⟨q6, e6, h6⟩, h7, h8, h9, h10⟩ := h
  exact ⟨h1.moved hW.alike, fun q hq => (h2 q hq).warmM hW, h3.warmC hW, h4.moved hW.alike, ⟨q5, e5, h5.warm hW⟩, ⟨q6, e6, h6.warm hW⟩, (h7.moved hW.alike).kept hq, (h8.moved hW.alike).kept hq, (h9.moved hW.alike).kept hq, z_om_to hW.alike hq h10⟩
/-- locals -/
def z_lv (A : Nat → Value) (ls : Array Slot) (nL : Nat) (L : ZL) : Prop := L.length = nL ∧ ls.size = nL ∧ lv_wf ls ∧ ∀ i v, z_lg L i = some v → ls[i]? = some (.val (z_cv A v))
def z_pw (A : Nat → Value) (L : ZL) : List (Nat × Value) := (List.range L.length).filterMap (fun i => (z_lg L i).map (fun v => (i, z_cv A v)))
theorem z_lg_lt {L : ZL} {i : Nat} {v : ZV} (h : z_lg L i = some v) : i < L.length := by
  rcases Nat.lt_or_ge i L.length with h1 | h1
  · exact h1
  · unfold z_lg at h
    rw [List.getD_eq_getElem?_getD, List.getElem?_eq_none h1] at h
    cases h
theorem z_pr_mem {A : Nat → Value} {L : ZL} {i : Nat} {v : ZV} (h : z_lg L i = some v) : (i, z_cv A v) ∈ z_pw A L :=
  List.mem_filterMap.mpr ⟨i, List.mem_range.mpr (z_lg_lt h), by rw [h]; rfl⟩
theorem z_lv_has {A : Nat → Value} {ls : Array Slot} {nL : Nat} {L : ZL} (h : z_lv A ls nL L) : lv_has ls nL (z_pw A L) := by
  refine ⟨h.2.1, h.2.2.1, fun q hq => ?_⟩
  obtain ⟨i, -, hi⟩ := List.mem_filterMap.mp hq
  cases hv : z_lg L i with
  | none => rw [hv] at hi; cases hi
  | some v =>
    rw [hv] at hi
    cases hi
    exact h.2.2.2 i v hv
def z_lw (v : ZV) : Bool := match v with
  | .inr (.inl _) => true
  | _ => false
theorem z_ls_len : ∀ (L : ZL) (i : Nat) (v : ZV), (z_ls L i v).length = L.length
  | [], _, _ => rfl
  | _ :: L, 0, v => rfl
  | a :: L, 1, v => by simp only [z_ls, List.length_cons, z_ls_len L 0 v]
  | a :: L, i + 2, v => by simp only [z_ls, List.length_cons, z_ls_len L (i + 1) v]
theorem z_lg_c0 (a : Option ZV) (L : ZL) : z_lg (a :: L) 0 = a := rfl
theorem z_lg_cs (a : Option ZV) (L : ZL) (j : Nat) : z_lg (a :: L) (j + 1) = z_lg L j := rfl
theorem z_clr_some {a : Option ZV} {w : ZV} (h : z_clr a = some w) : a = some w ∧ z_lw w = false := by
  unfold z_clr at h
  split at h
  · cases h
  · rename_i hn
    refine ⟨h, ?_⟩
    unfold z_lw
    split
    · subst h; exact absurd rfl (hn _)
    · rfl
theorem z_ls_get : ∀ (L : ZL) (i : Nat) (v : ZV) (j : Nat) (w : ZV), z_lg (z_ls L i v) j = some w → (j = i ∧ w = v) ∨ (j ≠ i ∧ z_lg L j = some w ∧ ¬ (j + 1 = i ∧ z_lw w = true))
  | [], i, v, j, w, h => by cases h
  | a :: L, 0, v, 0, w, h => by left; exact ⟨rfl, (Option.some.inj h).symm⟩
  | a :: L, 0, v, j + 1, w, h => by right; exact ⟨by omega, h, by omega⟩
  | a :: L, 1, v, 0, w, h => by
    right
    obtain ⟨h1, h2⟩ := z_clr_some (show z_clr a = some w from h)
    exact ⟨by omega, h1, by rw [h2]; simp⟩
  | a :: L, 1, v, j + 1, w, h => by
    rcases z_ls_get L 0 v j w h with ⟨h1, h2⟩ | ⟨h1, h2, h3⟩
    · left; exact ⟨by omega, h2⟩
    · right; exact ⟨by omega, h2, by omega⟩
  | a :: L, i + 2, v, 0, w, h => by right; exact ⟨by omega, h, by omega⟩
  | a :: L, i + 2, v, j + 1, w, h => by
    rcases z_ls_get L (i + 1) v j w h with ⟨h1, h2⟩ | ⟨h1, h2, h3⟩
    · left; exact ⟨by omega, h2⟩
    · right; exact ⟨by omega, h2, fun e => h3 ⟨by omega, e.2⟩⟩
theorem z_ls2_len : ∀ (L : ZL) (i : Nat) (v : ZV), i + 1 < L.length → (z_ls2 L i v).length = L.length
  | [], i, v, h => by simp at h
  | [a], 0, v, h => by simp at h
  | [a], i + 1, v, h => by simp at h
  | a :: b :: L, 0, v, h => rfl
  | a :: b :: L, 1, v, h => by
    have := z_ls2_len (b :: L) 0 v (by simp only [List.length_cons] at h ⊢; omega)
    simp only [z_ls2, List.length_cons] at this ⊢
    omega
  | a :: b :: L, i + 2, v, h => by
    have := z_ls2_len (b :: L) (i + 1) v (by simp only [List.length_cons] at h ⊢; omega)
    simp only [z_ls2, List.length_cons] at this ⊢
    omega
theorem z_ls2_get : ∀ (L : ZL) (i : Nat) (v : ZV) (j : Nat) (w : ZV), z_lg (z_ls2 L i v) j = some w → (j = i ∧ w = v) ∨ (j ≠ i ∧ j ≠ i + 1 ∧ z_lg L j = some w ∧ ¬ (j + 1 = i ∧ z_lw w = true))
  | [], i, v, j, w, h => by cases i <;> cases h
  | [a], 0, v, j, w, h => by cases h
  | a :: b :: L, 0, v, 0, w, h => by left; exact ⟨rfl, (Option.some.inj h).symm⟩
  | a :: b :: L, 0, v, 1, w, h => by cases h
  | a :: b :: L, 0, v, j + 2, w, h => by right; exact ⟨by omega, by omega, h, by omega⟩
  | a :: L, 1, v, 0, w, h => by
    right
    have h' : z_clr a = some w := by cases L <;> exact h
    obtain ⟨h1, h2⟩ := z_clr_some h'
    exact ⟨by omega, by omega, h1, by rw [h2]; simp⟩
  | a :: L, 1, v, j + 1, w, h => by
    have h' : z_lg (z_ls2 L 0 v) j = some w := by cases L <;> exact h
    rcases z_ls2_get L 0 v j w h' with ⟨h1, h2⟩ | ⟨h1, h2, h3, h4⟩
    · left; exact ⟨by omega, h2⟩
    · right; exact ⟨by omega, by omega, h3, by omega⟩
  | a :: L, i + 2, v, 0, w, h => by
    right
    have h' : a = some w := by cases L <;> exact h
    exact ⟨by omega, by omega, h', by omega⟩
  | a :: L, i + 2, v, j + 1, w, h => by
    have h' : z_lg (z_ls2 L (i + 1) v) j = some w := by cases L <;> exact h
    rcases z_ls2_get L (i + 1) v j w h' with ⟨h1, h2⟩ | ⟨h1, h2, h3, h4⟩
    · left; exact ⟨by omega, h2⟩
    · right; exact ⟨by omega, by omega, h3, fun e => h4 ⟨by omega, e.2⟩⟩
theorem z_cv_cat {A : Nat → Value} (hA : ∀ r, A r = .null ∨ ∃ a, A r = .ref a) (v : ZV) : (z_cv A v).category = if z_lw v then 2 else 1 := by
  match v with
  | .inl x => rfl
  | .inr (.inl x) => rfl
  | .inr (.inr r) => rcases hA r with h | ⟨a, h⟩ <;> (show (A r).category = 1; rw [h]; rfl)
theorem z_lv_set {A : Nat → Value} (hA : ∀ r, A r = .null ∨ ∃ a, A r = .ref a) {ls ls' : Array Slot} {nL i : Nat} {L : ZL} {v : ZV} (h : z_lv A ls nL L) (h' : lv_has ls' nL ((i, z_cv A v) :: (z_pw A L).filter (fun q => !(q.1 == i) && !(q.1 + 1 == i && q.2.category == 2)))) : z_lv A ls' nL (z_ls L i v) := by
  refine ⟨by rw [z_ls_len]; exact h.1, h'.1, h'.2.1, fun j w hj => ?_⟩
  rcases z_ls_get L i v j w hj with ⟨rfl, rfl⟩ | ⟨h1, h2, h3⟩
  · exact h'.2.2 _ List.mem_cons_self
  · refine h'.2.2 (j, z_cv A w) (List.mem_cons_of_mem _ (List.mem_filter.mpr ⟨z_pr_mem h2, ?_⟩))
    simp only [Bool.and_eq_true, Bool.not_eq_true', beq_eq_false_iff_ne, ne_eq, Bool.and_eq_false_iff]
    refine ⟨h1, ?_⟩
    by_cases e : j + 1 = i
    · right
      rw [z_cv_cat hA]
      have : z_lw w = false := by
        cases hb : z_lw w with
        | false => rfl
        | true => exact absurd ⟨e, hb⟩ h3
      rw [this]; decide
    · left; exact e
theorem z_lv_set2 {A : Nat → Value} (hA : ∀ r, A r = .null ∨ ∃ a, A r = .ref a) {ls ls' : Array Slot} {nL i : Nat} {L : ZL} {v : ZV} (hi : i + 1 < nL) (h : z_lv A ls nL L) (h' : lv_has ls' nL ((i, z_cv A v) :: (z_pw A L).filter (fun q => !(q.1 == i) && (!(q.1 == i + 1) && !(q.1 + 1 == i && q.2.category == 2))))) : z_lv A ls' nL (z_ls2 L i v) := by
  refine ⟨by rw [z_ls2_len _ _ _ (by rw [h.1]; exact hi)]; exact h.1, h'.1, h'.2.1, fun j w hj => ?_⟩
  rcases z_ls2_get L i v j w hj with ⟨rfl, rfl⟩ | ⟨h1, h0, h2, h3⟩
  · exact h'.2.2 _ List.mem_cons_self
  · refine h'.2.2 (j, z_cv A w) (List.mem_cons_of_mem _ (List.mem_filter.mpr ⟨z_pr_mem h2, ?_⟩))
    simp only [Bool.and_eq_true, Bool.not_eq_true', beq_eq_false_iff_ne, ne_eq, Bool.and_eq_false_iff]
    refine ⟨h1, h0, ?_⟩
    by_cases e : j + 1 = i
    · right
      rw [z_cv_cat hA]
      have : z_lw w = false := by
        cases hb : z_lw w with
        | false => rfl
        | true => exact absurd ⟨e, hb⟩ h3
      rw [this]; decide
    · left; exact e
theorem z_cut_len : ∀ (b : List Bool) (L : ZL), b.length = L.length → (z_cut b L).length = L.length
  | [], [], _ => rfl
  | [], _ :: _, h => by simp at h
  | _ :: _, [], h => by simp at h
  | true :: b, v :: L, h => by simp only [z_cut, List.length_cons, z_cut_len b L (by simpa using h)]
  | false :: b, v :: L, h => by simp only [z_cut, List.length_cons, z_cut_len b L (by simpa using h)]
theorem z_cut_get : ∀ (b : List Bool) (L : ZL) (j : Nat) (w : ZV), z_lg (z_cut b L) j = some w → z_lg L j = some w
  | [], [], j, w, h => by cases h
  | [], _ :: _, j, w, h => by cases h
  | true :: _, [], j, w, h => by cases h
  | false :: _, [], j, w, h => by cases h
  | true :: b, v :: L, 0, w, h => h
  | true :: b, v :: L, j + 1, w, h => z_cut_get b L j w h
  | false :: b, v :: L, 0, w, h => by cases h
  | false :: b, v :: L, j + 1, w, h => z_cut_get b L j w h
theorem z_lv_cut {A : Nat → Value} {ls : Array Slot} {nL : Nat} {L : ZL} {b : List Bool} (h : z_lv A ls nL L) (hb : b.length = nL) : z_lv A ls nL (z_cut b L) :=
  ⟨by rw [z_cut_len _ _ (by rw [hb, h.1])]; exact h.1, h.2.1, h.2.2.1, fun j w hj => h.2.2.2 j w (z_cut_get b L j w hj)⟩
