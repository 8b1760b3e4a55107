/-! THE PURE PART, 77: one token, in the class and in the model -/
def y_kd (B : Int → Int) (L p : Int) : Int := if p < L then (if y_dig (B p) = true then 2 else y_tok B L p) else 0
def y_vl (B : Int → Int) (L p : Int) : Int := if p < L then (if y_dig (B p) = true then y_num B (y_end B L p - p).toNat p 0 else 0) else 0
def y_ww (k : Int) : Int := y_pk (y_tb.getD k.toNat []) 0
def y_tt (K : Int) : Int := if K = 0 then 0 else if K = 1 then 3 else if K = 2 then 1 else if K < 16 then y_sg.getD (K - 3).toNat 0 else if K = 16 then 4 else if K = 17 then 5 else 2
/-- the class's kind and value beside the model's token, number, word -/
def y_rl (K v t n w : Int) : Prop := (0 ≤ K ∧ K ≤ 44) ∧ (t = y_tt K ∨ (K = 1 ∧ t = 2)) ∧ (K = 2 → v = min n 10000 ∧ 0 ≤ n ∧ n ≤ 1000000) ∧ (t = 2 → l_in w ∧ ∀ k : Int, 0 ≤ k → k < 27 → (w = y_ww k ↔ K = 18 + k))
theorem y_ex {d l : Bool} {b : Int} (hd : y_dig b = true) : y_let b = false := by
  have q := of_decide_eq_true hd
  exact decide_eq_false (by omega)
theorem y_wf_sp : ∀ (ws : List (List Int)) (k : Int) (l : List Int), 1 < k → (y_wf ws k l = 1 ∧ ∀ i : Nat, i < ws.length → l ≠ ws.getD i []) ∨ ∃ i : Nat, i < ws.length ∧ y_wf ws k l = k + i ∧ l = ws.getD i []
  | [], _, _, _ => Or.inl ⟨rfl, fun i h => absurd h (Nat.not_lt_zero _)⟩
  | w :: ws, k, l, hk => by
    by_cases c : l = w
    · refine Or.inr ⟨0, by simp, ?_, c⟩
      show (if l = w then k else y_wf ws (k + 1) l) = k + 0
      rw [if_pos c, Int.add_zero]
    · have e : y_wf (w :: ws) k l = y_wf ws (k + 1) l := if_neg c
      rcases y_wf_sp ws (k + 1) l (by omega) with ⟨h1, h2⟩ | ⟨i, h1, h2, h3⟩
      · refine Or.inl ⟨by rw [e]; exact h1, fun i hi => ?_⟩
        cases i with
        | zero => exact c
        | succ i => exact h2 i (by simp at hi; omega)
      · exact Or.inr ⟨i + 1, by simp; omega, by rw [e, h2]; omega, h3⟩
theorem y_si_sp : ∀ (cs : List Int) (i b : Int), 0 ≤ i → 0 ≤ y_si cs i b → b = cs.getD (y_si cs i b - i).toNat 0
  | [], _, _, _, h => by have h' : (0 : Int) ≤ -1 := h; omega
  | c :: cs, i, b, hi, h => by
    by_cases q : b = c
    · have e : y_si (c :: cs) i b = i := if_pos q
      rw [e, show (i - i).toNat = 0 by omega]; exact q
    · have e : y_si (c :: cs) i b = y_si cs (i + 1) b := if_neg q
      rw [e] at h ⊢
      have := y_si_sp cs (i + 1) b (by omega) h
      rcases y_si_in cs (i + 1) b with z | z
      · omega
      · rw [show (y_si cs (i + 1) b - i).toNat = (y_si cs (i + 1) b - (i + 1)).toNat + 1 by omega]
        exact this
theorem y_sl_all {P : Int → Prop} {B : Int → Int} : ∀ (m : Nat) (p : Int), (∀ k, p ≤ k → k < p + m → P (B k)) → ∀ b, b ∈ y_sl B m p → P b
  | 0, _, _, b, hb => by cases hb
  | m + 1, p, h, b, hb => by
    rcases List.mem_cons.mp hb with e | e
    · rw [e]; exact h p (by omega) (by omega)
    · exact y_sl_all m (p + 1) (fun k a c => h k (by omega) (by omega)) b e
theorem y_pk_l : ∀ (l : List Int) (w : Int), (∀ b, b ∈ l → 1 ≤ b ∧ b ≤ 255) → (0 ≤ w ∧ w < 9223372036854775808) → 0 ≤ y_pk l w ∧ y_pk l w < 9223372036854775808
  | [], _, _, h => h
  | b :: l, w, hl, h => y_pk_l l (y_ps w b) (fun c m => hl c (List.mem_cons_of_mem _ m)) (y_ps_in h (by have := hl b (List.mem_cons_self ..); omega))
theorem y_tb_ok : ∀ w, w ∈ y_tb → (∀ b, b ∈ w → 1 ≤ b ∧ b ≤ 255) ∧ y_pk w 0 < 281474976710656 := by decide +kernel
theorem y_tb_ne : ∀ i : Nat, i < 27 → ∀ j : Nat, j < 27 → y_tb.getD i [] = y_tb.getD j [] → i = j := by decide +kernel
theorem y_tb_mem {i : Nat} (h : i < 27) : y_tb.getD i [] ∈ y_tb := by
  have q : ∀ i : Nat, i < 27 → y_tb.getD i [] ∈ y_tb := by decide +kernel
  exact q i h
theorem y_rel {R B : Int → Int} {w L p : Int} (hm : y_mt R w B L p) (hp : 0 ≤ p ∧ p ≤ L) (hb : ∀ k, 0 ≤ k → k < L → 0 ≤ B k ∧ B k ≤ 255) : y_rl (y_kd B L p) (y_vl B L p) (R 9) (R 10) w := by
  obtain ⟨m8, m7, m9, m10, m11⟩ := hm
  unfold y_rl
  rw [m9]
  by_cases c : p < L
  · have en := y_end_in (B := B) c
    have hbp := hb p hp.1 c
    cases qd : y_dig (B p)
    · cases ql : y_let (B p)
      · have k1 : y_kd B L p = if p + 1 < y_end B L p then (if B p = 60 then 16 else 17) else (if y_si y_sg 0 (B p) < 0 then 1 else 3 + y_si y_sg 0 (B p)) := by
          unfold y_kd y_tok
          simp only [c, qd, ql, if_true, if_false, Bool.false_eq_true]
        have k2 : y_mk B L p = if p + 1 < y_end B L p then (if B p = 60 then 4 else 5) else if 0 ≤ y_si y_sg 0 (B p) then B p else 3 := by
          unfold y_mk
          simp only [c, qd, ql, if_true, if_false, Bool.false_eq_true]
        rw [k1, k2]
        have si := y_si_in y_sg 0 (B p)
        have l13 : (y_sg.length : Int) = 13 := rfl
        rw [l13] at si
        by_cases c1 : p + 1 < y_end B L p
        · rw [if_pos c1, if_pos c1]
          by_cases c2 : B p = 60
          · rw [if_pos c2, if_pos c2]
            exact ⟨by omega, Or.inl rfl, fun z => by omega, fun z => by omega⟩
          · rw [if_neg c2, if_neg c2]
            exact ⟨by omega, Or.inl rfl, fun z => by omega, fun z => by omega⟩
        · rw [if_neg c1, if_neg c1]
          by_cases c2 : y_si y_sg 0 (B p) < 0
          · rw [if_pos c2, if_neg (by omega)]
            exact ⟨by omega, Or.inl rfl, fun z => by omega, fun z => by omega⟩
          · rw [if_neg c2, if_pos (by omega)]
            have sp := y_si_sp y_sg 0 (B p) (by omega) (by omega)
            have sb := y_sg_in (y_si y_sg 0 (B p)).toNat (by omega)
            have s35 : ∀ n : Nat, n < 13 → 35 ≤ y_sg.getD n 0 := by decide
            have s35' := s35 (y_si y_sg 0 (B p)).toNat (by omega)
            rw [Int.sub_zero] at sp
            refine ⟨by omega, Or.inl ?_, fun z => by omega, fun z => by rw [sp] at z; omega⟩
            unfold y_tt
            rw [if_neg (by omega), if_neg (by omega), if_neg (by omega), if_pos (by omega), show 3 + y_si y_sg 0 (B p) - 3 = y_si y_sg 0 (B p) by omega]
            exact sp
      · have k1 : y_kd B L p = y_wf y_tb 18 (y_sl B (y_end B L p - p).toNat p) := by
          unfold y_kd y_tok y_word
          simp only [c, qd, ql, if_true, if_false, Bool.false_eq_true]
        have k2 : y_mk B L p = 2 := by
          unfold y_mk
          simp only [c, qd, ql, if_true, if_false, Bool.false_eq_true]
        have hw := m11 c ql
        have hs : ∀ b, b ∈ y_sl B (y_end B L p - p).toNat p → 1 ≤ b ∧ b ≤ 255 := y_sl_all (P := fun b => 1 ≤ b ∧ b ≤ 255) _ _ (fun k a b => by
          have q : y_let (B k) = true := by
            by_cases e : k = p
            · rw [e]; exact ql
            · have b' : k < y_end B L p := by omega
              unfold y_end at b'
              rw [ql, if_pos rfl] at b'
              exact (y_go_in (P := y_let) (B := B) (L := L) (p := p + 1) (by omega)).2.2.1 k (by omega) b'
          have q' := of_decide_eq_true q
          omega)
        have hin := y_pk_l _ 0 hs (by omega)
        have hiff : ∀ k : Int, 0 ≤ k → k < 27 → (w = y_ww k ↔ y_sl B (y_end B L p - p).toNat p = y_tb.getD k.toNat []) := fun k a b => by
          have tk := y_tb_ok _ (y_tb_mem (i := k.toNat) (by omega))
          rw [hw]
          exact ⟨fun z => y_pk_inj hs tk.1 z tk.2, fun z => by rw [z]; rfl⟩
        rw [k1, k2]
        generalize y_sl B (y_end B L p - p).toNat p = l at *
        rcases y_wf_sp y_tb 18 l (by omega) with ⟨h1, h2⟩ | ⟨i, h1, h2, h3⟩
        · rw [h1]
          refine ⟨by omega, Or.inr ⟨rfl, rfl⟩, fun z => by omega, fun _ => ⟨by rw [hw]; exact ⟨by omega, by omega⟩, fun k a b => ?_⟩⟩
          rw [hiff k a b]
          exact ⟨fun z => absurd z (h2 k.toNat (by show k.toNat < 27; omega)), fun z => by omega⟩
        · have h1' : i < 27 := h1
          rw [h2]
          refine ⟨by omega, Or.inl ?_, fun z => by omega, fun _ => ⟨by rw [hw]; exact ⟨by omega, by omega⟩, fun k a b => ?_⟩⟩
          · unfold y_tt
            rw [if_neg (by omega), if_neg (by omega), if_neg (by omega), if_neg (by omega), if_neg (by omega), if_neg (by omega)]
          · rw [hiff k a b, h3]
            exact ⟨fun z => by have := y_tb_ne i h1' k.toNat (by omega) z; omega, fun z => by rw [show k.toNat = i by omega]⟩
    · have ql : y_let (B p) = false := y_ex (d := true) (l := true) qd
      have k1 : y_kd B L p = 2 := by
        unfold y_kd
        simp only [c, qd, if_true]
      have k2 : y_mk B L p = 1 := by
        unfold y_mk
        simp only [c, qd, if_true]
      have k3 : y_vl B L p = y_num B (y_end B L p - p).toNat p 0 := by
        unfold y_vl
        simp only [c, qd, if_true]
      rw [k1, k2, k3, m10 c qd]
      have hs : ∀ k, p ≤ k → k < p + (y_end B L p - p).toNat → 48 ≤ B k ∧ B k ≤ 57 := fun k a b => by
        have q : y_dig (B k) = true := by
          by_cases e : k = p
          · rw [e]; exact qd
          · have b' : k < y_end B L p := by omega
            unfold y_end at b'
            rw [ql, qd, if_neg (by decide), if_pos rfl] at b'
            exact (y_go_in (P := y_dig) (B := B) (L := L) (p := p + 1) (by omega)).2.2.1 k (by omega) b'
        exact of_decide_eq_true q
      have nm := y_mn_num (B := B) (y_end B L p - p).toNat p 0 0 hs (by omega) (by omega) (by decide)
      exact ⟨by omega, Or.inl rfl, fun _ => nm, fun z => by omega⟩
  · have k1 : y_kd B L p = 0 := if_neg c
    have k2 : y_mk B L p = 0 := if_neg c
    rw [k1, k2]
    exact ⟨by omega, Or.inl rfl, fun z => by omega, fun z => by omega⟩
/-- a token in the class's row -/
theorem y_tok_kv {B : Int → Int} {L p : Int} (hp : 0 ≤ p ∧ p < L) (hb : ∀ k, 0 ≤ k → k < L → 0 ≤ B k ∧ B k ≤ 255) : i_and (y_tok B L p) 63 = y_kd B L p ∧ i_shr (y_tok B L p) 6 = y_vl B L p := by
  have en := y_end_in (B := B) hp.2
  cases qd : y_dig (B p)
  · have k1 : y_kd B L p = y_tok B L p := by
      unfold y_kd
      simp only [hp.2, qd, if_true, if_false, Bool.false_eq_true]
    have k2 : y_vl B L p = 0 := by
      unfold y_vl
      simp only [hp.2, qd, if_true, if_false, Bool.false_eq_true]
    have hin : 0 ≤ y_tok B L p ∧ y_tok B L p ≤ 44 := by
      unfold y_tok y_word
      have w := y_wf_in y_tb 18 (y_sl B (y_end B L p - p).toNat p)
      have l27 : (y_tb.length : Int) = 27 := rfl
      rw [l27] at w
      have si := y_si_in y_sg 0 (B p)
      have l13 : (y_sg.length : Int) = 13 := rfl
      rw [l13] at si
      rw [qd]
      split
      · omega
      · rw [if_neg (by decide)]
        split
        · split <;> omega
        · split <;> omega
    rw [k1, k2, i_and63 ⟨by omega, by omega⟩, i_shr6 ⟨by omega, by omega⟩]
    omega
  · have ql : y_let (B p) = false := y_ex (d := true) (l := true) qd
    have k1 : y_kd B L p = 2 := by
      unfold y_kd
      simp only [hp.2, qd, if_true]
    have k3 : y_vl B L p = y_num B (y_end B L p - p).toNat p 0 := by
      unfold y_vl
      simp only [hp.2, qd, if_true]
    have k2 : y_tok B L p = 2 + 64 * y_num B (y_end B L p - p).toNat p 0 := by
      unfold y_tok
      simp only [ql, qd, if_true, if_false, Bool.false_eq_true]
    have hs : ∀ k, p ≤ k → k < p + (y_end B L p - p).toNat → 48 ≤ B k ∧ B k ≤ 57 := fun k a b => by
      have q : y_dig (B k) = true := by
        by_cases e : k = p
        · rw [e]; exact qd
        · have b' : k < y_end B L p := by omega
          unfold y_end at b'
          rw [ql, qd, if_neg (by decide), if_pos rfl] at b'
          exact (y_go_in (P := y_dig) (B := B) (L := L) (p := p + 1) (by omega)).2.2.1 k (by omega) b'
      exact of_decide_eq_true q
    have nm := y_mn_num (B := B) (y_end B L p - p).toNat p 0 0 hs (by omega) (by omega) (by decide)
    rw [k1, k2, k3, i_and63 ⟨by omega, by omega⟩, i_shr6 ⟨by omega, by omega⟩]
    omega
