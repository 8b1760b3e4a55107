theorem z_offs {a : Int} (h : decide ((0 : Int) ≤ a) = true) : (0 : Int) ≤ a := of_decide_eq_true h
/-! a step, case by case -/
section ZSTEP2
variable {p : Program} {l : Launch} {e : Env} {R : Room} {s : State} {m : MethodId} {args : Array Value} {below : List Frame} {meth : Method} {c : Code} {Q : State → Prop} {cc : ByteArray} {own : String} {nL : Nat} {D : va_G} {cA : Nat → ClassId} {O : ZM} {A : Nat → Value} {base n0 w0 : Nat} {pc : Nat} {L : ZL} {S : List ZV} {σ : ZM} {d : ZD} {cl : Nat → List ZV → ZM → ZR} {dd : Nat} {k : ZK} {rF : ZV} {σF : ZM} {ini : Bool} {f p1 p2 p3 p4 qq ss nn : Nat → Nat}
theorem z_G1 {pc' : Nat} {L' : ZL} {S' : List ZV} {σ' : ZM} (g : z_sz σ' ≤ z_sz σF ∧ z_sw σ' ≤ z_sw σF ∧ z_W p l e R s m args below meth c Q D cA O A base n0 w0 nL pc' L' S' σ') (e1 : z_sz σ' = z_sz σ) (e2 : z_sw σ' = z_sw σ) (w : z_W p l e R s m args below meth c Q D cA O A base n0 w0 nL pc' L' S' σ' → z_W p l e R s m args below meth c Q D cA O A base n0 w0 nL pc L S σ) : z_sz σ ≤ z_sz σF ∧ z_sw σ ≤ z_sw σF ∧ z_W p l e R s m args below meth c Q D cA O A base n0 w0 nL pc L S σ := ⟨by omega, by omega, w g.2.2⟩
theorem z_blt {a b : Nat} (h : Nat.blt a b = true) : a < b := Nat.le_of_ble_eq_true h
theorem z_tgt {pc : Nat} {off : Int} (h : (0 : Int) ≤ (pc : Int) + off) : ∃ t : Nat, (pc : Int) + off = (t : Int) := ⟨((pc : Int) + off).toNat, by omega⟩
theorem z_so_le {i k : Nat} (hi : i < 12) (hk : k < z_nf i) : z_so i k = 0 ∨ z_so i k = 1 ∨ z_so i k = 2 ∨ z_so i k = 3 := by
  have h := z_nodef hi k hk
  rw [← z_tys_all hi k hk]
  unfold z_tyS at h ⊢
  split <;> simp_all
theorem z_fit_vok {so : Nat} {x : Int32} (h : so = 0 ∨ so = 1 ∨ so = 2 ∨ so = 3) (h2 : ¬ so = 2) (h3 : ¬ so = 3) (hb : z_fit so x = true) : z_vok so (vi x) := by
  rcases h with rfl | rfl | rfl | rfl
  · exact ⟨x, rfl⟩
  · refine ⟨x, rfl, ?_⟩
    unfold z_fit at hb
    simpa using hb
  · exact absurd rfl h2
  · exact absurd rfl h3
/-- the end of a method, as its sort says -/
def z_end (cc : ByteArray) (so : Nat) (rF : ZV) (pc : Nat) (S : List ZV) : Prop :=
  (decode cc pc = .ok (.ireturn, 1) ∧ ∃ x, rF = vi x ∧ z_fit so x = true ∧ S = [vi x]) ∨ (decode cc pc = .ok (.lreturn, 1) ∧ ∃ x, rF = vl x ∧ so = 2 ∧ S = [vl x]) ∨ (decode cc pc = .ok (.areturn, 1) ∧ ∃ x, rF = vr x ∧ so = 3 ∧ S = [vr x]) ∨ (decode cc pc = .ok (.return_, 1) ∧ rF = vi 0 ∧ so = 4 ∧ S = [])
set_option maxHeartbeats 4000000 in
theorem z_step_ok (X : z_C p s m args c cc own nL D cA O A base n0) (hlk : z_lk own d.1 f p1 p2 p3 p4 qq ss nn) (hcl : z_cm l D cA O A base dd cl) (hR : dd + 1 ≤ R.frames ∧ 50 * dd + 50 ≤ R.locals) (hRc : z_sz σF ≤ n0 + R.cells) (hRw : z_sw σF ≤ w0 + R.slots) (hini : ini = true → meth.name = "<init>") (hret : ∀ pc L {S}, z_end cc d.2.2.2.1 rF pc S → z_W p l e R s m args below meth c Q D cA O A base n0 w0 nL pc L S σF) {i : Instr} {len : Nat} (hd : decode cc pc = .ok (i, len)) (hlen : z_lenOK i len = true) (hci : z_chI own ini d.1 i = true) (hoff : z_offOK pc i = true) (hk : ∀ pc' L' S' σ', L'.length = nL → k pc' L' S' σ' = some (rF, σF) → z_sz σ' ≤ z_sz σF ∧ z_sw σ' ≤ z_sw σF ∧ z_W p l e R s m args below meth c Q D cA O A base n0 w0 nL pc' L' S' σ') (hL : L.length = nL)
    (h : z_step d cl i pc (pc + len) L S σ k = some (rF, σF)) : z_sz σ ≤ z_sz σF ∧ z_sw σ ≤ z_sw σF ∧ z_W p l e R s m args below meth c Q D cA O A base n0 w0 nL pc L S σ := by
  unfold z_step at h
  cases i with
  | iadd =>
    dsimp only at h
    cases (show len = 1 by simpa [z_lenOK] using hlen)
    split at h
    · exact z_G1 (hk _ _ _ _ hL h) rfl rfl (z_s_iadd X hd)
    · cases h
  | isub =>
    dsimp only at h
    cases (show len = 1 by simpa [z_lenOK] using hlen)
    split at h
    · exact z_G1 (hk _ _ _ _ hL h) rfl rfl (z_s_isub X hd)
    · cases h
  | imul =>
    dsimp only at h
    cases (show len = 1 by simpa [z_lenOK] using hlen)
    split at h
    · exact z_G1 (hk _ _ _ _ hL h) rfl rfl (z_s_imul X hd)
    · cases h
  | iand =>
    dsimp only at h
    cases (show len = 1 by simpa [z_lenOK] using hlen)
    split at h
    · exact z_G1 (hk _ _ _ _ hL h) rfl rfl (z_s_iand X hd)
    · cases h
  | ior =>
    dsimp only at h
    cases (show len = 1 by simpa [z_lenOK] using hlen)
    split at h
    · exact z_G1 (hk _ _ _ _ hL h) rfl rfl (z_s_ior X hd)
    · cases h
  | ixor =>
    dsimp only at h
    cases (show len = 1 by simpa [z_lenOK] using hlen)
    split at h
    · exact z_G1 (hk _ _ _ _ hL h) rfl rfl (z_s_ixor X hd)
    · cases h
  | ishl =>
    dsimp only at h
    cases (show len = 1 by simpa [z_lenOK] using hlen)
    split at h
    · exact z_G1 (hk _ _ _ _ hL h) rfl rfl (z_s_ishl X hd)
    · cases h
  | ishr =>
    dsimp only at h
    cases (show len = 1 by simpa [z_lenOK] using hlen)
    split at h
    · exact z_G1 (hk _ _ _ _ hL h) rfl rfl (z_s_ishr X hd)
    · cases h
  | iushr =>
    dsimp only at h
    cases (show len = 1 by simpa [z_lenOK] using hlen)
    split at h
    · exact z_G1 (hk _ _ _ _ hL h) rfl rfl (z_s_iushr X hd)
    · cases h
  | ineg =>
    dsimp only at h
    cases (show len = 1 by simpa [z_lenOK] using hlen)
    split at h
    · exact z_G1 (hk _ _ _ _ hL h) rfl rfl (z_s_ineg X hd)
    · cases h
  | ladd =>
    dsimp only at h
    cases (show len = 1 by simpa [z_lenOK] using hlen)
    split at h
    · exact z_G1 (hk _ _ _ _ hL h) rfl rfl (z_s_ladd X hd)
    · cases h
  | lsub =>
    dsimp only at h
    cases (show len = 1 by simpa [z_lenOK] using hlen)
    split at h
    · exact z_G1 (hk _ _ _ _ hL h) rfl rfl (z_s_lsub X hd)
    · cases h
  | lmul =>
    dsimp only at h
    cases (show len = 1 by simpa [z_lenOK] using hlen)
    split at h
    · exact z_G1 (hk _ _ _ _ hL h) rfl rfl (z_s_lmul X hd)
    · cases h
  | lor =>
    dsimp only at h
    cases (show len = 1 by simpa [z_lenOK] using hlen)
    split at h
    · exact z_G1 (hk _ _ _ _ hL h) rfl rfl (z_s_lor X hd)
    · cases h
  | lneg =>
    dsimp only at h
    cases (show len = 1 by simpa [z_lenOK] using hlen)
    split at h
    · exact z_G1 (hk _ _ _ _ hL h) rfl rfl (z_s_lneg X hd)
    · cases h
  | lshl =>
    dsimp only at h
    cases (show len = 1 by simpa [z_lenOK] using hlen)
    split at h
    · exact z_G1 (hk _ _ _ _ hL h) rfl rfl (z_s_lshl X hd)
    · cases h
  | lshr =>
    dsimp only at h
    cases (show len = 1 by simpa [z_lenOK] using hlen)
    split at h
    · exact z_G1 (hk _ _ _ _ hL h) rfl rfl (z_s_lshr X hd)
    · cases h
  | lcmp =>
    dsimp only at h
    cases (show len = 1 by simpa [z_lenOK] using hlen)
    split at h
    · exact z_G1 (hk _ _ _ _ hL h) rfl rfl (z_s_lcmp X hd)
    · cases h
  | i2l =>
    dsimp only at h
    cases (show len = 1 by simpa [z_lenOK] using hlen)
    split at h
    · exact z_G1 (hk _ _ _ _ hL h) rfl rfl (z_s_i2l X hd)
    · cases h
  | l2i =>
    dsimp only at h
    cases (show len = 1 by simpa [z_lenOK] using hlen)
    split at h
    · exact z_G1 (hk _ _ _ _ hL h) rfl rfl (z_s_l2i X hd)
    · cases h
  | i2b =>
    dsimp only at h
    cases (show len = 1 by simpa [z_lenOK] using hlen)
    split at h
    · exact z_G1 (hk _ _ _ _ hL h) rfl rfl (z_s_i2b X hd)
    · cases h
  | i2c =>
    dsimp only at h
    cases (show len = 1 by simpa [z_lenOK] using hlen)
    split at h
    · exact z_G1 (hk _ _ _ _ hL h) rfl rfl (z_s_i2c X hd)
    · cases h
  | idiv =>
    dsimp only at h
    cases (show len = 1 by simpa [z_lenOK] using hlen)
    split at h
    · obtain ⟨hb, h⟩ := z_g_some h
      simp only [Bool.not_eq_true', beq_eq_false_iff_ne] at hb
      exact z_G1 (hk _ _ _ _ hL h) rfl rfl (z_s_idiv X hb hd)
    · cases h
  | irem =>
    dsimp only at h
    cases (show len = 1 by simpa [z_lenOK] using hlen)
    split at h
    · obtain ⟨hb, h⟩ := z_g_some h
      simp only [Bool.not_eq_true', beq_eq_false_iff_ne] at hb
      exact z_G1 (hk _ _ _ _ hL h) rfl rfl (z_s_irem X hb hd)
    · cases h
  | ldiv =>
    dsimp only at h
    cases (show len = 1 by simpa [z_lenOK] using hlen)
    split at h
    · obtain ⟨hb, h⟩ := z_g_some h
      simp only [Bool.not_eq_true', beq_eq_false_iff_ne] at hb
      exact z_G1 (hk _ _ _ _ hL h) rfl rfl (z_s_ldiv X hb hd)
    · cases h
  | lrem =>
    dsimp only at h
    cases (show len = 1 by simpa [z_lenOK] using hlen)
    split at h
    · obtain ⟨hb, h⟩ := z_g_some h
      simp only [Bool.not_eq_true', beq_eq_false_iff_ne] at hb
      exact z_G1 (hk _ _ _ _ hL h) rfl rfl (z_s_lrem X hb hd)
    · cases h
  | iconst n =>
    dsimp only at h
    cases (show len = 1 by simpa [z_lenOK] using hlen)
    exact z_G1 (hk _ _ _ _ hL h) rfl rfl (z_s_iconst X hd)
  | lconst n =>
    dsimp only at h
    cases (show len = 1 by simpa [z_lenOK] using hlen)
    exact z_G1 (hk _ _ _ _ hL h) rfl rfl (z_s_lconst X hd)
  | bipush n =>
    dsimp only at h
    cases (show len = 2 by simpa [z_lenOK] using hlen)
    exact z_G1 (hk _ _ _ _ hL h) rfl rfl (z_s_bipush X hd)
  | sipush n =>
    dsimp only at h
    cases (show len = 3 by simpa [z_lenOK] using hlen)
    exact z_G1 (hk _ _ _ _ hL h) rfl rfl (z_s_sipush X hd)
  | aconst_null =>
    dsimp only at h
    cases (show len = 1 by simpa [z_lenOK] using hlen)
    exact z_G1 (hk _ _ _ _ hL h) rfl rfl (z_s_null X hd)
  | iload n =>
    dsimp only at h
    cases (show len = 2 by simpa [z_lenOK] using hlen)
    split at h
    · rename_i hg
      exact z_G1 (hk _ _ _ _ hL h) rfl rfl (z_s_iload X hg hd)
    · cases h
  | lload n =>
    dsimp only at h
    cases (show len = 2 by simpa [z_lenOK] using hlen)
    split at h
    · rename_i hg
      exact z_G1 (hk _ _ _ _ hL h) rfl rfl (z_s_lload X hg hd)
    · cases h
  | aload n =>
    dsimp only at h
    cases (show len = 2 by simpa [z_lenOK] using hlen)
    split at h
    · rename_i hg
      exact z_G1 (hk _ _ _ _ hL h) rfl rfl (z_s_aload X hg hd)
    · cases h
  | iload_n n =>
    dsimp only at h
    cases (show len = 1 by simpa [z_lenOK] using hlen)
    split at h
    · rename_i hg
      exact z_G1 (hk _ _ _ _ hL h) rfl rfl (z_s_iload_n X hg hd)
    · cases h
  | lload_n n =>
    dsimp only at h
    cases (show len = 1 by simpa [z_lenOK] using hlen)
    split at h
    · rename_i hg
      exact z_G1 (hk _ _ _ _ hL h) rfl rfl (z_s_lload_n X hg hd)
    · cases h
  | aload_n n =>
    dsimp only at h
    cases (show len = 1 by simpa [z_lenOK] using hlen)
    split at h
    · rename_i hg
      exact z_G1 (hk _ _ _ _ hL h) rfl rfl (z_s_aload_n X hg hd)
    · cases h
  | istore n =>
    dsimp only at h
    cases (show len = 2 by simpa [z_lenOK] using hlen)
    split at h
    · obtain ⟨hb, h⟩ := z_g_some h
      exact z_G1 (hk _ _ _ _ (by rw [z_ls_len]; exact hL) h) rfl rfl (z_s_istore X (by rw [← hL]; exact z_blt hb) hd)
    · cases h
  | astore n =>
    dsimp only at h
    cases (show len = 2 by simpa [z_lenOK] using hlen)
    split at h
    · obtain ⟨hb, h⟩ := z_g_some h
      exact z_G1 (hk _ _ _ _ (by rw [z_ls_len]; exact hL) h) rfl rfl (z_s_astore X (by rw [← hL]; exact z_blt hb) hd)
    · cases h
  | istore_n n =>
    dsimp only at h
    cases (show len = 1 by simpa [z_lenOK] using hlen)
    split at h
    · obtain ⟨hb, h⟩ := z_g_some h
      exact z_G1 (hk _ _ _ _ (by rw [z_ls_len]; exact hL) h) rfl rfl (z_s_istore_n X (by rw [← hL]; exact z_blt hb) hd)
    · cases h
  | astore_n n =>
    dsimp only at h
    cases (show len = 1 by simpa [z_lenOK] using hlen)
    split at h
    · obtain ⟨hb, h⟩ := z_g_some h
      exact z_G1 (hk _ _ _ _ (by rw [z_ls_len]; exact hL) h) rfl rfl (z_s_astore_n X (by rw [← hL]; exact z_blt hb) hd)
    · cases h
  | lstore n =>
    dsimp only at h
    cases (show len = 2 by simpa [z_lenOK] using hlen)
    split at h
    · obtain ⟨hb, h⟩ := z_g_some h
      exact z_G1 (hk _ _ _ _ (by rw [z_ls2_len _ _ _ (z_blt hb)]; exact hL) h) rfl rfl (z_s_lstore X (by rw [← hL]; exact z_blt hb) hd)
    · cases h
  | lstore_n n =>
    dsimp only at h
    cases (show len = 1 by simpa [z_lenOK] using hlen)
    split at h
    · obtain ⟨hb, h⟩ := z_g_some h
      exact z_G1 (hk _ _ _ _ (by rw [z_ls2_len _ _ _ (z_blt hb)]; exact hL) h) rfl rfl (z_s_lstore_n X (by rw [← hL]; exact z_blt hb) hd)
    · cases h
  | iinc n a =>
    dsimp only at h
    cases (show len = 3 by simpa [z_lenOK] using hlen)
    split at h
    · rename_i hg
      obtain ⟨hb, h⟩ := z_g_some h
      exact z_G1 (hk _ _ _ _ (by rw [z_ls_len]; exact hL) h) rfl rfl (z_s_iinc X hg (by rw [← hL]; exact z_blt hb) hd)
    · cases h
  | dup =>
    dsimp only at h
    cases (show len = 1 by simpa [z_lenOK] using hlen)
    split at h
    · exact z_G1 (hk _ _ _ _ hL h) rfl rfl (z_s_dup X rfl hd)
    · exact z_G1 (hk _ _ _ _ hL h) rfl rfl (z_s_dup X rfl hd)
    · cases h
  | pop =>
    dsimp only at h
    cases (show len = 1 by simpa [z_lenOK] using hlen)
    split at h
    · exact z_G1 (hk _ _ _ _ hL h) rfl rfl (z_s_pop X rfl hd)
    · exact z_G1 (hk _ _ _ _ hL h) rfl rfl (z_s_pop X rfl hd)
    · cases h
  | dup2 =>
    dsimp only at h
    cases (show len = 1 by simpa [z_lenOK] using hlen)
    split at h
    · exact z_G1 (hk _ _ _ _ hL h) rfl rfl (z_s_dup2 X rfl rfl hd)
    · cases h
  | goto off =>
    dsimp only at h
    cases (show len = 3 by simpa [z_lenOK] using hlen)
    obtain ⟨t, ht, h⟩ := z_jmp_some h
    exact z_G1 (hk _ _ _ _ hL h) rfl rfl (z_s_goto X ht hd)
  | ifCond c off =>
    dsimp only at h
    cases (show len = 3 by simpa [z_lenOK] using hlen)
    split at h
    · rename_i x S
      obtain ⟨t0, ht0⟩ := z_tgt (z_offs hoff)
      cases c with
      | eq =>
        dsimp only at h
        split at h
        · rename_i hc
          obtain ⟨t, ht, h⟩ := z_jmp_some h
          have g := hk _ _ _ _ hL h
          exact ⟨g.1, g.2.1, z_s_if_eq X ht hd (fun _ => g.2.2) (fun q => absurd hc q)⟩
        · rename_i hc
          have g := hk _ _ _ _ hL h
          exact ⟨g.1, g.2.1, z_s_if_eq X ht0 hd (fun q => absurd q hc) (fun _ => g.2.2)⟩
      | ne =>
        dsimp only at h
        split at h
        · rename_i hc
          have g := hk _ _ _ _ hL h
          exact ⟨g.1, g.2.1, z_s_if_ne X ht0 hd (fun q => absurd hc q) (fun _ => g.2.2)⟩
        · rename_i hc
          obtain ⟨t, ht, h⟩ := z_jmp_some h
          have g := hk _ _ _ _ hL h
          exact ⟨g.1, g.2.1, z_s_if_ne X ht hd (fun _ => g.2.2) (fun q => absurd q hc)⟩
      | lt =>
        dsimp only at h
        split at h
        · rename_i hc
          obtain ⟨t, ht, h⟩ := z_jmp_some h
          have g := hk _ _ _ _ hL h
          exact ⟨g.1, g.2.1, z_s_if_lt X ht hd (fun _ => g.2.2) (fun q => absurd hc q)⟩
        · rename_i hc
          have g := hk _ _ _ _ hL h
          exact ⟨g.1, g.2.1, z_s_if_lt X ht0 hd (fun q => absurd q hc) (fun _ => g.2.2)⟩
      | ge =>
        dsimp only at h
        split at h
        · rename_i hc
          have g := hk _ _ _ _ hL h
          exact ⟨g.1, g.2.1, z_s_if_ge X ht0 hd (fun q => absurd hc q) (fun _ => g.2.2)⟩
        · rename_i hc
          obtain ⟨t, ht, h⟩ := z_jmp_some h
          have g := hk _ _ _ _ hL h
          exact ⟨g.1, g.2.1, z_s_if_ge X ht hd (fun _ => g.2.2) (fun q => absurd q hc)⟩
      | gt =>
        dsimp only at h
        split at h
        · rename_i hc
          obtain ⟨t, ht, h⟩ := z_jmp_some h
          have g := hk _ _ _ _ hL h
          exact ⟨g.1, g.2.1, z_s_if_gt X ht hd (fun _ => g.2.2) (fun q => absurd hc q)⟩
        · rename_i hc
          have g := hk _ _ _ _ hL h
          exact ⟨g.1, g.2.1, z_s_if_gt X ht0 hd (fun q => absurd q hc) (fun _ => g.2.2)⟩
      | le =>
        dsimp only at h
        split at h
        · rename_i hc
          have g := hk _ _ _ _ hL h
          exact ⟨g.1, g.2.1, z_s_if_le X ht0 hd (fun q => absurd hc q) (fun _ => g.2.2)⟩
        · rename_i hc
          obtain ⟨t, ht, h⟩ := z_jmp_some h
          have g := hk _ _ _ _ hL h
          exact ⟨g.1, g.2.1, z_s_if_le X ht hd (fun _ => g.2.2) (fun q => absurd q hc)⟩
    · cases h
  | if_icmp c off =>
    dsimp only at h
    cases (show len = 3 by simpa [z_lenOK] using hlen)
    split at h
    · rename_i y x S
      obtain ⟨t0, ht0⟩ := z_tgt (z_offs hoff)
      cases c with
      | eq =>
        dsimp only at h
        split at h
        · rename_i hc
          obtain ⟨t, ht, h⟩ := z_jmp_some h
          have g := hk _ _ _ _ hL h
          exact ⟨g.1, g.2.1, z_s_icmp_eq X ht hd (fun _ => g.2.2) (fun q => absurd hc q)⟩
        · rename_i hc
          have g := hk _ _ _ _ hL h
          exact ⟨g.1, g.2.1, z_s_icmp_eq X ht0 hd (fun q => absurd q hc) (fun _ => g.2.2)⟩
      | ne =>
        dsimp only at h
        split at h
        · rename_i hc
          have g := hk _ _ _ _ hL h
          exact ⟨g.1, g.2.1, z_s_icmp_ne X ht0 hd (fun q => absurd hc q) (fun _ => g.2.2)⟩
        · rename_i hc
          obtain ⟨t, ht, h⟩ := z_jmp_some h
          have g := hk _ _ _ _ hL h
          exact ⟨g.1, g.2.1, z_s_icmp_ne X ht hd (fun _ => g.2.2) (fun q => absurd q hc)⟩
      | lt =>
        dsimp only at h
        split at h
        · rename_i hc
          obtain ⟨t, ht, h⟩ := z_jmp_some h
          have g := hk _ _ _ _ hL h
          exact ⟨g.1, g.2.1, z_s_icmp_lt X ht hd (fun _ => g.2.2) (fun q => absurd hc q)⟩
        · rename_i hc
          have g := hk _ _ _ _ hL h
          exact ⟨g.1, g.2.1, z_s_icmp_lt X ht0 hd (fun q => absurd q hc) (fun _ => g.2.2)⟩
      | ge =>
        dsimp only at h
        split at h
        · rename_i hc
          have g := hk _ _ _ _ hL h
          exact ⟨g.1, g.2.1, z_s_icmp_ge X ht0 hd (fun q => absurd hc q) (fun _ => g.2.2)⟩
        · rename_i hc
          obtain ⟨t, ht, h⟩ := z_jmp_some h
          have g := hk _ _ _ _ hL h
          exact ⟨g.1, g.2.1, z_s_icmp_ge X ht hd (fun _ => g.2.2) (fun q => absurd q hc)⟩
      | gt =>
        dsimp only at h
        split at h
        · rename_i hc
          obtain ⟨t, ht, h⟩ := z_jmp_some h
          have g := hk _ _ _ _ hL h
          exact ⟨g.1, g.2.1, z_s_icmp_gt X ht hd (fun _ => g.2.2) (fun q => absurd hc q)⟩
        · rename_i hc
          have g := hk _ _ _ _ hL h
          exact ⟨g.1, g.2.1, z_s_icmp_gt X ht0 hd (fun q => absurd q hc) (fun _ => g.2.2)⟩
      | le =>
        dsimp only at h
        split at h
        · rename_i hc
          have g := hk _ _ _ _ hL h
          exact ⟨g.1, g.2.1, z_s_icmp_le X ht0 hd (fun q => absurd hc q) (fun _ => g.2.2)⟩
        · rename_i hc
          obtain ⟨t, ht, h⟩ := z_jmp_some h
          have g := hk _ _ _ _ hL h
          exact ⟨g.1, g.2.1, z_s_icmp_le X ht hd (fun _ => g.2.2) (fun q => absurd q hc)⟩
    · cases h
  | ifnull off =>
    dsimp only at h
    cases (show len = 3 by simpa [z_lenOK] using hlen)
    obtain ⟨t0, ht0⟩ := z_tgt (z_offs hoff)
    split at h
    · obtain ⟨h9, h⟩ := z_g_some h
      simp only [Bool.not_eq_true', beq_eq_false_iff_ne] at h9
      split at h
      · rename_i hc
        obtain ⟨t, ht, h⟩ := z_jmp_some h
        have g := hk _ _ _ _ hL h
        exact ⟨g.1, g.2.1, z_s_ifnull X h9 ht hd (fun _ => g.2.2) (fun q => absurd hc q)⟩
      · rename_i hc
        have g := hk _ _ _ _ hL h
        exact ⟨g.1, g.2.1, z_s_ifnull X h9 ht0 hd (fun q => absurd q hc) (fun _ => g.2.2)⟩
    · cases h
  | ifnonnull off =>
    dsimp only at h
    cases (show len = 3 by simpa [z_lenOK] using hlen)
    obtain ⟨t0, ht0⟩ := z_tgt (z_offs hoff)
    split at h
    · obtain ⟨h9, h⟩ := z_g_some h
      simp only [Bool.not_eq_true', beq_eq_false_iff_ne] at h9
      split at h
      · rename_i hc
        have g := hk _ _ _ _ hL h
        exact ⟨g.1, g.2.1, z_s_ifnonnull X h9 ht0 hd (fun q => absurd hc q) (fun _ => g.2.2)⟩
      · rename_i hc
        obtain ⟨t, ht, h⟩ := z_jmp_some h
        have g := hk _ _ _ _ hL h
        exact ⟨g.1, g.2.1, z_s_ifnonnull X h9 ht hd (fun _ => g.2.2) (fun q => absurd q hc)⟩
    · cases h
  | tableswitch dflt lo hi offs =>
    dsimp only at h
    split at h
    · rename_i x S
      simp only [z_chI, Bool.and_eq_true, decide_eq_true_eq] at hci
      obtain ⟨⟨a1, a2⟩, a3⟩ := hci
      rcases z_sw1_some _ _ h with ⟨j, off, t, h1, h2, h3, h4⟩ | ⟨h1, t, h2, h3⟩
      · have g := hk _ _ _ _ hL h4
        have hj : j < offs.size := by
          have := (List.getElem?_eq_some_iff.mp h1).1
          simpa using this
        have hx : x.toInt = lo + j := by rw [h2]; exact z_toInt (by omega) (by omega)
        refine ⟨g.1, g.2.1, z_s_tableIn X (by omega) (by omega) (off := off) ?_ h3 hd g.2.2⟩
        rw [show (x.toInt - lo).toNat = j by omega, ← Array.getElem?_toList]
        exact h1
      · have g := hk _ _ _ _ hL h3
        refine ⟨g.1, g.2.1, z_s_tableOut X ?_ h2 hd g.2.2⟩
        rcases Int.lt_or_le x.toInt lo with q | q
        · exact Or.inl q
        · rcases Int.lt_or_le hi x.toInt with q2 | q2
          · exact Or.inr q2
          · exfalso
            refine h1 (x.toInt - lo).toNat (by rw [Array.length_toList]; omega) ?_
            rw [show lo + ((x.toInt - lo).toNat : Int) = x.toInt by omega, z_ofInt]
    · cases h
  | getfield n =>
    dsimp only at h
    cases (show len = 3 by simpa [z_lenOK] using hlen)
    have hf := (hlk n).1
    unfold z_chF at hf
    cases hm : d.1.1 n with
    | none => rw [hm] at h; cases h
    | some q =>
      obtain ⟨kd, sl, so, fin⟩ := q
      rw [hm] at h hf
      dsimp only at h hf
      split at h
      · rename_i r S
        obtain ⟨hb, h'⟩ := z_g_some h
        simp only [beq_iff_eq] at hb
        split at hf
        · simp only [Bool.and_eq_true, Bool.or_eq_true, beq_iff_eq] at hf
          rcases hf with ⟨⟨rfl, rfl⟩, hf⟩ | ⟨⟨rfl, rfl⟩, hf⟩
          · exact z_G1 (hk _ _ _ _ hL h') rfl rfl (z_s_getS X (k := 0) hb (Or.inl ⟨rfl, rfl⟩) (z_has_in hf) hd (by rw [if_pos rfl]))
          · exact z_G1 (hk _ _ _ _ hL h') rfl rfl (z_s_getS X (k := 0) hb (Or.inr ⟨rfl, rfl⟩) (z_has_in hf) hd (by rw [if_neg (by decide)]))
        · cases hf
        · rename_i i hne
          simp only [Bool.and_eq_true, beq_iff_eq] at hf
          obtain ⟨⟨⟨⟨f1, f2⟩, f3⟩, f4⟩, f5⟩ := hf
          have f1 := z_blt f1
          have f2 := z_blt f2
          subst f3
          split at h'
          · rename_i e
            exact z_G1 (hk _ _ _ _ hL h') rfl rfl (z_s_getf X f1 f2 hb (z_has_in f5) hd (v := vl (z_l σ r sl)) (by unfold z_fv; rw [e]; rfl))
          · rename_i e
            exact z_G1 (hk _ _ _ _ hL h') rfl rfl (z_s_getf X f1 f2 hb (z_has_in f5) hd (v := vr (z_r σ r sl)) (by unfold z_fv; rw [e]; rfl))
          · rename_i e2 e3
            refine z_G1 (hk _ _ _ _ hL h') rfl rfl (z_s_getf X f1 f2 hb (z_has_in f5) hd (v := vi (z_i σ r sl)) ?_)
            unfold z_fv
            split
            · rename_i e; exact absurd e e2
            · rename_i e; exact absurd e e3
            · rfl
      · cases h
  | putfield n =>
    dsimp only at h
    cases (show len = 3 by simpa [z_lenOK] using hlen)
    have hf := (hlk n).1
    unfold z_chF at hf
    cases hm : d.1.1 n with
    | none => rw [hm] at h; cases h
    | some q =>
      obtain ⟨kd, sl, so, fin⟩ := q
      have hci0 := hci
      simp only [z_chI, hm, Bool.and_eq_true, Bool.or_eq_true, Bool.not_eq_true', beq_eq_false_iff_ne, decide_eq_true_eq] at hci
      rw [hm] at h hf
      dsimp only at h hf
      obtain ⟨c13, cfin⟩ := hci
      split at hf
      · exact absurd rfl c13
      · cases hf
      · rename_i i hne
        simp only [Bool.and_eq_true, beq_iff_eq] at hf
        obtain ⟨⟨⟨⟨f1, f2⟩, f3⟩, f4⟩, f5⟩ := hf
        have f1 := z_blt f1
        have f2 := z_blt f2
        have hfin : (z_T i sl).2.2.2 = false ∨ ((z_T i sl).2.2.2 = true ∧ meth.name = "<init>" ∧ (z_T i sl).1 = own) := by
          rw [← f4]
          rcases cfin with q | ⟨q1, q2⟩
          · exact Or.inl q
          · cases fin with
            | false => exact Or.inl rfl
            | true => exact Or.inr ⟨rfl, hini q1, q2⟩
        subst f3
        split at h
        · rename_i e
          split at h
          · rename_i x r S
            obtain ⟨hb, h'⟩ := z_g_some h
            simp only [beq_iff_eq] at hb
            exact z_G1 (hk _ _ _ _ hL h') rfl rfl (z_s_put X f1 f2 hb hfin (z_has_in f5) hd (v := vl x) (by rw [e]; exact ⟨x, rfl⟩) rfl rfl rfl (by unfold z_fv; rw [e]; show _ = _; rw [z_l_ul, if_pos ⟨rfl, rfl⟩]; rfl) (fun j hj so => by unfold z_fv; rw [z_l_ul, if_neg (fun q => hj q.2)]; rfl) (fun q hq => z_cell_ul hq) (fun u _ => z_pu_ul u))
          · cases h
        · rename_i e
          split at h
          · rename_i x r S
            obtain ⟨hb, h'⟩ := z_g_some h
            simp only [beq_iff_eq] at hb
            exact z_G1 (hk _ _ _ _ hL h') rfl rfl (z_s_put X f1 f2 hb hfin (z_has_in f5) hd (v := vr x) (by rw [e]; exact ⟨x, rfl⟩) rfl rfl rfl (by unfold z_fv; rw [e]; show _ = _; rw [z_r_ur, if_pos ⟨rfl, rfl⟩]; rfl) (fun j hj so => by unfold z_fv; rw [z_r_ur, if_neg (fun q => hj q.2)]; rfl) (fun q hq => z_cell_ur hq) (fun u u10 => z_pu_ur u u10 (fun q => by omega)))
          · cases h
        · rename_i e2 e3
          split at h
          · rename_i x r S
            obtain ⟨hb, h'⟩ := z_g_some h
            simp only [Bool.and_eq_true, beq_iff_eq] at hb
            have hv : z_vok (z_so i sl) (vi x) := z_fit_vok (z_so_le f1 f2) e2 e3 hb.1
            refine z_G1 (hk _ _ _ _ hL h') rfl rfl (z_s_put X f1 f2 hb.2 hfin (z_has_in f5) hd (v := vi x) hv rfl rfl rfl ?_ (fun j hj so => by unfold z_fv; rw [z_i_ui, if_neg (fun q => hj q.2)]; rfl) (fun q hq => z_cell_ui hq) (fun u u10 => z_pu_ui u u10))
            unfold z_fv
            split
            · rename_i e; exact absurd e e2
            · rename_i e; exact absurd e e3
            · rw [z_i_ui, if_pos ⟨rfl, rfl⟩]; rfl
          · cases h
  | iaload =>
    dsimp only at h
    cases (show len = 1 by simpa [z_lenOK] using hlen)
    split at h
    · obtain ⟨hb, h⟩ := z_g_some h
      exact z_G1 (hk _ _ _ _ hL h) rfl rfl (z_s_iald X hb hd)
    · cases h
  | baload =>
    dsimp only at h
    cases (show len = 1 by simpa [z_lenOK] using hlen)
    split at h
    · obtain ⟨hb, h⟩ := z_g_some h
      exact z_G1 (hk _ _ _ _ hL h) rfl rfl (z_s_bald X hb hd)
    · cases h
  | laload =>
    dsimp only at h
    cases (show len = 1 by simpa [z_lenOK] using hlen)
    split at h
    · obtain ⟨hb, h⟩ := z_g_some h
      exact z_G1 (hk _ _ _ _ hL h) rfl rfl (z_s_lald X hb hd)
    · cases h
  | aaload =>
    dsimp only at h
    cases (show len = 1 by simpa [z_lenOK] using hlen)
    split at h
    · obtain ⟨hb, h⟩ := z_g_some h
      exact z_G1 (hk _ _ _ _ hL h) rfl rfl (z_s_aald X hb hd)
    · cases h
  | iastore =>
    dsimp only at h
    cases (show len = 1 by simpa [z_lenOK] using hlen)
    split at h
    · obtain ⟨hb, h⟩ := z_g_some h
      rw [Bool.and_eq_true] at hb
      exact z_G1 (hk _ _ _ _ hL h) rfl rfl (z_s_iast X hb.1 (Nat.le_of_ble_eq_true hb.2) hd)
    · cases h
  | bastore =>
    dsimp only at h
    cases (show len = 1 by simpa [z_lenOK] using hlen)
    split at h
    · obtain ⟨hb, h⟩ := z_g_some h
      rw [Bool.and_eq_true] at hb
      exact z_G1 (hk _ _ _ _ hL h) rfl rfl (z_s_bast X hb.1 (Nat.le_of_ble_eq_true hb.2) hd)
    · cases h
  | lastore =>
    dsimp only at h
    cases (show len = 1 by simpa [z_lenOK] using hlen)
    split at h
    · obtain ⟨hb, h⟩ := z_g_some h
      rw [Bool.and_eq_true] at hb
      exact z_G1 (hk _ _ _ _ hL h) rfl rfl (z_s_last X hb.1 hd)
    · cases h
  | aastore =>
    dsimp only at h
    cases (show len = 1 by simpa [z_lenOK] using hlen)
    split at h
    · obtain ⟨hb, h⟩ := z_g_some h
      simp only [Bool.and_eq_true, Bool.or_eq_true, beq_iff_eq] at hb
      exact z_G1 (hk _ _ _ _ hL h) rfl rfl (z_s_aast X hb.1.1 hb.2 hd)
    · cases h
  | arraylength =>
    dsimp only at h
    cases (show len = 1 by simpa [z_lenOK] using hlen)
    split at h
    · obtain ⟨hb, h⟩ := z_g_some h
      simp only [Bool.and_eq_true] at hb
      exact z_G1 (hk _ _ _ _ hL h) rfl rfl (z_s_alen X hb.1 (Nat.le_of_ble_eq_true hb.2) hd)
    · cases h
  | newarray t =>
    dsimp only at h
    cases (show len = 2 by simpa [z_lenOK] using hlen)
    split at h
    · obtain ⟨hb, h⟩ := z_g_some h
      simp only [Bool.and_eq_true, decide_eq_true_eq] at hb
      have g := hk _ _ _ _ hL h
      have g1 := g.1
      have g2 := g.2.1
      rw [z_sz_al] at g1
      rw [z_sw_al] at g2
      exact ⟨by omega, by omega, z_s_newa X hb.2 hb.1.1 (Nat.le_of_ble_eq_true hb.1.2) (by omega) (by omega) hd g.2.2⟩
    · cases h
  | anewarray n =>
    dsimp only at h
    cases (show len = 3 by simpa [z_lenOK] using hlen)
    have hf := (hlk n).2.2.2.2
    unfold z_chN at hf
    split at h
    · rename_i n9 hm
      rw [hm] at hf
      simp only [Bool.and_eq_true] at hf
      split at h
      · obtain ⟨hb, h⟩ := z_g_some h
        simp only [Bool.and_eq_true, decide_eq_true_eq] at hb
        have g := hk _ _ _ _ hL h
        have g1 := g.1
        have g2 := g.2.1
        rw [z_sz_al] at g1
        rw [z_sw_al] at g2
        exact ⟨by omega, by omega, z_s_anew X (z_has_in hf.2) hb.1 (Nat.le_of_ble_eq_true hb.2) (by omega) (by omega) hd g.2.2⟩
      · cases h
    · cases h
  | new n =>
    dsimp only at h
    cases (show len = 3 by simpa [z_lenOK] using hlen)
    have hf := (hlk n).2.2.2.2
    unfold z_chN at hf
    simp only [z_chI] at hci
    split at h
    · rename_i kd m hm
      rw [hm] at hf hci
      dsimp only at hf hci
      simp only [Bool.not_eq_true', beq_eq_false_iff_ne] at hci
      split at hf
      · cases ‹some _ = none›
      · rename_i e; cases e; exact absurd rfl hci
      · cases hf
      · rename_i e; cases e
        simp only [Bool.and_eq_true, beq_iff_eq] at hf
        obtain ⟨⟨f1, f2⟩, f3⟩ := hf
        have f1 := z_blt f1
        subst f2
        have g := hk _ _ _ _ hL h
        have g1 := g.1
        have g2 := g.2.1
        rw [z_sz_al] at g1
        rw [z_sw_al] at g2
        exact ⟨by omega, by omega, z_s_new X f1 (z_has_in f3) (by omega) (by omega) hd g.2.2⟩
    · cases h
  | checkcast n =>
    dsimp only at h
    cases (show len = 3 by simpa [z_lenOK] using hlen)
    have hf := (hlk n).2.2.2.2
    unfold z_chN at hf
    split at h
    · rename_i n9 hm
      rw [hm] at hf
      split at h
      · obtain ⟨hb, h⟩ := z_g_some h
        simp only [Bool.and_eq_true, beq_iff_eq] at hb
        exact z_G1 (hk _ _ _ _ hL h) rfl rfl (z_s_cast X hb.1 (Nat.le_of_ble_eq_true hb.2) (z_has_in hf) hd)
      · cases h
    · cases h
  | ldc n =>
    dsimp only at h
    cases (show len = 2 by simpa [z_lenOK] using hlen)
    have hf := (hlk n).2.2.1
    unfold z_chC at hf
    split at h
    · rename_i v hm
      rw [hm] at hf
      match v, hm, hf, h with
      | .inl x, hm, hf, h =>
        exact z_G1 (hk _ _ _ _ hL h) rfl rfl (z_s_ldc X (z_has_in hf) hd)
      | .inr (.inl x), hm, hf, h =>
        simp [z_chI, hm] at hci
      | .inr (.inr x), hm, hf, h =>
        simp only [Bool.and_eq_true, Bool.or_eq_true, beq_iff_eq] at hf
        obtain ⟨ho, hf2⟩ := hf
        subst ho
        rcases hf2 with ⟨rfl, rfl⟩ | ⟨rfl, rfl⟩
        · exact z_G1 (hk _ _ _ _ hL h) rfl rfl (z_s_ldcS X X.2.1.2.2.2.2.1 hd)
        · exact z_G1 (hk _ _ _ _ hL h) rfl rfl (z_s_ldcS X X.2.1.2.2.2.2.2.1 hd)
    · cases h
  | ldc_w n =>
    dsimp only at h
    cases (show len = 3 by simpa [z_lenOK] using hlen)
    have hf := (hlk n).2.2.1
    unfold z_chC at hf
    split at h
    · rename_i v hm
      rw [hm] at hf
      match v, hm, hf, h with
      | .inl x, hm, hf, h =>
        exact z_G1 (hk _ _ _ _ hL h) rfl rfl (z_s_ldcw X (z_has_in hf) hd)
      | .inr (.inl x), hm, hf, h =>
        simp [z_chI, hm] at hci
      | .inr (.inr x), hm, hf, h =>
        simp [z_chI, hm] at hci
    · cases h
  | ldc2_w n =>
    dsimp only at h
    cases (show len = 3 by simpa [z_lenOK] using hlen)
    have hf := (hlk n).2.2.1
    unfold z_chC at hf
    split at h
    · rename_i v hm
      rw [hm] at hf
      match v, hm, hf, h with
      | .inl x, hm, hf, h =>
        simp [z_chI, hm] at hci
      | .inr (.inl x), hm, hf, h =>
        exact z_G1 (hk _ _ _ _ hL h) rfl rfl (z_s_ldc2 X (z_has_in hf) hd)
      | .inr (.inr x), hm, hf, h =>
        simp [z_chI, hm] at hci
    · cases h
  | getstatic n =>
    dsimp only at h
    cases (show len = 3 by simpa [z_lenOK] using hlen)
    have hf := (hlk n).2.2.2.1
    unfold z_chS at hf
    split at h
    · rename_i v hm
      rw [hm] at hf
      simp only [Bool.and_eq_true, Bool.or_eq_true, decide_eq_true_eq] at hf
      rcases hf with (⟨rfl, hf⟩ | ⟨rfl, hf⟩) | ⟨rfl, hf⟩
      · exact z_G1 (hk _ _ _ _ hL h) rfl rfl (z_s_gets X X.2.1.2.2.2.2.2.2.1 (z_has_in hf) hd)
      · exact z_G1 (hk _ _ _ _ hL h) rfl rfl (z_s_gets X X.2.1.2.2.2.2.2.2.2.1 (z_has_in hf) hd)
      · exact z_G1 (hk _ _ _ _ hL h) rfl rfl (z_s_gets X X.2.1.2.2.2.2.2.2.2.2.1 (z_has_in hf) hd)
    · cases h
  | invokestatic n =>
    dsimp only at h
    cases (show len = 3 by simpa [z_lenOK] using hlen)
    exact z_inv_ok X hlk hcl hR hRc hRw (Or.inl ⟨rfl, hci⟩) hd hk hL h
  | invokespecial n =>
    dsimp only at h
    cases (show len = 3 by simpa [z_lenOK] using hlen)
    exact z_inv_ok X hlk hcl hR hRc hRw (Or.inr (Or.inl ⟨rfl, hci⟩)) hd hk hL h
  | invokevirtual n =>
    dsimp only at h
    cases (show len = 3 by simpa [z_lenOK] using hlen)
    exact z_inv_ok X hlk hcl hR hRc hRw (Or.inr (Or.inr ⟨rfl, hci⟩)) hd hk hL h
  | ireturn =>
    dsimp only at h
    cases (show len = 1 by simpa [z_lenOK] using hlen)
    split at h
    · obtain ⟨hb, h⟩ := z_g_some h
      cases h
      exact ⟨Nat.le_refl _, Nat.le_refl _, hret pc L (Or.inl ⟨hd, _, rfl, hb, rfl⟩)⟩
    · cases h
  | lreturn =>
    dsimp only at h
    cases (show len = 1 by simpa [z_lenOK] using hlen)
    split at h
    · obtain ⟨hb, h⟩ := z_g_some h
      cases h
      exact ⟨Nat.le_refl _, Nat.le_refl _, hret pc L (Or.inr (Or.inl ⟨hd, _, rfl, Nat.eq_of_beq_eq_true hb, rfl⟩))⟩
    · cases h
  | areturn =>
    dsimp only at h
    cases (show len = 1 by simpa [z_lenOK] using hlen)
    split at h
    · obtain ⟨hb, h⟩ := z_g_some h
      cases h
      exact ⟨Nat.le_refl _, Nat.le_refl _, hret pc L (Or.inr (Or.inr (Or.inl ⟨hd, _, rfl, Nat.eq_of_beq_eq_true hb, rfl⟩)))⟩
    · cases h
  | return_ =>
    dsimp only at h
    cases (show len = 1 by simpa [z_lenOK] using hlen)
    split at h
    · obtain ⟨hb, h⟩ := z_g_some h
      cases h
      exact ⟨Nat.le_refl _, Nat.le_refl _, hret pc L (Or.inr (Or.inr (Or.inr ⟨hd, rfl, Nat.eq_of_beq_eq_true hb, rfl⟩)))⟩
    · cases h
  | _ => dsimp only at h; cases h
end ZSTEP2
