/-! WALKING THE PURE MACHINE: pw sc i s Q: method i, from the frame s, ends with a result and a heap that Q tells -/
def pw (sc : pm_Sc) (i : Nat) (s : pm_S) (Q : (Option Value ⊕ Nat) → pm_H → Prop) : Prop := ∃ (n : Nat) (w : pm_S) (r : Option Value ⊕ Nat), pm_ev sc n i s = some w ∧ pm_ret i w = some r ∧ Q r w.2.2.2
theorem pw.imp {sc : pm_Sc} {i : Nat} {s : pm_S} {Q Q' : (Option Value ⊕ Nat) → pm_H → Prop} (h : pw sc i s Q) (hq : ∀ r h1, Q r h1 → Q' r h1) : pw sc i s Q' := by
  obtain ⟨n, w, r, h1, h2, h3⟩ := h
  exact ⟨n, w, r, h1, h2, hq _ _ h3⟩
section PW
variable {sc : pm_Sc} {i : Nat} {pc : Nat} {lv : pm_L} {st r : List Value} {h : pm_H} {Q : (Option Value ⊕ Nat) → pm_H → Prop}
theorem pw_ret {a : Instr × Nat × List Nat} {x : Option Value ⊕ Nat} (ha : pm_at i pc = some a) (he : pm_end a = true) (hr : pm_out (pm_rt i) a st = some x) (hq : Q x h) : pw sc i (pc, lv, st, h) Q := by
  refine ⟨1, (pc, lv, st, h), x, ?_, ?_, hq⟩
  · rw [pm_ev, if_pos]
    show pm_term i pc = true
    unfold pm_term
    rw [ha]
    exact he
  · show (match pm_at i pc with | some r => pm_out (pm_rt i) r st | none => none) = _
    rw [ha]
    exact hr
theorem pw_st {a : Instr × Nat × List Nat} {s' : pm_S} (ha : pm_at i pc = some a) (he : pm_end a = false) (hd : pm_do sc (pm_nL i) (pm_rk i) pm_np pm_mc pm_rk a.1 a.2.2 pc lv st h = some (.inl s')) (k : pw sc i s' Q) : pw sc i (pc, lv, st, h) Q := by
  obtain ⟨n, w, x, h1, h2, h3⟩ := k
  refine ⟨n + 1, w, x, ?_, h2, h3⟩
  have ht : ¬ pm_term i pc = true := by
    unfold pm_term
    rw [ha]
    show ¬ pm_end a = true
    rw [he]
    exact Bool.false_ne_true
  have hs : pm_step sc i (pc, lv, st, h) = some (.inl s') := by
    show (match pm_at i pc with | some r => pm_do sc (pm_nL i) (pm_rk i) pm_np pm_mc pm_rk r.1 r.2.2 pc lv st h | none => none) = _
    rw [ha]
    exact hd
  rw [pm_ev, if_neg ht, hs]
  exact h1
theorem pw_call {a : Instr × Nat × List Nat} {k : pm_K} {Q1 : (Option Value ⊕ Nat) → pm_H → Prop} (ha : pm_at i pc = some a) (he : pm_end a = false) (hd : pm_do sc (pm_nL i) (pm_rk i) pm_np pm_mc pm_rk a.1 a.2.2 pc lv st h = some (.inr k)) (hsum : pm_sum k.2.1 ≤ pm_nL k.1) (hj : pw sc k.1 (0, lv_args 0 k.2.1, [], h) Q1)
    (kk : ∀ x h1, Q1 x h1 → (∃ v, x = .inl v ∧ pw sc i (pc + 3, lv, v.toList ++ k.2.2, h1) Q) ∨ (∃ y w, x = .inr y ∧ pm_hnd (pm_hn i) pc y = some w ∧ pw sc i (w.2.2.2.2.2, pm_dr lv w.2.2.2.2.1, [], (h1.1, h1.2.1 + 1, h1.2.2 + 6)) Q)) : pw sc i (pc, lv, st, h) Q := by
  obtain ⟨n, w, x, h1, h2, h3⟩ := hj
  have ht : ¬ pm_term i pc = true := by
    unfold pm_term
    rw [ha]
    show ¬ pm_end a = true
    rw [he]
    exact Bool.false_ne_true
  have hs : pm_step sc i (pc, lv, st, h) = some (.inr k) := by
    show (match pm_at i pc with | some r => pm_do sc (pm_nL i) (pm_rk i) pm_np pm_mc pm_rk r.1 r.2.2 pc lv st h | none => none) = _
    rw [ha]
    exact hd
  rcases kk x w.2.2.2 h3 with ⟨v, rfl, n2, w2, x2, g1, g2, g3⟩ | ⟨y, q, rfl, hq, n2, w2, x2, g1, g2, g3⟩
  · refine ⟨n + n2 + 1, w2, x2, ?_, g2, g3⟩
    rw [pm_ev, if_neg ht, hs]
    dsimp only
    rw [if_pos hsum, pm_ev_le sc (Nat.le_add_right n n2) h1]
    dsimp only
    rw [h2]
    exact pm_ev_le sc (Nat.le_add_left n2 n) g1
  · refine ⟨n + n2 + 1, w2, x2, ?_, g2, g3⟩
    rw [pm_ev, if_neg ht, hs]
    dsimp only
    rw [if_pos hsum, pm_ev_le sc (Nat.le_add_right n n2) h1]
    dsimp only
    rw [h2]
    dsimp only
    rw [hq]
    exact pm_ev_le sc (Nat.le_add_left n2 n) g1
/-- a call that returns -/
theorem pw_calv {a : Instr × Nat × List Nat} {k : pm_K} {Q1 : (Option Value ⊕ Nat) → pm_H → Prop} (ha : pm_at i pc = some a) (he : pm_end a = false) (hd : pm_do sc (pm_nL i) (pm_rk i) pm_np pm_mc pm_rk a.1 a.2.2 pc lv st h = some (.inr k)) (hsum : pm_sum k.2.1 ≤ pm_nL k.1) (hj : pw sc k.1 (0, lv_args 0 k.2.1, [], h) Q1)
    (kk : ∀ x h1, Q1 x h1 → ∃ v, x = .inl v ∧ pw sc i (pc + 3, lv, v.toList ++ k.2.2, h1) Q) : pw sc i (pc, lv, st, h) Q := pw_call ha he hd hsum hj (fun x h1 q => Or.inl (kk x h1 q))
theorem w_aconst_null  {len : Nat} (ha : pm_at i pc = some (.aconst_null, len, [])) (k : pw sc i (pc + 1, lv, .null :: r, h) Q) : pw sc i (pc, lv, r, h) Q := pw_st ha rfl (rfl) k
theorem w_iconst {n : Int} {v : Int32} {len : Nat} (ha : pm_at i pc = some (.iconst n, len, [])) (hv : Int32.ofInt n = v) (k : pw sc i (pc + 1, lv, .int v :: r, h) Q) : pw sc i (pc, lv, r, h) Q := pw_st ha rfl (by subst hv; rfl) k
theorem w_bipush {n : Int} {v : Int32} {len : Nat} (ha : pm_at i pc = some (.bipush n, len, [])) (hv : (Int8.ofInt n).toInt32 = v) (k : pw sc i (pc + 2, lv, .int v :: r, h) Q) : pw sc i (pc, lv, r, h) Q := pw_st ha rfl (by subst hv; rfl) k
theorem w_sipush {n : Int} {v : Int32} {len : Nat} (ha : pm_at i pc = some (.sipush n, len, [])) (hv : (Int16.ofInt n).toInt32 = v) (k : pw sc i (pc + 3, lv, .int v :: r, h) Q) : pw sc i (pc, lv, r, h) Q := pw_st ha rfl (by subst hv; rfl) k
theorem w_lconst {n : Fin 2} {v : Int64} {len : Nat} (ha : pm_at i pc = some (.lconst n, len, [])) (hv : Int64.ofNat (n : Nat) = v) (k : pw sc i (pc + 1, lv, .long v :: r, h) Q) : pw sc i (pc, lv, r, h) Q := pw_st ha rfl (by subst hv; rfl) k
theorem w_ldc_w {n c : Nat} {v : Int32} {len : Nat} (ha : pm_at i pc = some (.ldc_w n, len, [c])) (hv : Int32.ofNat c = v) (k : pw sc i (pc + 3, lv, .int v :: r, h) Q) : pw sc i (pc, lv, r, h) Q := pw_st ha rfl (by subst hv; rfl) k
theorem w_ldc2_w {n c : Nat} {v : Int64} {len : Nat} (ha : pm_at i pc = some (.ldc2_w n, len, [c])) (hv : Int64.ofNat c = v) (k : pw sc i (pc + 3, lv, .long v :: r, h) Q) : pw sc i (pc, lv, r, h) Q := pw_st ha rfl (by subst hv; rfl) k
theorem w_iload_n {k : Fin 4} {x : Int32} {len : Nat} (ha : pm_at i pc = some (.iload_n k, len, [])) (hl : pm_ld lv k = some (.int x)) (k : pw sc i (pc + 1, lv, .int x :: r, h) Q) : pw sc i (pc, lv, r, h) Q := pw_st ha rfl (by simp only [pm_do, hl]) k
theorem w_iload {k : Nat} {x : Int32} {len : Nat} (ha : pm_at i pc = some (.iload k, len, [])) (hl : pm_ld lv k = some (.int x)) (k : pw sc i (pc + 2, lv, .int x :: r, h) Q) : pw sc i (pc, lv, r, h) Q := pw_st ha rfl (by simp only [pm_do, hl]) k
theorem w_lload_n {k : Fin 4} {x : Int64} {len : Nat} (ha : pm_at i pc = some (.lload_n k, len, [])) (hl : pm_ld lv k = some (.long x)) (k : pw sc i (pc + 1, lv, .long x :: r, h) Q) : pw sc i (pc, lv, r, h) Q := pw_st ha rfl (by simp only [pm_do, hl]) k
theorem w_lload {k : Nat} {x : Int64} {len : Nat} (ha : pm_at i pc = some (.lload k, len, [])) (hl : pm_ld lv k = some (.long x)) (k : pw sc i (pc + 2, lv, .long x :: r, h) Q) : pw sc i (pc, lv, r, h) Q := pw_st ha rfl (by simp only [pm_do, hl]) k
theorem w_aload_n {k : Fin 4} {x : Nat} {len : Nat} (ha : pm_at i pc = some (.aload_n k, len, [])) (hl : pm_ld lv k = some (.ref x)) (k : pw sc i (pc + 1, lv, .ref x :: r, h) Q) : pw sc i (pc, lv, r, h) Q := pw_st ha rfl (by simp only [pm_do, hl]) k
theorem w_aload {k : Nat} {x : Nat} {len : Nat} (ha : pm_at i pc = some (.aload k, len, [])) (hl : pm_ld lv k = some (.ref x)) (k : pw sc i (pc + 2, lv, .ref x :: r, h) Q) : pw sc i (pc, lv, r, h) Q := pw_st ha rfl (by simp only [pm_do, hl]) k
theorem w_aload_nN {k : Fin 4} {len : Nat} (ha : pm_at i pc = some (.aload_n k, len, [])) (hl : pm_ld lv k = some .null) (k : pw sc i (pc + 1, lv, .null :: r, h) Q) : pw sc i (pc, lv, r, h) Q := pw_st ha rfl (by simp only [pm_do, hl]) k
theorem w_aload_nS {k : Fin 4} {x : Nat} {len : Nat} (ha : pm_at i pc = some (.aload_n k, len, [])) (hl : pm_ld lv k = some (.retAddr x)) (k : pw sc i (pc + 1, lv, .retAddr x :: r, h) Q) : pw sc i (pc, lv, r, h) Q := pw_st ha rfl (by simp only [pm_do, hl]) k
theorem w_istore_n {k : Fin 4} {x : Int32} {len : Nat} (ha : pm_at i pc = some (.istore_n k, len, [])) (hn : (k : Nat) < pm_nL i) (k : pw sc i (pc + 1, pm_s1 lv k (.int x), r, h) Q) : pw sc i (pc, lv, .int x :: r, h) Q := pw_st ha rfl (if_pos hn) k
theorem w_lstore_n {k : Fin 4} {x : Int64} {len : Nat} (ha : pm_at i pc = some (.lstore_n k, len, [])) (hn : (k : Nat) + 1 < pm_nL i) (k : pw sc i (pc + 1, pm_s2 lv k (.long x), r, h) Q) : pw sc i (pc, lv, .long x :: r, h) Q := pw_st ha rfl (if_pos hn) k
theorem w_astore_n {k : Fin 4} {x : Nat} {len : Nat} (ha : pm_at i pc = some (.astore_n k, len, [])) (hn : (k : Nat) < pm_nL i) (k : pw sc i (pc + 1, pm_s1 lv k (.ref x), r, h) Q) : pw sc i (pc, lv, .ref x :: r, h) Q := pw_st ha rfl (if_pos hn) k
theorem w_astore_nN {k : Fin 4} {len : Nat} (ha : pm_at i pc = some (.astore_n k, len, [])) (hn : (k : Nat) < pm_nL i) (k : pw sc i (pc + 1, pm_s1 lv k .null, r, h) Q) : pw sc i (pc, lv, .null :: r, h) Q := pw_st ha rfl (if_pos hn) k
theorem w_aloadN {k : Nat} {len : Nat} (ha : pm_at i pc = some (.aload k, len, [])) (hl : pm_ld lv k = some .null) (k : pw sc i (pc + 2, lv, .null :: r, h) Q) : pw sc i (pc, lv, r, h) Q := pw_st ha rfl (by simp only [pm_do, hl]) k
theorem w_aloadS {k : Nat} {x : Nat} {len : Nat} (ha : pm_at i pc = some (.aload k, len, [])) (hl : pm_ld lv k = some (.retAddr x)) (k : pw sc i (pc + 2, lv, .retAddr x :: r, h) Q) : pw sc i (pc, lv, r, h) Q := pw_st ha rfl (by simp only [pm_do, hl]) k
theorem w_istore {k : Nat} {x : Int32} {len : Nat} (ha : pm_at i pc = some (.istore k, len, [])) (hn : (k : Nat) < pm_nL i) (k : pw sc i (pc + 2, pm_s1 lv k (.int x), r, h) Q) : pw sc i (pc, lv, .int x :: r, h) Q := pw_st ha rfl (if_pos hn) k
theorem w_lstore {k : Nat} {x : Int64} {len : Nat} (ha : pm_at i pc = some (.lstore k, len, [])) (hn : (k : Nat) + 1 < pm_nL i) (k : pw sc i (pc + 2, pm_s2 lv k (.long x), r, h) Q) : pw sc i (pc, lv, .long x :: r, h) Q := pw_st ha rfl (if_pos hn) k
theorem w_astore {k : Nat} {x : Nat} {len : Nat} (ha : pm_at i pc = some (.astore k, len, [])) (hn : (k : Nat) < pm_nL i) (k : pw sc i (pc + 2, pm_s1 lv k (.ref x), r, h) Q) : pw sc i (pc, lv, .ref x :: r, h) Q := pw_st ha rfl (if_pos hn) k
theorem w_astoreN {k : Nat} {len : Nat} (ha : pm_at i pc = some (.astore k, len, [])) (hn : (k : Nat) < pm_nL i) (k : pw sc i (pc + 2, pm_s1 lv k .null, r, h) Q) : pw sc i (pc, lv, .null :: r, h) Q := pw_st ha rfl (if_pos hn) k
theorem w_iinc {k : Nat} {n : Int} {x v : Int32} {len : Nat} (ha : pm_at i pc = some (.iinc k n, len, [])) (hl : pm_ld lv k = some (.int x)) (hn : k < pm_nL i) (hv : x + Int32.ofInt n = v) (k : pw sc i (pc + 3, pm_s1 lv k (.int v), r, h) Q) : pw sc i (pc, lv, r, h) Q := pw_st ha rfl (by subst hv; simp only [pm_do, hl, hn, if_true]) k
theorem w_iadd {x y : Int32} {len : Nat} (ha : pm_at i pc = some (.iadd, len, [])) (k : pw sc i (pc + 1, lv, .int (x + y) :: r, h) Q) : pw sc i (pc, lv, .int y :: .int x :: r, h) Q := pw_st ha rfl (rfl) k
theorem w_isub {x y : Int32} {len : Nat} (ha : pm_at i pc = some (.isub, len, [])) (k : pw sc i (pc + 1, lv, .int (x - y) :: r, h) Q) : pw sc i (pc, lv, .int y :: .int x :: r, h) Q := pw_st ha rfl (rfl) k
theorem w_imul {x y : Int32} {len : Nat} (ha : pm_at i pc = some (.imul, len, [])) (k : pw sc i (pc + 1, lv, .int (x * y) :: r, h) Q) : pw sc i (pc, lv, .int y :: .int x :: r, h) Q := pw_st ha rfl (rfl) k
theorem w_iand {x y : Int32} {len : Nat} (ha : pm_at i pc = some (.iand, len, [])) (k : pw sc i (pc + 1, lv, .int (x &&& y) :: r, h) Q) : pw sc i (pc, lv, .int y :: .int x :: r, h) Q := pw_st ha rfl (rfl) k
theorem w_ior {x y : Int32} {len : Nat} (ha : pm_at i pc = some (.ior, len, [])) (k : pw sc i (pc + 1, lv, .int (x ||| y) :: r, h) Q) : pw sc i (pc, lv, .int y :: .int x :: r, h) Q := pw_st ha rfl (rfl) k
theorem w_ixor {x y : Int32} {len : Nat} (ha : pm_at i pc = some (.ixor, len, [])) (k : pw sc i (pc + 1, lv, .int (x ^^^ y) :: r, h) Q) : pw sc i (pc, lv, .int y :: .int x :: r, h) Q := pw_st ha rfl (rfl) k
theorem w_ishl {x y : Int32} {len : Nat} (ha : pm_at i pc = some (.ishl, len, [])) (k : pw sc i (pc + 1, lv, .int (x <<< (y &&& 31)) :: r, h) Q) : pw sc i (pc, lv, .int y :: .int x :: r, h) Q := pw_st ha rfl (rfl) k
theorem w_ishr {x y : Int32} {len : Nat} (ha : pm_at i pc = some (.ishr, len, [])) (k : pw sc i (pc + 1, lv, .int (x >>> (y &&& 31)) :: r, h) Q) : pw sc i (pc, lv, .int y :: .int x :: r, h) Q := pw_st ha rfl (rfl) k
theorem w_iushr {x y : Int32} {len : Nat} (ha : pm_at i pc = some (.iushr, len, [])) (k : pw sc i (pc + 1, lv, .int ((x.toUInt32 >>> (y.toUInt32 &&& Int32.toUInt32 31)).toInt32) :: r, h) Q) : pw sc i (pc, lv, .int y :: .int x :: r, h) Q := pw_st ha rfl (rfl) k
theorem w_irem {x y : Int32} {len : Nat} (ha : pm_at i pc = some (.irem, len, [])) (hy : ¬ y = 0) (k : pw sc i (pc + 1, lv, .int (x - x / y * y) :: r, h) Q) : pw sc i (pc, lv, .int y :: .int x :: r, h) Q := pw_st ha rfl (if_neg hy) k
theorem w_lsub {x y : Int64} {len : Nat} (ha : pm_at i pc = some (.lsub, len, [])) (k : pw sc i (pc + 1, lv, .long (x - y) :: r, h) Q) : pw sc i (pc, lv, .long y :: .long x :: r, h) Q := pw_st ha rfl (rfl) k
theorem w_land {x y : Int64} {len : Nat} (ha : pm_at i pc = some (.land, len, [])) (k : pw sc i (pc + 1, lv, .long (x &&& y) :: r, h) Q) : pw sc i (pc, lv, .long y :: .long x :: r, h) Q := pw_st ha rfl (rfl) k
theorem w_lor {x y : Int64} {len : Nat} (ha : pm_at i pc = some (.lor, len, [])) (k : pw sc i (pc + 1, lv, .long (x ||| y) :: r, h) Q) : pw sc i (pc, lv, .long y :: .long x :: r, h) Q := pw_st ha rfl (rfl) k
theorem w_lshl {x : Int64} {y : Int32} {len : Nat} (ha : pm_at i pc = some (.lshl, len, [])) (k : pw sc i (pc + 1, lv, .long (x <<< (y.toInt64 &&& 63)) :: r, h) Q) : pw sc i (pc, lv, .int y :: .long x :: r, h) Q := pw_st ha rfl (rfl) k
theorem w_lshr {x : Int64} {y : Int32} {len : Nat} (ha : pm_at i pc = some (.lshr, len, [])) (k : pw sc i (pc + 1, lv, .long (x >>> (y.toInt64 &&& 63)) :: r, h) Q) : pw sc i (pc, lv, .int y :: .long x :: r, h) Q := pw_st ha rfl (rfl) k
theorem w_i2l {x : Int32} {len : Nat} (ha : pm_at i pc = some (.i2l, len, [])) (k : pw sc i (pc + 1, lv, .long x.toInt64 :: r, h) Q) : pw sc i (pc, lv, .int x :: r, h) Q := pw_st ha rfl (rfl) k
theorem w_l2i {x : Int64} {len : Nat} (ha : pm_at i pc = some (.l2i, len, [])) (k : pw sc i (pc + 1, lv, .int x.toInt32 :: r, h) Q) : pw sc i (pc, lv, .long x :: r, h) Q := pw_st ha rfl (rfl) k
theorem w_lcmp {x y : Int64} {len : Nat} (ha : pm_at i pc = some (.lcmp, len, [])) (k : pw sc i (pc + 1, lv, .int (lg_cmp x y) :: r, h) Q) : pw sc i (pc, lv, .long y :: .long x :: r, h) Q := pw_st ha rfl (rfl) k
theorem w_dup {v : Value} {len : Nat} (ha : pm_at i pc = some (.dup, len, [])) (hv : v.category = 1) (k : pw sc i (pc + 1, lv, v :: v :: r, h) Q) : pw sc i (pc, lv, v :: r, h) Q := pw_st ha rfl (if_pos hv) k
theorem w_pop {v : Value} {len : Nat} (ha : pm_at i pc = some (.pop, len, [])) (hv : v.category = 1) (k : pw sc i (pc + 1, lv, r, h) Q) : pw sc i (pc, lv, v :: r, h) Q := pw_st ha rfl (if_pos hv) k
theorem w_dup2 {v w : Value} {len : Nat} (ha : pm_at i pc = some (.dup2, len, [])) (hv : v.category = 1) (hw : w.category = 1) (k : pw sc i (pc + 1, lv, v :: w :: v :: w :: r, h) Q) : pw sc i (pc, lv, v :: w :: r, h) Q := pw_st ha rfl (if_pos ⟨hv, hw⟩) k
theorem w_goto {off : Int} {t : Nat} {len : Nat} (ha : pm_at i pc = some (.goto off, len, [])) (ht : pm_br pc off = some t) (k : pw sc i (t, lv, r, h) Q) : pw sc i (pc, lv, r, h) Q := pw_st ha rfl (by simp only [pm_do, ht]) k
theorem w_ifnullN {off : Int} {t : Nat} {len : Nat} (ha : pm_at i pc = some (.ifnull off, len, [])) (ht : pm_br pc off = some t) (k : pw sc i (t, lv, r, h) Q) : pw sc i (pc, lv, .null :: r, h) Q := pw_st ha rfl (by simp only [pm_do, ht]) k
theorem w_ifnull {off : Int} {t x : Nat} {len : Nat} (ha : pm_at i pc = some (.ifnull off, len, [])) (ht : pm_br pc off = some t) (k : pw sc i (pc + 3, lv, r, h) Q) : pw sc i (pc, lv, .ref x :: r, h) Q := pw_st ha rfl (by simp only [pm_do, ht]) k
theorem w_ifnonnull {off : Int} {t x : Nat} {len : Nat} (ha : pm_at i pc = some (.ifnonnull off, len, [])) (ht : pm_br pc off = some t) (k : pw sc i (t, lv, r, h) Q) : pw sc i (pc, lv, .ref x :: r, h) Q := pw_st ha rfl (by simp only [pm_do, ht]) k
theorem w_ifnonnullN {off : Int} {t : Nat} {len : Nat} (ha : pm_at i pc = some (.ifnonnull off, len, [])) (ht : pm_br pc off = some t) (k : pw sc i (pc + 3, lv, r, h) Q) : pw sc i (pc, lv, .null :: r, h) Q := pw_st ha rfl (by simp only [pm_do, ht]) k
theorem w_ifCond_eq {x : Int32} {off : Int} {t len : Nat} (ha : pm_at i pc = some (.ifCond .eq off, len, [])) (ht : pm_br pc off = some t) (kt : x = 0 → pw sc i (t, lv, r, h) Q) (kf : ¬ x = 0 → pw sc i (pc + 3, lv, r, h) Q) : pw sc i (pc, lv, .int x :: r, h) Q := by
  by_cases hc : x = 0
  · exact pw_st (s' := (t, lv, r, h)) ha rfl (by simp only [pm_do, ht, pm_cmp, decide_eq_true hc, if_true]) (kt hc)
  · exact pw_st (s' := (pc + 3, lv, r, h)) ha rfl (by simp only [pm_do, ht, pm_cmp, decide_eq_false hc, Bool.false_eq_true, if_false]) (kf hc)
theorem w_if_icmp_eq {x y : Int32} {off : Int} {t len : Nat} (ha : pm_at i pc = some (.if_icmp .eq off, len, [])) (ht : pm_br pc off = some t) (kt : x = y → pw sc i (t, lv, r, h) Q) (kf : ¬ x = y → pw sc i (pc + 3, lv, r, h) Q) : pw sc i (pc, lv, .int y :: .int x :: r, h) Q := by
  by_cases hc : x = y
  · exact pw_st (s' := (t, lv, r, h)) ha rfl (by simp only [pm_do, ht, pm_cmp, decide_eq_true hc, if_true]) (kt hc)
  · exact pw_st (s' := (pc + 3, lv, r, h)) ha rfl (by simp only [pm_do, ht, pm_cmp, decide_eq_false hc, Bool.false_eq_true, if_false]) (kf hc)
theorem w_ifCond_ne {x : Int32} {off : Int} {t len : Nat} (ha : pm_at i pc = some (.ifCond .ne off, len, [])) (ht : pm_br pc off = some t) (kt : ¬ x = 0 → pw sc i (t, lv, r, h) Q) (kf : x = 0 → pw sc i (pc + 3, lv, r, h) Q) : pw sc i (pc, lv, .int x :: r, h) Q := by
  by_cases hc : ¬ x = 0
  · exact pw_st (s' := (t, lv, r, h)) ha rfl (by simp only [pm_do, ht, pm_cmp, decide_eq_true hc, if_true]) (kt hc)
  · exact pw_st (s' := (pc + 3, lv, r, h)) ha rfl (by simp only [pm_do, ht, pm_cmp, decide_eq_false hc, Bool.false_eq_true, if_false]) (kf (Classical.byContradiction hc))
theorem w_if_icmp_ne {x y : Int32} {off : Int} {t len : Nat} (ha : pm_at i pc = some (.if_icmp .ne off, len, [])) (ht : pm_br pc off = some t) (kt : ¬ x = y → pw sc i (t, lv, r, h) Q) (kf : x = y → pw sc i (pc + 3, lv, r, h) Q) : pw sc i (pc, lv, .int y :: .int x :: r, h) Q := by
  by_cases hc : ¬ x = y
  · exact pw_st (s' := (t, lv, r, h)) ha rfl (by simp only [pm_do, ht, pm_cmp, decide_eq_true hc, if_true]) (kt hc)
  · exact pw_st (s' := (pc + 3, lv, r, h)) ha rfl (by simp only [pm_do, ht, pm_cmp, decide_eq_false hc, Bool.false_eq_true, if_false]) (kf (Classical.byContradiction hc))
theorem w_ifCond_lt {x : Int32} {off : Int} {t len : Nat} (ha : pm_at i pc = some (.ifCond .lt off, len, [])) (ht : pm_br pc off = some t) (kt : x < 0 → pw sc i (t, lv, r, h) Q) (kf : ¬ x < 0 → pw sc i (pc + 3, lv, r, h) Q) : pw sc i (pc, lv, .int x :: r, h) Q := by
  by_cases hc : x < 0
  · exact pw_st (s' := (t, lv, r, h)) ha rfl (by simp only [pm_do, ht, pm_cmp, decide_eq_true hc, if_true]) (kt hc)
  · exact pw_st (s' := (pc + 3, lv, r, h)) ha rfl (by simp only [pm_do, ht, pm_cmp, decide_eq_false hc, Bool.false_eq_true, if_false]) (kf hc)
theorem w_if_icmp_lt {x y : Int32} {off : Int} {t len : Nat} (ha : pm_at i pc = some (.if_icmp .lt off, len, [])) (ht : pm_br pc off = some t) (kt : x < y → pw sc i (t, lv, r, h) Q) (kf : ¬ x < y → pw sc i (pc + 3, lv, r, h) Q) : pw sc i (pc, lv, .int y :: .int x :: r, h) Q := by
  by_cases hc : x < y
  · exact pw_st (s' := (t, lv, r, h)) ha rfl (by simp only [pm_do, ht, pm_cmp, decide_eq_true hc, if_true]) (kt hc)
  · exact pw_st (s' := (pc + 3, lv, r, h)) ha rfl (by simp only [pm_do, ht, pm_cmp, decide_eq_false hc, Bool.false_eq_true, if_false]) (kf hc)
theorem w_ifCond_ge {x : Int32} {off : Int} {t len : Nat} (ha : pm_at i pc = some (.ifCond .ge off, len, [])) (ht : pm_br pc off = some t) (kt : 0 ≤ x → pw sc i (t, lv, r, h) Q) (kf : ¬ 0 ≤ x → pw sc i (pc + 3, lv, r, h) Q) : pw sc i (pc, lv, .int x :: r, h) Q := by
  by_cases hc : 0 ≤ x
  · exact pw_st (s' := (t, lv, r, h)) ha rfl (by simp only [pm_do, ht, pm_cmp, decide_eq_true hc, if_true]) (kt hc)
  · exact pw_st (s' := (pc + 3, lv, r, h)) ha rfl (by simp only [pm_do, ht, pm_cmp, decide_eq_false hc, Bool.false_eq_true, if_false]) (kf hc)
theorem w_if_icmp_ge {x y : Int32} {off : Int} {t len : Nat} (ha : pm_at i pc = some (.if_icmp .ge off, len, [])) (ht : pm_br pc off = some t) (kt : y ≤ x → pw sc i (t, lv, r, h) Q) (kf : ¬ y ≤ x → pw sc i (pc + 3, lv, r, h) Q) : pw sc i (pc, lv, .int y :: .int x :: r, h) Q := by
  by_cases hc : y ≤ x
  · exact pw_st (s' := (t, lv, r, h)) ha rfl (by simp only [pm_do, ht, pm_cmp, decide_eq_true hc, if_true]) (kt hc)
  · exact pw_st (s' := (pc + 3, lv, r, h)) ha rfl (by simp only [pm_do, ht, pm_cmp, decide_eq_false hc, Bool.false_eq_true, if_false]) (kf hc)
theorem w_ifCond_gt {x : Int32} {off : Int} {t len : Nat} (ha : pm_at i pc = some (.ifCond .gt off, len, [])) (ht : pm_br pc off = some t) (kt : 0 < x → pw sc i (t, lv, r, h) Q) (kf : ¬ 0 < x → pw sc i (pc + 3, lv, r, h) Q) : pw sc i (pc, lv, .int x :: r, h) Q := by
  by_cases hc : 0 < x
  · exact pw_st (s' := (t, lv, r, h)) ha rfl (by simp only [pm_do, ht, pm_cmp, decide_eq_true hc, if_true]) (kt hc)
  · exact pw_st (s' := (pc + 3, lv, r, h)) ha rfl (by simp only [pm_do, ht, pm_cmp, decide_eq_false hc, Bool.false_eq_true, if_false]) (kf hc)
theorem w_if_icmp_gt {x y : Int32} {off : Int} {t len : Nat} (ha : pm_at i pc = some (.if_icmp .gt off, len, [])) (ht : pm_br pc off = some t) (kt : y < x → pw sc i (t, lv, r, h) Q) (kf : ¬ y < x → pw sc i (pc + 3, lv, r, h) Q) : pw sc i (pc, lv, .int y :: .int x :: r, h) Q := by
  by_cases hc : y < x
  · exact pw_st (s' := (t, lv, r, h)) ha rfl (by simp only [pm_do, ht, pm_cmp, decide_eq_true hc, if_true]) (kt hc)
  · exact pw_st (s' := (pc + 3, lv, r, h)) ha rfl (by simp only [pm_do, ht, pm_cmp, decide_eq_false hc, Bool.false_eq_true, if_false]) (kf hc)
theorem w_ifCond_le {x : Int32} {off : Int} {t len : Nat} (ha : pm_at i pc = some (.ifCond .le off, len, [])) (ht : pm_br pc off = some t) (kt : x ≤ 0 → pw sc i (t, lv, r, h) Q) (kf : ¬ x ≤ 0 → pw sc i (pc + 3, lv, r, h) Q) : pw sc i (pc, lv, .int x :: r, h) Q := by
  by_cases hc : x ≤ 0
  · exact pw_st (s' := (t, lv, r, h)) ha rfl (by simp only [pm_do, ht, pm_cmp, decide_eq_true hc, if_true]) (kt hc)
  · exact pw_st (s' := (pc + 3, lv, r, h)) ha rfl (by simp only [pm_do, ht, pm_cmp, decide_eq_false hc, Bool.false_eq_true, if_false]) (kf hc)
theorem w_if_icmp_le {x y : Int32} {off : Int} {t len : Nat} (ha : pm_at i pc = some (.if_icmp .le off, len, [])) (ht : pm_br pc off = some t) (kt : x ≤ y → pw sc i (t, lv, r, h) Q) (kf : ¬ x ≤ y → pw sc i (pc + 3, lv, r, h) Q) : pw sc i (pc, lv, .int y :: .int x :: r, h) Q := by
  by_cases hc : x ≤ y
  · exact pw_st (s' := (t, lv, r, h)) ha rfl (by simp only [pm_do, ht, pm_cmp, decide_eq_true hc, if_true]) (kt hc)
  · exact pw_st (s' := (pc + 3, lv, r, h)) ha rfl (by simp only [pm_do, ht, pm_cmp, decide_eq_false hc, Bool.false_eq_true, if_false]) (kf hc)
theorem w_tableOut {d lo hi : Int} {offs : Array Int} {t len : Nat} {x : Int32} (ha : pm_at i pc = some (.tableswitch d lo hi offs, len, [])) (hc : x.toInt < lo ∨ hi < x.toInt) (ht : pm_br pc d = some t) (k : pw sc i (t, lv, r, h) Q) : pw sc i (pc, lv, .int x :: r, h) Q := pw_st ha rfl (by simp only [pm_do, hc, if_true, ht]) k
theorem w_tableIn {d lo hi off : Int} {offs : Array Int} {t len : Nat} {x : Int32} (ha : pm_at i pc = some (.tableswitch d lo hi offs, len, [])) (hc : ¬ (x.toInt < lo ∨ hi < x.toInt)) (ho : offs[(x.toInt - lo).toNat]? = some off) (ht : pm_br pc off = some t) (k : pw sc i (t, lv, r, h) Q) : pw sc i (pc, lv, .int x :: r, h) Q := pw_st ha rfl (by simp only [pm_do, hc, if_false, ho, ht]) k
theorem w_getfield {n ci k lk p len : Nat} {fs : List Value} {v : Value} (ha : pm_at i pc = some (.getfield n, len, [ci, k, lk])) (hp : h.1[p]? = some (.inr (ci, fs))) (hv : fs[k]? = some v) (kk : pw sc i (pc + 3, lv, v :: r, h) Q) : pw sc i (pc, lv, .ref p :: r, h) Q := pw_st ha rfl (by simp only [pm_do, hp, hv, if_true]) kk
theorem w_putfield {n ci k lk p len : Nat} {fs : List Value} {v : Value} (ha : pm_at i pc = some (.putfield n, len, [ci, k, lk])) (hp : h.1[p]? = some (.inr (ci, fs))) (hl : k < fs.length) (hf : pm_fit (pm_ty ci k) v = true) (kk : pw sc i (pc + 3, lv, r, (h.1.set p (.inr (ci, fs.set k v)), h.2)) Q) : pw sc i (pc, lv, v :: .ref p :: r, h) Q := pw_st ha rfl (by simp only [pm_do, hp, hl, hf, and_self, if_true]) kk
theorem w_alen {p t len : Nat} {vs : List Value} (ha : pm_at i pc = some (.arraylength, len, [])) (hp : h.1[p]? = some (.inl (t, vs))) (ht : t < 7) (kk : pw sc i (pc + 1, lv, .int (Int32.ofNat vs.length) :: r, h) Q) : pw sc i (pc, lv, .ref p :: r, h) Q := pw_st ha rfl (by simp only [pm_do, hp, ht, if_true]) kk
theorem w_slen {x len : Nat} (ha : pm_at i pc = some (.arraylength, len, [])) (kk : pw sc i (pc + 1, lv, .int (Int32.ofNat sc.1) :: r, h) Q) : pw sc i (pc, lv, .retAddr x :: r, h) Q := pw_st ha rfl rfl kk
theorem w_sld {x len : Nat} {j : Int32} (ha : pm_at i pc = some (.iaload, len, [])) (hj : ¬ j < 0 ∧ j.toNatClampNeg < sc.1) (kk : pw sc i (pc + 1, lv, .int (sc.2 j.toNatClampNeg) :: r, h) Q) : pw sc i (pc, lv, .int j :: .retAddr x :: r, h) Q := pw_st ha rfl (if_pos hj) kk
theorem w_iaload {p len : Nat} {vs : List Value} {j : Int32} {x : Int32} (ha : pm_at i pc = some (.iaload, len, [])) (hp : h.1[p]? = some (.inl (0, vs))) (hj : ¬ j < 0) (hv : vs[j.toNatClampNeg]? = some (.int x)) (kk : pw sc i (pc + 1, lv, .int x :: r, h) Q) : pw sc i (pc, lv, .int j :: .ref p :: r, h) Q := pw_st ha rfl (by simp only [pm_do, hp, hj, if_false, hv]) kk
theorem w_laload {p len : Nat} {vs : List Value} {j : Int32} {x : Int64} (ha : pm_at i pc = some (.laload, len, [])) (hp : h.1[p]? = some (.inl (1, vs))) (hj : ¬ j < 0) (hv : vs[j.toNatClampNeg]? = some (.long x)) (kk : pw sc i (pc + 1, lv, .long x :: r, h) Q) : pw sc i (pc, lv, .int j :: .ref p :: r, h) Q := pw_st ha rfl (by simp only [pm_do, hp, hj, if_false, hv]) kk
theorem w_baload {p len : Nat} {vs : List Value} {j : Int32} {x : Int32} (ha : pm_at i pc = some (.baload, len, [])) (hp : h.1[p]? = some (.inl (2, vs))) (hj : ¬ j < 0) (hv : vs[j.toNatClampNeg]? = some (.int x)) (kk : pw sc i (pc + 1, lv, .int x :: r, h) Q) : pw sc i (pc, lv, .int j :: .ref p :: r, h) Q := pw_st ha rfl (by simp only [pm_do, hp, hj, if_false, hv]) kk
theorem w_aaload {p t len : Nat} {vs : List Value} {j : Int32} {x : Nat} (ha : pm_at i pc = some (.aaload, len, [])) (hp : h.1[p]? = some (.inl (t, vs))) (hj : ¬ (j < 0 ∨ t < 3 ∨ 6 < t)) (hv : vs[j.toNatClampNeg]? = some (.ref x)) (kk : pw sc i (pc + 1, lv, .ref x :: r, h) Q) : pw sc i (pc, lv, .int j :: .ref p :: r, h) Q := pw_st ha rfl (by simp only [pm_do, hp, hj, if_false, hv]) kk
theorem w_aaloadN {p t len : Nat} {vs : List Value} {j : Int32}  (ha : pm_at i pc = some (.aaload, len, [])) (hp : h.1[p]? = some (.inl (t, vs))) (hj : ¬ (j < 0 ∨ t < 3 ∨ 6 < t)) (hv : vs[j.toNatClampNeg]? = some (.null)) (kk : pw sc i (pc + 1, lv, .null :: r, h) Q) : pw sc i (pc, lv, .int j :: .ref p :: r, h) Q := pw_st ha rfl (by simp only [pm_do, hp, hj, if_false, hv]) kk
theorem w_iastore {p len : Nat} {vs : List Value} {j : Int32} {x : Int32} (ha : pm_at i pc = some (.iastore, len, [])) (hp : h.1[p]? = some (.inl (0, vs))) (hj : ¬ j < 0 ∧ j.toNatClampNeg < vs.length) (kk : pw sc i (pc + 1, lv, r, (h.1.set p (.inl (0, vs.set j.toNatClampNeg (.int x))), h.2)) Q) : pw sc i (pc, lv, .int x :: .int j :: .ref p :: r, h) Q := pw_st ha rfl (by simp only [pm_do, hp]; exact if_pos hj) kk
theorem w_lastore {p len : Nat} {vs : List Value} {j : Int32} {x : Int64} (ha : pm_at i pc = some (.lastore, len, [])) (hp : h.1[p]? = some (.inl (1, vs))) (hj : ¬ j < 0 ∧ j.toNatClampNeg < vs.length) (kk : pw sc i (pc + 1, lv, r, (h.1.set p (.inl (1, vs.set j.toNatClampNeg (.long x))), h.2)) Q) : pw sc i (pc, lv, .long x :: .int j :: .ref p :: r, h) Q := pw_st ha rfl (by simp only [pm_do, hp]; exact if_pos hj) kk
theorem w_bastore {p len : Nat} {vs : List Value} {j : Int32} {x : Int32} (ha : pm_at i pc = some (.bastore, len, [])) (hp : h.1[p]? = some (.inl (2, vs))) (hj : (x = 0 ∨ x = 1) ∧ ¬ j < 0 ∧ j.toNatClampNeg < vs.length) (kk : pw sc i (pc + 1, lv, r, (h.1.set p (.inl (2, vs.set j.toNatClampNeg (.int x))), h.2)) Q) : pw sc i (pc, lv, .int x :: .int j :: .ref p :: r, h) Q := pw_st ha rfl (by simp only [pm_do, hp]; exact if_pos hj) kk
theorem w_aastore {p q t c len : Nat} {vs fs : List Value} {j : Int32} (ha : pm_at i pc = some (.aastore, len, [])) (hp : h.1[p]? = some (.inl (t, vs))) (hq : h.1[q]? = some (.inr (c, fs))) (hj : ¬ j < 0 ∧ j.toNatClampNeg < vs.length ∧ 3 ≤ t ∧ t ≤ 6 ∧ c = pm_el t) (kk : pw sc i (pc + 1, lv, r, (h.1.set p (.inl (t, vs.set j.toNatClampNeg (.ref q))), h.2)) Q) : pw sc i (pc, lv, .ref q :: .int j :: .ref p :: r, h) Q := pw_st ha rfl (by simp only [pm_do, hp, hq]; exact if_pos hj) kk
theorem w_aastoreN {p t len : Nat} {vs : List Value} {j : Int32} (ha : pm_at i pc = some (.aastore, len, [])) (hp : h.1[p]? = some (.inl (t, vs))) (hj : ¬ j < 0 ∧ j.toNatClampNeg < vs.length ∧ 3 ≤ t ∧ t ≤ 6) (kk : pw sc i (pc + 1, lv, r, (h.1.set p (.inl (t, vs.set j.toNatClampNeg .null)), h.2)) Q) : pw sc i (pc, lv, .null :: .int j :: .ref p :: r, h) Q := pw_st ha rfl (by simp only [pm_do, hp]; exact if_pos hj) kk
theorem w_new {n ci len : Nat} (ha : pm_at i pc = some (.new n, len, [ci])) (hc : ci < 9) (kk : pw sc i (pc + 3, lv, .ref h.1.length :: r, (h.1 ++ [.inr (ci, pm_df ci)], h.2.1 + 1, h.2.2 + (pm_df ci).length)) Q) : pw sc i (pc, lv, r, h) Q := pw_st ha (by show decide (100 < ci) = false; exact decide_eq_false (by omega)) (if_pos hc) kk
theorem w_newarray {a : ArrayType} {t len : Nat} {n : Int32} (ha : pm_at i pc = some (.newarray a, len, [t])) (hc : ((a = .int ∧ t = 0) ∨ (a = .long ∧ t = 1) ∨ (a = .boolean ∧ t = 2)) ∧ ¬ n < 0 ∧ n.toNatClampNeg ≤ 1000) (kk : pw sc i (pc + 2, lv, .ref h.1.length :: r, (h.1 ++ [.inl (t, List.replicate n.toNatClampNeg (pm_dv t))], h.2.1 + 1, h.2.2 + n.toNatClampNeg)) Q) : pw sc i (pc, lv, .int n :: r, h) Q := pw_st ha rfl (if_pos hc) kk
theorem w_anewarray {m t len : Nat} {n : Int32} (ha : pm_at i pc = some (.anewarray m, len, [t])) (hc : 3 ≤ t ∧ t ≤ 6 ∧ ¬ n < 0 ∧ n.toNatClampNeg ≤ 1000) (kk : pw sc i (pc + 3, lv, .ref h.1.length :: r, (h.1 ++ [.inl (t, List.replicate n.toNatClampNeg .null)], h.2.1 + 1, h.2.2 + n.toNatClampNeg)) Q) : pw sc i (pc, lv, .int n :: r, h) Q := pw_st ha rfl (if_pos hc) kk
theorem w_objinit {n j p len : Nat} (ha : pm_at i pc = some (.invokespecial n, len, [j, 6])) (hc : pm_sum r ≤ 8 ∧ 1 ≤ pm_rk i) (kk : pw sc i (pc + 3, lv, r, h) Q) : pw sc i (pc, lv, .ref p :: r, h) Q := pw_st ha rfl (if_pos hc) kk
theorem w_max {n j len : Nat} {x y : Int32} (ha : pm_at i pc = some (.invokestatic n, len, [j, 7])) (hc : pm_sum r ≤ 8 ∧ 1 ≤ pm_rk i) (kk : pw sc i (pc + 3, lv, .int (if x < y then y else x) :: r, h) Q) : pw sc i (pc, lv, .int y :: .int x :: r, h) Q := pw_st ha rfl (if_pos hc) kk
theorem w_copy {m j p q len : Nat} {n dp sp : Int32} {vs ws : List Value} (ha : pm_at i pc = some (.invokestatic m, len, [j, 8])) (hp : h.1[p]? = some (.inl (0, vs))) (hq : h.1[q]? = some (.inl (0, ws))) (hc : pm_sum r ≤ 8 ∧ 1 ≤ pm_rk i ∧ ¬ sp < 0 ∧ ¬ dp < 0 ∧ ¬ n < 0 ∧ sp.toNatClampNeg + n.toNatClampNeg ≤ vs.length ∧ dp.toNatClampNeg + n.toNatClampNeg ≤ ws.length) (kk : pw sc i (pc + 3, lv, r, (h.1.set q (.inl (0, pm_cpy vs ws sp.toNatClampNeg dp.toNatClampNeg n.toNatClampNeg)), h.2)) Q) : pw sc i (pc, lv, .int n :: .int dp :: .ref q :: .int sp :: .ref p :: r, h) Q := pw_st ha rfl (by simp only [pm_do, hp, hq]; exact if_pos hc) kk
/-- calls: the callee's arguments, the rest of the stack; what it gives goes on -/
theorem w_virtual {n j b c len : Nat} {fs as : List Value} {Q1 : (Option Value ⊕ Nat) → pm_H → Prop} (ha : pm_at i pc = some (.invokevirtual n, len, [j, 0])) (hst : st.drop (pm_np j) = .ref b :: r) (hb : h.1[b]? = some (.inr (c, fs))) (hc : pm_np j < st.length ∧ c = pm_mc j ∧ pm_sum r ≤ 12 ∧ pm_rk j < pm_rk i) (has : (st.take (pm_np j)).reverse = as) (hsum : pm_sum (.ref b :: as) ≤ pm_nL j) (hj : pw sc j (0, lv_args 0 (.ref b :: as), [], h) Q1)
    (kk : ∀ x h1, Q1 x h1 → ∃ v, x = .inl v ∧ pw sc i (pc + 3, lv, v.toList ++ r, h1) Q) : pw sc i (pc, lv, st, h) Q := by
  subst has
  exact pw_calv (k := (j, .ref b :: (st.take (pm_np j)).reverse, r)) ha rfl (by simp only [pm_do, hst, hb]; exact (if_pos (Nat.zero_le 1)).trans (if_pos hc)) hsum hj kk
theorem w_virtualX {n j b c len : Nat} {fs as : List Value} {Q1 : (Option Value ⊕ Nat) → pm_H → Prop} (ha : pm_at i pc = some (.invokevirtual n, len, [j, 0])) (hst : st.drop (pm_np j) = .ref b :: r) (hb : h.1[b]? = some (.inr (c, fs))) (hc : pm_np j < st.length ∧ c = pm_mc j ∧ pm_sum r ≤ 12 ∧ pm_rk j < pm_rk i) (has : (st.take (pm_np j)).reverse = as) (hsum : pm_sum (.ref b :: as) ≤ pm_nL j) (hj : pw sc j (0, lv_args 0 (.ref b :: as), [], h) Q1)
    (kk : ∀ x h1, Q1 x h1 → (∃ v, x = .inl v ∧ pw sc i (pc + 3, lv, v.toList ++ r, h1) Q) ∨ (∃ y w, x = .inr y ∧ pm_hnd (pm_hn i) pc y = some w ∧ pw sc i (w.2.2.2.2.2, pm_dr lv w.2.2.2.2.1, [], (h1.1, h1.2.1 + 1, h1.2.2 + 6)) Q)) : pw sc i (pc, lv, st, h) Q := by
  subst has
  exact pw_call (k := (j, .ref b :: (st.take (pm_np j)).reverse, r)) ha rfl (by simp only [pm_do, hst, hb]; exact (if_pos (Nat.zero_le 1)).trans (if_pos hc)) hsum hj kk
theorem w_special {n j kd b len : Nat} {as : List Value} {Q1 : (Option Value ⊕ Nat) → pm_H → Prop} (ha : pm_at i pc = some (.invokespecial n, len, [j, kd])) (hkd : ¬ kd = 6 ∧ (kd = 2 ∨ kd = 3)) (hst : st.drop (pm_np j) = .ref b :: r) (hc : pm_np j < st.length ∧ pm_sum r ≤ 8 ∧ pm_rk j < pm_rk i) (has : (st.take (pm_np j)).reverse = as) (hsum : pm_sum (.ref b :: as) ≤ pm_nL j) (hj : pw sc j (0, lv_args 0 (.ref b :: as), [], h) Q1)
    (kk : ∀ x h1, Q1 x h1 → ∃ v, x = .inl v ∧ pw sc i (pc + 3, lv, v.toList ++ r, h1) Q) : pw sc i (pc, lv, st, h) Q := by
  subst has
  exact pw_calv (k := (j, .ref b :: (st.take (pm_np j)).reverse, r)) ha rfl (by simp only [pm_do, hst, hkd.1, hkd.2, if_true, if_false]; exact if_pos hc) hsum hj kk
theorem w_static {n j kd len : Nat} {as : List Value} {Q1 : (Option Value ⊕ Nat) → pm_H → Prop} (ha : pm_at i pc = some (.invokestatic n, len, [j, kd])) (hkd : ¬ kd = 7 ∧ ¬ kd = 8 ∧ (kd = 4 ∨ kd = 5 ∨ kd = 9)) (hst : st.drop (pm_np j) = r) (hc : pm_np j ≤ st.length ∧ pm_sum r ≤ 8 ∧ pm_rk j < pm_rk i) (has : (st.take (pm_np j)).reverse = as) (hsum : pm_sum as ≤ pm_nL j) (hj : pw sc j (0, lv_args 0 as, [], h) Q1)
    (kk : ∀ x h1, Q1 x h1 → ∃ v, x = .inl v ∧ pw sc i (pc + 3, lv, v.toList ++ r, h1) Q) : pw sc i (pc, lv, st, h) Q := by
  subst has
  subst hst
  exact pw_calv (k := (j, (st.take (pm_np j)).reverse, st.drop (pm_np j))) ha rfl (by simp only [pm_do, hkd.1, hkd.2.1, hkd.2.2, if_true, if_false]; exact if_pos hc) hsum hj kk
theorem w_ireturn {len : Nat} {x : Int32} (ha : pm_at i pc = some (.ireturn, len, [])) (ht : pm_rt i = 1 ∨ (pm_rt i = 2 ∧ (x = 0 ∨ x = 1))) (hq : Q (.inl (some (.int x))) h) : pw sc i (pc, lv, [.int x], h) Q := pw_ret ha rfl (if_pos ht) hq
theorem w_lreturn {len : Nat} {x : Int64} (ha : pm_at i pc = some (.lreturn, len, [])) (ht : pm_rt i = 3) (hq : Q (.inl (some (.long x))) h) : pw sc i (pc, lv, [.long x], h) Q := pw_ret ha rfl (if_pos ht) hq
theorem w_areturn {len x : Nat} (ha : pm_at i pc = some (.areturn, len, [])) (ht : pm_rt i = 4) (hq : Q (.inl (some (.ref x))) h) : pw sc i (pc, lv, [.ref x], h) Q := pw_ret ha rfl (if_pos ht) hq
theorem w_areturnN {len : Nat} (ha : pm_at i pc = some (.areturn, len, [])) (ht : pm_rt i = 4) (hq : Q (.inl (some .null)) h) : pw sc i (pc, lv, [.null], h) Q := pw_ret ha rfl (if_pos ht) hq
theorem w_return {len : Nat} (ha : pm_at i pc = some (.return_, len, [])) (ht : pm_rt i = 0) (hq : Q (.inl none) h) : pw sc i (pc, lv, [], h) Q := pw_ret ha rfl (if_pos ht) hq
theorem w_throw {n x len : Nat} (ha : pm_at i pc = some (.new n, len, [100 + x])) (hx : 0 < x) (hs : pm_sum r ≤ 8) (hq : Q (.inr x) h) : pw sc i (pc, lv, r, h) Q := pw_ret ha (by show decide (100 < 100 + x) = true; exact decide_eq_true (by omega)) (by show (if 100 < 100 + x ∧ pm_sum r ≤ 8 then some (Sum.inr (100 + x - 100)) else none) = some (Sum.inr x); rw [if_pos ⟨by omega, hs⟩, Nat.add_sub_cancel_left]) hq
end PW
/-! the heap behind a change -/
theorem gs_self {cs : List pm_C} {p : Nat} {c0 c : pm_C} (hp : cs[p]? = some c0) : (cs.set p c)[p]? = some c := by
  have hl : p < cs.length := (List.getElem?_eq_some_iff.mp hp).1
  rw [List.getElem?_set, if_pos rfl, if_pos hl]
theorem gs_ne {cs : List pm_C} {p q : Nat} {c : pm_C} (hn : p ≠ q) : (cs.set p c)[q]? = cs[q]? := by
  rw [List.getElem?_set, if_neg hn]
theorem ga_old {cs ys : List pm_C} {q : Nat} {c : pm_C} (hq : cs[q]? = some c) : (cs ++ ys)[q]? = some c := by
  have hl : q < cs.length := (List.getElem?_eq_some_iff.mp hq).1
  rw [List.getElem?_append_left hl]
  exact hq
theorem ga_new {cs : List pm_C} {c : pm_C} : (cs ++ [c])[cs.length]? = some c := by simp
theorem g_lt {cs : List pm_C} {q : Nat} {c : pm_C} (hq : cs[q]? = some c) : q < cs.length := (List.getElem?_eq_some_iff.mp hq).1
