/-! THE RUNS of the pure machine, and that it keeps its references within its heap -/
def pm_step (sc : pm_Sc) (i : Nat) (s : pm_S) : Option (pm_S ⊕ pm_K) := match pm_at i s.1 with
  | some r => pm_do sc (pm_nL i) (pm_rk i) pm_np pm_mc pm_rk r.1 r.2.2 s.1 s.2.1 s.2.2.1 s.2.2.2
  | none => none
/-- an end: a return, or 'throw new' -/
def pm_end (r : Instr × Nat × List Nat) : Bool := match r.1, r.2.2 with
  | .ireturn, _ => true
  | .lreturn, _ => true
  | .areturn, _ => true
  | .return_, _ => true
  | .new _, [e] => decide (100 < e)
  | _, _ => false
def pm_term (i pc : Nat) : Bool := match pm_at i pc with
  | some r => pm_end r
  | none => false
/-- what an end gives: a value, or the kind of an exception -/
def pm_out (t : Nat) (r : Instr × Nat × List Nat) (st : List Value) : Option (Option Value ⊕ Nat) := match r.1, r.2.2, st with
  | .ireturn, _, [.int v] => if t = 1 ∨ (t = 2 ∧ (v = 0 ∨ v = 1)) then some (.inl (some (.int v))) else none
  | .lreturn, _, [.long v] => if t = 3 then some (.inl (some (.long v))) else none
  | .areturn, _, [.ref v] => if t = 4 then some (.inl (some (.ref v))) else none
  | .areturn, _, [.null] => if t = 4 then some (.inl (some .null)) else none
  | .return_, _, [] => if t = 0 then some (.inl none) else none
  | .new _, [e], st => if 100 < e ∧ pm_sum st ≤ 8 then some (.inr (e - 100)) else none
  | _, _, _ => none
def pm_ret (i : Nat) (o : pm_S) : Option (Option Value ⊕ Nat) := match pm_at i o.1 with
  | some r => pm_out (pm_rt i) r o.2.2.1
  | none => none
def pm_hnd (hs : List (Nat × Nat × Nat × Nat × Nat × Nat)) (pc e : Nat) : Option (Nat × Nat × Nat × Nat × Nat × Nat) := hs.find? (fun q => decide (q.1 ≤ pc) && decide (pc < q.2.1) && q.2.2.2.1 == e)
def pm_dr (lv : pm_L) (i : Nat) : pm_L := lv.filter (fun q => !(q.1 == i) && !(q.1 + 1 == i && q.2.category == 2))
/-- a method's run from a frame to its end -/
def pm_ev (sc : pm_Sc) : Nat → Nat → pm_S → Option pm_S
  | 0, _, _ => none
  | n + 1, i, s => if pm_term i s.1 = true then some s else match pm_step sc i s with
    | none => none
    | some (.inl s') => pm_ev sc n i s'
    | some (.inr k) => if pm_sum k.2.1 ≤ pm_nL k.1 then (match pm_ev sc n k.1 (0, lv_args 0 k.2.1, [], s.2.2.2) with
      | none => none
      | some o => match pm_ret k.1 o with
        | none => none
        | some (.inl v) => pm_ev sc n i (s.1 + 3, s.2.1, v.toList ++ k.2.2, o.2.2.2)
        | some (.inr x) => match pm_hnd (pm_hn i) s.1 x with
          | none => none
          | some w => pm_ev sc n i (w.2.2.2.2.2, pm_dr s.2.1 w.2.2.2.2.1, [], (o.2.2.2.1, o.2.2.2.2.1 + 1, o.2.2.2.2.2 + 6))) else none
theorem pr_aconst_null {sc : pm_Sc} {nL rk : Nat} {np mc rkOf : Nat → Nat} {res : List Nat} {pc : Nat} {lv : pm_L} {st : List Value} {h : pm_H} {s1 : pm_S}  (hs : pm_do sc nL rk np mc rkOf (.aconst_null) res pc lv st h = some (.inl s1)) (O : pm_ok lv st h.1) : pm_Ok2 (pc, lv, st, h) s1 := by
  simp only [pm_do] at hs
  cases hs
  exact pk_st O (pk_c (pm_okv_null _) O.2.1)
theorem pr_iconst {sc : pm_Sc} {nL rk : Nat} {np mc rkOf : Nat → Nat} {res : List Nat} {pc : Nat} {lv : pm_L} {st : List Value} {h : pm_H} {s1 : pm_S} {n : Int}  (hs : pm_do sc nL rk np mc rkOf (.iconst n) res pc lv st h = some (.inl s1)) (O : pm_ok lv st h.1) : pm_Ok2 (pc, lv, st, h) s1 := by
  simp only [pm_do] at hs
  cases hs
  exact pk_st O (pk_c (pm_okv_int _ _) O.2.1)
theorem pr_bipush {sc : pm_Sc} {nL rk : Nat} {np mc rkOf : Nat → Nat} {res : List Nat} {pc : Nat} {lv : pm_L} {st : List Value} {h : pm_H} {s1 : pm_S} {n : Int}  (hs : pm_do sc nL rk np mc rkOf (.bipush n) res pc lv st h = some (.inl s1)) (O : pm_ok lv st h.1) : pm_Ok2 (pc, lv, st, h) s1 := by
  simp only [pm_do] at hs
  cases hs
  exact pk_st O (pk_c (pm_okv_int _ _) O.2.1)
theorem pr_sipush {sc : pm_Sc} {nL rk : Nat} {np mc rkOf : Nat → Nat} {res : List Nat} {pc : Nat} {lv : pm_L} {st : List Value} {h : pm_H} {s1 : pm_S} {n : Int}  (hs : pm_do sc nL rk np mc rkOf (.sipush n) res pc lv st h = some (.inl s1)) (O : pm_ok lv st h.1) : pm_Ok2 (pc, lv, st, h) s1 := by
  simp only [pm_do] at hs
  cases hs
  exact pk_st O (pk_c (pm_okv_int _ _) O.2.1)
theorem pr_lconst {sc : pm_Sc} {nL rk : Nat} {np mc rkOf : Nat → Nat} {res : List Nat} {pc : Nat} {lv : pm_L} {st : List Value} {h : pm_H} {s1 : pm_S} {n : Fin 2}  (hs : pm_do sc nL rk np mc rkOf (.lconst n) res pc lv st h = some (.inl s1)) (O : pm_ok lv st h.1) : pm_Ok2 (pc, lv, st, h) s1 := by
  simp only [pm_do] at hs
  cases hs
  exact pk_st O (pk_c (pm_okv_long _ _) O.2.1)
theorem pr_iadd {sc : pm_Sc} {nL rk : Nat} {np mc rkOf : Nat → Nat} {res : List Nat} {pc : Nat} {lv : pm_L} {st : List Value} {h : pm_H} {s1 : pm_S}  (hs : pm_do sc nL rk np mc rkOf (.iadd) res pc lv st h = some (.inl s1)) (O : pm_ok lv st h.1) : pm_Ok2 (pc, lv, st, h) s1 := by
  simp only [pm_do] at hs
  split at hs
  · cases hs
    exact pk_st O (pk_c (pm_okv_int _ _) (pk_t2 O.2.1))
  · cases hs
theorem pr_isub {sc : pm_Sc} {nL rk : Nat} {np mc rkOf : Nat → Nat} {res : List Nat} {pc : Nat} {lv : pm_L} {st : List Value} {h : pm_H} {s1 : pm_S}  (hs : pm_do sc nL rk np mc rkOf (.isub) res pc lv st h = some (.inl s1)) (O : pm_ok lv st h.1) : pm_Ok2 (pc, lv, st, h) s1 := by
  simp only [pm_do] at hs
  split at hs
  · cases hs
    exact pk_st O (pk_c (pm_okv_int _ _) (pk_t2 O.2.1))
  · cases hs
theorem pr_imul {sc : pm_Sc} {nL rk : Nat} {np mc rkOf : Nat → Nat} {res : List Nat} {pc : Nat} {lv : pm_L} {st : List Value} {h : pm_H} {s1 : pm_S}  (hs : pm_do sc nL rk np mc rkOf (.imul) res pc lv st h = some (.inl s1)) (O : pm_ok lv st h.1) : pm_Ok2 (pc, lv, st, h) s1 := by
  simp only [pm_do] at hs
  split at hs
  · cases hs
    exact pk_st O (pk_c (pm_okv_int _ _) (pk_t2 O.2.1))
  · cases hs
theorem pr_iand {sc : pm_Sc} {nL rk : Nat} {np mc rkOf : Nat → Nat} {res : List Nat} {pc : Nat} {lv : pm_L} {st : List Value} {h : pm_H} {s1 : pm_S}  (hs : pm_do sc nL rk np mc rkOf (.iand) res pc lv st h = some (.inl s1)) (O : pm_ok lv st h.1) : pm_Ok2 (pc, lv, st, h) s1 := by
  simp only [pm_do] at hs
  split at hs
  · cases hs
    exact pk_st O (pk_c (pm_okv_int _ _) (pk_t2 O.2.1))
  · cases hs
theorem pr_ior {sc : pm_Sc} {nL rk : Nat} {np mc rkOf : Nat → Nat} {res : List Nat} {pc : Nat} {lv : pm_L} {st : List Value} {h : pm_H} {s1 : pm_S}  (hs : pm_do sc nL rk np mc rkOf (.ior) res pc lv st h = some (.inl s1)) (O : pm_ok lv st h.1) : pm_Ok2 (pc, lv, st, h) s1 := by
  simp only [pm_do] at hs
  split at hs
  · cases hs
    exact pk_st O (pk_c (pm_okv_int _ _) (pk_t2 O.2.1))
  · cases hs
theorem pr_ixor {sc : pm_Sc} {nL rk : Nat} {np mc rkOf : Nat → Nat} {res : List Nat} {pc : Nat} {lv : pm_L} {st : List Value} {h : pm_H} {s1 : pm_S}  (hs : pm_do sc nL rk np mc rkOf (.ixor) res pc lv st h = some (.inl s1)) (O : pm_ok lv st h.1) : pm_Ok2 (pc, lv, st, h) s1 := by
  simp only [pm_do] at hs
  split at hs
  · cases hs
    exact pk_st O (pk_c (pm_okv_int _ _) (pk_t2 O.2.1))
  · cases hs
theorem pr_ishl {sc : pm_Sc} {nL rk : Nat} {np mc rkOf : Nat → Nat} {res : List Nat} {pc : Nat} {lv : pm_L} {st : List Value} {h : pm_H} {s1 : pm_S}  (hs : pm_do sc nL rk np mc rkOf (.ishl) res pc lv st h = some (.inl s1)) (O : pm_ok lv st h.1) : pm_Ok2 (pc, lv, st, h) s1 := by
  simp only [pm_do] at hs
  split at hs
  · cases hs
    exact pk_st O (pk_c (pm_okv_int _ _) (pk_t2 O.2.1))
  · cases hs
theorem pr_ishr {sc : pm_Sc} {nL rk : Nat} {np mc rkOf : Nat → Nat} {res : List Nat} {pc : Nat} {lv : pm_L} {st : List Value} {h : pm_H} {s1 : pm_S}  (hs : pm_do sc nL rk np mc rkOf (.ishr) res pc lv st h = some (.inl s1)) (O : pm_ok lv st h.1) : pm_Ok2 (pc, lv, st, h) s1 := by
  simp only [pm_do] at hs
  split at hs
  · cases hs
    exact pk_st O (pk_c (pm_okv_int _ _) (pk_t2 O.2.1))
  · cases hs
theorem pr_iushr {sc : pm_Sc} {nL rk : Nat} {np mc rkOf : Nat → Nat} {res : List Nat} {pc : Nat} {lv : pm_L} {st : List Value} {h : pm_H} {s1 : pm_S}  (hs : pm_do sc nL rk np mc rkOf (.iushr) res pc lv st h = some (.inl s1)) (O : pm_ok lv st h.1) : pm_Ok2 (pc, lv, st, h) s1 := by
  simp only [pm_do] at hs
  split at hs
  · cases hs
    exact pk_st O (pk_c (pm_okv_int _ _) (pk_t2 O.2.1))
  · cases hs
theorem pr_lsub {sc : pm_Sc} {nL rk : Nat} {np mc rkOf : Nat → Nat} {res : List Nat} {pc : Nat} {lv : pm_L} {st : List Value} {h : pm_H} {s1 : pm_S}  (hs : pm_do sc nL rk np mc rkOf (.lsub) res pc lv st h = some (.inl s1)) (O : pm_ok lv st h.1) : pm_Ok2 (pc, lv, st, h) s1 := by
  simp only [pm_do] at hs
  split at hs
  · cases hs
    exact pk_st O (pk_c (pm_okv_long _ _) (pk_t2 O.2.1))
  · cases hs
theorem pr_land {sc : pm_Sc} {nL rk : Nat} {np mc rkOf : Nat → Nat} {res : List Nat} {pc : Nat} {lv : pm_L} {st : List Value} {h : pm_H} {s1 : pm_S}  (hs : pm_do sc nL rk np mc rkOf (.land) res pc lv st h = some (.inl s1)) (O : pm_ok lv st h.1) : pm_Ok2 (pc, lv, st, h) s1 := by
  simp only [pm_do] at hs
  split at hs
  · cases hs
    exact pk_st O (pk_c (pm_okv_long _ _) (pk_t2 O.2.1))
  · cases hs
theorem pr_lor {sc : pm_Sc} {nL rk : Nat} {np mc rkOf : Nat → Nat} {res : List Nat} {pc : Nat} {lv : pm_L} {st : List Value} {h : pm_H} {s1 : pm_S}  (hs : pm_do sc nL rk np mc rkOf (.lor) res pc lv st h = some (.inl s1)) (O : pm_ok lv st h.1) : pm_Ok2 (pc, lv, st, h) s1 := by
  simp only [pm_do] at hs
  split at hs
  · cases hs
    exact pk_st O (pk_c (pm_okv_long _ _) (pk_t2 O.2.1))
  · cases hs
theorem pr_lshl {sc : pm_Sc} {nL rk : Nat} {np mc rkOf : Nat → Nat} {res : List Nat} {pc : Nat} {lv : pm_L} {st : List Value} {h : pm_H} {s1 : pm_S}  (hs : pm_do sc nL rk np mc rkOf (.lshl) res pc lv st h = some (.inl s1)) (O : pm_ok lv st h.1) : pm_Ok2 (pc, lv, st, h) s1 := by
  simp only [pm_do] at hs
  split at hs
  · cases hs
    exact pk_st O (pk_c (pm_okv_long _ _) (pk_t2 O.2.1))
  · cases hs
theorem pr_lshr {sc : pm_Sc} {nL rk : Nat} {np mc rkOf : Nat → Nat} {res : List Nat} {pc : Nat} {lv : pm_L} {st : List Value} {h : pm_H} {s1 : pm_S}  (hs : pm_do sc nL rk np mc rkOf (.lshr) res pc lv st h = some (.inl s1)) (O : pm_ok lv st h.1) : pm_Ok2 (pc, lv, st, h) s1 := by
  simp only [pm_do] at hs
  split at hs
  · cases hs
    exact pk_st O (pk_c (pm_okv_long _ _) (pk_t2 O.2.1))
  · cases hs
theorem pr_i2l {sc : pm_Sc} {nL rk : Nat} {np mc rkOf : Nat → Nat} {res : List Nat} {pc : Nat} {lv : pm_L} {st : List Value} {h : pm_H} {s1 : pm_S}  (hs : pm_do sc nL rk np mc rkOf (.i2l) res pc lv st h = some (.inl s1)) (O : pm_ok lv st h.1) : pm_Ok2 (pc, lv, st, h) s1 := by
  simp only [pm_do] at hs
  split at hs
  · cases hs
    exact pk_st O (pk_c (pm_okv_long _ _) (pk_t1 O.2.1))
  · cases hs
theorem pr_l2i {sc : pm_Sc} {nL rk : Nat} {np mc rkOf : Nat → Nat} {res : List Nat} {pc : Nat} {lv : pm_L} {st : List Value} {h : pm_H} {s1 : pm_S}  (hs : pm_do sc nL rk np mc rkOf (.l2i) res pc lv st h = some (.inl s1)) (O : pm_ok lv st h.1) : pm_Ok2 (pc, lv, st, h) s1 := by
  simp only [pm_do] at hs
  split at hs
  · cases hs
    exact pk_st O (pk_c (pm_okv_int _ _) (pk_t1 O.2.1))
  · cases hs
theorem pr_lcmp {sc : pm_Sc} {nL rk : Nat} {np mc rkOf : Nat → Nat} {res : List Nat} {pc : Nat} {lv : pm_L} {st : List Value} {h : pm_H} {s1 : pm_S}  (hs : pm_do sc nL rk np mc rkOf (.lcmp) res pc lv st h = some (.inl s1)) (O : pm_ok lv st h.1) : pm_Ok2 (pc, lv, st, h) s1 := by
  simp only [pm_do] at hs
  split at hs
  · cases hs
    exact pk_st O (pk_c (pm_okv_int _ _) (pk_t2 O.2.1))
  · cases hs
theorem pr_irem {sc : pm_Sc} {nL rk : Nat} {np mc rkOf : Nat → Nat} {res : List Nat} {pc : Nat} {lv : pm_L} {st : List Value} {h : pm_H} {s1 : pm_S}  (hs : pm_do sc nL rk np mc rkOf (.irem) res pc lv st h = some (.inl s1)) (O : pm_ok lv st h.1) : pm_Ok2 (pc, lv, st, h) s1 := by
  simp only [pm_do] at hs
  split at hs
  · split at hs
    · cases hs
    · next hne => cases hs; exact pk_st O (pk_c (pm_okv_int _ _) (pk_t2 O.2.1))
  · cases hs
theorem pr_ldc_w {sc : pm_Sc} {nL rk : Nat} {np mc rkOf : Nat → Nat} {res : List Nat} {pc : Nat} {lv : pm_L} {st : List Value} {h : pm_H} {s1 : pm_S} {i : Nat}  (hs : pm_do sc nL rk np mc rkOf (.ldc_w i) res pc lv st h = some (.inl s1)) (O : pm_ok lv st h.1) : pm_Ok2 (pc, lv, st, h) s1 := by
  simp only [pm_do] at hs
  split at hs
  · cases hs
    exact pk_st O (pk_c (pm_okv_int _ _) O.2.1)
  · cases hs
theorem pr_ldc2_w {sc : pm_Sc} {nL rk : Nat} {np mc rkOf : Nat → Nat} {res : List Nat} {pc : Nat} {lv : pm_L} {st : List Value} {h : pm_H} {s1 : pm_S} {i : Nat}  (hs : pm_do sc nL rk np mc rkOf (.ldc2_w i) res pc lv st h = some (.inl s1)) (O : pm_ok lv st h.1) : pm_Ok2 (pc, lv, st, h) s1 := by
  simp only [pm_do] at hs
  split at hs
  · cases hs
    exact pk_st O (pk_c (pm_okv_long _ _) O.2.1)
  · cases hs
theorem pr_iload_n {sc : pm_Sc} {nL rk : Nat} {np mc rkOf : Nat → Nat} {res : List Nat} {pc : Nat} {lv : pm_L} {st : List Value} {h : pm_H} {s1 : pm_S} {k : Fin 4}  (hs : pm_do sc nL rk np mc rkOf (.iload_n k) res pc lv st h = some (.inl s1)) (O : pm_ok lv st h.1) : pm_Ok2 (pc, lv, st, h) s1 := by
  simp only [pm_do] at hs
  split at hs
  · next x hl => cases hs; exact pk_st O (pk_c (pm_okv_int _ _) O.2.1)
  · cases hs
theorem pr_iload {sc : pm_Sc} {nL rk : Nat} {np mc rkOf : Nat → Nat} {res : List Nat} {pc : Nat} {lv : pm_L} {st : List Value} {h : pm_H} {s1 : pm_S} {k : Nat}  (hs : pm_do sc nL rk np mc rkOf (.iload k) res pc lv st h = some (.inl s1)) (O : pm_ok lv st h.1) : pm_Ok2 (pc, lv, st, h) s1 := by
  simp only [pm_do] at hs
  split at hs
  · next x hl => cases hs; exact pk_st O (pk_c (pm_okv_int _ _) O.2.1)
  · cases hs
theorem pr_lload_n {sc : pm_Sc} {nL rk : Nat} {np mc rkOf : Nat → Nat} {res : List Nat} {pc : Nat} {lv : pm_L} {st : List Value} {h : pm_H} {s1 : pm_S} {k : Fin 4}  (hs : pm_do sc nL rk np mc rkOf (.lload_n k) res pc lv st h = some (.inl s1)) (O : pm_ok lv st h.1) : pm_Ok2 (pc, lv, st, h) s1 := by
  simp only [pm_do] at hs
  split at hs
  · next x hl => cases hs; exact pk_st O (pk_c (pm_okv_long _ _) O.2.1)
  · cases hs
theorem pr_lload {sc : pm_Sc} {nL rk : Nat} {np mc rkOf : Nat → Nat} {res : List Nat} {pc : Nat} {lv : pm_L} {st : List Value} {h : pm_H} {s1 : pm_S} {k : Nat}  (hs : pm_do sc nL rk np mc rkOf (.lload k) res pc lv st h = some (.inl s1)) (O : pm_ok lv st h.1) : pm_Ok2 (pc, lv, st, h) s1 := by
  simp only [pm_do] at hs
  split at hs
  · next x hl => cases hs; exact pk_st O (pk_c (pm_okv_long _ _) O.2.1)
  · cases hs
theorem pr_aload_n {sc : pm_Sc} {nL rk : Nat} {np mc rkOf : Nat → Nat} {res : List Nat} {pc : Nat} {lv : pm_L} {st : List Value} {h : pm_H} {s1 : pm_S} {k : Fin 4}  (hs : pm_do sc nL rk np mc rkOf (.aload_n k) res pc lv st h = some (.inl s1)) (O : pm_ok lv st h.1) : pm_Ok2 (pc, lv, st, h) s1 := by
  simp only [pm_do] at hs
  split at hs
  · next x hl => cases hs; exact pk_st O (pk_c (O.1 _ (pm_ld_mem hl)) O.2.1)
  · next hl => cases hs; exact pk_st O (pk_c (pm_okv_null _) O.2.1)
  · next x hl => cases hs; exact pk_st O (pk_c (pm_okv_ra _ _) O.2.1)
  · cases hs
theorem pr_aload {sc : pm_Sc} {nL rk : Nat} {np mc rkOf : Nat → Nat} {res : List Nat} {pc : Nat} {lv : pm_L} {st : List Value} {h : pm_H} {s1 : pm_S} {k : Nat}  (hs : pm_do sc nL rk np mc rkOf (.aload k) res pc lv st h = some (.inl s1)) (O : pm_ok lv st h.1) : pm_Ok2 (pc, lv, st, h) s1 := by
  simp only [pm_do] at hs
  split at hs
  · next x hl => cases hs; exact pk_st O (pk_c (O.1 _ (pm_ld_mem hl)) O.2.1)
  · next hl => cases hs; exact pk_st O (pk_c (pm_okv_null _) O.2.1)
  · next x hl => cases hs; exact pk_st O (pk_c (pm_okv_ra _ _) O.2.1)
  · cases hs
theorem pr_istore_n {sc : pm_Sc} {nL rk : Nat} {np mc rkOf : Nat → Nat} {res : List Nat} {pc : Nat} {lv : pm_L} {st : List Value} {h : pm_H} {s1 : pm_S} {k : Fin 4}  (hs : pm_do sc nL rk np mc rkOf (.istore_n k) res pc lv st h = some (.inl s1)) (O : pm_ok lv st h.1) : pm_Ok2 (pc, lv, st, h) s1 := by
  simp only [pm_do] at hs
  split at hs
  · split at hs
    · next hk => cases hs; exact pk_lv O (pm_s1_ok O.1 (pm_okv_int _ _)) (pk_t1 O.2.1)
    · cases hs
  · cases hs
theorem pr_istore {sc : pm_Sc} {nL rk : Nat} {np mc rkOf : Nat → Nat} {res : List Nat} {pc : Nat} {lv : pm_L} {st : List Value} {h : pm_H} {s1 : pm_S} {k : Nat}  (hs : pm_do sc nL rk np mc rkOf (.istore k) res pc lv st h = some (.inl s1)) (O : pm_ok lv st h.1) : pm_Ok2 (pc, lv, st, h) s1 := by
  simp only [pm_do] at hs
  split at hs
  · split at hs
    · next hk => cases hs; exact pk_lv O (pm_s1_ok O.1 (pm_okv_int _ _)) (pk_t1 O.2.1)
    · cases hs
  · cases hs
theorem pr_lstore_n {sc : pm_Sc} {nL rk : Nat} {np mc rkOf : Nat → Nat} {res : List Nat} {pc : Nat} {lv : pm_L} {st : List Value} {h : pm_H} {s1 : pm_S} {k : Fin 4}  (hs : pm_do sc nL rk np mc rkOf (.lstore_n k) res pc lv st h = some (.inl s1)) (O : pm_ok lv st h.1) : pm_Ok2 (pc, lv, st, h) s1 := by
  simp only [pm_do] at hs
  split at hs
  · split at hs
    · next hk => cases hs; exact pk_lv O (pm_s2_ok O.1 (pm_okv_long _ _)) (pk_t1 O.2.1)
    · cases hs
  · cases hs
theorem pr_lstore {sc : pm_Sc} {nL rk : Nat} {np mc rkOf : Nat → Nat} {res : List Nat} {pc : Nat} {lv : pm_L} {st : List Value} {h : pm_H} {s1 : pm_S} {k : Nat}  (hs : pm_do sc nL rk np mc rkOf (.lstore k) res pc lv st h = some (.inl s1)) (O : pm_ok lv st h.1) : pm_Ok2 (pc, lv, st, h) s1 := by
  simp only [pm_do] at hs
  split at hs
  · split at hs
    · next hk => cases hs; exact pk_lv O (pm_s2_ok O.1 (pm_okv_long _ _)) (pk_t1 O.2.1)
    · cases hs
  · cases hs
theorem pr_astore_n {sc : pm_Sc} {nL rk : Nat} {np mc rkOf : Nat → Nat} {res : List Nat} {pc : Nat} {lv : pm_L} {st : List Value} {h : pm_H} {s1 : pm_S} {k : Fin 4}  (hs : pm_do sc nL rk np mc rkOf (.astore_n k) res pc lv st h = some (.inl s1)) (O : pm_ok lv st h.1) : pm_Ok2 (pc, lv, st, h) s1 := by
  simp only [pm_do] at hs
  split at hs
  · split at hs
    · next hk => cases hs; exact pk_lv O (pm_s1_ok O.1 (pk_h O.2.1)) (pk_t1 O.2.1)
    · cases hs
  · split at hs
    · next hk => cases hs; exact pk_lv O (pm_s1_ok O.1 (pm_okv_null _)) (pk_t1 O.2.1)
    · cases hs
  · cases hs
theorem pr_astore {sc : pm_Sc} {nL rk : Nat} {np mc rkOf : Nat → Nat} {res : List Nat} {pc : Nat} {lv : pm_L} {st : List Value} {h : pm_H} {s1 : pm_S} {k : Nat}  (hs : pm_do sc nL rk np mc rkOf (.astore k) res pc lv st h = some (.inl s1)) (O : pm_ok lv st h.1) : pm_Ok2 (pc, lv, st, h) s1 := by
  simp only [pm_do] at hs
  split at hs
  · split at hs
    · next hk => cases hs; exact pk_lv O (pm_s1_ok O.1 (pk_h O.2.1)) (pk_t1 O.2.1)
    · cases hs
  · split at hs
    · next hk => cases hs; exact pk_lv O (pm_s1_ok O.1 (pm_okv_null _)) (pk_t1 O.2.1)
    · cases hs
  · cases hs
theorem pr_iinc {sc : pm_Sc} {nL rk : Nat} {np mc rkOf : Nat → Nat} {res : List Nat} {pc : Nat} {lv : pm_L} {st : List Value} {h : pm_H} {s1 : pm_S} {k : Nat} {n : Int}  (hs : pm_do sc nL rk np mc rkOf (.iinc k n) res pc lv st h = some (.inl s1)) (O : pm_ok lv st h.1) : pm_Ok2 (pc, lv, st, h) s1 := by
  simp only [pm_do] at hs
  split at hs
  · next x hl =>
    split at hs
    · next hk => cases hs; exact pk_lv O (pm_s1_ok O.1 (pm_okv_int _ _)) O.2.1
    · cases hs
  · cases hs
theorem pr_dup {sc : pm_Sc} {nL rk : Nat} {np mc rkOf : Nat → Nat} {res : List Nat} {pc : Nat} {lv : pm_L} {st : List Value} {h : pm_H} {s1 : pm_S}  (hs : pm_do sc nL rk np mc rkOf (.dup) res pc lv st h = some (.inl s1)) (O : pm_ok lv st h.1) : pm_Ok2 (pc, lv, st, h) s1 := by
  simp only [pm_do] at hs
  split at hs
  · split at hs
    · next hk => cases hs; exact pk_st O (pk_c (pk_h O.2.1) O.2.1)
    · cases hs
  · cases hs
theorem pr_pop {sc : pm_Sc} {nL rk : Nat} {np mc rkOf : Nat → Nat} {res : List Nat} {pc : Nat} {lv : pm_L} {st : List Value} {h : pm_H} {s1 : pm_S}  (hs : pm_do sc nL rk np mc rkOf (.pop) res pc lv st h = some (.inl s1)) (O : pm_ok lv st h.1) : pm_Ok2 (pc, lv, st, h) s1 := by
  simp only [pm_do] at hs
  split at hs
  · split at hs
    · next hk => cases hs; exact pk_st O (pk_t1 O.2.1)
    · cases hs
  · cases hs
theorem pr_dup2 {sc : pm_Sc} {nL rk : Nat} {np mc rkOf : Nat → Nat} {res : List Nat} {pc : Nat} {lv : pm_L} {st : List Value} {h : pm_H} {s1 : pm_S}  (hs : pm_do sc nL rk np mc rkOf (.dup2) res pc lv st h = some (.inl s1)) (O : pm_ok lv st h.1) : pm_Ok2 (pc, lv, st, h) s1 := by
  simp only [pm_do] at hs
  split at hs
  · split at hs
    · next hk => cases hs; exact pk_st O (pk_c (pk_h O.2.1) (pk_c (pk_h (pk_t1 O.2.1)) O.2.1))
    · cases hs
  · cases hs
theorem pr_goto {sc : pm_Sc} {nL rk : Nat} {np mc rkOf : Nat → Nat} {res : List Nat} {pc : Nat} {lv : pm_L} {st : List Value} {h : pm_H} {s1 : pm_S} {off : Int}  (hs : pm_do sc nL rk np mc rkOf (.goto off) res pc lv st h = some (.inl s1)) (O : pm_ok lv st h.1) : pm_Ok2 (pc, lv, st, h) s1 := by
  simp only [pm_do] at hs
  split at hs
  · next t ht => cases hs; exact pk_st O O.2.1
  · cases hs
theorem pr_ifCond {sc : pm_Sc} {nL rk : Nat} {np mc rkOf : Nat → Nat} {res : List Nat} {pc : Nat} {lv : pm_L} {st : List Value} {h : pm_H} {s1 : pm_S} {q : ClassFile.Cond} {off : Int}  (hs : pm_do sc nL rk np mc rkOf (.ifCond q off) res pc lv st h = some (.inl s1)) (O : pm_ok lv st h.1) : pm_Ok2 (pc, lv, st, h) s1 := by
  simp only [pm_do] at hs
  split at hs
  · next ht => cases hs; exact pk_st O (pk_t1 O.2.1)
  · cases hs
theorem pr_if_icmp {sc : pm_Sc} {nL rk : Nat} {np mc rkOf : Nat → Nat} {res : List Nat} {pc : Nat} {lv : pm_L} {st : List Value} {h : pm_H} {s1 : pm_S} {q : ClassFile.Cond} {off : Int}  (hs : pm_do sc nL rk np mc rkOf (.if_icmp q off) res pc lv st h = some (.inl s1)) (O : pm_ok lv st h.1) : pm_Ok2 (pc, lv, st, h) s1 := by
  simp only [pm_do] at hs
  split at hs
  · next ht => cases hs; exact pk_st O (pk_t2 O.2.1)
  · cases hs
theorem pr_ifnull {sc : pm_Sc} {nL rk : Nat} {np mc rkOf : Nat → Nat} {res : List Nat} {pc : Nat} {lv : pm_L} {st : List Value} {h : pm_H} {s1 : pm_S} {off : Int}  (hs : pm_do sc nL rk np mc rkOf (.ifnull off) res pc lv st h = some (.inl s1)) (O : pm_ok lv st h.1) : pm_Ok2 (pc, lv, st, h) s1 := by
  simp only [pm_do] at hs
  split at hs
  · next ht => cases hs; exact pk_st O (pk_t1 O.2.1)
  · next ht => cases hs; exact pk_st O (pk_t1 O.2.1)
  · cases hs
theorem pr_ifnonnull {sc : pm_Sc} {nL rk : Nat} {np mc rkOf : Nat → Nat} {res : List Nat} {pc : Nat} {lv : pm_L} {st : List Value} {h : pm_H} {s1 : pm_S} {off : Int}  (hs : pm_do sc nL rk np mc rkOf (.ifnonnull off) res pc lv st h = some (.inl s1)) (O : pm_ok lv st h.1) : pm_Ok2 (pc, lv, st, h) s1 := by
  simp only [pm_do] at hs
  split at hs
  · next ht => cases hs; exact pk_st O (pk_t1 O.2.1)
  · next ht => cases hs; exact pk_st O (pk_t1 O.2.1)
  · cases hs
theorem pr_tableswitch {sc : pm_Sc} {nL rk : Nat} {np mc rkOf : Nat → Nat} {res : List Nat} {pc : Nat} {lv : pm_L} {st : List Value} {h : pm_H} {s1 : pm_S} {d lo hi : Int} {offs : Array Int}  (hs : pm_do sc nL rk np mc rkOf (.tableswitch d lo hi offs) res pc lv st h = some (.inl s1)) (O : pm_ok lv st h.1) : pm_Ok2 (pc, lv, st, h) s1 := by
  simp only [pm_do] at hs
  split at hs
  · split at hs
    · next hr =>
      split at hs
      · next ht => cases hs; exact pk_st O (pk_t1 O.2.1)
      · cases hs
    · next hr =>
      split at hs
      · next ho =>
        split at hs
        · next ht => cases hs; exact pk_st O (pk_t1 O.2.1)
        · cases hs
      · cases hs
  · cases hs
theorem pr_getfield {sc : pm_Sc} {nL rk : Nat} {np mc rkOf : Nat → Nat} {res : List Nat} {pc : Nat} {lv : pm_L} {st : List Value} {h : pm_H} {s1 : pm_S} {i : Nat}  (hs : pm_do sc nL rk np mc rkOf (.getfield i) res pc lv st h = some (.inl s1)) (O : pm_ok lv st h.1) : pm_Ok2 (pc, lv, st, h) s1 := by
  simp only [pm_do] at hs
  split at hs
  · next ci k lk q r =>
    split at hs
    · next c0 fs hq =>
      split at hs
      · split at hs
        · next v hv =>
          cases hs
          exact pk_st O (pk_c (pk_cell (c := .inr (c0, fs)) O.2.2 hq hv) (pk_t1 O.2.1))
        · cases hs
      · cases hs
    · cases hs
  · cases hs
theorem pr_putfield {sc : pm_Sc} {nL rk : Nat} {np mc rkOf : Nat → Nat} {res : List Nat} {pc : Nat} {lv : pm_L} {st : List Value} {h : pm_H} {s1 : pm_S} {i : Nat}  (hs : pm_do sc nL rk np mc rkOf (.putfield i) res pc lv st h = some (.inl s1)) (O : pm_ok lv st h.1) : pm_Ok2 (pc, lv, st, h) s1 := by
  simp only [pm_do] at hs
  split at hs
  · next ci k lk v q r =>
    split at hs
    · next c0 fs hq =>
      split at hs
      · cases hs
        exact pk_set O (pk_t2 O.2.1) (pk_vset (fun w hw => O.2.2 _ (List.mem_of_getElem? hq) w hw) (pk_h O.2.1))
      · cases hs
    · cases hs
  · cases hs
theorem pr_arraylength {sc : pm_Sc} {nL rk : Nat} {np mc rkOf : Nat → Nat} {res : List Nat} {pc : Nat} {lv : pm_L} {st : List Value} {h : pm_H} {s1 : pm_S}  (hs : pm_do sc nL rk np mc rkOf (.arraylength) res pc lv st h = some (.inl s1)) (O : pm_ok lv st h.1) : pm_Ok2 (pc, lv, st, h) s1 := by
  simp only [pm_do] at hs
  split at hs
  · split at hs
    · next t vs hq =>
      split at hs
      · next ht =>
        cases hs
        exact pk_st O (pk_c (pm_okv_int _ _) (pk_t1 O.2.1))
      · cases hs
    · cases hs
  · cases hs
    exact pk_st O (pk_c (pm_okv_int _ _) (pk_t1 O.2.1))
  · cases hs
theorem pr_iaload {sc : pm_Sc} {nL rk : Nat} {np mc rkOf : Nat → Nat} {res : List Nat} {pc : Nat} {lv : pm_L} {st : List Value} {h : pm_H} {s1 : pm_S}  (hs : pm_do sc nL rk np mc rkOf (.iaload) res pc lv st h = some (.inl s1)) (O : pm_ok lv st h.1) : pm_Ok2 (pc, lv, st, h) s1 := by
  simp only [pm_do] at hs
  split at hs
  · split at hs
    · next hq =>
      split at hs
      · cases hs
      · next hi =>
        split at hs
        · next x hv => cases hs; exact pk_st O (pk_c (pm_okv_int _ _) (pk_t2 O.2.1))
        · cases hs
    · cases hs
  · split at hs
    · next hi => cases hs; exact pk_st O (pk_c (pm_okv_int _ _) (pk_t2 O.2.1))
    · cases hs
  · cases hs
theorem pr_laload {sc : pm_Sc} {nL rk : Nat} {np mc rkOf : Nat → Nat} {res : List Nat} {pc : Nat} {lv : pm_L} {st : List Value} {h : pm_H} {s1 : pm_S}  (hs : pm_do sc nL rk np mc rkOf (.laload) res pc lv st h = some (.inl s1)) (O : pm_ok lv st h.1) : pm_Ok2 (pc, lv, st, h) s1 := by
  simp only [pm_do] at hs
  split at hs
  · split at hs
    · next hq =>
      split at hs
      · cases hs
      · next hi =>
        split at hs
        · next x hv => cases hs; exact pk_st O (pk_c (pm_okv_long _ _) (pk_t2 O.2.1))
        · cases hs
    · cases hs
  · cases hs
theorem pr_baload {sc : pm_Sc} {nL rk : Nat} {np mc rkOf : Nat → Nat} {res : List Nat} {pc : Nat} {lv : pm_L} {st : List Value} {h : pm_H} {s1 : pm_S}  (hs : pm_do sc nL rk np mc rkOf (.baload) res pc lv st h = some (.inl s1)) (O : pm_ok lv st h.1) : pm_Ok2 (pc, lv, st, h) s1 := by
  simp only [pm_do] at hs
  split at hs
  · split at hs
    · next hq =>
      split at hs
      · cases hs
      · next hi =>
        split at hs
        · next x hv => cases hs; exact pk_st O (pk_c (pm_okv_int _ _) (pk_t2 O.2.1))
        · cases hs
    · cases hs
  · cases hs
theorem pr_aaload {sc : pm_Sc} {nL rk : Nat} {np mc rkOf : Nat → Nat} {res : List Nat} {pc : Nat} {lv : pm_L} {st : List Value} {h : pm_H} {s1 : pm_S}  (hs : pm_do sc nL rk np mc rkOf (.aaload) res pc lv st h = some (.inl s1)) (O : pm_ok lv st h.1) : pm_Ok2 (pc, lv, st, h) s1 := by
  simp only [pm_do] at hs
  split at hs
  · split at hs
    · next t vs hq =>
      split at hs
      · cases hs
      · next hi =>
        have h3 : 3 ≤ t := by omega
        split at hs
        · next x hv => cases hs; exact pk_st O (pk_c (pk_cell (c := .inl (t, vs)) O.2.2 hq hv) (pk_t2 O.2.1))
        · next hv => cases hs; exact pk_st O (pk_c (pm_okv_null _) (pk_t2 O.2.1))
        · cases hs
    · cases hs
  · cases hs
theorem pr_iastore {sc : pm_Sc} {nL rk : Nat} {np mc rkOf : Nat → Nat} {res : List Nat} {pc : Nat} {lv : pm_L} {st : List Value} {h : pm_H} {s1 : pm_S}  (hs : pm_do sc nL rk np mc rkOf (.iastore) res pc lv st h = some (.inl s1)) (O : pm_ok lv st h.1) : pm_Ok2 (pc, lv, st, h) s1 := by
  simp only [pm_do] at hs
  split at hs
  · split at hs
    · next vs hq =>
      split at hs
      · next hi =>
        cases hs
        exact pk_set O (pk_t3 O.2.1) (pk_vset (fun w hw => O.2.2 _ (List.mem_of_getElem? hq) w hw) (pm_okv_int _ _))
      · cases hs
    · cases hs
  · cases hs
theorem pr_lastore {sc : pm_Sc} {nL rk : Nat} {np mc rkOf : Nat → Nat} {res : List Nat} {pc : Nat} {lv : pm_L} {st : List Value} {h : pm_H} {s1 : pm_S}  (hs : pm_do sc nL rk np mc rkOf (.lastore) res pc lv st h = some (.inl s1)) (O : pm_ok lv st h.1) : pm_Ok2 (pc, lv, st, h) s1 := by
  simp only [pm_do] at hs
  split at hs
  · split at hs
    · next vs hq =>
      split at hs
      · next hi =>
        cases hs
        exact pk_set O (pk_t3 O.2.1) (pk_vset (fun w hw => O.2.2 _ (List.mem_of_getElem? hq) w hw) (pm_okv_long _ _))
      · cases hs
    · cases hs
  · cases hs
theorem pr_bastore {sc : pm_Sc} {nL rk : Nat} {np mc rkOf : Nat → Nat} {res : List Nat} {pc : Nat} {lv : pm_L} {st : List Value} {h : pm_H} {s1 : pm_S}  (hs : pm_do sc nL rk np mc rkOf (.bastore) res pc lv st h = some (.inl s1)) (O : pm_ok lv st h.1) : pm_Ok2 (pc, lv, st, h) s1 := by
  simp only [pm_do] at hs
  split at hs
  · split at hs
    · next vs hq =>
      split at hs
      · next hi =>
        cases hs
        exact pk_set O (pk_t3 O.2.1) (pk_vset (fun w hw => O.2.2 _ (List.mem_of_getElem? hq) w hw) (pm_okv_int _ _))
      · cases hs
    · cases hs
  · cases hs
theorem pr_aastore {sc : pm_Sc} {nL rk : Nat} {np mc rkOf : Nat → Nat} {res : List Nat} {pc : Nat} {lv : pm_L} {st : List Value} {h : pm_H} {s1 : pm_S}  (hs : pm_do sc nL rk np mc rkOf (.aastore) res pc lv st h = some (.inl s1)) (O : pm_ok lv st h.1) : pm_Ok2 (pc, lv, st, h) s1 := by
  simp only [pm_do] at hs
  split at hs
  · split at hs
    · next t vs c0 ws hq hw =>
      split at hs
      · next hi =>
        obtain ⟨i1, i2, h3, h6, rfl⟩ := hi
        cases hs
        exact pk_set O (pk_t3 O.2.1) (pk_vset (fun w hw => O.2.2 _ (List.mem_of_getElem? hq) w hw) (pk_h O.2.1))
      · cases hs
    · cases hs
  · split at hs
    · next t vs hq =>
      split at hs
      · next hi =>
        obtain ⟨i1, i2, h3, h6⟩ := hi
        cases hs
        exact pk_set O (pk_t3 O.2.1) (pk_vset (fun w hw => O.2.2 _ (List.mem_of_getElem? hq) w hw) (pm_okv_null _))
      · cases hs
    · cases hs
  · cases hs
theorem pr_new {sc : pm_Sc} {nL rk : Nat} {np mc rkOf : Nat → Nat} {res : List Nat} {pc : Nat} {lv : pm_L} {st : List Value} {h : pm_H} {s1 : pm_S} {i : Nat}  (hs : pm_do sc nL rk np mc rkOf (.new i) res pc lv st h = some (.inl s1)) (O : pm_ok lv st h.1) : pm_Ok2 (pc, lv, st, h) s1 := by
  simp only [pm_do] at hs
  split at hs
  · next ci =>
    split at hs
    · cases hs
      exact pk_new O O.2.1 (pk_df ci)
    · cases hs
  · cases hs
theorem pr_newarray {sc : pm_Sc} {nL rk : Nat} {np mc rkOf : Nat → Nat} {res : List Nat} {pc : Nat} {lv : pm_L} {st : List Value} {h : pm_H} {s1 : pm_S} {a : ArrayType}  (hs : pm_do sc nL rk np mc rkOf (.newarray a) res pc lv st h = some (.inl s1)) (O : pm_ok lv st h.1) : pm_Ok2 (pc, lv, st, h) s1 := by
  simp only [pm_do] at hs
  split at hs
  · split at hs
    · next hi =>
      cases hs
      rcases hi.1 with ⟨rfl, rfl⟩ | ⟨rfl, rfl⟩ | ⟨rfl, rfl⟩
      · exact pk_new O (pk_t1 O.2.1) (pk_rep (pm_okv_int _ _))
      · exact pk_new O (pk_t1 O.2.1) (pk_rep (pm_okv_long _ _))
      · exact pk_new O (pk_t1 O.2.1) (pk_rep (pm_okv_int _ _))
    · cases hs
  · cases hs
theorem pr_anewarray {sc : pm_Sc} {nL rk : Nat} {np mc rkOf : Nat → Nat} {res : List Nat} {pc : Nat} {lv : pm_L} {st : List Value} {h : pm_H} {s1 : pm_S} {i : Nat}  (hs : pm_do sc nL rk np mc rkOf (.anewarray i) res pc lv st h = some (.inl s1)) (O : pm_ok lv st h.1) : pm_Ok2 (pc, lv, st, h) s1 := by
  simp only [pm_do] at hs
  split at hs
  · split at hs
    · cases hs
      exact pk_new O (pk_t1 O.2.1) (pk_rep (pm_okv_null _))
    · cases hs
  · cases hs
theorem pr_invokespecial {sc : pm_Sc} {nL rk : Nat} {np mc rkOf : Nat → Nat} {res : List Nat} {pc : Nat} {lv : pm_L} {st : List Value} {h : pm_H} {s1 : pm_S} {i : Nat}  (hs : pm_do sc nL rk np mc rkOf (.invokespecial i) res pc lv st h = some (.inl s1)) (O : pm_ok lv st h.1) : pm_Ok2 (pc, lv, st, h) s1 := by
  simp only [pm_do] at hs
  split at hs
  · split at hs
    · next hk =>
      subst hk
      split at hs
      · split at hs
        · next hi =>
          cases hs
          exact pk_st O (pk_t1 O.2.1)
        · cases hs
      · cases hs
    · split at hs
      · split at hs
        · split at hs
          · cases hs
          · cases hs
        · cases hs
      · cases hs
  · cases hs
theorem pr_invokestatic {sc : pm_Sc} {nL rk : Nat} {np mc rkOf : Nat → Nat} {res : List Nat} {pc : Nat} {lv : pm_L} {st : List Value} {h : pm_H} {s1 : pm_S} {i : Nat}  (hs : pm_do sc nL rk np mc rkOf (.invokestatic i) res pc lv st h = some (.inl s1)) (O : pm_ok lv st h.1) : pm_Ok2 (pc, lv, st, h) s1 := by
  simp only [pm_do] at hs
  split at hs
  · split at hs
    · next hk =>
      subst hk
      split at hs
      · split at hs
        · next hi =>
          cases hs
          exact pk_st O (pk_c (pm_okv_int _ _) (pk_t2 O.2.1))
        · cases hs
      · cases hs
    · split at hs
      · next hk =>
        subst hk
        split at hs
        · split at hs
          · next vs ws hq hw =>
            split at hs
            · next hi =>
              obtain ⟨i1, i2, i3, i4, i5, i6, i7⟩ := hi
              cases hs
              exact pk_set O (pk_t5 O.2.1) (pk_cpy (fun v hv => O.2.2 _ (List.mem_of_getElem? hq) v hv) (fun v hv => O.2.2 _ (List.mem_of_getElem? hw) v hv))
            · cases hs
          · cases hs
        · cases hs
      · split at hs
        · split at hs
          · cases hs
          · cases hs
        · cases hs
  · cases hs
theorem pm_do_ok {sc : pm_Sc} {nL rk : Nat} {np mc rkOf : Nat → Nat} {res : List Nat} {pc : Nat} {lv : pm_L} {st : List Value} {h : pm_H} {s1 : pm_S} {ins : Instr} (hs : pm_do sc nL rk np mc rkOf ins res pc lv st h = some (.inl s1)) (O : pm_ok lv st h.1) : pm_Ok2 (pc, lv, st, h) s1 := by
  cases ins
  case aconst_null => exact pr_aconst_null hs O
  case iconst => exact pr_iconst hs O
  case bipush => exact pr_bipush hs O
  case sipush => exact pr_sipush hs O
  case lconst => exact pr_lconst hs O
  case iadd => exact pr_iadd hs O
  case isub => exact pr_isub hs O
  case imul => exact pr_imul hs O
  case iand => exact pr_iand hs O
  case ior => exact pr_ior hs O
  case ixor => exact pr_ixor hs O
  case ishl => exact pr_ishl hs O
  case ishr => exact pr_ishr hs O
  case iushr => exact pr_iushr hs O
  case lsub => exact pr_lsub hs O
  case land => exact pr_land hs O
  case lor => exact pr_lor hs O
  case lshl => exact pr_lshl hs O
  case lshr => exact pr_lshr hs O
  case i2l => exact pr_i2l hs O
  case l2i => exact pr_l2i hs O
  case lcmp => exact pr_lcmp hs O
  case irem => exact pr_irem hs O
  case ldc_w => exact pr_ldc_w hs O
  case ldc2_w => exact pr_ldc2_w hs O
  case iload_n => exact pr_iload_n hs O
  case iload => exact pr_iload hs O
  case lload_n => exact pr_lload_n hs O
  case lload => exact pr_lload hs O
  case aload_n => exact pr_aload_n hs O
  case aload => exact pr_aload hs O
  case istore_n => exact pr_istore_n hs O
  case istore => exact pr_istore hs O
  case lstore_n => exact pr_lstore_n hs O
  case lstore => exact pr_lstore hs O
  case astore_n => exact pr_astore_n hs O
  case astore => exact pr_astore hs O
  case iinc => exact pr_iinc hs O
  case dup => exact pr_dup hs O
  case pop => exact pr_pop hs O
  case dup2 => exact pr_dup2 hs O
  case goto => exact pr_goto hs O
  case ifCond => exact pr_ifCond hs O
  case if_icmp => exact pr_if_icmp hs O
  case ifnull => exact pr_ifnull hs O
  case ifnonnull => exact pr_ifnonnull hs O
  case tableswitch => exact pr_tableswitch hs O
  case getfield => exact pr_getfield hs O
  case putfield => exact pr_putfield hs O
  case arraylength => exact pr_arraylength hs O
  case iaload => exact pr_iaload hs O
  case laload => exact pr_laload hs O
  case baload => exact pr_baload hs O
  case aaload => exact pr_aaload hs O
  case iastore => exact pr_iastore hs O
  case lastore => exact pr_lastore hs O
  case bastore => exact pr_bastore hs O
  case aastore => exact pr_aastore hs O
  case new => exact pr_new hs O
  case newarray => exact pr_newarray hs O
  case anewarray => exact pr_anewarray hs O
  case invokespecial => exact pr_invokespecial hs O
  case invokestatic => exact pr_invokestatic hs O
  case invokevirtual =>
    simp only [pm_do] at hs
    split at hs
    · split at hs
      · split at hs
        · split at hs
          · split at hs
            · cases hs
            · cases hs
          · cases hs
        · cases hs
      · cases hs
    · cases hs
  all_goals (exact absurd hs (by simp [pm_do]))
/-- a call takes its arguments, and the rest, from the stack -/
theorem pm_do_call {sc : pm_Sc} {nL rk : Nat} {np mc rkOf : Nat → Nat} {ins : Instr} {res : List Nat} {pc : Nat} {lv : pm_L} {st : List Value} {h : pm_H} {k : pm_K} (hs : pm_do sc nL rk np mc rkOf ins res pc lv st h = some (.inr k)) :
    (∃ (i : Nat) (b : Nat) (c : Nat) (fs : List Value) (kd : Nat), ins = .invokevirtual i ∧ res = [k.1, kd] ∧ kd ≤ 1 ∧ st.drop (np k.1) = .ref b :: k.2.2 ∧ h.1[b]? = some (.inr (c, fs)) ∧ np k.1 < st.length ∧ c = mc k.1 ∧ pm_sum k.2.2 ≤ 12 ∧ rkOf k.1 < rk ∧ k.2.1 = .ref b :: (st.take (np k.1)).reverse) ∨
    (∃ (i : Nat) (b : Nat) (kd : Nat), ins = .invokespecial i ∧ res = [k.1, kd] ∧ (kd = 2 ∨ kd = 3) ∧ st.drop (np k.1) = .ref b :: k.2.2 ∧ np k.1 < st.length ∧ pm_sum k.2.2 ≤ 8 ∧ rkOf k.1 < rk ∧ k.2.1 = .ref b :: (st.take (np k.1)).reverse) ∨
    (∃ (i : Nat) (kd : Nat), ins = .invokestatic i ∧ res = [k.1, kd] ∧ (kd = 4 ∨ kd = 5 ∨ kd = 9) ∧ k.2.2 = st.drop (np k.1) ∧ np k.1 ≤ st.length ∧ pm_sum k.2.2 ≤ 8 ∧ rkOf k.1 < rk ∧ k.2.1 = (st.take (np k.1)).reverse) := by
  cases ins
  case invokevirtual i =>
    simp only [pm_do] at hs
    split at hs
    · split at hs
      · next hkd =>
        split at hs
        · next hdr =>
          split at hs
          · next hc =>
            split at hs
            · next hi =>
              cases hs
              exact Or.inl ⟨i, _, _, _, _, rfl, rfl, hkd, hdr, hc, hi.1, hi.2.1, hi.2.2.1, hi.2.2.2, rfl⟩
            · cases hs
          · cases hs
        · cases hs
      · cases hs
    · cases hs
  case invokespecial i =>
    simp only [pm_do] at hs
    split at hs
    · split at hs
      · split at hs
        · split at hs
          · cases hs
          · cases hs
        · cases hs
      · split at hs
        · next hkd =>
          split at hs
          · next hdr =>
            split at hs
            · next hi =>
              cases hs
              exact Or.inr (Or.inl ⟨i, _, _, rfl, rfl, hkd, hdr, hi.1, hi.2.1, hi.2.2, rfl⟩)
            · cases hs
          · cases hs
        · cases hs
    · cases hs
  case invokestatic i =>
    simp only [pm_do] at hs
    split at hs
    · split at hs
      · split at hs
        · split at hs
          · cases hs
          · cases hs
        · cases hs
      · split at hs
        · split at hs
          · split at hs
            · split at hs
              · cases hs
              · cases hs
            · cases hs
          · cases hs
        · split at hs
          · next hkd =>
            split at hs
            · next hi =>
              cases hs
              exact Or.inr (Or.inr ⟨i, _, rfl, rfl, hkd, rfl, hi.1, hi.2.1, hi.2.2, rfl⟩)
            · cases hs
          · cases hs
    · cases hs
  all_goals (try simp only [pm_do] at hs)
  all_goals (repeat' split at hs)
  all_goals (cases hs)
theorem pm_do_sub {sc : pm_Sc} {nL rk : Nat} {np mc rkOf : Nat → Nat} {ins : Instr} {res : List Nat} {pc : Nat} {lv : pm_L} {st : List Value} {h : pm_H} {k : pm_K} (hs : pm_do sc nL rk np mc rkOf ins res pc lv st h = some (.inr k)) : (∀ v ∈ k.2.1, v ∈ st) ∧ ∀ v ∈ k.2.2, v ∈ st := by
  have tk : ∀ (n : Nat) (v : Value), v ∈ (st.take n).reverse → v ∈ st := fun n v hv => List.mem_of_mem_take (List.mem_reverse.mp hv)
  have dr : ∀ (n : Nat) (v : Value) (l : List Value), st.drop n = l → v ∈ l → v ∈ st := fun n v l e hv => List.mem_of_mem_drop (e ▸ hv)
  rcases pm_do_call hs with ⟨i, b, c, fs, kd, -, -, -, hd, -, -, -, -, -, ha⟩ | ⟨i, b, kd, -, -, -, hd, -, -, -, ha⟩ | ⟨i, kd, -, -, -, hd, -, -, -, ha⟩
  · refine ⟨fun v hv => ?_, fun v hv => dr _ v _ hd (List.mem_cons_of_mem _ hv)⟩
    rw [ha] at hv
    rcases List.mem_cons.mp hv with z | z
    · exact dr _ v _ hd (by rw [z]; exact List.mem_cons_self)
    · exact tk _ v z
  · refine ⟨fun v hv => ?_, fun v hv => dr _ v _ hd (List.mem_cons_of_mem _ hv)⟩
    rw [ha] at hv
    rcases List.mem_cons.mp hv with z | z
    · exact dr _ v _ hd (by rw [z]; exact List.mem_cons_self)
    · exact tk _ v z
  · refine ⟨fun v hv => ?_, fun v hv => dr _ v _ hd.symm hv⟩
    rw [ha] at hv
    exact tk _ v hv
theorem pm_args_mem : ∀ (as : List Value) (k : Nat) (q : Nat × Value), q ∈ lv_args k as → q.2 ∈ as
  | [], k, q, h => by cases h
  | v :: vs, k, q, h => by
    rcases List.mem_cons.mp h with z | z
    · rw [z]; exact List.mem_cons_self
    · exact List.mem_cons_of_mem _ (pm_args_mem vs _ q z)
theorem pm_ret_mem {i : Nat} {o : pm_S} {v : Value} (h : pm_ret i o = some (.inl (some v))) : v ∈ o.2.2.1 := by
  unfold pm_ret at h
  split at h
  · unfold pm_out at h
    split at h
    all_goals (try split at h)
    all_goals (try cases h)
    all_goals (simp [*])
  · cases h
