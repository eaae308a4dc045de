/-! ANY INSTRUCTION that stays in its frame -/
def pm_okS (s : pm_S) : Prop := pm_ok s.2.1 s.2.2.1 s.2.2.2.1
def pm_Ok2 (s0 s1 : pm_S) : Prop := pm_okS s1 ∧ s0.2.2.2.2.1 ≤ s1.2.2.2.2.1 ∧ s0.2.2.2.2.2 ≤ s1.2.2.2.2.2 ∧ s0.2.2.2.1.length ≤ s1.2.2.2.1.length
theorem pk_st {pc pc' : Nat} {lv : pm_L} {st st' : List Value} {h : pm_H} (O : pm_ok lv st h.1) (h1 : ∀ v ∈ st', pm_okv h.1.length v) : pm_Ok2 (pc, lv, st, h) (pc', lv, st', h) := ⟨⟨O.1, h1, O.2.2⟩, Nat.le_refl _, Nat.le_refl _, Nat.le_refl _⟩
theorem pk_lv {pc pc' : Nat} {lv lv' : pm_L} {st st' : List Value} {h : pm_H} (O : pm_ok lv st h.1) (h0 : ∀ q ∈ lv', pm_okv h.1.length q.2) (h1 : ∀ v ∈ st', pm_okv h.1.length v) : pm_Ok2 (pc, lv, st, h) (pc', lv', st', h) := ⟨⟨h0, h1, O.2.2⟩, Nat.le_refl _, Nat.le_refl _, Nat.le_refl _⟩
theorem pk_set {pc pc' : Nat} {lv : pm_L} {st st' : List Value} {h : pm_H} {q : Nat} {c : pm_C} (O : pm_ok lv st h.1) (h1 : ∀ v ∈ st', pm_okv h.1.length v) (hc : ∀ v ∈ pm_vals c, pm_okv h.1.length v) : pm_Ok2 (pc, lv, st, h) (pc', lv, st', (h.1.set q c, h.2)) := by
  refine ⟨⟨?_, ?_, ?_⟩, Nat.le_refl _, Nat.le_refl _, ?_⟩
  · show ∀ q' ∈ lv, pm_okv (h.1.set q c).length q'.2
    rw [List.length_set]; exact O.1
  · show ∀ v ∈ st', pm_okv (h.1.set q c).length v
    rw [List.length_set]; exact h1
  · show ∀ c' ∈ h.1.set q c, ∀ v ∈ pm_vals c', pm_okv (h.1.set q c).length v
    rw [List.length_set]
    intro c' hc'
    rcases List.mem_or_eq_of_mem_set hc' with z | z
    · exact O.2.2 c' z
    · rw [z]; exact hc
  · show h.1.length ≤ (h.1.set q c).length
    rw [List.length_set]; exact Nat.le_refl _
theorem pk_new {pc pc' : Nat} {lv : pm_L} {st st' : List Value} {h : pm_H} {c : pm_C} {k : Nat} (O : pm_ok lv st h.1) (h1 : ∀ v ∈ st', pm_okv h.1.length v) (hc : ∀ v ∈ pm_vals c, pm_okv 0 v) : pm_Ok2 (pc, lv, st, h) (pc', lv, .ref h.1.length :: st', (h.1 ++ [c], h.2.1 + 1, h.2.2 + k)) := by
  have hl : (h.1 ++ [c]).length = h.1.length + 1 := by simp
  refine ⟨⟨?_, ?_, ?_⟩, Nat.le_succ _, Nat.le_add_right _ _, ?_⟩
  · show ∀ q' ∈ lv, pm_okv (h.1 ++ [c]).length q'.2
    exact fun q' hq => pm_okv_mono (by omega) (O.1 q' hq)
  · show ∀ v ∈ Value.ref h.1.length :: st', pm_okv (h.1 ++ [c]).length v
    exact List.forall_mem_cons.mpr ⟨pm_okv_ref (by omega), fun v hv => pm_okv_mono (by omega) (h1 v hv)⟩
  · show ∀ c' ∈ h.1 ++ [c], ∀ v ∈ pm_vals c', pm_okv (h.1 ++ [c]).length v
    intro c' hc' v hv
    rcases List.mem_append.mp hc' with z | z
    · exact pm_okv_mono (by omega) (O.2.2 c' z v hv)
    · rw [List.mem_singleton.mp z] at hv
      exact pm_okv_mono (Nat.zero_le _) (hc v hv)
  · show h.1.length ≤ (h.1 ++ [c]).length
    omega
theorem pk_cell {n : Nat} {cs : List pm_C} (h : ∀ c ∈ cs, ∀ v ∈ pm_vals c, pm_okv n v) {q k : Nat} {c : pm_C} {v : Value} (hq : cs[q]? = some c) (hv : (pm_vals c)[k]? = some v) : pm_okv n v := h c (List.mem_of_getElem? hq) v (List.mem_of_getElem? hv)
theorem pk_vset {n k : Nat} {vs : List Value} {v : Value} (h : ∀ w ∈ vs, pm_okv n w) (hv : pm_okv n v) : ∀ w ∈ vs.set k v, pm_okv n w := by
  intro w hw
  rcases List.mem_or_eq_of_mem_set hw with z | z
  · exact h w z
  · rw [z]; exact hv
theorem pk_rep {n k : Nat} {v : Value} (hv : pm_okv n v) : ∀ w ∈ List.replicate k v, pm_okv n w := fun w hw => by rw [List.eq_of_mem_replicate hw]; exact hv
theorem pk_df (ci : Nat) : ∀ v ∈ pm_df ci, pm_okv 0 v := by
  have e : ∀ v ∈ pm_df ci, ∀ k, v ≠ .ref k := by
    unfold pm_df
    split <;> simp
  intro v hv k hk
  exact absurd hk (e v hv k)
theorem pk_cpy {n sp dp k : Nat} {vs ws : List Value} (h1 : ∀ v ∈ vs, pm_okv n v) (h2 : ∀ v ∈ ws, pm_okv n v) : ∀ v ∈ pm_cpy vs ws sp dp k, pm_okv n v := by
  intro v hv
  obtain ⟨j, -, rfl⟩ := List.mem_map.mp hv
  split
  · exact pm_okv_getD h1 _
  · exact pm_okv_getD h2 _
theorem pk_c {n : Nat} {a : Value} {r : List Value} (ha : pm_okv n a) (h : ∀ v ∈ r, pm_okv n v) : ∀ v ∈ a :: r, pm_okv n v := List.forall_mem_cons.mpr ⟨ha, h⟩
theorem pk_h {n : Nat} {a : Value} {r : List Value} (h : ∀ v ∈ a :: r, pm_okv n v) : pm_okv n a := h a List.mem_cons_self
theorem pk_t1 {n : Nat} {a : Value} {r : List Value} (h : ∀ v ∈ a :: r, pm_okv n v) : ∀ v ∈ r, pm_okv n v := fun v hv => h v (List.mem_cons_of_mem _ hv)
theorem pk_t2 {n : Nat} {a a2 : Value} {r : List Value} (h : ∀ v ∈ a :: a2 :: r, pm_okv n v) : ∀ v ∈ r, pm_okv n v := pk_t1 (pk_t1 h)
theorem pk_t3 {n : Nat} {a a2 a3 : Value} {r : List Value} (h : ∀ v ∈ a :: a2 :: a3 :: r, pm_okv n v) : ∀ v ∈ r, pm_okv n v := pk_t1 (pk_t2 h)
theorem pk_t5 {n : Nat} {a a2 a3 a4 a5 : Value} {r : List Value} (h : ∀ v ∈ a :: a2 :: a3 :: a4 :: a5 :: r, pm_okv n v) : ∀ v ∈ r, pm_okv n v := pk_t2 (pk_t3 h)
def pm_len (ins : Instr) : Nat := match ins with
  | .bipush _ | .iload _ | .lload _ | .aload _ | .istore _ | .lstore _ | .astore _ | .newarray _ => 2
  | .sipush _ | .ldc_w _ | .ldc2_w _ | .iinc _ _ | .goto _ | .ifCond _ _ | .if_icmp _ _ | .ifnull _ | .ifnonnull _ | .getfield _ | .putfield _ | .new _ | .anewarray _ | .invokevirtual _ | .invokespecial _ | .invokestatic _ => 3
  | .tableswitch _ _ _ _ => 0
  | _ => 1
def pm_atag (t : Nat) : String := match t with
  | 3 => RX2
  | 4 => RX3
  | 5 => RX5
  | _ => RX6
/-- what a row of a table must be: its length, its fields -/
def pm_chk (own : String) (ini : Bool) (ins : Instr) (len : Nat) (res : List Nat) : Bool := (pm_len ins == 0 || len == pm_len ins) && match ins, res with
  | .getfield _, [ci, k, lk] => (match vwCl[ci]? with
    | some q => decide (k < q.2.2) && decide (lk ≤ 1)
    | none => false)
  | .putfield _, [ci, k, lk] => (match vwCl[ci]? with
    | some q => decide (k < q.2.2) && ((decide (lk ≤ 1) && !(q.2.1 k).2.2.2) || (lk == 2 && (q.2.1 k).2.2.2 && decide ((q.2.1 k).1 = own) && ini))
    | none => false)
  | _, _ => true
/-- the words that a row needs (of the good ones; of nest mates) -/
def pm_need (own : String) (ins : Instr) (res : List Nat) : List Cond := match ins, res with
  | .getfield i, [ci, k, lk] => (match vwCl[ci]? with
    | some q => if lk = 1 then [] else [.fieldLink own i (q.2.1 k).1 (q.2.1 k).2.1 (q.2.1 k).2.2.1]
    | none => [])
  | .putfield i, [ci, k, lk] => (match vwCl[ci]? with
    | some q => if lk = 1 then [] else [.fieldLink own i (q.2.1 k).1 (q.2.1 k).2.1 (q.2.1 k).2.2.1]
    | none => [])
  | .new i, [ci] => (match vwCl[ci]? with
    | some q => [.classLink own i q.1, .instantiable q.1 q.2.2, .initialized q.1]
    | none => [])
  | .newarray a, _ => [.arrayClass (newarray.typeOf a)]
  | .anewarray i, [t] => [.classLink own i (pm_atag t)]
  | .ldc_w i, [v] => [.constant own i (Int32.ofNat v)]
  | .ldc2_w i, [v] => [.constantLong own i (Int64.ofNat v)]
  | .invokespecial i, [_, 6] => [.methodLink own i Lib.objectInit, .instanceMethod Lib.objectInit, .code Lib.objectInit ⟨#[0xb1]⟩ 1 none]
  | .invokestatic i, [_, 7] => [.methodLink own i Lib.Math.max.name, .static Lib.Math.max.name, .initialized "java/lang/Math", .code Lib.Math.max.name Lib.Math.max.code 2 (some .int)]
  | .invokestatic i, [_, 8] => [.methodLink own i arraycopyName, .native arraycopyName, .static arraycopyName, .initialized "java/lang/System"]
  | _, _ => []
def pm_needN (own : String) (ins : Instr) (res : List Nat) : List Cond := match ins, res with
  | .getfield i, [ci, k, lk] => (match vwCl[ci]? with
    | some q => if lk = 1 then [.fieldLinkNest own i (q.2.1 k).1 (q.2.1 k).2.1 (q.2.1 k).2.2.1 RX7] else []
    | none => [])
  | .putfield i, [ci, k, lk] => (match vwCl[ci]? with
    | some q => if lk = 1 then [.fieldLinkNest own i (q.2.1 k).1 (q.2.1 k).2.1 (q.2.1 k).2.2.1 RX7] else []
    | none => [])
  | _, _ => []
theorem pm_cls (ci : Nat) (q : vw_C) (h : vwCl[ci]? = some q) : (∀ k, k < q.2.2 → parseFieldDescriptor (q.2.1 k).2.2.1 = some (pm_ty ci k)) ∧ (∀ a, a < q.2.2 → ∀ b, b < q.2.2 → a ≠ b → (q.2.1 a).2.1 ≠ (q.2.1 b).2.1) ∧ (pm_df ci).length = q.2.2 ∧ ∀ j, j < q.2.2 → defaultValue (pm_ty ci j) = vp_V (pm_df ci) j := by
  match ci, h with
  | 0, h => cases h; exact ⟨tyX0_ok, nmX0, rfl, by decide +kernel⟩
  | 1, h => cases h; exact ⟨tyX1_ok, nmX1, rfl, by decide +kernel⟩
  | 2, h => cases h; exact ⟨tyX2_ok, nmX2, rfl, by decide +kernel⟩
  | 3, h => cases h; exact ⟨tyX3_ok, nmX3, rfl, by decide +kernel⟩
  | 4, h => cases h; exact ⟨tyX4_ok, nmX4, rfl, by decide +kernel⟩
  | 5, h => cases h; exact ⟨tyX5_ok, nmX5, rfl, by decide +kernel⟩
  | 6, h => cases h; exact ⟨tyX6_ok, nmX6, rfl, by decide +kernel⟩
  | 7, h => cases h; exact ⟨tyX7_ok, nmX7, rfl, by decide +kernel⟩
  | 8, h => cases h; exact ⟨tyX8_ok, nmX8, rfl, by decide +kernel⟩
  | n + 9, h => simp [vwCl] at h
theorem pq_aconst_null {p : Program} {l : Launch} {e : Env} {R : Room} {s : State} {m : MethodId} {args : Array Value} {below : List Frame} {meth : Method} {c : Code} {Q : State → Prop}
    {D : va_G} {aC : Nat → ClassId} {b : Nat} {sc : pm_Sc} {A : Nat → Prop} {nL nc0 ns0 rk : Nat} {np mc rkOf : Nat → Nat} {cc : ByteArray} {own : String} {ini : Bool} {len : Nat} {res : List Nat} {pc : Nat} {lv : pm_L} {st : List Value} {h : pm_H} {s1 : pm_S}
    (hx : p.tables.exec = Jvm.exec) (hb : c.code = cc) (hml : c.maxLocals = nL) (hown : s.vm.findClass own = some m.cls) (hK : va_K D vwCl (pm_tys aC) s) (hA : ∀ q, s.heap.size ≤ q → A q)
    (hX : va_X b sc.1 sc.2 s s.heap) (hbl : b < s.heap.size) (hbA : ¬ A b) (hus : ∀ (ci : Nat) (q : vw_C), vwCl[ci]? = some q → ∀ w ∈ u_ws q.1 q.2.1 q.2.2, w.before args s = true)
    (hn : ∀ w ∈ pm_need own (.aconst_null) res, w.before args s = true) (hnn : ∀ w ∈ pm_needN own (.aconst_null) res, w.before args s = true) (hao : ∀ t, 3 ≤ t → t ≤ 6 → va_AO (pm_atag t) s) (hck : pm_chk own ini (.aconst_null) len res = true) (hin : ini = true → meth.name = "<init>") (hrf : rk ≤ R.frames) (hrl : 42 * rk ≤ R.locals)
    (hd : decode cc pc = .ok (.aconst_null, len)) (hs : pm_do sc nL rk np mc rkOf (.aconst_null) res pc lv st h = some (.inl s1)) (O : pm_ok lv st h.1) : pm_Go p l e R s m args below meth c Q D aC b A nL nc0 ns0 (pc, lv, st, h) s1 ∧ pm_Ok2 (pc, lv, st, h) s1 := by
  have hlen : len = 1 := by simp only [pm_chk, pm_len, Bool.and_eq_true, Bool.or_eq_true, beq_iff_eq] at hck; omega
  subst hlen
  simp only [pm_do] at hs
  cases hs
  exact ⟨po_null hx hb hd, pk_st O (pk_c (pm_okv_null _) O.2.1)⟩
theorem pq_iconst {p : Program} {l : Launch} {e : Env} {R : Room} {s : State} {m : MethodId} {args : Array Value} {below : List Frame} {meth : Method} {c : Code} {Q : State → Prop}
    {D : va_G} {aC : Nat → ClassId} {b : Nat} {sc : pm_Sc} {A : Nat → Prop} {nL nc0 ns0 rk : Nat} {np mc rkOf : Nat → Nat} {cc : ByteArray} {own : String} {ini : Bool} {n : Int} {len : Nat} {res : List Nat} {pc : Nat} {lv : pm_L} {st : List Value} {h : pm_H} {s1 : pm_S}
    (hx : p.tables.exec = Jvm.exec) (hb : c.code = cc) (hml : c.maxLocals = nL) (hown : s.vm.findClass own = some m.cls) (hK : va_K D vwCl (pm_tys aC) s) (hA : ∀ q, s.heap.size ≤ q → A q)
    (hX : va_X b sc.1 sc.2 s s.heap) (hbl : b < s.heap.size) (hbA : ¬ A b) (hus : ∀ (ci : Nat) (q : vw_C), vwCl[ci]? = some q → ∀ w ∈ u_ws q.1 q.2.1 q.2.2, w.before args s = true)
    (hn : ∀ w ∈ pm_need own (.iconst n) res, w.before args s = true) (hnn : ∀ w ∈ pm_needN own (.iconst n) res, w.before args s = true) (hao : ∀ t, 3 ≤ t → t ≤ 6 → va_AO (pm_atag t) s) (hck : pm_chk own ini (.iconst n) len res = true) (hin : ini = true → meth.name = "<init>") (hrf : rk ≤ R.frames) (hrl : 42 * rk ≤ R.locals)
    (hd : decode cc pc = .ok (.iconst n, len)) (hs : pm_do sc nL rk np mc rkOf (.iconst n) res pc lv st h = some (.inl s1)) (O : pm_ok lv st h.1) : pm_Go p l e R s m args below meth c Q D aC b A nL nc0 ns0 (pc, lv, st, h) s1 ∧ pm_Ok2 (pc, lv, st, h) s1 := by
  have hlen : len = 1 := by simp only [pm_chk, pm_len, Bool.and_eq_true, Bool.or_eq_true, beq_iff_eq] at hck; omega
  subst hlen
  simp only [pm_do] at hs
  cases hs
  exact ⟨po_iconst hx hb hd, pk_st O (pk_c (pm_okv_int _ _) O.2.1)⟩
theorem pq_bipush {p : Program} {l : Launch} {e : Env} {R : Room} {s : State} {m : MethodId} {args : Array Value} {below : List Frame} {meth : Method} {c : Code} {Q : State → Prop}
    {D : va_G} {aC : Nat → ClassId} {b : Nat} {sc : pm_Sc} {A : Nat → Prop} {nL nc0 ns0 rk : Nat} {np mc rkOf : Nat → Nat} {cc : ByteArray} {own : String} {ini : Bool} {n : Int} {len : Nat} {res : List Nat} {pc : Nat} {lv : pm_L} {st : List Value} {h : pm_H} {s1 : pm_S}
    (hx : p.tables.exec = Jvm.exec) (hb : c.code = cc) (hml : c.maxLocals = nL) (hown : s.vm.findClass own = some m.cls) (hK : va_K D vwCl (pm_tys aC) s) (hA : ∀ q, s.heap.size ≤ q → A q)
    (hX : va_X b sc.1 sc.2 s s.heap) (hbl : b < s.heap.size) (hbA : ¬ A b) (hus : ∀ (ci : Nat) (q : vw_C), vwCl[ci]? = some q → ∀ w ∈ u_ws q.1 q.2.1 q.2.2, w.before args s = true)
    (hn : ∀ w ∈ pm_need own (.bipush n) res, w.before args s = true) (hnn : ∀ w ∈ pm_needN own (.bipush n) res, w.before args s = true) (hao : ∀ t, 3 ≤ t → t ≤ 6 → va_AO (pm_atag t) s) (hck : pm_chk own ini (.bipush n) len res = true) (hin : ini = true → meth.name = "<init>") (hrf : rk ≤ R.frames) (hrl : 42 * rk ≤ R.locals)
    (hd : decode cc pc = .ok (.bipush n, len)) (hs : pm_do sc nL rk np mc rkOf (.bipush n) res pc lv st h = some (.inl s1)) (O : pm_ok lv st h.1) : pm_Go p l e R s m args below meth c Q D aC b A nL nc0 ns0 (pc, lv, st, h) s1 ∧ pm_Ok2 (pc, lv, st, h) s1 := by
  have hlen : len = 2 := by simp only [pm_chk, pm_len, Bool.and_eq_true, Bool.or_eq_true, beq_iff_eq] at hck; omega
  subst hlen
  simp only [pm_do] at hs
  cases hs
  exact ⟨po_bipush hx hb hd, pk_st O (pk_c (pm_okv_int _ _) O.2.1)⟩
theorem pq_sipush {p : Program} {l : Launch} {e : Env} {R : Room} {s : State} {m : MethodId} {args : Array Value} {below : List Frame} {meth : Method} {c : Code} {Q : State → Prop}
    {D : va_G} {aC : Nat → ClassId} {b : Nat} {sc : pm_Sc} {A : Nat → Prop} {nL nc0 ns0 rk : Nat} {np mc rkOf : Nat → Nat} {cc : ByteArray} {own : String} {ini : Bool} {n : Int} {len : Nat} {res : List Nat} {pc : Nat} {lv : pm_L} {st : List Value} {h : pm_H} {s1 : pm_S}
    (hx : p.tables.exec = Jvm.exec) (hb : c.code = cc) (hml : c.maxLocals = nL) (hown : s.vm.findClass own = some m.cls) (hK : va_K D vwCl (pm_tys aC) s) (hA : ∀ q, s.heap.size ≤ q → A q)
    (hX : va_X b sc.1 sc.2 s s.heap) (hbl : b < s.heap.size) (hbA : ¬ A b) (hus : ∀ (ci : Nat) (q : vw_C), vwCl[ci]? = some q → ∀ w ∈ u_ws q.1 q.2.1 q.2.2, w.before args s = true)
    (hn : ∀ w ∈ pm_need own (.sipush n) res, w.before args s = true) (hnn : ∀ w ∈ pm_needN own (.sipush n) res, w.before args s = true) (hao : ∀ t, 3 ≤ t → t ≤ 6 → va_AO (pm_atag t) s) (hck : pm_chk own ini (.sipush n) len res = true) (hin : ini = true → meth.name = "<init>") (hrf : rk ≤ R.frames) (hrl : 42 * rk ≤ R.locals)
    (hd : decode cc pc = .ok (.sipush n, len)) (hs : pm_do sc nL rk np mc rkOf (.sipush n) res pc lv st h = some (.inl s1)) (O : pm_ok lv st h.1) : pm_Go p l e R s m args below meth c Q D aC b A nL nc0 ns0 (pc, lv, st, h) s1 ∧ pm_Ok2 (pc, lv, st, h) s1 := by
  have hlen : len = 3 := by simp only [pm_chk, pm_len, Bool.and_eq_true, Bool.or_eq_true, beq_iff_eq] at hck; omega
  subst hlen
  simp only [pm_do] at hs
  cases hs
  exact ⟨po_sipush hx hb hd, pk_st O (pk_c (pm_okv_int _ _) O.2.1)⟩
theorem pq_lconst {p : Program} {l : Launch} {e : Env} {R : Room} {s : State} {m : MethodId} {args : Array Value} {below : List Frame} {meth : Method} {c : Code} {Q : State → Prop}
    {D : va_G} {aC : Nat → ClassId} {b : Nat} {sc : pm_Sc} {A : Nat → Prop} {nL nc0 ns0 rk : Nat} {np mc rkOf : Nat → Nat} {cc : ByteArray} {own : String} {ini : Bool} {n : Fin 2} {len : Nat} {res : List Nat} {pc : Nat} {lv : pm_L} {st : List Value} {h : pm_H} {s1 : pm_S}
    (hx : p.tables.exec = Jvm.exec) (hb : c.code = cc) (hml : c.maxLocals = nL) (hown : s.vm.findClass own = some m.cls) (hK : va_K D vwCl (pm_tys aC) s) (hA : ∀ q, s.heap.size ≤ q → A q)
    (hX : va_X b sc.1 sc.2 s s.heap) (hbl : b < s.heap.size) (hbA : ¬ A b) (hus : ∀ (ci : Nat) (q : vw_C), vwCl[ci]? = some q → ∀ w ∈ u_ws q.1 q.2.1 q.2.2, w.before args s = true)
    (hn : ∀ w ∈ pm_need own (.lconst n) res, w.before args s = true) (hnn : ∀ w ∈ pm_needN own (.lconst n) res, w.before args s = true) (hao : ∀ t, 3 ≤ t → t ≤ 6 → va_AO (pm_atag t) s) (hck : pm_chk own ini (.lconst n) len res = true) (hin : ini = true → meth.name = "<init>") (hrf : rk ≤ R.frames) (hrl : 42 * rk ≤ R.locals)
    (hd : decode cc pc = .ok (.lconst n, len)) (hs : pm_do sc nL rk np mc rkOf (.lconst n) res pc lv st h = some (.inl s1)) (O : pm_ok lv st h.1) : pm_Go p l e R s m args below meth c Q D aC b A nL nc0 ns0 (pc, lv, st, h) s1 ∧ pm_Ok2 (pc, lv, st, h) s1 := by
  have hlen : len = 1 := by simp only [pm_chk, pm_len, Bool.and_eq_true, Bool.or_eq_true, beq_iff_eq] at hck; omega
  subst hlen
  simp only [pm_do] at hs
  cases hs
  exact ⟨po_lconst hx hb hd, pk_st O (pk_c (pm_okv_long _ _) O.2.1)⟩
theorem pq_iadd {p : Program} {l : Launch} {e : Env} {R : Room} {s : State} {m : MethodId} {args : Array Value} {below : List Frame} {meth : Method} {c : Code} {Q : State → Prop}
    {D : va_G} {aC : Nat → ClassId} {b : Nat} {sc : pm_Sc} {A : Nat → Prop} {nL nc0 ns0 rk : Nat} {np mc rkOf : Nat → Nat} {cc : ByteArray} {own : String} {ini : Bool} {len : Nat} {res : List Nat} {pc : Nat} {lv : pm_L} {st : List Value} {h : pm_H} {s1 : pm_S}
    (hx : p.tables.exec = Jvm.exec) (hb : c.code = cc) (hml : c.maxLocals = nL) (hown : s.vm.findClass own = some m.cls) (hK : va_K D vwCl (pm_tys aC) s) (hA : ∀ q, s.heap.size ≤ q → A q)
    (hX : va_X b sc.1 sc.2 s s.heap) (hbl : b < s.heap.size) (hbA : ¬ A b) (hus : ∀ (ci : Nat) (q : vw_C), vwCl[ci]? = some q → ∀ w ∈ u_ws q.1 q.2.1 q.2.2, w.before args s = true)
    (hn : ∀ w ∈ pm_need own (.iadd) res, w.before args s = true) (hnn : ∀ w ∈ pm_needN own (.iadd) res, w.before args s = true) (hao : ∀ t, 3 ≤ t → t ≤ 6 → va_AO (pm_atag t) s) (hck : pm_chk own ini (.iadd) len res = true) (hin : ini = true → meth.name = "<init>") (hrf : rk ≤ R.frames) (hrl : 42 * rk ≤ R.locals)
    (hd : decode cc pc = .ok (.iadd, len)) (hs : pm_do sc nL rk np mc rkOf (.iadd) res pc lv st h = some (.inl s1)) (O : pm_ok lv st h.1) : pm_Go p l e R s m args below meth c Q D aC b A nL nc0 ns0 (pc, lv, st, h) s1 ∧ pm_Ok2 (pc, lv, st, h) s1 := by
  have hlen : len = 1 := by simp only [pm_chk, pm_len, Bool.and_eq_true, Bool.or_eq_true, beq_iff_eq] at hck; omega
  subst hlen
  simp only [pm_do] at hs
  split at hs
  · cases hs
    exact ⟨po_iadd hx hb hd, pk_st O (pk_c (pm_okv_int _ _) (pk_t2 O.2.1))⟩
  · cases hs
theorem pq_isub {p : Program} {l : Launch} {e : Env} {R : Room} {s : State} {m : MethodId} {args : Array Value} {below : List Frame} {meth : Method} {c : Code} {Q : State → Prop}
    {D : va_G} {aC : Nat → ClassId} {b : Nat} {sc : pm_Sc} {A : Nat → Prop} {nL nc0 ns0 rk : Nat} {np mc rkOf : Nat → Nat} {cc : ByteArray} {own : String} {ini : Bool} {len : Nat} {res : List Nat} {pc : Nat} {lv : pm_L} {st : List Value} {h : pm_H} {s1 : pm_S}
    (hx : p.tables.exec = Jvm.exec) (hb : c.code = cc) (hml : c.maxLocals = nL) (hown : s.vm.findClass own = some m.cls) (hK : va_K D vwCl (pm_tys aC) s) (hA : ∀ q, s.heap.size ≤ q → A q)
    (hX : va_X b sc.1 sc.2 s s.heap) (hbl : b < s.heap.size) (hbA : ¬ A b) (hus : ∀ (ci : Nat) (q : vw_C), vwCl[ci]? = some q → ∀ w ∈ u_ws q.1 q.2.1 q.2.2, w.before args s = true)
    (hn : ∀ w ∈ pm_need own (.isub) res, w.before args s = true) (hnn : ∀ w ∈ pm_needN own (.isub) res, w.before args s = true) (hao : ∀ t, 3 ≤ t → t ≤ 6 → va_AO (pm_atag t) s) (hck : pm_chk own ini (.isub) len res = true) (hin : ini = true → meth.name = "<init>") (hrf : rk ≤ R.frames) (hrl : 42 * rk ≤ R.locals)
    (hd : decode cc pc = .ok (.isub, len)) (hs : pm_do sc nL rk np mc rkOf (.isub) res pc lv st h = some (.inl s1)) (O : pm_ok lv st h.1) : pm_Go p l e R s m args below meth c Q D aC b A nL nc0 ns0 (pc, lv, st, h) s1 ∧ pm_Ok2 (pc, lv, st, h) s1 := by
  have hlen : len = 1 := by simp only [pm_chk, pm_len, Bool.and_eq_true, Bool.or_eq_true, beq_iff_eq] at hck; omega
  subst hlen
  simp only [pm_do] at hs
  split at hs
  · cases hs
    exact ⟨po_isub hx hb hd, pk_st O (pk_c (pm_okv_int _ _) (pk_t2 O.2.1))⟩
  · cases hs
theorem pq_imul {p : Program} {l : Launch} {e : Env} {R : Room} {s : State} {m : MethodId} {args : Array Value} {below : List Frame} {meth : Method} {c : Code} {Q : State → Prop}
    {D : va_G} {aC : Nat → ClassId} {b : Nat} {sc : pm_Sc} {A : Nat → Prop} {nL nc0 ns0 rk : Nat} {np mc rkOf : Nat → Nat} {cc : ByteArray} {own : String} {ini : Bool} {len : Nat} {res : List Nat} {pc : Nat} {lv : pm_L} {st : List Value} {h : pm_H} {s1 : pm_S}
    (hx : p.tables.exec = Jvm.exec) (hb : c.code = cc) (hml : c.maxLocals = nL) (hown : s.vm.findClass own = some m.cls) (hK : va_K D vwCl (pm_tys aC) s) (hA : ∀ q, s.heap.size ≤ q → A q)
    (hX : va_X b sc.1 sc.2 s s.heap) (hbl : b < s.heap.size) (hbA : ¬ A b) (hus : ∀ (ci : Nat) (q : vw_C), vwCl[ci]? = some q → ∀ w ∈ u_ws q.1 q.2.1 q.2.2, w.before args s = true)
    (hn : ∀ w ∈ pm_need own (.imul) res, w.before args s = true) (hnn : ∀ w ∈ pm_needN own (.imul) res, w.before args s = true) (hao : ∀ t, 3 ≤ t → t ≤ 6 → va_AO (pm_atag t) s) (hck : pm_chk own ini (.imul) len res = true) (hin : ini = true → meth.name = "<init>") (hrf : rk ≤ R.frames) (hrl : 42 * rk ≤ R.locals)
    (hd : decode cc pc = .ok (.imul, len)) (hs : pm_do sc nL rk np mc rkOf (.imul) res pc lv st h = some (.inl s1)) (O : pm_ok lv st h.1) : pm_Go p l e R s m args below meth c Q D aC b A nL nc0 ns0 (pc, lv, st, h) s1 ∧ pm_Ok2 (pc, lv, st, h) s1 := by
  have hlen : len = 1 := by simp only [pm_chk, pm_len, Bool.and_eq_true, Bool.or_eq_true, beq_iff_eq] at hck; omega
  subst hlen
  simp only [pm_do] at hs
  split at hs
  · cases hs
    exact ⟨po_imul hx hb hd, pk_st O (pk_c (pm_okv_int _ _) (pk_t2 O.2.1))⟩
  · cases hs
theorem pq_iand {p : Program} {l : Launch} {e : Env} {R : Room} {s : State} {m : MethodId} {args : Array Value} {below : List Frame} {meth : Method} {c : Code} {Q : State → Prop}
    {D : va_G} {aC : Nat → ClassId} {b : Nat} {sc : pm_Sc} {A : Nat → Prop} {nL nc0 ns0 rk : Nat} {np mc rkOf : Nat → Nat} {cc : ByteArray} {own : String} {ini : Bool} {len : Nat} {res : List Nat} {pc : Nat} {lv : pm_L} {st : List Value} {h : pm_H} {s1 : pm_S}
    (hx : p.tables.exec = Jvm.exec) (hb : c.code = cc) (hml : c.maxLocals = nL) (hown : s.vm.findClass own = some m.cls) (hK : va_K D vwCl (pm_tys aC) s) (hA : ∀ q, s.heap.size ≤ q → A q)
    (hX : va_X b sc.1 sc.2 s s.heap) (hbl : b < s.heap.size) (hbA : ¬ A b) (hus : ∀ (ci : Nat) (q : vw_C), vwCl[ci]? = some q → ∀ w ∈ u_ws q.1 q.2.1 q.2.2, w.before args s = true)
    (hn : ∀ w ∈ pm_need own (.iand) res, w.before args s = true) (hnn : ∀ w ∈ pm_needN own (.iand) res, w.before args s = true) (hao : ∀ t, 3 ≤ t → t ≤ 6 → va_AO (pm_atag t) s) (hck : pm_chk own ini (.iand) len res = true) (hin : ini = true → meth.name = "<init>") (hrf : rk ≤ R.frames) (hrl : 42 * rk ≤ R.locals)
    (hd : decode cc pc = .ok (.iand, len)) (hs : pm_do sc nL rk np mc rkOf (.iand) res pc lv st h = some (.inl s1)) (O : pm_ok lv st h.1) : pm_Go p l e R s m args below meth c Q D aC b A nL nc0 ns0 (pc, lv, st, h) s1 ∧ pm_Ok2 (pc, lv, st, h) s1 := by
  have hlen : len = 1 := by simp only [pm_chk, pm_len, Bool.and_eq_true, Bool.or_eq_true, beq_iff_eq] at hck; omega
  subst hlen
  simp only [pm_do] at hs
  split at hs
  · cases hs
    exact ⟨po_iand hx hb hd, pk_st O (pk_c (pm_okv_int _ _) (pk_t2 O.2.1))⟩
  · cases hs
theorem pq_ior {p : Program} {l : Launch} {e : Env} {R : Room} {s : State} {m : MethodId} {args : Array Value} {below : List Frame} {meth : Method} {c : Code} {Q : State → Prop}
    {D : va_G} {aC : Nat → ClassId} {b : Nat} {sc : pm_Sc} {A : Nat → Prop} {nL nc0 ns0 rk : Nat} {np mc rkOf : Nat → Nat} {cc : ByteArray} {own : String} {ini : Bool} {len : Nat} {res : List Nat} {pc : Nat} {lv : pm_L} {st : List Value} {h : pm_H} {s1 : pm_S}
    (hx : p.tables.exec = Jvm.exec) (hb : c.code = cc) (hml : c.maxLocals = nL) (hown : s.vm.findClass own = some m.cls) (hK : va_K D vwCl (pm_tys aC) s) (hA : ∀ q, s.heap.size ≤ q → A q)
    (hX : va_X b sc.1 sc.2 s s.heap) (hbl : b < s.heap.size) (hbA : ¬ A b) (hus : ∀ (ci : Nat) (q : vw_C), vwCl[ci]? = some q → ∀ w ∈ u_ws q.1 q.2.1 q.2.2, w.before args s = true)
    (hn : ∀ w ∈ pm_need own (.ior) res, w.before args s = true) (hnn : ∀ w ∈ pm_needN own (.ior) res, w.before args s = true) (hao : ∀ t, 3 ≤ t → t ≤ 6 → va_AO (pm_atag t) s) (hck : pm_chk own ini (.ior) len res = true) (hin : ini = true → meth.name = "<init>") (hrf : rk ≤ R.frames) (hrl : 42 * rk ≤ R.locals)
    (hd : decode cc pc = .ok (.ior, len)) (hs : pm_do sc nL rk np mc rkOf (.ior) res pc lv st h = some (.inl s1)) (O : pm_ok lv st h.1) : pm_Go p l e R s m args below meth c Q D aC b A nL nc0 ns0 (pc, lv, st, h) s1 ∧ pm_Ok2 (pc, lv, st, h) s1 := by
  have hlen : len = 1 := by simp only [pm_chk, pm_len, Bool.and_eq_true, Bool.or_eq_true, beq_iff_eq] at hck; omega
  subst hlen
  simp only [pm_do] at hs
  split at hs
  · cases hs
    exact ⟨po_ior hx hb hd, pk_st O (pk_c (pm_okv_int _ _) (pk_t2 O.2.1))⟩
  · cases hs
theorem pq_ixor {p : Program} {l : Launch} {e : Env} {R : Room} {s : State} {m : MethodId} {args : Array Value} {below : List Frame} {meth : Method} {c : Code} {Q : State → Prop}
    {D : va_G} {aC : Nat → ClassId} {b : Nat} {sc : pm_Sc} {A : Nat → Prop} {nL nc0 ns0 rk : Nat} {np mc rkOf : Nat → Nat} {cc : ByteArray} {own : String} {ini : Bool} {len : Nat} {res : List Nat} {pc : Nat} {lv : pm_L} {st : List Value} {h : pm_H} {s1 : pm_S}
    (hx : p.tables.exec = Jvm.exec) (hb : c.code = cc) (hml : c.maxLocals = nL) (hown : s.vm.findClass own = some m.cls) (hK : va_K D vwCl (pm_tys aC) s) (hA : ∀ q, s.heap.size ≤ q → A q)
    (hX : va_X b sc.1 sc.2 s s.heap) (hbl : b < s.heap.size) (hbA : ¬ A b) (hus : ∀ (ci : Nat) (q : vw_C), vwCl[ci]? = some q → ∀ w ∈ u_ws q.1 q.2.1 q.2.2, w.before args s = true)
    (hn : ∀ w ∈ pm_need own (.ixor) res, w.before args s = true) (hnn : ∀ w ∈ pm_needN own (.ixor) res, w.before args s = true) (hao : ∀ t, 3 ≤ t → t ≤ 6 → va_AO (pm_atag t) s) (hck : pm_chk own ini (.ixor) len res = true) (hin : ini = true → meth.name = "<init>") (hrf : rk ≤ R.frames) (hrl : 42 * rk ≤ R.locals)
    (hd : decode cc pc = .ok (.ixor, len)) (hs : pm_do sc nL rk np mc rkOf (.ixor) res pc lv st h = some (.inl s1)) (O : pm_ok lv st h.1) : pm_Go p l e R s m args below meth c Q D aC b A nL nc0 ns0 (pc, lv, st, h) s1 ∧ pm_Ok2 (pc, lv, st, h) s1 := by
  have hlen : len = 1 := by simp only [pm_chk, pm_len, Bool.and_eq_true, Bool.or_eq_true, beq_iff_eq] at hck; omega
  subst hlen
  simp only [pm_do] at hs
  split at hs
  · cases hs
    exact ⟨po_ixor hx hb hd, pk_st O (pk_c (pm_okv_int _ _) (pk_t2 O.2.1))⟩
  · cases hs
theorem pq_ishl {p : Program} {l : Launch} {e : Env} {R : Room} {s : State} {m : MethodId} {args : Array Value} {below : List Frame} {meth : Method} {c : Code} {Q : State → Prop}
    {D : va_G} {aC : Nat → ClassId} {b : Nat} {sc : pm_Sc} {A : Nat → Prop} {nL nc0 ns0 rk : Nat} {np mc rkOf : Nat → Nat} {cc : ByteArray} {own : String} {ini : Bool} {len : Nat} {res : List Nat} {pc : Nat} {lv : pm_L} {st : List Value} {h : pm_H} {s1 : pm_S}
    (hx : p.tables.exec = Jvm.exec) (hb : c.code = cc) (hml : c.maxLocals = nL) (hown : s.vm.findClass own = some m.cls) (hK : va_K D vwCl (pm_tys aC) s) (hA : ∀ q, s.heap.size ≤ q → A q)
    (hX : va_X b sc.1 sc.2 s s.heap) (hbl : b < s.heap.size) (hbA : ¬ A b) (hus : ∀ (ci : Nat) (q : vw_C), vwCl[ci]? = some q → ∀ w ∈ u_ws q.1 q.2.1 q.2.2, w.before args s = true)
    (hn : ∀ w ∈ pm_need own (.ishl) res, w.before args s = true) (hnn : ∀ w ∈ pm_needN own (.ishl) res, w.before args s = true) (hao : ∀ t, 3 ≤ t → t ≤ 6 → va_AO (pm_atag t) s) (hck : pm_chk own ini (.ishl) len res = true) (hin : ini = true → meth.name = "<init>") (hrf : rk ≤ R.frames) (hrl : 42 * rk ≤ R.locals)
    (hd : decode cc pc = .ok (.ishl, len)) (hs : pm_do sc nL rk np mc rkOf (.ishl) res pc lv st h = some (.inl s1)) (O : pm_ok lv st h.1) : pm_Go p l e R s m args below meth c Q D aC b A nL nc0 ns0 (pc, lv, st, h) s1 ∧ pm_Ok2 (pc, lv, st, h) s1 := by
  have hlen : len = 1 := by simp only [pm_chk, pm_len, Bool.and_eq_true, Bool.or_eq_true, beq_iff_eq] at hck; omega
  subst hlen
  simp only [pm_do] at hs
  split at hs
  · cases hs
    exact ⟨po_ishl hx hb hd, pk_st O (pk_c (pm_okv_int _ _) (pk_t2 O.2.1))⟩
  · cases hs
theorem pq_ishr {p : Program} {l : Launch} {e : Env} {R : Room} {s : State} {m : MethodId} {args : Array Value} {below : List Frame} {meth : Method} {c : Code} {Q : State → Prop}
    {D : va_G} {aC : Nat → ClassId} {b : Nat} {sc : pm_Sc} {A : Nat → Prop} {nL nc0 ns0 rk : Nat} {np mc rkOf : Nat → Nat} {cc : ByteArray} {own : String} {ini : Bool} {len : Nat} {res : List Nat} {pc : Nat} {lv : pm_L} {st : List Value} {h : pm_H} {s1 : pm_S}
    (hx : p.tables.exec = Jvm.exec) (hb : c.code = cc) (hml : c.maxLocals = nL) (hown : s.vm.findClass own = some m.cls) (hK : va_K D vwCl (pm_tys aC) s) (hA : ∀ q, s.heap.size ≤ q → A q)
    (hX : va_X b sc.1 sc.2 s s.heap) (hbl : b < s.heap.size) (hbA : ¬ A b) (hus : ∀ (ci : Nat) (q : vw_C), vwCl[ci]? = some q → ∀ w ∈ u_ws q.1 q.2.1 q.2.2, w.before args s = true)
    (hn : ∀ w ∈ pm_need own (.ishr) res, w.before args s = true) (hnn : ∀ w ∈ pm_needN own (.ishr) res, w.before args s = true) (hao : ∀ t, 3 ≤ t → t ≤ 6 → va_AO (pm_atag t) s) (hck : pm_chk own ini (.ishr) len res = true) (hin : ini = true → meth.name = "<init>") (hrf : rk ≤ R.frames) (hrl : 42 * rk ≤ R.locals)
    (hd : decode cc pc = .ok (.ishr, len)) (hs : pm_do sc nL rk np mc rkOf (.ishr) res pc lv st h = some (.inl s1)) (O : pm_ok lv st h.1) : pm_Go p l e R s m args below meth c Q D aC b A nL nc0 ns0 (pc, lv, st, h) s1 ∧ pm_Ok2 (pc, lv, st, h) s1 := by
  have hlen : len = 1 := by simp only [pm_chk, pm_len, Bool.and_eq_true, Bool.or_eq_true, beq_iff_eq] at hck; omega
  subst hlen
  simp only [pm_do] at hs
  split at hs
  · cases hs
    exact ⟨po_ishr hx hb hd, pk_st O (pk_c (pm_okv_int _ _) (pk_t2 O.2.1))⟩
  · cases hs
theorem pq_iushr {p : Program} {l : Launch} {e : Env} {R : Room} {s : State} {m : MethodId} {args : Array Value} {below : List Frame} {meth : Method} {c : Code} {Q : State → Prop}
    {D : va_G} {aC : Nat → ClassId} {b : Nat} {sc : pm_Sc} {A : Nat → Prop} {nL nc0 ns0 rk : Nat} {np mc rkOf : Nat → Nat} {cc : ByteArray} {own : String} {ini : Bool} {len : Nat} {res : List Nat} {pc : Nat} {lv : pm_L} {st : List Value} {h : pm_H} {s1 : pm_S}
    (hx : p.tables.exec = Jvm.exec) (hb : c.code = cc) (hml : c.maxLocals = nL) (hown : s.vm.findClass own = some m.cls) (hK : va_K D vwCl (pm_tys aC) s) (hA : ∀ q, s.heap.size ≤ q → A q)
    (hX : va_X b sc.1 sc.2 s s.heap) (hbl : b < s.heap.size) (hbA : ¬ A b) (hus : ∀ (ci : Nat) (q : vw_C), vwCl[ci]? = some q → ∀ w ∈ u_ws q.1 q.2.1 q.2.2, w.before args s = true)
    (hn : ∀ w ∈ pm_need own (.iushr) res, w.before args s = true) (hnn : ∀ w ∈ pm_needN own (.iushr) res, w.before args s = true) (hao : ∀ t, 3 ≤ t → t ≤ 6 → va_AO (pm_atag t) s) (hck : pm_chk own ini (.iushr) len res = true) (hin : ini = true → meth.name = "<init>") (hrf : rk ≤ R.frames) (hrl : 42 * rk ≤ R.locals)
    (hd : decode cc pc = .ok (.iushr, len)) (hs : pm_do sc nL rk np mc rkOf (.iushr) res pc lv st h = some (.inl s1)) (O : pm_ok lv st h.1) : pm_Go p l e R s m args below meth c Q D aC b A nL nc0 ns0 (pc, lv, st, h) s1 ∧ pm_Ok2 (pc, lv, st, h) s1 := by
  have hlen : len = 1 := by simp only [pm_chk, pm_len, Bool.and_eq_true, Bool.or_eq_true, beq_iff_eq] at hck; omega
  subst hlen
  simp only [pm_do] at hs
  split at hs
  · cases hs
    exact ⟨po_iushr hx hb hd, pk_st O (pk_c (pm_okv_int _ _) (pk_t2 O.2.1))⟩
  · cases hs
theorem pq_lsub {p : Program} {l : Launch} {e : Env} {R : Room} {s : State} {m : MethodId} {args : Array Value} {below : List Frame} {meth : Method} {c : Code} {Q : State → Prop}
    {D : va_G} {aC : Nat → ClassId} {b : Nat} {sc : pm_Sc} {A : Nat → Prop} {nL nc0 ns0 rk : Nat} {np mc rkOf : Nat → Nat} {cc : ByteArray} {own : String} {ini : Bool} {len : Nat} {res : List Nat} {pc : Nat} {lv : pm_L} {st : List Value} {h : pm_H} {s1 : pm_S}
    (hx : p.tables.exec = Jvm.exec) (hb : c.code = cc) (hml : c.maxLocals = nL) (hown : s.vm.findClass own = some m.cls) (hK : va_K D vwCl (pm_tys aC) s) (hA : ∀ q, s.heap.size ≤ q → A q)
    (hX : va_X b sc.1 sc.2 s s.heap) (hbl : b < s.heap.size) (hbA : ¬ A b) (hus : ∀ (ci : Nat) (q : vw_C), vwCl[ci]? = some q → ∀ w ∈ u_ws q.1 q.2.1 q.2.2, w.before args s = true)
    (hn : ∀ w ∈ pm_need own (.lsub) res, w.before args s = true) (hnn : ∀ w ∈ pm_needN own (.lsub) res, w.before args s = true) (hao : ∀ t, 3 ≤ t → t ≤ 6 → va_AO (pm_atag t) s) (hck : pm_chk own ini (.lsub) len res = true) (hin : ini = true → meth.name = "<init>") (hrf : rk ≤ R.frames) (hrl : 42 * rk ≤ R.locals)
    (hd : decode cc pc = .ok (.lsub, len)) (hs : pm_do sc nL rk np mc rkOf (.lsub) res pc lv st h = some (.inl s1)) (O : pm_ok lv st h.1) : pm_Go p l e R s m args below meth c Q D aC b A nL nc0 ns0 (pc, lv, st, h) s1 ∧ pm_Ok2 (pc, lv, st, h) s1 := by
  have hlen : len = 1 := by simp only [pm_chk, pm_len, Bool.and_eq_true, Bool.or_eq_true, beq_iff_eq] at hck; omega
  subst hlen
  simp only [pm_do] at hs
  split at hs
  · cases hs
    exact ⟨po_lsub hx hb hd, pk_st O (pk_c (pm_okv_long _ _) (pk_t2 O.2.1))⟩
  · cases hs
theorem pq_land {p : Program} {l : Launch} {e : Env} {R : Room} {s : State} {m : MethodId} {args : Array Value} {below : List Frame} {meth : Method} {c : Code} {Q : State → Prop}
    {D : va_G} {aC : Nat → ClassId} {b : Nat} {sc : pm_Sc} {A : Nat → Prop} {nL nc0 ns0 rk : Nat} {np mc rkOf : Nat → Nat} {cc : ByteArray} {own : String} {ini : Bool} {len : Nat} {res : List Nat} {pc : Nat} {lv : pm_L} {st : List Value} {h : pm_H} {s1 : pm_S}
    (hx : p.tables.exec = Jvm.exec) (hb : c.code = cc) (hml : c.maxLocals = nL) (hown : s.vm.findClass own = some m.cls) (hK : va_K D vwCl (pm_tys aC) s) (hA : ∀ q, s.heap.size ≤ q → A q)
    (hX : va_X b sc.1 sc.2 s s.heap) (hbl : b < s.heap.size) (hbA : ¬ A b) (hus : ∀ (ci : Nat) (q : vw_C), vwCl[ci]? = some q → ∀ w ∈ u_ws q.1 q.2.1 q.2.2, w.before args s = true)
    (hn : ∀ w ∈ pm_need own (.land) res, w.before args s = true) (hnn : ∀ w ∈ pm_needN own (.land) res, w.before args s = true) (hao : ∀ t, 3 ≤ t → t ≤ 6 → va_AO (pm_atag t) s) (hck : pm_chk own ini (.land) len res = true) (hin : ini = true → meth.name = "<init>") (hrf : rk ≤ R.frames) (hrl : 42 * rk ≤ R.locals)
    (hd : decode cc pc = .ok (.land, len)) (hs : pm_do sc nL rk np mc rkOf (.land) res pc lv st h = some (.inl s1)) (O : pm_ok lv st h.1) : pm_Go p l e R s m args below meth c Q D aC b A nL nc0 ns0 (pc, lv, st, h) s1 ∧ pm_Ok2 (pc, lv, st, h) s1 := by
  have hlen : len = 1 := by simp only [pm_chk, pm_len, Bool.and_eq_true, Bool.or_eq_true, beq_iff_eq] at hck; omega
  subst hlen
  simp only [pm_do] at hs
  split at hs
  · cases hs
    exact ⟨po_land hx hb hd, pk_st O (pk_c (pm_okv_long _ _) (pk_t2 O.2.1))⟩
  · cases hs
theorem pq_lor {p : Program} {l : Launch} {e : Env} {R : Room} {s : State} {m : MethodId} {args : Array Value} {below : List Frame} {meth : Method} {c : Code} {Q : State → Prop}
    {D : va_G} {aC : Nat → ClassId} {b : Nat} {sc : pm_Sc} {A : Nat → Prop} {nL nc0 ns0 rk : Nat} {np mc rkOf : Nat → Nat} {cc : ByteArray} {own : String} {ini : Bool} {len : Nat} {res : List Nat} {pc : Nat} {lv : pm_L} {st : List Value} {h : pm_H} {s1 : pm_S}
    (hx : p.tables.exec = Jvm.exec) (hb : c.code = cc) (hml : c.maxLocals = nL) (hown : s.vm.findClass own = some m.cls) (hK : va_K D vwCl (pm_tys aC) s) (hA : ∀ q, s.heap.size ≤ q → A q)
    (hX : va_X b sc.1 sc.2 s s.heap) (hbl : b < s.heap.size) (hbA : ¬ A b) (hus : ∀ (ci : Nat) (q : vw_C), vwCl[ci]? = some q → ∀ w ∈ u_ws q.1 q.2.1 q.2.2, w.before args s = true)
    (hn : ∀ w ∈ pm_need own (.lor) res, w.before args s = true) (hnn : ∀ w ∈ pm_needN own (.lor) res, w.before args s = true) (hao : ∀ t, 3 ≤ t → t ≤ 6 → va_AO (pm_atag t) s) (hck : pm_chk own ini (.lor) len res = true) (hin : ini = true → meth.name = "<init>") (hrf : rk ≤ R.frames) (hrl : 42 * rk ≤ R.locals)
    (hd : decode cc pc = .ok (.lor, len)) (hs : pm_do sc nL rk np mc rkOf (.lor) res pc lv st h = some (.inl s1)) (O : pm_ok lv st h.1) : pm_Go p l e R s m args below meth c Q D aC b A nL nc0 ns0 (pc, lv, st, h) s1 ∧ pm_Ok2 (pc, lv, st, h) s1 := by
  have hlen : len = 1 := by simp only [pm_chk, pm_len, Bool.and_eq_true, Bool.or_eq_true, beq_iff_eq] at hck; omega
  subst hlen
  simp only [pm_do] at hs
  split at hs
  · cases hs
    exact ⟨po_lor hx hb hd, pk_st O (pk_c (pm_okv_long _ _) (pk_t2 O.2.1))⟩
  · cases hs
theorem pq_lshl {p : Program} {l : Launch} {e : Env} {R : Room} {s : State} {m : MethodId} {args : Array Value} {below : List Frame} {meth : Method} {c : Code} {Q : State → Prop}
    {D : va_G} {aC : Nat → ClassId} {b : Nat} {sc : pm_Sc} {A : Nat → Prop} {nL nc0 ns0 rk : Nat} {np mc rkOf : Nat → Nat} {cc : ByteArray} {own : String} {ini : Bool} {len : Nat} {res : List Nat} {pc : Nat} {lv : pm_L} {st : List Value} {h : pm_H} {s1 : pm_S}
    (hx : p.tables.exec = Jvm.exec) (hb : c.code = cc) (hml : c.maxLocals = nL) (hown : s.vm.findClass own = some m.cls) (hK : va_K D vwCl (pm_tys aC) s) (hA : ∀ q, s.heap.size ≤ q → A q)
    (hX : va_X b sc.1 sc.2 s s.heap) (hbl : b < s.heap.size) (hbA : ¬ A b) (hus : ∀ (ci : Nat) (q : vw_C), vwCl[ci]? = some q → ∀ w ∈ u_ws q.1 q.2.1 q.2.2, w.before args s = true)
    (hn : ∀ w ∈ pm_need own (.lshl) res, w.before args s = true) (hnn : ∀ w ∈ pm_needN own (.lshl) res, w.before args s = true) (hao : ∀ t, 3 ≤ t → t ≤ 6 → va_AO (pm_atag t) s) (hck : pm_chk own ini (.lshl) len res = true) (hin : ini = true → meth.name = "<init>") (hrf : rk ≤ R.frames) (hrl : 42 * rk ≤ R.locals)
    (hd : decode cc pc = .ok (.lshl, len)) (hs : pm_do sc nL rk np mc rkOf (.lshl) res pc lv st h = some (.inl s1)) (O : pm_ok lv st h.1) : pm_Go p l e R s m args below meth c Q D aC b A nL nc0 ns0 (pc, lv, st, h) s1 ∧ pm_Ok2 (pc, lv, st, h) s1 := by
  have hlen : len = 1 := by simp only [pm_chk, pm_len, Bool.and_eq_true, Bool.or_eq_true, beq_iff_eq] at hck; omega
  subst hlen
  simp only [pm_do] at hs
  split at hs
  · cases hs
    exact ⟨po_lshl hx hb hd, pk_st O (pk_c (pm_okv_long _ _) (pk_t2 O.2.1))⟩
  · cases hs
theorem pq_lshr {p : Program} {l : Launch} {e : Env} {R : Room} {s : State} {m : MethodId} {args : Array Value} {below : List Frame} {meth : Method} {c : Code} {Q : State → Prop}
    {D : va_G} {aC : Nat → ClassId} {b : Nat} {sc : pm_Sc} {A : Nat → Prop} {nL nc0 ns0 rk : Nat} {np mc rkOf : Nat → Nat} {cc : ByteArray} {own : String} {ini : Bool} {len : Nat} {res : List Nat} {pc : Nat} {lv : pm_L} {st : List Value} {h : pm_H} {s1 : pm_S}
    (hx : p.tables.exec = Jvm.exec) (hb : c.code = cc) (hml : c.maxLocals = nL) (hown : s.vm.findClass own = some m.cls) (hK : va_K D vwCl (pm_tys aC) s) (hA : ∀ q, s.heap.size ≤ q → A q)
    (hX : va_X b sc.1 sc.2 s s.heap) (hbl : b < s.heap.size) (hbA : ¬ A b) (hus : ∀ (ci : Nat) (q : vw_C), vwCl[ci]? = some q → ∀ w ∈ u_ws q.1 q.2.1 q.2.2, w.before args s = true)
    (hn : ∀ w ∈ pm_need own (.lshr) res, w.before args s = true) (hnn : ∀ w ∈ pm_needN own (.lshr) res, w.before args s = true) (hao : ∀ t, 3 ≤ t → t ≤ 6 → va_AO (pm_atag t) s) (hck : pm_chk own ini (.lshr) len res = true) (hin : ini = true → meth.name = "<init>") (hrf : rk ≤ R.frames) (hrl : 42 * rk ≤ R.locals)
    (hd : decode cc pc = .ok (.lshr, len)) (hs : pm_do sc nL rk np mc rkOf (.lshr) res pc lv st h = some (.inl s1)) (O : pm_ok lv st h.1) : pm_Go p l e R s m args below meth c Q D aC b A nL nc0 ns0 (pc, lv, st, h) s1 ∧ pm_Ok2 (pc, lv, st, h) s1 := by
  have hlen : len = 1 := by simp only [pm_chk, pm_len, Bool.and_eq_true, Bool.or_eq_true, beq_iff_eq] at hck; omega
  subst hlen
  simp only [pm_do] at hs
  split at hs
  · cases hs
    exact ⟨po_lshr hx hb hd, pk_st O (pk_c (pm_okv_long _ _) (pk_t2 O.2.1))⟩
  · cases hs
theorem pq_i2l {p : Program} {l : Launch} {e : Env} {R : Room} {s : State} {m : MethodId} {args : Array Value} {below : List Frame} {meth : Method} {c : Code} {Q : State → Prop}
    {D : va_G} {aC : Nat → ClassId} {b : Nat} {sc : pm_Sc} {A : Nat → Prop} {nL nc0 ns0 rk : Nat} {np mc rkOf : Nat → Nat} {cc : ByteArray} {own : String} {ini : Bool} {len : Nat} {res : List Nat} {pc : Nat} {lv : pm_L} {st : List Value} {h : pm_H} {s1 : pm_S}
    (hx : p.tables.exec = Jvm.exec) (hb : c.code = cc) (hml : c.maxLocals = nL) (hown : s.vm.findClass own = some m.cls) (hK : va_K D vwCl (pm_tys aC) s) (hA : ∀ q, s.heap.size ≤ q → A q)
    (hX : va_X b sc.1 sc.2 s s.heap) (hbl : b < s.heap.size) (hbA : ¬ A b) (hus : ∀ (ci : Nat) (q : vw_C), vwCl[ci]? = some q → ∀ w ∈ u_ws q.1 q.2.1 q.2.2, w.before args s = true)
    (hn : ∀ w ∈ pm_need own (.i2l) res, w.before args s = true) (hnn : ∀ w ∈ pm_needN own (.i2l) res, w.before args s = true) (hao : ∀ t, 3 ≤ t → t ≤ 6 → va_AO (pm_atag t) s) (hck : pm_chk own ini (.i2l) len res = true) (hin : ini = true → meth.name = "<init>") (hrf : rk ≤ R.frames) (hrl : 42 * rk ≤ R.locals)
    (hd : decode cc pc = .ok (.i2l, len)) (hs : pm_do sc nL rk np mc rkOf (.i2l) res pc lv st h = some (.inl s1)) (O : pm_ok lv st h.1) : pm_Go p l e R s m args below meth c Q D aC b A nL nc0 ns0 (pc, lv, st, h) s1 ∧ pm_Ok2 (pc, lv, st, h) s1 := by
  have hlen : len = 1 := by simp only [pm_chk, pm_len, Bool.and_eq_true, Bool.or_eq_true, beq_iff_eq] at hck; omega
  subst hlen
  simp only [pm_do] at hs
  split at hs
  · cases hs
    exact ⟨po_i2l hx hb hd, pk_st O (pk_c (pm_okv_long _ _) (pk_t1 O.2.1))⟩
  · cases hs
theorem pq_l2i {p : Program} {l : Launch} {e : Env} {R : Room} {s : State} {m : MethodId} {args : Array Value} {below : List Frame} {meth : Method} {c : Code} {Q : State → Prop}
    {D : va_G} {aC : Nat → ClassId} {b : Nat} {sc : pm_Sc} {A : Nat → Prop} {nL nc0 ns0 rk : Nat} {np mc rkOf : Nat → Nat} {cc : ByteArray} {own : String} {ini : Bool} {len : Nat} {res : List Nat} {pc : Nat} {lv : pm_L} {st : List Value} {h : pm_H} {s1 : pm_S}
    (hx : p.tables.exec = Jvm.exec) (hb : c.code = cc) (hml : c.maxLocals = nL) (hown : s.vm.findClass own = some m.cls) (hK : va_K D vwCl (pm_tys aC) s) (hA : ∀ q, s.heap.size ≤ q → A q)
    (hX : va_X b sc.1 sc.2 s s.heap) (hbl : b < s.heap.size) (hbA : ¬ A b) (hus : ∀ (ci : Nat) (q : vw_C), vwCl[ci]? = some q → ∀ w ∈ u_ws q.1 q.2.1 q.2.2, w.before args s = true)
    (hn : ∀ w ∈ pm_need own (.l2i) res, w.before args s = true) (hnn : ∀ w ∈ pm_needN own (.l2i) res, w.before args s = true) (hao : ∀ t, 3 ≤ t → t ≤ 6 → va_AO (pm_atag t) s) (hck : pm_chk own ini (.l2i) len res = true) (hin : ini = true → meth.name = "<init>") (hrf : rk ≤ R.frames) (hrl : 42 * rk ≤ R.locals)
    (hd : decode cc pc = .ok (.l2i, len)) (hs : pm_do sc nL rk np mc rkOf (.l2i) res pc lv st h = some (.inl s1)) (O : pm_ok lv st h.1) : pm_Go p l e R s m args below meth c Q D aC b A nL nc0 ns0 (pc, lv, st, h) s1 ∧ pm_Ok2 (pc, lv, st, h) s1 := by
  have hlen : len = 1 := by simp only [pm_chk, pm_len, Bool.and_eq_true, Bool.or_eq_true, beq_iff_eq] at hck; omega
  subst hlen
  simp only [pm_do] at hs
  split at hs
  · cases hs
    exact ⟨po_l2i hx hb hd, pk_st O (pk_c (pm_okv_int _ _) (pk_t1 O.2.1))⟩
  · cases hs
theorem pq_lcmp {p : Program} {l : Launch} {e : Env} {R : Room} {s : State} {m : MethodId} {args : Array Value} {below : List Frame} {meth : Method} {c : Code} {Q : State → Prop}
    {D : va_G} {aC : Nat → ClassId} {b : Nat} {sc : pm_Sc} {A : Nat → Prop} {nL nc0 ns0 rk : Nat} {np mc rkOf : Nat → Nat} {cc : ByteArray} {own : String} {ini : Bool} {len : Nat} {res : List Nat} {pc : Nat} {lv : pm_L} {st : List Value} {h : pm_H} {s1 : pm_S}
    (hx : p.tables.exec = Jvm.exec) (hb : c.code = cc) (hml : c.maxLocals = nL) (hown : s.vm.findClass own = some m.cls) (hK : va_K D vwCl (pm_tys aC) s) (hA : ∀ q, s.heap.size ≤ q → A q)
    (hX : va_X b sc.1 sc.2 s s.heap) (hbl : b < s.heap.size) (hbA : ¬ A b) (hus : ∀ (ci : Nat) (q : vw_C), vwCl[ci]? = some q → ∀ w ∈ u_ws q.1 q.2.1 q.2.2, w.before args s = true)
    (hn : ∀ w ∈ pm_need own (.lcmp) res, w.before args s = true) (hnn : ∀ w ∈ pm_needN own (.lcmp) res, w.before args s = true) (hao : ∀ t, 3 ≤ t → t ≤ 6 → va_AO (pm_atag t) s) (hck : pm_chk own ini (.lcmp) len res = true) (hin : ini = true → meth.name = "<init>") (hrf : rk ≤ R.frames) (hrl : 42 * rk ≤ R.locals)
    (hd : decode cc pc = .ok (.lcmp, len)) (hs : pm_do sc nL rk np mc rkOf (.lcmp) res pc lv st h = some (.inl s1)) (O : pm_ok lv st h.1) : pm_Go p l e R s m args below meth c Q D aC b A nL nc0 ns0 (pc, lv, st, h) s1 ∧ pm_Ok2 (pc, lv, st, h) s1 := by
  have hlen : len = 1 := by simp only [pm_chk, pm_len, Bool.and_eq_true, Bool.or_eq_true, beq_iff_eq] at hck; omega
  subst hlen
  simp only [pm_do] at hs
  split at hs
  · cases hs
    exact ⟨po_lcmp hx hb hd, pk_st O (pk_c (pm_okv_int _ _) (pk_t2 O.2.1))⟩
  · cases hs
theorem pq_irem {p : Program} {l : Launch} {e : Env} {R : Room} {s : State} {m : MethodId} {args : Array Value} {below : List Frame} {meth : Method} {c : Code} {Q : State → Prop}
    {D : va_G} {aC : Nat → ClassId} {b : Nat} {sc : pm_Sc} {A : Nat → Prop} {nL nc0 ns0 rk : Nat} {np mc rkOf : Nat → Nat} {cc : ByteArray} {own : String} {ini : Bool} {len : Nat} {res : List Nat} {pc : Nat} {lv : pm_L} {st : List Value} {h : pm_H} {s1 : pm_S}
    (hx : p.tables.exec = Jvm.exec) (hb : c.code = cc) (hml : c.maxLocals = nL) (hown : s.vm.findClass own = some m.cls) (hK : va_K D vwCl (pm_tys aC) s) (hA : ∀ q, s.heap.size ≤ q → A q)
    (hX : va_X b sc.1 sc.2 s s.heap) (hbl : b < s.heap.size) (hbA : ¬ A b) (hus : ∀ (ci : Nat) (q : vw_C), vwCl[ci]? = some q → ∀ w ∈ u_ws q.1 q.2.1 q.2.2, w.before args s = true)
    (hn : ∀ w ∈ pm_need own (.irem) res, w.before args s = true) (hnn : ∀ w ∈ pm_needN own (.irem) res, w.before args s = true) (hao : ∀ t, 3 ≤ t → t ≤ 6 → va_AO (pm_atag t) s) (hck : pm_chk own ini (.irem) len res = true) (hin : ini = true → meth.name = "<init>") (hrf : rk ≤ R.frames) (hrl : 42 * rk ≤ R.locals)
    (hd : decode cc pc = .ok (.irem, len)) (hs : pm_do sc nL rk np mc rkOf (.irem) res pc lv st h = some (.inl s1)) (O : pm_ok lv st h.1) : pm_Go p l e R s m args below meth c Q D aC b A nL nc0 ns0 (pc, lv, st, h) s1 ∧ pm_Ok2 (pc, lv, st, h) s1 := by
  have hlen : len = 1 := by simp only [pm_chk, pm_len, Bool.and_eq_true, Bool.or_eq_true, beq_iff_eq] at hck; omega
  subst hlen
  simp only [pm_do] at hs
  split at hs
  · split at hs
    · cases hs
    · next hne => cases hs; exact ⟨po_irem hx hb hne hd, pk_st O (pk_c (pm_okv_int _ _) (pk_t2 O.2.1))⟩
  · cases hs
theorem pq_ldc_w {p : Program} {l : Launch} {e : Env} {R : Room} {s : State} {m : MethodId} {args : Array Value} {below : List Frame} {meth : Method} {c : Code} {Q : State → Prop}
    {D : va_G} {aC : Nat → ClassId} {b : Nat} {sc : pm_Sc} {A : Nat → Prop} {nL nc0 ns0 rk : Nat} {np mc rkOf : Nat → Nat} {cc : ByteArray} {own : String} {ini : Bool} {i : Nat} {len : Nat} {res : List Nat} {pc : Nat} {lv : pm_L} {st : List Value} {h : pm_H} {s1 : pm_S}
    (hx : p.tables.exec = Jvm.exec) (hb : c.code = cc) (hml : c.maxLocals = nL) (hown : s.vm.findClass own = some m.cls) (hK : va_K D vwCl (pm_tys aC) s) (hA : ∀ q, s.heap.size ≤ q → A q)
    (hX : va_X b sc.1 sc.2 s s.heap) (hbl : b < s.heap.size) (hbA : ¬ A b) (hus : ∀ (ci : Nat) (q : vw_C), vwCl[ci]? = some q → ∀ w ∈ u_ws q.1 q.2.1 q.2.2, w.before args s = true)
    (hn : ∀ w ∈ pm_need own (.ldc_w i) res, w.before args s = true) (hnn : ∀ w ∈ pm_needN own (.ldc_w i) res, w.before args s = true) (hao : ∀ t, 3 ≤ t → t ≤ 6 → va_AO (pm_atag t) s) (hck : pm_chk own ini (.ldc_w i) len res = true) (hin : ini = true → meth.name = "<init>") (hrf : rk ≤ R.frames) (hrl : 42 * rk ≤ R.locals)
    (hd : decode cc pc = .ok (.ldc_w i, len)) (hs : pm_do sc nL rk np mc rkOf (.ldc_w i) res pc lv st h = some (.inl s1)) (O : pm_ok lv st h.1) : pm_Go p l e R s m args below meth c Q D aC b A nL nc0 ns0 (pc, lv, st, h) s1 ∧ pm_Ok2 (pc, lv, st, h) s1 := by
  have hlen : len = 3 := by simp only [pm_chk, pm_len, Bool.and_eq_true, Bool.or_eq_true, beq_iff_eq] at hck; omega
  subst hlen
  simp only [pm_do] at hs
  split at hs
  · cases hs
    exact ⟨po_ldcw hx hb hown (hn _ List.mem_cons_self) hd, pk_st O (pk_c (pm_okv_int _ _) O.2.1)⟩
  · cases hs
theorem pq_ldc2_w {p : Program} {l : Launch} {e : Env} {R : Room} {s : State} {m : MethodId} {args : Array Value} {below : List Frame} {meth : Method} {c : Code} {Q : State → Prop}
    {D : va_G} {aC : Nat → ClassId} {b : Nat} {sc : pm_Sc} {A : Nat → Prop} {nL nc0 ns0 rk : Nat} {np mc rkOf : Nat → Nat} {cc : ByteArray} {own : String} {ini : Bool} {i : Nat} {len : Nat} {res : List Nat} {pc : Nat} {lv : pm_L} {st : List Value} {h : pm_H} {s1 : pm_S}
    (hx : p.tables.exec = Jvm.exec) (hb : c.code = cc) (hml : c.maxLocals = nL) (hown : s.vm.findClass own = some m.cls) (hK : va_K D vwCl (pm_tys aC) s) (hA : ∀ q, s.heap.size ≤ q → A q)
    (hX : va_X b sc.1 sc.2 s s.heap) (hbl : b < s.heap.size) (hbA : ¬ A b) (hus : ∀ (ci : Nat) (q : vw_C), vwCl[ci]? = some q → ∀ w ∈ u_ws q.1 q.2.1 q.2.2, w.before args s = true)
    (hn : ∀ w ∈ pm_need own (.ldc2_w i) res, w.before args s = true) (hnn : ∀ w ∈ pm_needN own (.ldc2_w i) res, w.before args s = true) (hao : ∀ t, 3 ≤ t → t ≤ 6 → va_AO (pm_atag t) s) (hck : pm_chk own ini (.ldc2_w i) len res = true) (hin : ini = true → meth.name = "<init>") (hrf : rk ≤ R.frames) (hrl : 42 * rk ≤ R.locals)
    (hd : decode cc pc = .ok (.ldc2_w i, len)) (hs : pm_do sc nL rk np mc rkOf (.ldc2_w i) res pc lv st h = some (.inl s1)) (O : pm_ok lv st h.1) : pm_Go p l e R s m args below meth c Q D aC b A nL nc0 ns0 (pc, lv, st, h) s1 ∧ pm_Ok2 (pc, lv, st, h) s1 := by
  have hlen : len = 3 := by simp only [pm_chk, pm_len, Bool.and_eq_true, Bool.or_eq_true, beq_iff_eq] at hck; omega
  subst hlen
  simp only [pm_do] at hs
  split at hs
  · cases hs
    exact ⟨po_ldc2 hx hb hown (hn _ List.mem_cons_self) hd, pk_st O (pk_c (pm_okv_long _ _) O.2.1)⟩
  · cases hs
theorem pq_iload_n {p : Program} {l : Launch} {e : Env} {R : Room} {s : State} {m : MethodId} {args : Array Value} {below : List Frame} {meth : Method} {c : Code} {Q : State → Prop}
    {D : va_G} {aC : Nat → ClassId} {b : Nat} {sc : pm_Sc} {A : Nat → Prop} {nL nc0 ns0 rk : Nat} {np mc rkOf : Nat → Nat} {cc : ByteArray} {own : String} {ini : Bool} {k : Fin 4} {len : Nat} {res : List Nat} {pc : Nat} {lv : pm_L} {st : List Value} {h : pm_H} {s1 : pm_S}
    (hx : p.tables.exec = Jvm.exec) (hb : c.code = cc) (hml : c.maxLocals = nL) (hown : s.vm.findClass own = some m.cls) (hK : va_K D vwCl (pm_tys aC) s) (hA : ∀ q, s.heap.size ≤ q → A q)
    (hX : va_X b sc.1 sc.2 s s.heap) (hbl : b < s.heap.size) (hbA : ¬ A b) (hus : ∀ (ci : Nat) (q : vw_C), vwCl[ci]? = some q → ∀ w ∈ u_ws q.1 q.2.1 q.2.2, w.before args s = true)
    (hn : ∀ w ∈ pm_need own (.iload_n k) res, w.before args s = true) (hnn : ∀ w ∈ pm_needN own (.iload_n k) res, w.before args s = true) (hao : ∀ t, 3 ≤ t → t ≤ 6 → va_AO (pm_atag t) s) (hck : pm_chk own ini (.iload_n k) len res = true) (hin : ini = true → meth.name = "<init>") (hrf : rk ≤ R.frames) (hrl : 42 * rk ≤ R.locals)
    (hd : decode cc pc = .ok (.iload_n k, len)) (hs : pm_do sc nL rk np mc rkOf (.iload_n k) res pc lv st h = some (.inl s1)) (O : pm_ok lv st h.1) : pm_Go p l e R s m args below meth c Q D aC b A nL nc0 ns0 (pc, lv, st, h) s1 ∧ pm_Ok2 (pc, lv, st, h) s1 := by
  have hlen : len = 1 := by simp only [pm_chk, pm_len, Bool.and_eq_true, Bool.or_eq_true, beq_iff_eq] at hck; omega
  subst hlen
  simp only [pm_do] at hs
  split at hs
  · next x hl => cases hs; exact ⟨po_iload_n hx hb hl hd, pk_st O (pk_c (pm_okv_int _ _) O.2.1)⟩
  · cases hs
theorem pq_iload {p : Program} {l : Launch} {e : Env} {R : Room} {s : State} {m : MethodId} {args : Array Value} {below : List Frame} {meth : Method} {c : Code} {Q : State → Prop}
    {D : va_G} {aC : Nat → ClassId} {b : Nat} {sc : pm_Sc} {A : Nat → Prop} {nL nc0 ns0 rk : Nat} {np mc rkOf : Nat → Nat} {cc : ByteArray} {own : String} {ini : Bool} {k : Nat} {len : Nat} {res : List Nat} {pc : Nat} {lv : pm_L} {st : List Value} {h : pm_H} {s1 : pm_S}
    (hx : p.tables.exec = Jvm.exec) (hb : c.code = cc) (hml : c.maxLocals = nL) (hown : s.vm.findClass own = some m.cls) (hK : va_K D vwCl (pm_tys aC) s) (hA : ∀ q, s.heap.size ≤ q → A q)
    (hX : va_X b sc.1 sc.2 s s.heap) (hbl : b < s.heap.size) (hbA : ¬ A b) (hus : ∀ (ci : Nat) (q : vw_C), vwCl[ci]? = some q → ∀ w ∈ u_ws q.1 q.2.1 q.2.2, w.before args s = true)
    (hn : ∀ w ∈ pm_need own (.iload k) res, w.before args s = true) (hnn : ∀ w ∈ pm_needN own (.iload k) res, w.before args s = true) (hao : ∀ t, 3 ≤ t → t ≤ 6 → va_AO (pm_atag t) s) (hck : pm_chk own ini (.iload k) len res = true) (hin : ini = true → meth.name = "<init>") (hrf : rk ≤ R.frames) (hrl : 42 * rk ≤ R.locals)
    (hd : decode cc pc = .ok (.iload k, len)) (hs : pm_do sc nL rk np mc rkOf (.iload k) res pc lv st h = some (.inl s1)) (O : pm_ok lv st h.1) : pm_Go p l e R s m args below meth c Q D aC b A nL nc0 ns0 (pc, lv, st, h) s1 ∧ pm_Ok2 (pc, lv, st, h) s1 := by
  have hlen : len = 2 := by simp only [pm_chk, pm_len, Bool.and_eq_true, Bool.or_eq_true, beq_iff_eq] at hck; omega
  subst hlen
  simp only [pm_do] at hs
  split at hs
  · next x hl => cases hs; exact ⟨po_iload hx hb hl hd, pk_st O (pk_c (pm_okv_int _ _) O.2.1)⟩
  · cases hs
theorem pq_lload_n {p : Program} {l : Launch} {e : Env} {R : Room} {s : State} {m : MethodId} {args : Array Value} {below : List Frame} {meth : Method} {c : Code} {Q : State → Prop}
    {D : va_G} {aC : Nat → ClassId} {b : Nat} {sc : pm_Sc} {A : Nat → Prop} {nL nc0 ns0 rk : Nat} {np mc rkOf : Nat → Nat} {cc : ByteArray} {own : String} {ini : Bool} {k : Fin 4} {len : Nat} {res : List Nat} {pc : Nat} {lv : pm_L} {st : List Value} {h : pm_H} {s1 : pm_S}
    (hx : p.tables.exec = Jvm.exec) (hb : c.code = cc) (hml : c.maxLocals = nL) (hown : s.vm.findClass own = some m.cls) (hK : va_K D vwCl (pm_tys aC) s) (hA : ∀ q, s.heap.size ≤ q → A q)
    (hX : va_X b sc.1 sc.2 s s.heap) (hbl : b < s.heap.size) (hbA : ¬ A b) (hus : ∀ (ci : Nat) (q : vw_C), vwCl[ci]? = some q → ∀ w ∈ u_ws q.1 q.2.1 q.2.2, w.before args s = true)
    (hn : ∀ w ∈ pm_need own (.lload_n k) res, w.before args s = true) (hnn : ∀ w ∈ pm_needN own (.lload_n k) res, w.before args s = true) (hao : ∀ t, 3 ≤ t → t ≤ 6 → va_AO (pm_atag t) s) (hck : pm_chk own ini (.lload_n k) len res = true) (hin : ini = true → meth.name = "<init>") (hrf : rk ≤ R.frames) (hrl : 42 * rk ≤ R.locals)
    (hd : decode cc pc = .ok (.lload_n k, len)) (hs : pm_do sc nL rk np mc rkOf (.lload_n k) res pc lv st h = some (.inl s1)) (O : pm_ok lv st h.1) : pm_Go p l e R s m args below meth c Q D aC b A nL nc0 ns0 (pc, lv, st, h) s1 ∧ pm_Ok2 (pc, lv, st, h) s1 := by
  have hlen : len = 1 := by simp only [pm_chk, pm_len, Bool.and_eq_true, Bool.or_eq_true, beq_iff_eq] at hck; omega
  subst hlen
  simp only [pm_do] at hs
  split at hs
  · next x hl => cases hs; exact ⟨po_lload_n hx hb hl hd, pk_st O (pk_c (pm_okv_long _ _) O.2.1)⟩
  · cases hs
theorem pq_lload {p : Program} {l : Launch} {e : Env} {R : Room} {s : State} {m : MethodId} {args : Array Value} {below : List Frame} {meth : Method} {c : Code} {Q : State → Prop}
    {D : va_G} {aC : Nat → ClassId} {b : Nat} {sc : pm_Sc} {A : Nat → Prop} {nL nc0 ns0 rk : Nat} {np mc rkOf : Nat → Nat} {cc : ByteArray} {own : String} {ini : Bool} {k : Nat} {len : Nat} {res : List Nat} {pc : Nat} {lv : pm_L} {st : List Value} {h : pm_H} {s1 : pm_S}
    (hx : p.tables.exec = Jvm.exec) (hb : c.code = cc) (hml : c.maxLocals = nL) (hown : s.vm.findClass own = some m.cls) (hK : va_K D vwCl (pm_tys aC) s) (hA : ∀ q, s.heap.size ≤ q → A q)
    (hX : va_X b sc.1 sc.2 s s.heap) (hbl : b < s.heap.size) (hbA : ¬ A b) (hus : ∀ (ci : Nat) (q : vw_C), vwCl[ci]? = some q → ∀ w ∈ u_ws q.1 q.2.1 q.2.2, w.before args s = true)
    (hn : ∀ w ∈ pm_need own (.lload k) res, w.before args s = true) (hnn : ∀ w ∈ pm_needN own (.lload k) res, w.before args s = true) (hao : ∀ t, 3 ≤ t → t ≤ 6 → va_AO (pm_atag t) s) (hck : pm_chk own ini (.lload k) len res = true) (hin : ini = true → meth.name = "<init>") (hrf : rk ≤ R.frames) (hrl : 42 * rk ≤ R.locals)
    (hd : decode cc pc = .ok (.lload k, len)) (hs : pm_do sc nL rk np mc rkOf (.lload k) res pc lv st h = some (.inl s1)) (O : pm_ok lv st h.1) : pm_Go p l e R s m args below meth c Q D aC b A nL nc0 ns0 (pc, lv, st, h) s1 ∧ pm_Ok2 (pc, lv, st, h) s1 := by
  have hlen : len = 2 := by simp only [pm_chk, pm_len, Bool.and_eq_true, Bool.or_eq_true, beq_iff_eq] at hck; omega
  subst hlen
  simp only [pm_do] at hs
  split at hs
  · next x hl => cases hs; exact ⟨po_lload hx hb hl hd, pk_st O (pk_c (pm_okv_long _ _) O.2.1)⟩
  · cases hs
theorem pq_aload_n {p : Program} {l : Launch} {e : Env} {R : Room} {s : State} {m : MethodId} {args : Array Value} {below : List Frame} {meth : Method} {c : Code} {Q : State → Prop}
    {D : va_G} {aC : Nat → ClassId} {b : Nat} {sc : pm_Sc} {A : Nat → Prop} {nL nc0 ns0 rk : Nat} {np mc rkOf : Nat → Nat} {cc : ByteArray} {own : String} {ini : Bool} {k : Fin 4} {len : Nat} {res : List Nat} {pc : Nat} {lv : pm_L} {st : List Value} {h : pm_H} {s1 : pm_S}
    (hx : p.tables.exec = Jvm.exec) (hb : c.code = cc) (hml : c.maxLocals = nL) (hown : s.vm.findClass own = some m.cls) (hK : va_K D vwCl (pm_tys aC) s) (hA : ∀ q, s.heap.size ≤ q → A q)
    (hX : va_X b sc.1 sc.2 s s.heap) (hbl : b < s.heap.size) (hbA : ¬ A b) (hus : ∀ (ci : Nat) (q : vw_C), vwCl[ci]? = some q → ∀ w ∈ u_ws q.1 q.2.1 q.2.2, w.before args s = true)
    (hn : ∀ w ∈ pm_need own (.aload_n k) res, w.before args s = true) (hnn : ∀ w ∈ pm_needN own (.aload_n k) res, w.before args s = true) (hao : ∀ t, 3 ≤ t → t ≤ 6 → va_AO (pm_atag t) s) (hck : pm_chk own ini (.aload_n k) len res = true) (hin : ini = true → meth.name = "<init>") (hrf : rk ≤ R.frames) (hrl : 42 * rk ≤ R.locals)
    (hd : decode cc pc = .ok (.aload_n k, len)) (hs : pm_do sc nL rk np mc rkOf (.aload_n k) res pc lv st h = some (.inl s1)) (O : pm_ok lv st h.1) : pm_Go p l e R s m args below meth c Q D aC b A nL nc0 ns0 (pc, lv, st, h) s1 ∧ pm_Ok2 (pc, lv, st, h) s1 := by
  have hlen : len = 1 := by simp only [pm_chk, pm_len, Bool.and_eq_true, Bool.or_eq_true, beq_iff_eq] at hck; omega
  subst hlen
  simp only [pm_do] at hs
  split at hs
  · next x hl => cases hs; exact ⟨po_aload_n hx hb hl hd, pk_st O (pk_c (O.1 _ (pm_ld_mem hl)) O.2.1)⟩
  · next hl => cases hs; exact ⟨po_aload_nN hx hb hl hd, pk_st O (pk_c (pm_okv_null _) O.2.1)⟩
  · next x hl => cases hs; exact ⟨po_aload_nS hx hb hl hd, pk_st O (pk_c (pm_okv_ra _ _) O.2.1)⟩
  · cases hs
theorem pq_aload {p : Program} {l : Launch} {e : Env} {R : Room} {s : State} {m : MethodId} {args : Array Value} {below : List Frame} {meth : Method} {c : Code} {Q : State → Prop}
    {D : va_G} {aC : Nat → ClassId} {b : Nat} {sc : pm_Sc} {A : Nat → Prop} {nL nc0 ns0 rk : Nat} {np mc rkOf : Nat → Nat} {cc : ByteArray} {own : String} {ini : Bool} {k : Nat} {len : Nat} {res : List Nat} {pc : Nat} {lv : pm_L} {st : List Value} {h : pm_H} {s1 : pm_S}
    (hx : p.tables.exec = Jvm.exec) (hb : c.code = cc) (hml : c.maxLocals = nL) (hown : s.vm.findClass own = some m.cls) (hK : va_K D vwCl (pm_tys aC) s) (hA : ∀ q, s.heap.size ≤ q → A q)
    (hX : va_X b sc.1 sc.2 s s.heap) (hbl : b < s.heap.size) (hbA : ¬ A b) (hus : ∀ (ci : Nat) (q : vw_C), vwCl[ci]? = some q → ∀ w ∈ u_ws q.1 q.2.1 q.2.2, w.before args s = true)
    (hn : ∀ w ∈ pm_need own (.aload k) res, w.before args s = true) (hnn : ∀ w ∈ pm_needN own (.aload k) res, w.before args s = true) (hao : ∀ t, 3 ≤ t → t ≤ 6 → va_AO (pm_atag t) s) (hck : pm_chk own ini (.aload k) len res = true) (hin : ini = true → meth.name = "<init>") (hrf : rk ≤ R.frames) (hrl : 42 * rk ≤ R.locals)
    (hd : decode cc pc = .ok (.aload k, len)) (hs : pm_do sc nL rk np mc rkOf (.aload k) res pc lv st h = some (.inl s1)) (O : pm_ok lv st h.1) : pm_Go p l e R s m args below meth c Q D aC b A nL nc0 ns0 (pc, lv, st, h) s1 ∧ pm_Ok2 (pc, lv, st, h) s1 := by
  have hlen : len = 2 := by simp only [pm_chk, pm_len, Bool.and_eq_true, Bool.or_eq_true, beq_iff_eq] at hck; omega
  subst hlen
  simp only [pm_do] at hs
  split at hs
  · next x hl => cases hs; exact ⟨po_aload hx hb hl hd, pk_st O (pk_c (O.1 _ (pm_ld_mem hl)) O.2.1)⟩
  · next hl => cases hs; exact ⟨po_aloadN hx hb hl hd, pk_st O (pk_c (pm_okv_null _) O.2.1)⟩
  · next x hl => cases hs; exact ⟨po_aloadS hx hb hl hd, pk_st O (pk_c (pm_okv_ra _ _) O.2.1)⟩
  · cases hs
theorem pq_istore_n {p : Program} {l : Launch} {e : Env} {R : Room} {s : State} {m : MethodId} {args : Array Value} {below : List Frame} {meth : Method} {c : Code} {Q : State → Prop}
    {D : va_G} {aC : Nat → ClassId} {b : Nat} {sc : pm_Sc} {A : Nat → Prop} {nL nc0 ns0 rk : Nat} {np mc rkOf : Nat → Nat} {cc : ByteArray} {own : String} {ini : Bool} {k : Fin 4} {len : Nat} {res : List Nat} {pc : Nat} {lv : pm_L} {st : List Value} {h : pm_H} {s1 : pm_S}
    (hx : p.tables.exec = Jvm.exec) (hb : c.code = cc) (hml : c.maxLocals = nL) (hown : s.vm.findClass own = some m.cls) (hK : va_K D vwCl (pm_tys aC) s) (hA : ∀ q, s.heap.size ≤ q → A q)
    (hX : va_X b sc.1 sc.2 s s.heap) (hbl : b < s.heap.size) (hbA : ¬ A b) (hus : ∀ (ci : Nat) (q : vw_C), vwCl[ci]? = some q → ∀ w ∈ u_ws q.1 q.2.1 q.2.2, w.before args s = true)
    (hn : ∀ w ∈ pm_need own (.istore_n k) res, w.before args s = true) (hnn : ∀ w ∈ pm_needN own (.istore_n k) res, w.before args s = true) (hao : ∀ t, 3 ≤ t → t ≤ 6 → va_AO (pm_atag t) s) (hck : pm_chk own ini (.istore_n k) len res = true) (hin : ini = true → meth.name = "<init>") (hrf : rk ≤ R.frames) (hrl : 42 * rk ≤ R.locals)
    (hd : decode cc pc = .ok (.istore_n k, len)) (hs : pm_do sc nL rk np mc rkOf (.istore_n k) res pc lv st h = some (.inl s1)) (O : pm_ok lv st h.1) : pm_Go p l e R s m args below meth c Q D aC b A nL nc0 ns0 (pc, lv, st, h) s1 ∧ pm_Ok2 (pc, lv, st, h) s1 := by
  have hlen : len = 1 := by simp only [pm_chk, pm_len, Bool.and_eq_true, Bool.or_eq_true, beq_iff_eq] at hck; omega
  subst hlen
  simp only [pm_do] at hs
  split at hs
  · split at hs
    · next hk => cases hs; exact ⟨po_istore_n hx hb hd hk, pk_lv O (pm_s1_ok O.1 (pm_okv_int _ _)) (pk_t1 O.2.1)⟩
    · cases hs
  · cases hs
theorem pq_istore {p : Program} {l : Launch} {e : Env} {R : Room} {s : State} {m : MethodId} {args : Array Value} {below : List Frame} {meth : Method} {c : Code} {Q : State → Prop}
    {D : va_G} {aC : Nat → ClassId} {b : Nat} {sc : pm_Sc} {A : Nat → Prop} {nL nc0 ns0 rk : Nat} {np mc rkOf : Nat → Nat} {cc : ByteArray} {own : String} {ini : Bool} {k : Nat} {len : Nat} {res : List Nat} {pc : Nat} {lv : pm_L} {st : List Value} {h : pm_H} {s1 : pm_S}
    (hx : p.tables.exec = Jvm.exec) (hb : c.code = cc) (hml : c.maxLocals = nL) (hown : s.vm.findClass own = some m.cls) (hK : va_K D vwCl (pm_tys aC) s) (hA : ∀ q, s.heap.size ≤ q → A q)
    (hX : va_X b sc.1 sc.2 s s.heap) (hbl : b < s.heap.size) (hbA : ¬ A b) (hus : ∀ (ci : Nat) (q : vw_C), vwCl[ci]? = some q → ∀ w ∈ u_ws q.1 q.2.1 q.2.2, w.before args s = true)
    (hn : ∀ w ∈ pm_need own (.istore k) res, w.before args s = true) (hnn : ∀ w ∈ pm_needN own (.istore k) res, w.before args s = true) (hao : ∀ t, 3 ≤ t → t ≤ 6 → va_AO (pm_atag t) s) (hck : pm_chk own ini (.istore k) len res = true) (hin : ini = true → meth.name = "<init>") (hrf : rk ≤ R.frames) (hrl : 42 * rk ≤ R.locals)
    (hd : decode cc pc = .ok (.istore k, len)) (hs : pm_do sc nL rk np mc rkOf (.istore k) res pc lv st h = some (.inl s1)) (O : pm_ok lv st h.1) : pm_Go p l e R s m args below meth c Q D aC b A nL nc0 ns0 (pc, lv, st, h) s1 ∧ pm_Ok2 (pc, lv, st, h) s1 := by
  have hlen : len = 2 := by simp only [pm_chk, pm_len, Bool.and_eq_true, Bool.or_eq_true, beq_iff_eq] at hck; omega
  subst hlen
  simp only [pm_do] at hs
  split at hs
  · split at hs
    · next hk => cases hs; exact ⟨po_istore hx hb hd hk, pk_lv O (pm_s1_ok O.1 (pm_okv_int _ _)) (pk_t1 O.2.1)⟩
    · cases hs
  · cases hs
theorem pq_lstore_n {p : Program} {l : Launch} {e : Env} {R : Room} {s : State} {m : MethodId} {args : Array Value} {below : List Frame} {meth : Method} {c : Code} {Q : State → Prop}
    {D : va_G} {aC : Nat → ClassId} {b : Nat} {sc : pm_Sc} {A : Nat → Prop} {nL nc0 ns0 rk : Nat} {np mc rkOf : Nat → Nat} {cc : ByteArray} {own : String} {ini : Bool} {k : Fin 4} {len : Nat} {res : List Nat} {pc : Nat} {lv : pm_L} {st : List Value} {h : pm_H} {s1 : pm_S}
    (hx : p.tables.exec = Jvm.exec) (hb : c.code = cc) (hml : c.maxLocals = nL) (hown : s.vm.findClass own = some m.cls) (hK : va_K D vwCl (pm_tys aC) s) (hA : ∀ q, s.heap.size ≤ q → A q)
    (hX : va_X b sc.1 sc.2 s s.heap) (hbl : b < s.heap.size) (hbA : ¬ A b) (hus : ∀ (ci : Nat) (q : vw_C), vwCl[ci]? = some q → ∀ w ∈ u_ws q.1 q.2.1 q.2.2, w.before args s = true)
    (hn : ∀ w ∈ pm_need own (.lstore_n k) res, w.before args s = true) (hnn : ∀ w ∈ pm_needN own (.lstore_n k) res, w.before args s = true) (hao : ∀ t, 3 ≤ t → t ≤ 6 → va_AO (pm_atag t) s) (hck : pm_chk own ini (.lstore_n k) len res = true) (hin : ini = true → meth.name = "<init>") (hrf : rk ≤ R.frames) (hrl : 42 * rk ≤ R.locals)
    (hd : decode cc pc = .ok (.lstore_n k, len)) (hs : pm_do sc nL rk np mc rkOf (.lstore_n k) res pc lv st h = some (.inl s1)) (O : pm_ok lv st h.1) : pm_Go p l e R s m args below meth c Q D aC b A nL nc0 ns0 (pc, lv, st, h) s1 ∧ pm_Ok2 (pc, lv, st, h) s1 := by
  have hlen : len = 1 := by simp only [pm_chk, pm_len, Bool.and_eq_true, Bool.or_eq_true, beq_iff_eq] at hck; omega
  subst hlen
  simp only [pm_do] at hs
  split at hs
  · split at hs
    · next hk => cases hs; exact ⟨po_lstore_n hx hb hd hk, pk_lv O (pm_s2_ok O.1 (pm_okv_long _ _)) (pk_t1 O.2.1)⟩
    · cases hs
  · cases hs
theorem pq_lstore {p : Program} {l : Launch} {e : Env} {R : Room} {s : State} {m : MethodId} {args : Array Value} {below : List Frame} {meth : Method} {c : Code} {Q : State → Prop}
    {D : va_G} {aC : Nat → ClassId} {b : Nat} {sc : pm_Sc} {A : Nat → Prop} {nL nc0 ns0 rk : Nat} {np mc rkOf : Nat → Nat} {cc : ByteArray} {own : String} {ini : Bool} {k : Nat} {len : Nat} {res : List Nat} {pc : Nat} {lv : pm_L} {st : List Value} {h : pm_H} {s1 : pm_S}
    (hx : p.tables.exec = Jvm.exec) (hb : c.code = cc) (hml : c.maxLocals = nL) (hown : s.vm.findClass own = some m.cls) (hK : va_K D vwCl (pm_tys aC) s) (hA : ∀ q, s.heap.size ≤ q → A q)
    (hX : va_X b sc.1 sc.2 s s.heap) (hbl : b < s.heap.size) (hbA : ¬ A b) (hus : ∀ (ci : Nat) (q : vw_C), vwCl[ci]? = some q → ∀ w ∈ u_ws q.1 q.2.1 q.2.2, w.before args s = true)
    (hn : ∀ w ∈ pm_need own (.lstore k) res, w.before args s = true) (hnn : ∀ w ∈ pm_needN own (.lstore k) res, w.before args s = true) (hao : ∀ t, 3 ≤ t → t ≤ 6 → va_AO (pm_atag t) s) (hck : pm_chk own ini (.lstore k) len res = true) (hin : ini = true → meth.name = "<init>") (hrf : rk ≤ R.frames) (hrl : 42 * rk ≤ R.locals)
    (hd : decode cc pc = .ok (.lstore k, len)) (hs : pm_do sc nL rk np mc rkOf (.lstore k) res pc lv st h = some (.inl s1)) (O : pm_ok lv st h.1) : pm_Go p l e R s m args below meth c Q D aC b A nL nc0 ns0 (pc, lv, st, h) s1 ∧ pm_Ok2 (pc, lv, st, h) s1 := by
  have hlen : len = 2 := by simp only [pm_chk, pm_len, Bool.and_eq_true, Bool.or_eq_true, beq_iff_eq] at hck; omega
  subst hlen
  simp only [pm_do] at hs
  split at hs
  · split at hs
    · next hk => cases hs; exact ⟨po_lstore hx hb hd hk, pk_lv O (pm_s2_ok O.1 (pm_okv_long _ _)) (pk_t1 O.2.1)⟩
    · cases hs
  · cases hs
theorem pq_astore_n {p : Program} {l : Launch} {e : Env} {R : Room} {s : State} {m : MethodId} {args : Array Value} {below : List Frame} {meth : Method} {c : Code} {Q : State → Prop}
    {D : va_G} {aC : Nat → ClassId} {b : Nat} {sc : pm_Sc} {A : Nat → Prop} {nL nc0 ns0 rk : Nat} {np mc rkOf : Nat → Nat} {cc : ByteArray} {own : String} {ini : Bool} {k : Fin 4} {len : Nat} {res : List Nat} {pc : Nat} {lv : pm_L} {st : List Value} {h : pm_H} {s1 : pm_S}
    (hx : p.tables.exec = Jvm.exec) (hb : c.code = cc) (hml : c.maxLocals = nL) (hown : s.vm.findClass own = some m.cls) (hK : va_K D vwCl (pm_tys aC) s) (hA : ∀ q, s.heap.size ≤ q → A q)
    (hX : va_X b sc.1 sc.2 s s.heap) (hbl : b < s.heap.size) (hbA : ¬ A b) (hus : ∀ (ci : Nat) (q : vw_C), vwCl[ci]? = some q → ∀ w ∈ u_ws q.1 q.2.1 q.2.2, w.before args s = true)
    (hn : ∀ w ∈ pm_need own (.astore_n k) res, w.before args s = true) (hnn : ∀ w ∈ pm_needN own (.astore_n k) res, w.before args s = true) (hao : ∀ t, 3 ≤ t → t ≤ 6 → va_AO (pm_atag t) s) (hck : pm_chk own ini (.astore_n k) len res = true) (hin : ini = true → meth.name = "<init>") (hrf : rk ≤ R.frames) (hrl : 42 * rk ≤ R.locals)
    (hd : decode cc pc = .ok (.astore_n k, len)) (hs : pm_do sc nL rk np mc rkOf (.astore_n k) res pc lv st h = some (.inl s1)) (O : pm_ok lv st h.1) : pm_Go p l e R s m args below meth c Q D aC b A nL nc0 ns0 (pc, lv, st, h) s1 ∧ pm_Ok2 (pc, lv, st, h) s1 := by
  have hlen : len = 1 := by simp only [pm_chk, pm_len, Bool.and_eq_true, Bool.or_eq_true, beq_iff_eq] at hck; omega
  subst hlen
  simp only [pm_do] at hs
  split at hs
  · split at hs
    · next hk => cases hs; exact ⟨po_astore_n hx hb hd hk, pk_lv O (pm_s1_ok O.1 (pk_h O.2.1)) (pk_t1 O.2.1)⟩
    · cases hs
  · split at hs
    · next hk => cases hs; exact ⟨po_astore_nN hx hb hd hk, pk_lv O (pm_s1_ok O.1 (pm_okv_null _)) (pk_t1 O.2.1)⟩
    · cases hs
  · cases hs
theorem pq_astore {p : Program} {l : Launch} {e : Env} {R : Room} {s : State} {m : MethodId} {args : Array Value} {below : List Frame} {meth : Method} {c : Code} {Q : State → Prop}
    {D : va_G} {aC : Nat → ClassId} {b : Nat} {sc : pm_Sc} {A : Nat → Prop} {nL nc0 ns0 rk : Nat} {np mc rkOf : Nat → Nat} {cc : ByteArray} {own : String} {ini : Bool} {k : Nat} {len : Nat} {res : List Nat} {pc : Nat} {lv : pm_L} {st : List Value} {h : pm_H} {s1 : pm_S}
    (hx : p.tables.exec = Jvm.exec) (hb : c.code = cc) (hml : c.maxLocals = nL) (hown : s.vm.findClass own = some m.cls) (hK : va_K D vwCl (pm_tys aC) s) (hA : ∀ q, s.heap.size ≤ q → A q)
    (hX : va_X b sc.1 sc.2 s s.heap) (hbl : b < s.heap.size) (hbA : ¬ A b) (hus : ∀ (ci : Nat) (q : vw_C), vwCl[ci]? = some q → ∀ w ∈ u_ws q.1 q.2.1 q.2.2, w.before args s = true)
    (hn : ∀ w ∈ pm_need own (.astore k) res, w.before args s = true) (hnn : ∀ w ∈ pm_needN own (.astore k) res, w.before args s = true) (hao : ∀ t, 3 ≤ t → t ≤ 6 → va_AO (pm_atag t) s) (hck : pm_chk own ini (.astore k) len res = true) (hin : ini = true → meth.name = "<init>") (hrf : rk ≤ R.frames) (hrl : 42 * rk ≤ R.locals)
    (hd : decode cc pc = .ok (.astore k, len)) (hs : pm_do sc nL rk np mc rkOf (.astore k) res pc lv st h = some (.inl s1)) (O : pm_ok lv st h.1) : pm_Go p l e R s m args below meth c Q D aC b A nL nc0 ns0 (pc, lv, st, h) s1 ∧ pm_Ok2 (pc, lv, st, h) s1 := by
  have hlen : len = 2 := by simp only [pm_chk, pm_len, Bool.and_eq_true, Bool.or_eq_true, beq_iff_eq] at hck; omega
  subst hlen
  simp only [pm_do] at hs
  split at hs
  · split at hs
    · next hk => cases hs; exact ⟨po_astore hx hb hd hk, pk_lv O (pm_s1_ok O.1 (pk_h O.2.1)) (pk_t1 O.2.1)⟩
    · cases hs
  · split at hs
    · next hk => cases hs; exact ⟨po_astoreN hx hb hd hk, pk_lv O (pm_s1_ok O.1 (pm_okv_null _)) (pk_t1 O.2.1)⟩
    · cases hs
  · cases hs
theorem pq_iinc {p : Program} {l : Launch} {e : Env} {R : Room} {s : State} {m : MethodId} {args : Array Value} {below : List Frame} {meth : Method} {c : Code} {Q : State → Prop}
    {D : va_G} {aC : Nat → ClassId} {b : Nat} {sc : pm_Sc} {A : Nat → Prop} {nL nc0 ns0 rk : Nat} {np mc rkOf : Nat → Nat} {cc : ByteArray} {own : String} {ini : Bool} {k : Nat} {n : Int} {len : Nat} {res : List Nat} {pc : Nat} {lv : pm_L} {st : List Value} {h : pm_H} {s1 : pm_S}
    (hx : p.tables.exec = Jvm.exec) (hb : c.code = cc) (hml : c.maxLocals = nL) (hown : s.vm.findClass own = some m.cls) (hK : va_K D vwCl (pm_tys aC) s) (hA : ∀ q, s.heap.size ≤ q → A q)
    (hX : va_X b sc.1 sc.2 s s.heap) (hbl : b < s.heap.size) (hbA : ¬ A b) (hus : ∀ (ci : Nat) (q : vw_C), vwCl[ci]? = some q → ∀ w ∈ u_ws q.1 q.2.1 q.2.2, w.before args s = true)
    (hn : ∀ w ∈ pm_need own (.iinc k n) res, w.before args s = true) (hnn : ∀ w ∈ pm_needN own (.iinc k n) res, w.before args s = true) (hao : ∀ t, 3 ≤ t → t ≤ 6 → va_AO (pm_atag t) s) (hck : pm_chk own ini (.iinc k n) len res = true) (hin : ini = true → meth.name = "<init>") (hrf : rk ≤ R.frames) (hrl : 42 * rk ≤ R.locals)
    (hd : decode cc pc = .ok (.iinc k n, len)) (hs : pm_do sc nL rk np mc rkOf (.iinc k n) res pc lv st h = some (.inl s1)) (O : pm_ok lv st h.1) : pm_Go p l e R s m args below meth c Q D aC b A nL nc0 ns0 (pc, lv, st, h) s1 ∧ pm_Ok2 (pc, lv, st, h) s1 := by
  have hlen : len = 3 := by simp only [pm_chk, pm_len, Bool.and_eq_true, Bool.or_eq_true, beq_iff_eq] at hck; omega
  subst hlen
  simp only [pm_do] at hs
  split at hs
  · next x hl =>
    split at hs
    · next hk => cases hs; exact ⟨po_iinc hx hb hd hl hk, pk_lv O (pm_s1_ok O.1 (pm_okv_int _ _)) O.2.1⟩
    · cases hs
  · cases hs
theorem pq_dup {p : Program} {l : Launch} {e : Env} {R : Room} {s : State} {m : MethodId} {args : Array Value} {below : List Frame} {meth : Method} {c : Code} {Q : State → Prop}
    {D : va_G} {aC : Nat → ClassId} {b : Nat} {sc : pm_Sc} {A : Nat → Prop} {nL nc0 ns0 rk : Nat} {np mc rkOf : Nat → Nat} {cc : ByteArray} {own : String} {ini : Bool} {len : Nat} {res : List Nat} {pc : Nat} {lv : pm_L} {st : List Value} {h : pm_H} {s1 : pm_S}
    (hx : p.tables.exec = Jvm.exec) (hb : c.code = cc) (hml : c.maxLocals = nL) (hown : s.vm.findClass own = some m.cls) (hK : va_K D vwCl (pm_tys aC) s) (hA : ∀ q, s.heap.size ≤ q → A q)
    (hX : va_X b sc.1 sc.2 s s.heap) (hbl : b < s.heap.size) (hbA : ¬ A b) (hus : ∀ (ci : Nat) (q : vw_C), vwCl[ci]? = some q → ∀ w ∈ u_ws q.1 q.2.1 q.2.2, w.before args s = true)
    (hn : ∀ w ∈ pm_need own (.dup) res, w.before args s = true) (hnn : ∀ w ∈ pm_needN own (.dup) res, w.before args s = true) (hao : ∀ t, 3 ≤ t → t ≤ 6 → va_AO (pm_atag t) s) (hck : pm_chk own ini (.dup) len res = true) (hin : ini = true → meth.name = "<init>") (hrf : rk ≤ R.frames) (hrl : 42 * rk ≤ R.locals)
    (hd : decode cc pc = .ok (.dup, len)) (hs : pm_do sc nL rk np mc rkOf (.dup) res pc lv st h = some (.inl s1)) (O : pm_ok lv st h.1) : pm_Go p l e R s m args below meth c Q D aC b A nL nc0 ns0 (pc, lv, st, h) s1 ∧ pm_Ok2 (pc, lv, st, h) s1 := by
  have hlen : len = 1 := by simp only [pm_chk, pm_len, Bool.and_eq_true, Bool.or_eq_true, beq_iff_eq] at hck; omega
  subst hlen
  simp only [pm_do] at hs
  split at hs
  · split at hs
    · next hk => cases hs; exact ⟨po_dup hx hb hk hd, pk_st O (pk_c (pk_h O.2.1) O.2.1)⟩
    · cases hs
  · cases hs
theorem pq_pop {p : Program} {l : Launch} {e : Env} {R : Room} {s : State} {m : MethodId} {args : Array Value} {below : List Frame} {meth : Method} {c : Code} {Q : State → Prop}
    {D : va_G} {aC : Nat → ClassId} {b : Nat} {sc : pm_Sc} {A : Nat → Prop} {nL nc0 ns0 rk : Nat} {np mc rkOf : Nat → Nat} {cc : ByteArray} {own : String} {ini : Bool} {len : Nat} {res : List Nat} {pc : Nat} {lv : pm_L} {st : List Value} {h : pm_H} {s1 : pm_S}
    (hx : p.tables.exec = Jvm.exec) (hb : c.code = cc) (hml : c.maxLocals = nL) (hown : s.vm.findClass own = some m.cls) (hK : va_K D vwCl (pm_tys aC) s) (hA : ∀ q, s.heap.size ≤ q → A q)
    (hX : va_X b sc.1 sc.2 s s.heap) (hbl : b < s.heap.size) (hbA : ¬ A b) (hus : ∀ (ci : Nat) (q : vw_C), vwCl[ci]? = some q → ∀ w ∈ u_ws q.1 q.2.1 q.2.2, w.before args s = true)
    (hn : ∀ w ∈ pm_need own (.pop) res, w.before args s = true) (hnn : ∀ w ∈ pm_needN own (.pop) res, w.before args s = true) (hao : ∀ t, 3 ≤ t → t ≤ 6 → va_AO (pm_atag t) s) (hck : pm_chk own ini (.pop) len res = true) (hin : ini = true → meth.name = "<init>") (hrf : rk ≤ R.frames) (hrl : 42 * rk ≤ R.locals)
    (hd : decode cc pc = .ok (.pop, len)) (hs : pm_do sc nL rk np mc rkOf (.pop) res pc lv st h = some (.inl s1)) (O : pm_ok lv st h.1) : pm_Go p l e R s m args below meth c Q D aC b A nL nc0 ns0 (pc, lv, st, h) s1 ∧ pm_Ok2 (pc, lv, st, h) s1 := by
  have hlen : len = 1 := by simp only [pm_chk, pm_len, Bool.and_eq_true, Bool.or_eq_true, beq_iff_eq] at hck; omega
  subst hlen
  simp only [pm_do] at hs
  split at hs
  · split at hs
    · next hk => cases hs; exact ⟨po_pop hx hb hk hd, pk_st O (pk_t1 O.2.1)⟩
    · cases hs
  · cases hs
theorem pq_dup2 {p : Program} {l : Launch} {e : Env} {R : Room} {s : State} {m : MethodId} {args : Array Value} {below : List Frame} {meth : Method} {c : Code} {Q : State → Prop}
    {D : va_G} {aC : Nat → ClassId} {b : Nat} {sc : pm_Sc} {A : Nat → Prop} {nL nc0 ns0 rk : Nat} {np mc rkOf : Nat → Nat} {cc : ByteArray} {own : String} {ini : Bool} {len : Nat} {res : List Nat} {pc : Nat} {lv : pm_L} {st : List Value} {h : pm_H} {s1 : pm_S}
    (hx : p.tables.exec = Jvm.exec) (hb : c.code = cc) (hml : c.maxLocals = nL) (hown : s.vm.findClass own = some m.cls) (hK : va_K D vwCl (pm_tys aC) s) (hA : ∀ q, s.heap.size ≤ q → A q)
    (hX : va_X b sc.1 sc.2 s s.heap) (hbl : b < s.heap.size) (hbA : ¬ A b) (hus : ∀ (ci : Nat) (q : vw_C), vwCl[ci]? = some q → ∀ w ∈ u_ws q.1 q.2.1 q.2.2, w.before args s = true)
    (hn : ∀ w ∈ pm_need own (.dup2) res, w.before args s = true) (hnn : ∀ w ∈ pm_needN own (.dup2) res, w.before args s = true) (hao : ∀ t, 3 ≤ t → t ≤ 6 → va_AO (pm_atag t) s) (hck : pm_chk own ini (.dup2) len res = true) (hin : ini = true → meth.name = "<init>") (hrf : rk ≤ R.frames) (hrl : 42 * rk ≤ R.locals)
    (hd : decode cc pc = .ok (.dup2, len)) (hs : pm_do sc nL rk np mc rkOf (.dup2) res pc lv st h = some (.inl s1)) (O : pm_ok lv st h.1) : pm_Go p l e R s m args below meth c Q D aC b A nL nc0 ns0 (pc, lv, st, h) s1 ∧ pm_Ok2 (pc, lv, st, h) s1 := by
  have hlen : len = 1 := by simp only [pm_chk, pm_len, Bool.and_eq_true, Bool.or_eq_true, beq_iff_eq] at hck; omega
  subst hlen
  simp only [pm_do] at hs
  split at hs
  · split at hs
    · next hk => cases hs; exact ⟨po_dup2 hx hb hk.1 hk.2 hd, pk_st O (pk_c (pk_h O.2.1) (pk_c (pk_h (pk_t1 O.2.1)) O.2.1))⟩
    · cases hs
  · cases hs
theorem pq_goto {p : Program} {l : Launch} {e : Env} {R : Room} {s : State} {m : MethodId} {args : Array Value} {below : List Frame} {meth : Method} {c : Code} {Q : State → Prop}
    {D : va_G} {aC : Nat → ClassId} {b : Nat} {sc : pm_Sc} {A : Nat → Prop} {nL nc0 ns0 rk : Nat} {np mc rkOf : Nat → Nat} {cc : ByteArray} {own : String} {ini : Bool} {off : Int} {len : Nat} {res : List Nat} {pc : Nat} {lv : pm_L} {st : List Value} {h : pm_H} {s1 : pm_S}
    (hx : p.tables.exec = Jvm.exec) (hb : c.code = cc) (hml : c.maxLocals = nL) (hown : s.vm.findClass own = some m.cls) (hK : va_K D vwCl (pm_tys aC) s) (hA : ∀ q, s.heap.size ≤ q → A q)
    (hX : va_X b sc.1 sc.2 s s.heap) (hbl : b < s.heap.size) (hbA : ¬ A b) (hus : ∀ (ci : Nat) (q : vw_C), vwCl[ci]? = some q → ∀ w ∈ u_ws q.1 q.2.1 q.2.2, w.before args s = true)
    (hn : ∀ w ∈ pm_need own (.goto off) res, w.before args s = true) (hnn : ∀ w ∈ pm_needN own (.goto off) res, w.before args s = true) (hao : ∀ t, 3 ≤ t → t ≤ 6 → va_AO (pm_atag t) s) (hck : pm_chk own ini (.goto off) len res = true) (hin : ini = true → meth.name = "<init>") (hrf : rk ≤ R.frames) (hrl : 42 * rk ≤ R.locals)
    (hd : decode cc pc = .ok (.goto off, len)) (hs : pm_do sc nL rk np mc rkOf (.goto off) res pc lv st h = some (.inl s1)) (O : pm_ok lv st h.1) : pm_Go p l e R s m args below meth c Q D aC b A nL nc0 ns0 (pc, lv, st, h) s1 ∧ pm_Ok2 (pc, lv, st, h) s1 := by
  have hlen : len = 3 := by simp only [pm_chk, pm_len, Bool.and_eq_true, Bool.or_eq_true, beq_iff_eq] at hck; omega
  subst hlen
  simp only [pm_do] at hs
  split at hs
  · next t ht => cases hs; exact ⟨po_goto hx hb ht hd, pk_st O O.2.1⟩
  · cases hs
theorem pq_ifCond {p : Program} {l : Launch} {e : Env} {R : Room} {s : State} {m : MethodId} {args : Array Value} {below : List Frame} {meth : Method} {c : Code} {Q : State → Prop}
    {D : va_G} {aC : Nat → ClassId} {b : Nat} {sc : pm_Sc} {A : Nat → Prop} {nL nc0 ns0 rk : Nat} {np mc rkOf : Nat → Nat} {cc : ByteArray} {own : String} {ini : Bool} {q : ClassFile.Cond} {off : Int} {len : Nat} {res : List Nat} {pc : Nat} {lv : pm_L} {st : List Value} {h : pm_H} {s1 : pm_S}
    (hx : p.tables.exec = Jvm.exec) (hb : c.code = cc) (hml : c.maxLocals = nL) (hown : s.vm.findClass own = some m.cls) (hK : va_K D vwCl (pm_tys aC) s) (hA : ∀ q, s.heap.size ≤ q → A q)
    (hX : va_X b sc.1 sc.2 s s.heap) (hbl : b < s.heap.size) (hbA : ¬ A b) (hus : ∀ (ci : Nat) (q : vw_C), vwCl[ci]? = some q → ∀ w ∈ u_ws q.1 q.2.1 q.2.2, w.before args s = true)
    (hn : ∀ w ∈ pm_need own (.ifCond q off) res, w.before args s = true) (hnn : ∀ w ∈ pm_needN own (.ifCond q off) res, w.before args s = true) (hao : ∀ t, 3 ≤ t → t ≤ 6 → va_AO (pm_atag t) s) (hck : pm_chk own ini (.ifCond q off) len res = true) (hin : ini = true → meth.name = "<init>") (hrf : rk ≤ R.frames) (hrl : 42 * rk ≤ R.locals)
    (hd : decode cc pc = .ok (.ifCond q off, len)) (hs : pm_do sc nL rk np mc rkOf (.ifCond q off) res pc lv st h = some (.inl s1)) (O : pm_ok lv st h.1) : pm_Go p l e R s m args below meth c Q D aC b A nL nc0 ns0 (pc, lv, st, h) s1 ∧ pm_Ok2 (pc, lv, st, h) s1 := by
  have hlen : len = 3 := by simp only [pm_chk, pm_len, Bool.and_eq_true, Bool.or_eq_true, beq_iff_eq] at hck; omega
  subst hlen
  simp only [pm_do] at hs
  split at hs
  · next ht => cases hs; exact ⟨po_ifCond hx hb hd ht, pk_st O (pk_t1 O.2.1)⟩
  · cases hs
theorem pq_if_icmp {p : Program} {l : Launch} {e : Env} {R : Room} {s : State} {m : MethodId} {args : Array Value} {below : List Frame} {meth : Method} {c : Code} {Q : State → Prop}
    {D : va_G} {aC : Nat → ClassId} {b : Nat} {sc : pm_Sc} {A : Nat → Prop} {nL nc0 ns0 rk : Nat} {np mc rkOf : Nat → Nat} {cc : ByteArray} {own : String} {ini : Bool} {q : ClassFile.Cond} {off : Int} {len : Nat} {res : List Nat} {pc : Nat} {lv : pm_L} {st : List Value} {h : pm_H} {s1 : pm_S}
    (hx : p.tables.exec = Jvm.exec) (hb : c.code = cc) (hml : c.maxLocals = nL) (hown : s.vm.findClass own = some m.cls) (hK : va_K D vwCl (pm_tys aC) s) (hA : ∀ q, s.heap.size ≤ q → A q)
    (hX : va_X b sc.1 sc.2 s s.heap) (hbl : b < s.heap.size) (hbA : ¬ A b) (hus : ∀ (ci : Nat) (q : vw_C), vwCl[ci]? = some q → ∀ w ∈ u_ws q.1 q.2.1 q.2.2, w.before args s = true)
    (hn : ∀ w ∈ pm_need own (.if_icmp q off) res, w.before args s = true) (hnn : ∀ w ∈ pm_needN own (.if_icmp q off) res, w.before args s = true) (hao : ∀ t, 3 ≤ t → t ≤ 6 → va_AO (pm_atag t) s) (hck : pm_chk own ini (.if_icmp q off) len res = true) (hin : ini = true → meth.name = "<init>") (hrf : rk ≤ R.frames) (hrl : 42 * rk ≤ R.locals)
    (hd : decode cc pc = .ok (.if_icmp q off, len)) (hs : pm_do sc nL rk np mc rkOf (.if_icmp q off) res pc lv st h = some (.inl s1)) (O : pm_ok lv st h.1) : pm_Go p l e R s m args below meth c Q D aC b A nL nc0 ns0 (pc, lv, st, h) s1 ∧ pm_Ok2 (pc, lv, st, h) s1 := by
  have hlen : len = 3 := by simp only [pm_chk, pm_len, Bool.and_eq_true, Bool.or_eq_true, beq_iff_eq] at hck; omega
  subst hlen
  simp only [pm_do] at hs
  split at hs
  · next ht => cases hs; exact ⟨po_if_icmp hx hb hd ht, pk_st O (pk_t2 O.2.1)⟩
  · cases hs
theorem pq_ifnull {p : Program} {l : Launch} {e : Env} {R : Room} {s : State} {m : MethodId} {args : Array Value} {below : List Frame} {meth : Method} {c : Code} {Q : State → Prop}
    {D : va_G} {aC : Nat → ClassId} {b : Nat} {sc : pm_Sc} {A : Nat → Prop} {nL nc0 ns0 rk : Nat} {np mc rkOf : Nat → Nat} {cc : ByteArray} {own : String} {ini : Bool} {off : Int} {len : Nat} {res : List Nat} {pc : Nat} {lv : pm_L} {st : List Value} {h : pm_H} {s1 : pm_S}
    (hx : p.tables.exec = Jvm.exec) (hb : c.code = cc) (hml : c.maxLocals = nL) (hown : s.vm.findClass own = some m.cls) (hK : va_K D vwCl (pm_tys aC) s) (hA : ∀ q, s.heap.size ≤ q → A q)
    (hX : va_X b sc.1 sc.2 s s.heap) (hbl : b < s.heap.size) (hbA : ¬ A b) (hus : ∀ (ci : Nat) (q : vw_C), vwCl[ci]? = some q → ∀ w ∈ u_ws q.1 q.2.1 q.2.2, w.before args s = true)
    (hn : ∀ w ∈ pm_need own (.ifnull off) res, w.before args s = true) (hnn : ∀ w ∈ pm_needN own (.ifnull off) res, w.before args s = true) (hao : ∀ t, 3 ≤ t → t ≤ 6 → va_AO (pm_atag t) s) (hck : pm_chk own ini (.ifnull off) len res = true) (hin : ini = true → meth.name = "<init>") (hrf : rk ≤ R.frames) (hrl : 42 * rk ≤ R.locals)
    (hd : decode cc pc = .ok (.ifnull off, len)) (hs : pm_do sc nL rk np mc rkOf (.ifnull off) res pc lv st h = some (.inl s1)) (O : pm_ok lv st h.1) : pm_Go p l e R s m args below meth c Q D aC b A nL nc0 ns0 (pc, lv, st, h) s1 ∧ pm_Ok2 (pc, lv, st, h) s1 := by
  have hlen : len = 3 := by simp only [pm_chk, pm_len, Bool.and_eq_true, Bool.or_eq_true, beq_iff_eq] at hck; omega
  subst hlen
  simp only [pm_do] at hs
  split at hs
  · next ht => cases hs; exact ⟨po_ifnullN hx hb ht hd, pk_st O (pk_t1 O.2.1)⟩
  · next ht => cases hs; exact ⟨po_ifnull hx hb hd, pk_st O (pk_t1 O.2.1)⟩
  · cases hs
theorem pq_ifnonnull {p : Program} {l : Launch} {e : Env} {R : Room} {s : State} {m : MethodId} {args : Array Value} {below : List Frame} {meth : Method} {c : Code} {Q : State → Prop}
    {D : va_G} {aC : Nat → ClassId} {b : Nat} {sc : pm_Sc} {A : Nat → Prop} {nL nc0 ns0 rk : Nat} {np mc rkOf : Nat → Nat} {cc : ByteArray} {own : String} {ini : Bool} {off : Int} {len : Nat} {res : List Nat} {pc : Nat} {lv : pm_L} {st : List Value} {h : pm_H} {s1 : pm_S}
    (hx : p.tables.exec = Jvm.exec) (hb : c.code = cc) (hml : c.maxLocals = nL) (hown : s.vm.findClass own = some m.cls) (hK : va_K D vwCl (pm_tys aC) s) (hA : ∀ q, s.heap.size ≤ q → A q)
    (hX : va_X b sc.1 sc.2 s s.heap) (hbl : b < s.heap.size) (hbA : ¬ A b) (hus : ∀ (ci : Nat) (q : vw_C), vwCl[ci]? = some q → ∀ w ∈ u_ws q.1 q.2.1 q.2.2, w.before args s = true)
    (hn : ∀ w ∈ pm_need own (.ifnonnull off) res, w.before args s = true) (hnn : ∀ w ∈ pm_needN own (.ifnonnull off) res, w.before args s = true) (hao : ∀ t, 3 ≤ t → t ≤ 6 → va_AO (pm_atag t) s) (hck : pm_chk own ini (.ifnonnull off) len res = true) (hin : ini = true → meth.name = "<init>") (hrf : rk ≤ R.frames) (hrl : 42 * rk ≤ R.locals)
    (hd : decode cc pc = .ok (.ifnonnull off, len)) (hs : pm_do sc nL rk np mc rkOf (.ifnonnull off) res pc lv st h = some (.inl s1)) (O : pm_ok lv st h.1) : pm_Go p l e R s m args below meth c Q D aC b A nL nc0 ns0 (pc, lv, st, h) s1 ∧ pm_Ok2 (pc, lv, st, h) s1 := by
  have hlen : len = 3 := by simp only [pm_chk, pm_len, Bool.and_eq_true, Bool.or_eq_true, beq_iff_eq] at hck; omega
  subst hlen
  simp only [pm_do] at hs
  split at hs
  · next ht => cases hs; exact ⟨po_ifnonnull hx hb ht hd, pk_st O (pk_t1 O.2.1)⟩
  · next ht => cases hs; exact ⟨po_ifnonnullN hx hb hd, pk_st O (pk_t1 O.2.1)⟩
  · cases hs
theorem pq_tableswitch {p : Program} {l : Launch} {e : Env} {R : Room} {s : State} {m : MethodId} {args : Array Value} {below : List Frame} {meth : Method} {c : Code} {Q : State → Prop}
    {D : va_G} {aC : Nat → ClassId} {b : Nat} {sc : pm_Sc} {A : Nat → Prop} {nL nc0 ns0 rk : Nat} {np mc rkOf : Nat → Nat} {cc : ByteArray} {own : String} {ini : Bool} {d lo hi : Int} {offs : Array Int} {len : Nat} {res : List Nat} {pc : Nat} {lv : pm_L} {st : List Value} {h : pm_H} {s1 : pm_S}
    (hx : p.tables.exec = Jvm.exec) (hb : c.code = cc) (hml : c.maxLocals = nL) (hown : s.vm.findClass own = some m.cls) (hK : va_K D vwCl (pm_tys aC) s) (hA : ∀ q, s.heap.size ≤ q → A q)
    (hX : va_X b sc.1 sc.2 s s.heap) (hbl : b < s.heap.size) (hbA : ¬ A b) (hus : ∀ (ci : Nat) (q : vw_C), vwCl[ci]? = some q → ∀ w ∈ u_ws q.1 q.2.1 q.2.2, w.before args s = true)
    (hn : ∀ w ∈ pm_need own (.tableswitch d lo hi offs) res, w.before args s = true) (hnn : ∀ w ∈ pm_needN own (.tableswitch d lo hi offs) res, w.before args s = true) (hao : ∀ t, 3 ≤ t → t ≤ 6 → va_AO (pm_atag t) s) (hck : pm_chk own ini (.tableswitch d lo hi offs) len res = true) (hin : ini = true → meth.name = "<init>") (hrf : rk ≤ R.frames) (hrl : 42 * rk ≤ R.locals)
    (hd : decode cc pc = .ok (.tableswitch d lo hi offs, len)) (hs : pm_do sc nL rk np mc rkOf (.tableswitch d lo hi offs) res pc lv st h = some (.inl s1)) (O : pm_ok lv st h.1) : pm_Go p l e R s m args below meth c Q D aC b A nL nc0 ns0 (pc, lv, st, h) s1 ∧ pm_Ok2 (pc, lv, st, h) s1 := by
  simp only [pm_do] at hs
  split at hs
  · split at hs
    · next hr =>
      split at hs
      · next ht => cases hs; exact ⟨po_tableOut hx hb hd hr ht, pk_st O (pk_t1 O.2.1)⟩
      · cases hs
    · next hr =>
      split at hs
      · next ho =>
        split at hs
        · next ht => cases hs; exact ⟨po_tableIn hx hb hd hr ho ht, pk_st O (pk_t1 O.2.1)⟩
        · cases hs
      · cases hs
  · cases hs
