theorem pm_tyq {aC : Nat → ClassId} {t : Nat} (h3 : 3 ≤ t) (h6 : t ≤ 6) : (pm_tys aC)[t]? = some (aC t, .object (pm_atag t)) := by
  match t, h3, h6 with
  | 3, _, _ | 4, _, _ | 5, _, _ | 6, _, _ => rfl
  | n + 7, _, z => omega
theorem pm_elc {t : Nat} (h3 : 3 ≤ t) (h6 : t ≤ 6) : ∃ (T : u_T) (N : Nat), vwCl[pm_el t]? = some (pm_atag t, T, N) := by
  match t, h3, h6 with
  | 3, _, _ => exact ⟨_, _, rfl⟩
  | 4, _, _ => exact ⟨_, _, rfl⟩
  | 5, _, _ => exact ⟨_, _, rfl⟩
  | 6, _, _ => exact ⟨_, _, rfl⟩
  | n + 7, _, z => omega
theorem pq_getfield {p : Program} {l : Launch} {e : Env} {R : Room} {s : State} {m : MethodId} {args : Array Value} {below : List Frame} {meth : Method} {c : Code} {Q : State → Prop}
    {D : va_G} {aC : Nat → ClassId} {b : Nat} {sc : pm_Sc} {A : Nat → Prop} {nL nc0 ns0 rk : Nat} {np mc rkOf : Nat → Nat} {cc : ByteArray} {own : String} {ini : Bool} {i : Nat} {len : Nat} {res : List Nat} {pc : Nat} {lv : pm_L} {st : List Value} {h : pm_H} {s1 : pm_S}
    (hx : p.tables.exec = Jvm.exec) (hb : c.code = cc) (hml : c.maxLocals = nL) (hown : s.vm.findClass own = some m.cls) (hK : va_K D vwCl (pm_tys aC) s) (hA : ∀ q, s.heap.size ≤ q → A q)
    (hX : va_X b sc.1 sc.2 s s.heap) (hbl : b < s.heap.size) (hbA : ¬ A b) (hus : ∀ (ci : Nat) (q : vw_C), vwCl[ci]? = some q → ∀ w ∈ u_ws q.1 q.2.1 q.2.2, w.before args s = true)
    (hn : ∀ w ∈ pm_need own (.getfield i) res, w.before args s = true) (hnn : ∀ w ∈ pm_needN own (.getfield i) res, w.before args s = true) (hao : ∀ t, 3 ≤ t → t ≤ 6 → va_AO (pm_atag t) s) (hck : pm_chk own ini (.getfield i) len res = true) (hin : ini = true → meth.name = "<init>") (hrf : rk ≤ R.frames) (hrl : 42 * rk ≤ R.locals)
    (hd : decode cc pc = .ok (.getfield i, len)) (hs : pm_do sc nL rk np mc rkOf (.getfield i) res pc lv st h = some (.inl s1)) (O : pm_ok lv st h.1) : pm_Go p l e R s m args below meth c Q D aC b A nL nc0 ns0 (pc, lv, st, h) s1 ∧ pm_Ok2 (pc, lv, st, h) s1 := by
  have hlen : len = 3 := by simp only [pm_chk, pm_len, Bool.and_eq_true, Bool.or_eq_true, beq_iff_eq] at hck; omega
  subst hlen
  simp only [pm_do] at hs
  split at hs
  · next ci k lk q r =>
    split at hs
    · next c0 fs hq =>
      split at hs
      · next hc0 =>
        subst hc0
        split at hs
        · next v hv =>
          cases hs
          simp only [pm_chk, Bool.and_eq_true] at hck
          cases hcl : vwCl[c0]? with
          | none => rw [hcl] at hck; cases hck.2
          | some w =>
            rw [hcl] at hck
            obtain ⟨C, T, N⟩ := w
            have hk : k < N := of_decide_eq_true (Bool.and_eq_true _ _ ▸ hck.2).1
            have ov := pk_cell (c := .inr (c0, fs)) O.2.2 hq hv
            by_cases hlk : lk = 1
            · have h1 : (Cond.fieldLinkNest own i (T k).1 (T k).2.1 (T k).2.2.1 RX7).before args s = true := hnn _ (by simp only [pm_needN, hcl, hlk, if_true]; exact List.mem_cons_self)
              exact ⟨po_getfieldN hx hb (hus c0 _ hcl) hown hK hcl hk hq h1 hv hd, pk_st O (pk_c ov (pk_t1 O.2.1))⟩
            · have h1 : (Cond.fieldLink own i (T k).1 (T k).2.1 (T k).2.2.1).before args s = true := hn _ (by simp only [pm_need, hcl, hlk, if_false]; exact List.mem_cons_self)
              exact ⟨po_getfield hx hb (hus c0 _ hcl) hown hK hcl hk hq h1 hv hd, pk_st O (pk_c ov (pk_t1 O.2.1))⟩
        · cases hs
      · cases hs
    · cases hs
  · cases hs
theorem pq_putfield {p : Program} {l : Launch} {e : Env} {R : Room} {s : State} {m : MethodId} {args : Array Value} {below : List Frame} {meth : Method} {c : Code} {Q : State → Prop}
    {D : va_G} {aC : Nat → ClassId} {b : Nat} {sc : pm_Sc} {A : Nat → Prop} {nL nc0 ns0 rk : Nat} {np mc rkOf : Nat → Nat} {cc : ByteArray} {own : String} {ini : Bool} {i : Nat} {len : Nat} {res : List Nat} {pc : Nat} {lv : pm_L} {st : List Value} {h : pm_H} {s1 : pm_S}
    (hx : p.tables.exec = Jvm.exec) (hb : c.code = cc) (hml : c.maxLocals = nL) (hown : s.vm.findClass own = some m.cls) (hK : va_K D vwCl (pm_tys aC) s) (hA : ∀ q, s.heap.size ≤ q → A q)
    (hX : va_X b sc.1 sc.2 s s.heap) (hbl : b < s.heap.size) (hbA : ¬ A b) (hus : ∀ (ci : Nat) (q : vw_C), vwCl[ci]? = some q → ∀ w ∈ u_ws q.1 q.2.1 q.2.2, w.before args s = true)
    (hn : ∀ w ∈ pm_need own (.putfield i) res, w.before args s = true) (hnn : ∀ w ∈ pm_needN own (.putfield i) res, w.before args s = true) (hao : ∀ t, 3 ≤ t → t ≤ 6 → va_AO (pm_atag t) s) (hck : pm_chk own ini (.putfield i) len res = true) (hin : ini = true → meth.name = "<init>") (hrf : rk ≤ R.frames) (hrl : 42 * rk ≤ R.locals)
    (hd : decode cc pc = .ok (.putfield i, len)) (hs : pm_do sc nL rk np mc rkOf (.putfield i) res pc lv st h = some (.inl s1)) (O : pm_ok lv st h.1) : pm_Go p l e R s m args below meth c Q D aC b A nL nc0 ns0 (pc, lv, st, h) s1 ∧ pm_Ok2 (pc, lv, st, h) s1 := by
  have hlen : len = 3 := by simp only [pm_chk, pm_len, Bool.and_eq_true, Bool.or_eq_true, beq_iff_eq] at hck; omega
  subst hlen
  simp only [pm_do] at hs
  split at hs
  · next ci k lk v q r =>
    split at hs
    · next c0 fs hq =>
      split at hs
      · next hc0 =>
        obtain ⟨rfl, hl, hfit⟩ := hc0
        cases hs
        have ov : ∀ w ∈ pm_vals (.inr (c0, fs.set k v)), pm_okv h.1.length w := pk_vset (fun w hw => O.2.2 _ (List.mem_of_getElem? hq) w hw) (pk_h O.2.1)
        have OK : pm_Ok2 (pc, lv, v :: .ref q :: r, h) (pc + 3, lv, r, (h.1.set q (.inr (c0, fs.set k v)), h.2)) := pk_set O (pk_t2 O.2.1) ov
        simp only [pm_chk, Bool.and_eq_true] at hck
        cases hcl : vwCl[c0]? with
        | none => rw [hcl] at hck; cases hck.2
        | some w =>
          rw [hcl] at hck
          obtain ⟨C, T, N⟩ := w
          obtain ⟨t1, t2, -, -⟩ := pm_cls c0 _ hcl
          have hck := hck.2
          simp only [Bool.and_eq_true, Bool.or_eq_true, decide_eq_true_eq, Bool.not_eq_true', beq_iff_eq] at hck
          have hk : k < N := hck.1
          by_cases hlk : lk = 1
          · have h1 : (Cond.fieldLinkNest own i (T k).1 (T k).2.1 (T k).2.2.1 RX7).before args s = true := hnn _ (by simp only [pm_needN, hcl, hlk, if_true]; exact List.mem_cons_self)
            have hfin : (T k).2.2.2 = false := by
              rcases hck.2 with z | z
              · exact z.2
              · omega
            exact ⟨po_putfieldN hx hb (hus c0 _ hcl) hown hK hcl hk hq (pm_ty c0) t1 t2 hfit hl h1 hfin hd, OK⟩
          · have h1 : (Cond.fieldLink own i (T k).1 (T k).2.1 (T k).2.2.1).before args s = true := hn _ (by simp only [pm_need, hcl, hlk, if_false]; exact List.mem_cons_self)
            rcases hck.2 with z | z
            · exact ⟨po_putfield hx hb (hus c0 _ hcl) hown hK hcl hk hq (pm_ty c0) t1 t2 hfit hl h1 z.2 hd, OK⟩
            · exact ⟨po_putfieldF hx hb (hus c0 _ hcl) hown hK hcl hk hq (pm_ty c0) t1 t2 hfit hl h1 z.1.1.2 (hin z.2) z.1.2 hd, OK⟩
      · cases hs
    · cases hs
  · cases hs
theorem pq_arraylength {p : Program} {l : Launch} {e : Env} {R : Room} {s : State} {m : MethodId} {args : Array Value} {below : List Frame} {meth : Method} {c : Code} {Q : State → Prop}
    {D : va_G} {aC : Nat → ClassId} {b : Nat} {sc : pm_Sc} {A : Nat → Prop} {nL nc0 ns0 rk : Nat} {np mc rkOf : Nat → Nat} {cc : ByteArray} {own : String} {ini : Bool} {len : Nat} {res : List Nat} {pc : Nat} {lv : pm_L} {st : List Value} {h : pm_H} {s1 : pm_S}
    (hx : p.tables.exec = Jvm.exec) (hb : c.code = cc) (hml : c.maxLocals = nL) (hown : s.vm.findClass own = some m.cls) (hK : va_K D vwCl (pm_tys aC) s) (hA : ∀ q, s.heap.size ≤ q → A q)
    (hX : va_X b sc.1 sc.2 s s.heap) (hbl : b < s.heap.size) (hbA : ¬ A b) (hus : ∀ (ci : Nat) (q : vw_C), vwCl[ci]? = some q → ∀ w ∈ u_ws q.1 q.2.1 q.2.2, w.before args s = true)
    (hn : ∀ w ∈ pm_need own (.arraylength) res, w.before args s = true) (hnn : ∀ w ∈ pm_needN own (.arraylength) res, w.before args s = true) (hao : ∀ t, 3 ≤ t → t ≤ 6 → va_AO (pm_atag t) s) (hck : pm_chk own ini (.arraylength) len res = true) (hin : ini = true → meth.name = "<init>") (hrf : rk ≤ R.frames) (hrl : 42 * rk ≤ R.locals)
    (hd : decode cc pc = .ok (.arraylength, len)) (hs : pm_do sc nL rk np mc rkOf (.arraylength) res pc lv st h = some (.inl s1)) (O : pm_ok lv st h.1) : pm_Go p l e R s m args below meth c Q D aC b A nL nc0 ns0 (pc, lv, st, h) s1 ∧ pm_Ok2 (pc, lv, st, h) s1 := by
  have hlen : len = 1 := by simp only [pm_chk, pm_len, Bool.and_eq_true, Bool.or_eq_true, beq_iff_eq] at hck; omega
  subst hlen
  simp only [pm_do] at hs
  split at hs
  · split at hs
    · next t vs hq =>
      split at hs
      · next ht =>
        cases hs
        have e1 : ∃ ty, (pm_tys aC)[t]? = some (aC t, ty) := by
          match t, ht with
          | 0, _ | 1, _ | 2, _ | 3, _ | 4, _ | 5, _ | 6, _ => exact ⟨_, rfl⟩
          | n + 7, z => omega
        obtain ⟨ty, e1⟩ := e1
        exact ⟨po_alen hx hb hK hq e1 hd, pk_st O (pk_c (pm_okv_int _ _) (pk_t1 O.2.1))⟩
      · cases hs
    · cases hs
  · cases hs
    exact ⟨po_slen hx hb hX hbl hbA hd, pk_st O (pk_c (pm_okv_int _ _) (pk_t1 O.2.1))⟩
  · cases hs
theorem pq_iaload {p : Program} {l : Launch} {e : Env} {R : Room} {s : State} {m : MethodId} {args : Array Value} {below : List Frame} {meth : Method} {c : Code} {Q : State → Prop}
    {D : va_G} {aC : Nat → ClassId} {b : Nat} {sc : pm_Sc} {A : Nat → Prop} {nL nc0 ns0 rk : Nat} {np mc rkOf : Nat → Nat} {cc : ByteArray} {own : String} {ini : Bool} {len : Nat} {res : List Nat} {pc : Nat} {lv : pm_L} {st : List Value} {h : pm_H} {s1 : pm_S}
    (hx : p.tables.exec = Jvm.exec) (hb : c.code = cc) (hml : c.maxLocals = nL) (hown : s.vm.findClass own = some m.cls) (hK : va_K D vwCl (pm_tys aC) s) (hA : ∀ q, s.heap.size ≤ q → A q)
    (hX : va_X b sc.1 sc.2 s s.heap) (hbl : b < s.heap.size) (hbA : ¬ A b) (hus : ∀ (ci : Nat) (q : vw_C), vwCl[ci]? = some q → ∀ w ∈ u_ws q.1 q.2.1 q.2.2, w.before args s = true)
    (hn : ∀ w ∈ pm_need own (.iaload) res, w.before args s = true) (hnn : ∀ w ∈ pm_needN own (.iaload) res, w.before args s = true) (hao : ∀ t, 3 ≤ t → t ≤ 6 → va_AO (pm_atag t) s) (hck : pm_chk own ini (.iaload) len res = true) (hin : ini = true → meth.name = "<init>") (hrf : rk ≤ R.frames) (hrl : 42 * rk ≤ R.locals)
    (hd : decode cc pc = .ok (.iaload, len)) (hs : pm_do sc nL rk np mc rkOf (.iaload) res pc lv st h = some (.inl s1)) (O : pm_ok lv st h.1) : pm_Go p l e R s m args below meth c Q D aC b A nL nc0 ns0 (pc, lv, st, h) s1 ∧ pm_Ok2 (pc, lv, st, h) s1 := by
  have hlen : len = 1 := by simp only [pm_chk, pm_len, Bool.and_eq_true, Bool.or_eq_true, beq_iff_eq] at hck; omega
  subst hlen
  simp only [pm_do] at hs
  split at hs
  · split at hs
    · next hq =>
      split at hs
      · cases hs
      · next hi =>
        split at hs
        · next x hv => cases hs; exact ⟨po_iaload hx hb hK hq hi hv hd, pk_st O (pk_c (pm_okv_int _ _) (pk_t2 O.2.1))⟩
        · cases hs
    · cases hs
  · split at hs
    · next hi => cases hs; exact ⟨po_sld hx hb hX hbl hbA hi.1 hi.2 hd, pk_st O (pk_c (pm_okv_int _ _) (pk_t2 O.2.1))⟩
    · cases hs
  · cases hs
theorem pq_laload {p : Program} {l : Launch} {e : Env} {R : Room} {s : State} {m : MethodId} {args : Array Value} {below : List Frame} {meth : Method} {c : Code} {Q : State → Prop}
    {D : va_G} {aC : Nat → ClassId} {b : Nat} {sc : pm_Sc} {A : Nat → Prop} {nL nc0 ns0 rk : Nat} {np mc rkOf : Nat → Nat} {cc : ByteArray} {own : String} {ini : Bool} {len : Nat} {res : List Nat} {pc : Nat} {lv : pm_L} {st : List Value} {h : pm_H} {s1 : pm_S}
    (hx : p.tables.exec = Jvm.exec) (hb : c.code = cc) (hml : c.maxLocals = nL) (hown : s.vm.findClass own = some m.cls) (hK : va_K D vwCl (pm_tys aC) s) (hA : ∀ q, s.heap.size ≤ q → A q)
    (hX : va_X b sc.1 sc.2 s s.heap) (hbl : b < s.heap.size) (hbA : ¬ A b) (hus : ∀ (ci : Nat) (q : vw_C), vwCl[ci]? = some q → ∀ w ∈ u_ws q.1 q.2.1 q.2.2, w.before args s = true)
    (hn : ∀ w ∈ pm_need own (.laload) res, w.before args s = true) (hnn : ∀ w ∈ pm_needN own (.laload) res, w.before args s = true) (hao : ∀ t, 3 ≤ t → t ≤ 6 → va_AO (pm_atag t) s) (hck : pm_chk own ini (.laload) len res = true) (hin : ini = true → meth.name = "<init>") (hrf : rk ≤ R.frames) (hrl : 42 * rk ≤ R.locals)
    (hd : decode cc pc = .ok (.laload, len)) (hs : pm_do sc nL rk np mc rkOf (.laload) res pc lv st h = some (.inl s1)) (O : pm_ok lv st h.1) : pm_Go p l e R s m args below meth c Q D aC b A nL nc0 ns0 (pc, lv, st, h) s1 ∧ pm_Ok2 (pc, lv, st, h) s1 := by
  have hlen : len = 1 := by simp only [pm_chk, pm_len, Bool.and_eq_true, Bool.or_eq_true, beq_iff_eq] at hck; omega
  subst hlen
  simp only [pm_do] at hs
  split at hs
  · split at hs
    · next hq =>
      split at hs
      · cases hs
      · next hi =>
        split at hs
        · next x hv => cases hs; exact ⟨po_laload hx hb hK hq hi hv hd, pk_st O (pk_c (pm_okv_long _ _) (pk_t2 O.2.1))⟩
        · cases hs
    · cases hs
  · cases hs
theorem pq_baload {p : Program} {l : Launch} {e : Env} {R : Room} {s : State} {m : MethodId} {args : Array Value} {below : List Frame} {meth : Method} {c : Code} {Q : State → Prop}
    {D : va_G} {aC : Nat → ClassId} {b : Nat} {sc : pm_Sc} {A : Nat → Prop} {nL nc0 ns0 rk : Nat} {np mc rkOf : Nat → Nat} {cc : ByteArray} {own : String} {ini : Bool} {len : Nat} {res : List Nat} {pc : Nat} {lv : pm_L} {st : List Value} {h : pm_H} {s1 : pm_S}
    (hx : p.tables.exec = Jvm.exec) (hb : c.code = cc) (hml : c.maxLocals = nL) (hown : s.vm.findClass own = some m.cls) (hK : va_K D vwCl (pm_tys aC) s) (hA : ∀ q, s.heap.size ≤ q → A q)
    (hX : va_X b sc.1 sc.2 s s.heap) (hbl : b < s.heap.size) (hbA : ¬ A b) (hus : ∀ (ci : Nat) (q : vw_C), vwCl[ci]? = some q → ∀ w ∈ u_ws q.1 q.2.1 q.2.2, w.before args s = true)
    (hn : ∀ w ∈ pm_need own (.baload) res, w.before args s = true) (hnn : ∀ w ∈ pm_needN own (.baload) res, w.before args s = true) (hao : ∀ t, 3 ≤ t → t ≤ 6 → va_AO (pm_atag t) s) (hck : pm_chk own ini (.baload) len res = true) (hin : ini = true → meth.name = "<init>") (hrf : rk ≤ R.frames) (hrl : 42 * rk ≤ R.locals)
    (hd : decode cc pc = .ok (.baload, len)) (hs : pm_do sc nL rk np mc rkOf (.baload) res pc lv st h = some (.inl s1)) (O : pm_ok lv st h.1) : pm_Go p l e R s m args below meth c Q D aC b A nL nc0 ns0 (pc, lv, st, h) s1 ∧ pm_Ok2 (pc, lv, st, h) s1 := by
  have hlen : len = 1 := by simp only [pm_chk, pm_len, Bool.and_eq_true, Bool.or_eq_true, beq_iff_eq] at hck; omega
  subst hlen
  simp only [pm_do] at hs
  split at hs
  · split at hs
    · next hq =>
      split at hs
      · cases hs
      · next hi =>
        split at hs
        · next x hv => cases hs; exact ⟨po_baload hx hb hK hq hi hv hd, pk_st O (pk_c (pm_okv_int _ _) (pk_t2 O.2.1))⟩
        · cases hs
    · cases hs
  · cases hs
theorem pq_aaload {p : Program} {l : Launch} {e : Env} {R : Room} {s : State} {m : MethodId} {args : Array Value} {below : List Frame} {meth : Method} {c : Code} {Q : State → Prop}
    {D : va_G} {aC : Nat → ClassId} {b : Nat} {sc : pm_Sc} {A : Nat → Prop} {nL nc0 ns0 rk : Nat} {np mc rkOf : Nat → Nat} {cc : ByteArray} {own : String} {ini : Bool} {len : Nat} {res : List Nat} {pc : Nat} {lv : pm_L} {st : List Value} {h : pm_H} {s1 : pm_S}
    (hx : p.tables.exec = Jvm.exec) (hb : c.code = cc) (hml : c.maxLocals = nL) (hown : s.vm.findClass own = some m.cls) (hK : va_K D vwCl (pm_tys aC) s) (hA : ∀ q, s.heap.size ≤ q → A q)
    (hX : va_X b sc.1 sc.2 s s.heap) (hbl : b < s.heap.size) (hbA : ¬ A b) (hus : ∀ (ci : Nat) (q : vw_C), vwCl[ci]? = some q → ∀ w ∈ u_ws q.1 q.2.1 q.2.2, w.before args s = true)
    (hn : ∀ w ∈ pm_need own (.aaload) res, w.before args s = true) (hnn : ∀ w ∈ pm_needN own (.aaload) res, w.before args s = true) (hao : ∀ t, 3 ≤ t → t ≤ 6 → va_AO (pm_atag t) s) (hck : pm_chk own ini (.aaload) len res = true) (hin : ini = true → meth.name = "<init>") (hrf : rk ≤ R.frames) (hrl : 42 * rk ≤ R.locals)
    (hd : decode cc pc = .ok (.aaload, len)) (hs : pm_do sc nL rk np mc rkOf (.aaload) res pc lv st h = some (.inl s1)) (O : pm_ok lv st h.1) : pm_Go p l e R s m args below meth c Q D aC b A nL nc0 ns0 (pc, lv, st, h) s1 ∧ pm_Ok2 (pc, lv, st, h) s1 := by
  have hlen : len = 1 := by simp only [pm_chk, pm_len, Bool.and_eq_true, Bool.or_eq_true, beq_iff_eq] at hck; omega
  subst hlen
  simp only [pm_do] at hs
  split at hs
  · split at hs
    · next t vs hq =>
      split at hs
      · cases hs
      · next hi =>
        have h3 : 3 ≤ t := by omega
        have e1 := pm_tyq (aC := aC) h3 (by omega)
        split at hs
        · next x hv => cases hs; exact ⟨po_aaload hx hb hK hq e1 h3 (fun z => hi (Or.inl z)) hv hd, pk_st O (pk_c (pk_cell (c := .inl (t, vs)) O.2.2 hq hv) (pk_t2 O.2.1))⟩
        · next hv => cases hs; exact ⟨po_aaloadN (x := 0) hx hb hK hq e1 h3 (fun z => hi (Or.inl z)) hv hd, pk_st O (pk_c (pm_okv_null _) (pk_t2 O.2.1))⟩
        · cases hs
    · cases hs
  · cases hs
theorem pq_iastore {p : Program} {l : Launch} {e : Env} {R : Room} {s : State} {m : MethodId} {args : Array Value} {below : List Frame} {meth : Method} {c : Code} {Q : State → Prop}
    {D : va_G} {aC : Nat → ClassId} {b : Nat} {sc : pm_Sc} {A : Nat → Prop} {nL nc0 ns0 rk : Nat} {np mc rkOf : Nat → Nat} {cc : ByteArray} {own : String} {ini : Bool} {len : Nat} {res : List Nat} {pc : Nat} {lv : pm_L} {st : List Value} {h : pm_H} {s1 : pm_S}
    (hx : p.tables.exec = Jvm.exec) (hb : c.code = cc) (hml : c.maxLocals = nL) (hown : s.vm.findClass own = some m.cls) (hK : va_K D vwCl (pm_tys aC) s) (hA : ∀ q, s.heap.size ≤ q → A q)
    (hX : va_X b sc.1 sc.2 s s.heap) (hbl : b < s.heap.size) (hbA : ¬ A b) (hus : ∀ (ci : Nat) (q : vw_C), vwCl[ci]? = some q → ∀ w ∈ u_ws q.1 q.2.1 q.2.2, w.before args s = true)
    (hn : ∀ w ∈ pm_need own (.iastore) res, w.before args s = true) (hnn : ∀ w ∈ pm_needN own (.iastore) res, w.before args s = true) (hao : ∀ t, 3 ≤ t → t ≤ 6 → va_AO (pm_atag t) s) (hck : pm_chk own ini (.iastore) len res = true) (hin : ini = true → meth.name = "<init>") (hrf : rk ≤ R.frames) (hrl : 42 * rk ≤ R.locals)
    (hd : decode cc pc = .ok (.iastore, len)) (hs : pm_do sc nL rk np mc rkOf (.iastore) res pc lv st h = some (.inl s1)) (O : pm_ok lv st h.1) : pm_Go p l e R s m args below meth c Q D aC b A nL nc0 ns0 (pc, lv, st, h) s1 ∧ pm_Ok2 (pc, lv, st, h) s1 := by
  have hlen : len = 1 := by simp only [pm_chk, pm_len, Bool.and_eq_true, Bool.or_eq_true, beq_iff_eq] at hck; omega
  subst hlen
  simp only [pm_do] at hs
  split at hs
  · split at hs
    · next vs hq =>
      split at hs
      · next hi =>
        cases hs
        exact ⟨po_iastore hx hb hK hq hi.1 hi.2 hd, pk_set O (pk_t3 O.2.1) (pk_vset (fun w hw => O.2.2 _ (List.mem_of_getElem? hq) w hw) (pm_okv_int _ _))⟩
      · cases hs
    · cases hs
  · cases hs
theorem pq_lastore {p : Program} {l : Launch} {e : Env} {R : Room} {s : State} {m : MethodId} {args : Array Value} {below : List Frame} {meth : Method} {c : Code} {Q : State → Prop}
    {D : va_G} {aC : Nat → ClassId} {b : Nat} {sc : pm_Sc} {A : Nat → Prop} {nL nc0 ns0 rk : Nat} {np mc rkOf : Nat → Nat} {cc : ByteArray} {own : String} {ini : Bool} {len : Nat} {res : List Nat} {pc : Nat} {lv : pm_L} {st : List Value} {h : pm_H} {s1 : pm_S}
    (hx : p.tables.exec = Jvm.exec) (hb : c.code = cc) (hml : c.maxLocals = nL) (hown : s.vm.findClass own = some m.cls) (hK : va_K D vwCl (pm_tys aC) s) (hA : ∀ q, s.heap.size ≤ q → A q)
    (hX : va_X b sc.1 sc.2 s s.heap) (hbl : b < s.heap.size) (hbA : ¬ A b) (hus : ∀ (ci : Nat) (q : vw_C), vwCl[ci]? = some q → ∀ w ∈ u_ws q.1 q.2.1 q.2.2, w.before args s = true)
    (hn : ∀ w ∈ pm_need own (.lastore) res, w.before args s = true) (hnn : ∀ w ∈ pm_needN own (.lastore) res, w.before args s = true) (hao : ∀ t, 3 ≤ t → t ≤ 6 → va_AO (pm_atag t) s) (hck : pm_chk own ini (.lastore) len res = true) (hin : ini = true → meth.name = "<init>") (hrf : rk ≤ R.frames) (hrl : 42 * rk ≤ R.locals)
    (hd : decode cc pc = .ok (.lastore, len)) (hs : pm_do sc nL rk np mc rkOf (.lastore) res pc lv st h = some (.inl s1)) (O : pm_ok lv st h.1) : pm_Go p l e R s m args below meth c Q D aC b A nL nc0 ns0 (pc, lv, st, h) s1 ∧ pm_Ok2 (pc, lv, st, h) s1 := by
  have hlen : len = 1 := by simp only [pm_chk, pm_len, Bool.and_eq_true, Bool.or_eq_true, beq_iff_eq] at hck; omega
  subst hlen
  simp only [pm_do] at hs
  split at hs
  · split at hs
    · next vs hq =>
      split at hs
      · next hi =>
        cases hs
        exact ⟨po_lastore hx hb hK hq hi.1 hi.2 hd, pk_set O (pk_t3 O.2.1) (pk_vset (fun w hw => O.2.2 _ (List.mem_of_getElem? hq) w hw) (pm_okv_long _ _))⟩
      · cases hs
    · cases hs
  · cases hs
theorem pq_bastore {p : Program} {l : Launch} {e : Env} {R : Room} {s : State} {m : MethodId} {args : Array Value} {below : List Frame} {meth : Method} {c : Code} {Q : State → Prop}
    {D : va_G} {aC : Nat → ClassId} {b : Nat} {sc : pm_Sc} {A : Nat → Prop} {nL nc0 ns0 rk : Nat} {np mc rkOf : Nat → Nat} {cc : ByteArray} {own : String} {ini : Bool} {len : Nat} {res : List Nat} {pc : Nat} {lv : pm_L} {st : List Value} {h : pm_H} {s1 : pm_S}
    (hx : p.tables.exec = Jvm.exec) (hb : c.code = cc) (hml : c.maxLocals = nL) (hown : s.vm.findClass own = some m.cls) (hK : va_K D vwCl (pm_tys aC) s) (hA : ∀ q, s.heap.size ≤ q → A q)
    (hX : va_X b sc.1 sc.2 s s.heap) (hbl : b < s.heap.size) (hbA : ¬ A b) (hus : ∀ (ci : Nat) (q : vw_C), vwCl[ci]? = some q → ∀ w ∈ u_ws q.1 q.2.1 q.2.2, w.before args s = true)
    (hn : ∀ w ∈ pm_need own (.bastore) res, w.before args s = true) (hnn : ∀ w ∈ pm_needN own (.bastore) res, w.before args s = true) (hao : ∀ t, 3 ≤ t → t ≤ 6 → va_AO (pm_atag t) s) (hck : pm_chk own ini (.bastore) len res = true) (hin : ini = true → meth.name = "<init>") (hrf : rk ≤ R.frames) (hrl : 42 * rk ≤ R.locals)
    (hd : decode cc pc = .ok (.bastore, len)) (hs : pm_do sc nL rk np mc rkOf (.bastore) res pc lv st h = some (.inl s1)) (O : pm_ok lv st h.1) : pm_Go p l e R s m args below meth c Q D aC b A nL nc0 ns0 (pc, lv, st, h) s1 ∧ pm_Ok2 (pc, lv, st, h) s1 := by
  have hlen : len = 1 := by simp only [pm_chk, pm_len, Bool.and_eq_true, Bool.or_eq_true, beq_iff_eq] at hck; omega
  subst hlen
  simp only [pm_do] at hs
  split at hs
  · split at hs
    · next vs hq =>
      split at hs
      · next hi =>
        cases hs
        exact ⟨po_bastore hx hb hK hq hi.1 hi.2.1 hi.2.2 hd, pk_set O (pk_t3 O.2.1) (pk_vset (fun w hw => O.2.2 _ (List.mem_of_getElem? hq) w hw) (pm_okv_int _ _))⟩
      · cases hs
    · cases hs
  · cases hs
theorem pq_aastore {p : Program} {l : Launch} {e : Env} {R : Room} {s : State} {m : MethodId} {args : Array Value} {below : List Frame} {meth : Method} {c : Code} {Q : State → Prop}
    {D : va_G} {aC : Nat → ClassId} {b : Nat} {sc : pm_Sc} {A : Nat → Prop} {nL nc0 ns0 rk : Nat} {np mc rkOf : Nat → Nat} {cc : ByteArray} {own : String} {ini : Bool} {len : Nat} {res : List Nat} {pc : Nat} {lv : pm_L} {st : List Value} {h : pm_H} {s1 : pm_S}
    (hx : p.tables.exec = Jvm.exec) (hb : c.code = cc) (hml : c.maxLocals = nL) (hown : s.vm.findClass own = some m.cls) (hK : va_K D vwCl (pm_tys aC) s) (hA : ∀ q, s.heap.size ≤ q → A q)
    (hX : va_X b sc.1 sc.2 s s.heap) (hbl : b < s.heap.size) (hbA : ¬ A b) (hus : ∀ (ci : Nat) (q : vw_C), vwCl[ci]? = some q → ∀ w ∈ u_ws q.1 q.2.1 q.2.2, w.before args s = true)
    (hn : ∀ w ∈ pm_need own (.aastore) res, w.before args s = true) (hnn : ∀ w ∈ pm_needN own (.aastore) res, w.before args s = true) (hao : ∀ t, 3 ≤ t → t ≤ 6 → va_AO (pm_atag t) s) (hck : pm_chk own ini (.aastore) len res = true) (hin : ini = true → meth.name = "<init>") (hrf : rk ≤ R.frames) (hrl : 42 * rk ≤ R.locals)
    (hd : decode cc pc = .ok (.aastore, len)) (hs : pm_do sc nL rk np mc rkOf (.aastore) res pc lv st h = some (.inl s1)) (O : pm_ok lv st h.1) : pm_Go p l e R s m args below meth c Q D aC b A nL nc0 ns0 (pc, lv, st, h) s1 ∧ pm_Ok2 (pc, lv, st, h) s1 := by
  have hlen : len = 1 := by simp only [pm_chk, pm_len, Bool.and_eq_true, Bool.or_eq_true, beq_iff_eq] at hck; omega
  subst hlen
  simp only [pm_do] at hs
  split at hs
  · split at hs
    · next t vs c0 ws hq hw =>
      split at hs
      · next hi =>
        obtain ⟨i1, i2, h3, h6, rfl⟩ := hi
        cases hs
        have e1 := pm_tyq (aC := aC) h3 h6
        obtain ⟨T, N, e2⟩ := pm_elc h3 h6
        exact ⟨po_aastore hx hb hK hw e2 hq e1 h3 i1 i2 hd, pk_set O (pk_t3 O.2.1) (pk_vset (fun w hw => O.2.2 _ (List.mem_of_getElem? hq) w hw) (pk_h O.2.1))⟩
      · cases hs
    · cases hs
  · split at hs
    · next t vs hq =>
      split at hs
      · next hi =>
        obtain ⟨i1, i2, h3, h6⟩ := hi
        cases hs
        have e1 := pm_tyq (aC := aC) h3 h6
        exact ⟨po_aastoreN hx hb hK hq e1 h3 i1 i2 hd, pk_set O (pk_t3 O.2.1) (pk_vset (fun w hw => O.2.2 _ (List.mem_of_getElem? hq) w hw) (pm_okv_null _))⟩
      · cases hs
    · cases hs
  · cases hs
theorem pq_new {p : Program} {l : Launch} {e : Env} {R : Room} {s : State} {m : MethodId} {args : Array Value} {below : List Frame} {meth : Method} {c : Code} {Q : State → Prop}
    {D : va_G} {aC : Nat → ClassId} {b : Nat} {sc : pm_Sc} {A : Nat → Prop} {nL nc0 ns0 rk : Nat} {np mc rkOf : Nat → Nat} {cc : ByteArray} {own : String} {ini : Bool} {i : Nat} {len : Nat} {res : List Nat} {pc : Nat} {lv : pm_L} {st : List Value} {h : pm_H} {s1 : pm_S}
    (hx : p.tables.exec = Jvm.exec) (hb : c.code = cc) (hml : c.maxLocals = nL) (hown : s.vm.findClass own = some m.cls) (hK : va_K D vwCl (pm_tys aC) s) (hA : ∀ q, s.heap.size ≤ q → A q)
    (hX : va_X b sc.1 sc.2 s s.heap) (hbl : b < s.heap.size) (hbA : ¬ A b) (hus : ∀ (ci : Nat) (q : vw_C), vwCl[ci]? = some q → ∀ w ∈ u_ws q.1 q.2.1 q.2.2, w.before args s = true)
    (hn : ∀ w ∈ pm_need own (.new i) res, w.before args s = true) (hnn : ∀ w ∈ pm_needN own (.new i) res, w.before args s = true) (hao : ∀ t, 3 ≤ t → t ≤ 6 → va_AO (pm_atag t) s) (hck : pm_chk own ini (.new i) len res = true) (hin : ini = true → meth.name = "<init>") (hrf : rk ≤ R.frames) (hrl : 42 * rk ≤ R.locals)
    (hd : decode cc pc = .ok (.new i, len)) (hs : pm_do sc nL rk np mc rkOf (.new i) res pc lv st h = some (.inl s1)) (O : pm_ok lv st h.1) : pm_Go p l e R s m args below meth c Q D aC b A nL nc0 ns0 (pc, lv, st, h) s1 ∧ pm_Ok2 (pc, lv, st, h) s1 := by
  have hlen : len = 3 := by simp only [pm_chk, pm_len, Bool.and_eq_true, Bool.or_eq_true, beq_iff_eq] at hck; omega
  subst hlen
  simp only [pm_do] at hs
  split at hs
  · next ci =>
    split at hs
    · next hci =>
      cases hs
      cases hcl : vwCl[ci]? with
      | none => exact absurd (List.getElem?_eq_none_iff.mp hcl) (by simp [vwCl]; omega)
      | some w =>
        obtain ⟨t1, -, t3, t4⟩ := pm_cls ci _ hcl
        have hn' : ∀ z ∈ [Cond.classLink own i w.1, .instantiable w.1 w.2.2, .initialized w.1], z.before args s = true := fun z hz => hn z (by simp only [pm_need, hcl]; exact hz)
        exact ⟨po_new hx hb hK (hus ci _ hcl) hown hcl (pm_ty ci) t1 (hn' _ (by simp)) (hn' _ (by simp)) (hn' _ (by simp)) hA t4 t3 hd, pk_new O O.2.1 (pk_df ci)⟩
    · cases hs
  · cases hs
theorem pq_newarray {p : Program} {l : Launch} {e : Env} {R : Room} {s : State} {m : MethodId} {args : Array Value} {below : List Frame} {meth : Method} {c : Code} {Q : State → Prop}
    {D : va_G} {aC : Nat → ClassId} {b : Nat} {sc : pm_Sc} {A : Nat → Prop} {nL nc0 ns0 rk : Nat} {np mc rkOf : Nat → Nat} {cc : ByteArray} {own : String} {ini : Bool} {a : ArrayType} {len : Nat} {res : List Nat} {pc : Nat} {lv : pm_L} {st : List Value} {h : pm_H} {s1 : pm_S}
    (hx : p.tables.exec = Jvm.exec) (hb : c.code = cc) (hml : c.maxLocals = nL) (hown : s.vm.findClass own = some m.cls) (hK : va_K D vwCl (pm_tys aC) s) (hA : ∀ q, s.heap.size ≤ q → A q)
    (hX : va_X b sc.1 sc.2 s s.heap) (hbl : b < s.heap.size) (hbA : ¬ A b) (hus : ∀ (ci : Nat) (q : vw_C), vwCl[ci]? = some q → ∀ w ∈ u_ws q.1 q.2.1 q.2.2, w.before args s = true)
    (hn : ∀ w ∈ pm_need own (.newarray a) res, w.before args s = true) (hnn : ∀ w ∈ pm_needN own (.newarray a) res, w.before args s = true) (hao : ∀ t, 3 ≤ t → t ≤ 6 → va_AO (pm_atag t) s) (hck : pm_chk own ini (.newarray a) len res = true) (hin : ini = true → meth.name = "<init>") (hrf : rk ≤ R.frames) (hrl : 42 * rk ≤ R.locals)
    (hd : decode cc pc = .ok (.newarray a, len)) (hs : pm_do sc nL rk np mc rkOf (.newarray a) res pc lv st h = some (.inl s1)) (O : pm_ok lv st h.1) : pm_Go p l e R s m args below meth c Q D aC b A nL nc0 ns0 (pc, lv, st, h) s1 ∧ pm_Ok2 (pc, lv, st, h) s1 := by
  have hlen : len = 2 := by simp only [pm_chk, pm_len, Bool.and_eq_true, Bool.or_eq_true, beq_iff_eq] at hck; omega
  subst hlen
  simp only [pm_do] at hs
  split at hs
  · split at hs
    · next hi =>
      obtain ⟨h1, h2, h3⟩ := hi
      cases hs
      have harr := hn _ (by simp only [pm_need]; exact List.mem_cons_self)
      rcases h1 with ⟨rfl, rfl⟩ | ⟨rfl, rfl⟩ | ⟨rfl, rfl⟩
      · exact ⟨po_newi hx hb hK harr hA h2 h3 hd, pk_new O (pk_t1 O.2.1) (pk_rep (pm_okv_int _ _))⟩
      · exact ⟨po_newl hx hb hK harr hA h2 h3 hd, pk_new O (pk_t1 O.2.1) (pk_rep (pm_okv_long _ _))⟩
      · exact ⟨po_newz hx hb hK harr hA h2 h3 hd, pk_new O (pk_t1 O.2.1) (pk_rep (pm_okv_int _ _))⟩
    · cases hs
  · cases hs
theorem pq_anewarray {p : Program} {l : Launch} {e : Env} {R : Room} {s : State} {m : MethodId} {args : Array Value} {below : List Frame} {meth : Method} {c : Code} {Q : State → Prop}
    {D : va_G} {aC : Nat → ClassId} {b : Nat} {sc : pm_Sc} {A : Nat → Prop} {nL nc0 ns0 rk : Nat} {np mc rkOf : Nat → Nat} {cc : ByteArray} {own : String} {ini : Bool} {i : Nat} {len : Nat} {res : List Nat} {pc : Nat} {lv : pm_L} {st : List Value} {h : pm_H} {s1 : pm_S}
    (hx : p.tables.exec = Jvm.exec) (hb : c.code = cc) (hml : c.maxLocals = nL) (hown : s.vm.findClass own = some m.cls) (hK : va_K D vwCl (pm_tys aC) s) (hA : ∀ q, s.heap.size ≤ q → A q)
    (hX : va_X b sc.1 sc.2 s s.heap) (hbl : b < s.heap.size) (hbA : ¬ A b) (hus : ∀ (ci : Nat) (q : vw_C), vwCl[ci]? = some q → ∀ w ∈ u_ws q.1 q.2.1 q.2.2, w.before args s = true)
    (hn : ∀ w ∈ pm_need own (.anewarray i) res, w.before args s = true) (hnn : ∀ w ∈ pm_needN own (.anewarray i) res, w.before args s = true) (hao : ∀ t, 3 ≤ t → t ≤ 6 → va_AO (pm_atag t) s) (hck : pm_chk own ini (.anewarray i) len res = true) (hin : ini = true → meth.name = "<init>") (hrf : rk ≤ R.frames) (hrl : 42 * rk ≤ R.locals)
    (hd : decode cc pc = .ok (.anewarray i, len)) (hs : pm_do sc nL rk np mc rkOf (.anewarray i) res pc lv st h = some (.inl s1)) (O : pm_ok lv st h.1) : pm_Go p l e R s m args below meth c Q D aC b A nL nc0 ns0 (pc, lv, st, h) s1 ∧ pm_Ok2 (pc, lv, st, h) s1 := by
  have hlen : len = 3 := by simp only [pm_chk, pm_len, Bool.and_eq_true, Bool.or_eq_true, beq_iff_eq] at hck; omega
  subst hlen
  simp only [pm_do] at hs
  split at hs
  · next t n r =>
    split at hs
    · next hi =>
      obtain ⟨h3, h6, h1, h2⟩ := hi
      cases hs
      exact ⟨po_newq hx hb hK hown (hn _ (by simp only [pm_need]; exact List.mem_cons_self)) (hao t h3 h6) (pm_tyq h3 h6) h3 hA h1 h2 hd, pk_new O (pk_t1 O.2.1) (pk_rep (pm_okv_null _))⟩
    · cases hs
  · cases hs
theorem pq_invokespecial {p : Program} {l : Launch} {e : Env} {R : Room} {s : State} {m : MethodId} {args : Array Value} {below : List Frame} {meth : Method} {c : Code} {Q : State → Prop}
    {D : va_G} {aC : Nat → ClassId} {b : Nat} {sc : pm_Sc} {A : Nat → Prop} {nL nc0 ns0 rk : Nat} {np mc rkOf : Nat → Nat} {cc : ByteArray} {own : String} {ini : Bool} {i : Nat} {len : Nat} {res : List Nat} {pc : Nat} {lv : pm_L} {st : List Value} {h : pm_H} {s1 : pm_S}
    (hx : p.tables.exec = Jvm.exec) (hb : c.code = cc) (hml : c.maxLocals = nL) (hown : s.vm.findClass own = some m.cls) (hK : va_K D vwCl (pm_tys aC) s) (hA : ∀ q, s.heap.size ≤ q → A q)
    (hX : va_X b sc.1 sc.2 s s.heap) (hbl : b < s.heap.size) (hbA : ¬ A b) (hus : ∀ (ci : Nat) (q : vw_C), vwCl[ci]? = some q → ∀ w ∈ u_ws q.1 q.2.1 q.2.2, w.before args s = true)
    (hn : ∀ w ∈ pm_need own (.invokespecial i) res, w.before args s = true) (hnn : ∀ w ∈ pm_needN own (.invokespecial i) res, w.before args s = true) (hao : ∀ t, 3 ≤ t → t ≤ 6 → va_AO (pm_atag t) s) (hck : pm_chk own ini (.invokespecial i) len res = true) (hin : ini = true → meth.name = "<init>") (hrf : rk ≤ R.frames) (hrl : 42 * rk ≤ R.locals)
    (hd : decode cc pc = .ok (.invokespecial i, len)) (hs : pm_do sc nL rk np mc rkOf (.invokespecial i) res pc lv st h = some (.inl s1)) (O : pm_ok lv st h.1) : pm_Go p l e R s m args below meth c Q D aC b A nL nc0 ns0 (pc, lv, st, h) s1 ∧ pm_Ok2 (pc, lv, st, h) s1 := by
  have hlen : len = 3 := by simp only [pm_chk, pm_len, Bool.and_eq_true, Bool.or_eq_true, beq_iff_eq] at hck; omega
  subst hlen
  simp only [pm_do] at hs
  split at hs
  · split at hs
    · next hk =>
      subst hk
      split at hs
      · split at hs
        · next hi =>
          cases hs
          have hn' : ∀ z ∈ [Cond.methodLink own i Lib.objectInit, .instanceMethod Lib.objectInit, .code Lib.objectInit ⟨#[0xb1]⟩ 1 none], z.before args s = true := fun z hz => hn z (by simp only [pm_need]; exact hz)
          exact ⟨po_objinit hx hb hml hown (hn' _ (by simp)) (hn' _ (by simp)) (hn' _ (by simp)) (by omega) (by omega) hi.1 hd, pk_st O (pk_t1 O.2.1)⟩
        · cases hs
      · cases hs
    · split at hs
      · split at hs
        · split at hs
          · cases hs
          · cases hs
        · cases hs
      · cases hs
  · cases hs
theorem pq_invokestatic {p : Program} {l : Launch} {e : Env} {R : Room} {s : State} {m : MethodId} {args : Array Value} {below : List Frame} {meth : Method} {c : Code} {Q : State → Prop}
    {D : va_G} {aC : Nat → ClassId} {b : Nat} {sc : pm_Sc} {A : Nat → Prop} {nL nc0 ns0 rk : Nat} {np mc rkOf : Nat → Nat} {cc : ByteArray} {own : String} {ini : Bool} {i : Nat} {len : Nat} {res : List Nat} {pc : Nat} {lv : pm_L} {st : List Value} {h : pm_H} {s1 : pm_S}
    (hx : p.tables.exec = Jvm.exec) (hb : c.code = cc) (hml : c.maxLocals = nL) (hown : s.vm.findClass own = some m.cls) (hK : va_K D vwCl (pm_tys aC) s) (hA : ∀ q, s.heap.size ≤ q → A q)
    (hX : va_X b sc.1 sc.2 s s.heap) (hbl : b < s.heap.size) (hbA : ¬ A b) (hus : ∀ (ci : Nat) (q : vw_C), vwCl[ci]? = some q → ∀ w ∈ u_ws q.1 q.2.1 q.2.2, w.before args s = true)
    (hn : ∀ w ∈ pm_need own (.invokestatic i) res, w.before args s = true) (hnn : ∀ w ∈ pm_needN own (.invokestatic i) res, w.before args s = true) (hao : ∀ t, 3 ≤ t → t ≤ 6 → va_AO (pm_atag t) s) (hck : pm_chk own ini (.invokestatic i) len res = true) (hin : ini = true → meth.name = "<init>") (hrf : rk ≤ R.frames) (hrl : 42 * rk ≤ R.locals)
    (hd : decode cc pc = .ok (.invokestatic i, len)) (hs : pm_do sc nL rk np mc rkOf (.invokestatic i) res pc lv st h = some (.inl s1)) (O : pm_ok lv st h.1) : pm_Go p l e R s m args below meth c Q D aC b A nL nc0 ns0 (pc, lv, st, h) s1 ∧ pm_Ok2 (pc, lv, st, h) s1 := by
  have hlen : len = 3 := by simp only [pm_chk, pm_len, Bool.and_eq_true, Bool.or_eq_true, beq_iff_eq] at hck; omega
  subst hlen
  simp only [pm_do] at hs
  split at hs
  · split at hs
    · next hk =>
      subst hk
      split at hs
      · split at hs
        · next hi =>
          cases hs
          have hn' : ∀ z ∈ [Cond.methodLink own i Lib.Math.max.name, .static Lib.Math.max.name, .initialized "java/lang/Math", .code Lib.Math.max.name Lib.Math.max.code 2 (some .int)], z.before args s = true := fun z hz => hn z (by simp only [pm_need]; exact hz)
          exact ⟨po_mmax hx hb hml hown (hn' _ (by simp)) (hn' _ (by simp)) (hn' _ (by simp)) (hn' _ (by simp)) (by omega) (by omega) hi.1 hd, pk_st O (pk_c (pm_okv_int _ _) (pk_t2 O.2.1))⟩
        · cases hs
      · cases hs
    · split at hs
      · next hk =>
        subst hk
        split at hs
        · split at hs
          · next vs ws hq hw =>
            split at hs
            · next hi =>
              obtain ⟨i1, i2, i3, i4, i5, i6, i7⟩ := hi
              cases hs
              have hn' : ∀ z ∈ [Cond.methodLink own i arraycopyName, .native arraycopyName, .static arraycopyName, .initialized "java/lang/System"], z.before args s = true := fun z hz => hn z (by simp only [pm_need]; exact hz)
              exact ⟨po_copy hx hb hK hml hown (hn' _ (by simp)) (hn' _ (by simp)) (hn' _ (by simp)) (hn' _ (by simp)) hq hw i3 i4 i5 i6 i7 (by omega) (by omega) i1 hd, pk_set O (pk_t5 O.2.1) (pk_cpy (fun v hv => O.2.2 _ (List.mem_of_getElem? hq) v hv) (fun v hv => O.2.2 _ (List.mem_of_getElem? hw) v hv))⟩
            · cases hs
          · cases hs
        · cases hs
      · split at hs
        · split at hs
          · cases hs
          · cases hs
        · cases hs
  · cases hs
