/-! FROM THE PURE HEAP TO THE MACHINE'S: ad gives a cell's address, b the script's, aC an array kind's class -/
def pm_cv (b : Nat) (ad : Nat → Nat) (v : Value) : Value := match v with
  | .ref k => .ref (ad k)
  | .retAddr _ => .ref b
  | v => v
def pm_gi (v : Value) : Int32 := match v with
  | .int x => x
  | _ => 0
def pm_gl (v : Value) : Int64 := match v with
  | .long x => x
  | _ => 0
def pm_gr (ad : Nat → Nat) (v : Value) : Option Nat := match v with
  | .ref k => some (ad k)
  | _ => none
def pm_ca (ad : Nat → Nat) (t : Nat) (vs : List Value) : (Nat → Int32) ⊕ (Nat → Int64) ⊕ (Nat → UInt32) ⊕ (Nat → UInt64) ⊕ (Nat → Option Nat) := match t with
  | 0 => .inl (fun j => pm_gi (vs.getD j .null))
  | 1 => .inr (.inl (fun j => pm_gl (vs.getD j .null)))
  | 2 => .inl (fun j => pm_gi (vs.getD j .null))
  | _ => .inr (.inr (.inr (.inr (fun j => pm_gr ad (vs.getD j .null)))))
def pm_cc (b : Nat) (aC : Nat → ClassId) (ad : Nat → Nat) (c : pm_C) : va_E := match c with
  | .inr o => .inr (o.1, o.2.map (pm_cv b ad))
  | .inl a => .inl (aC a.1, a.2.length, pm_ca ad a.1 a.2)
def pm_ch (b : Nat) (aC : Nat → ClassId) (ad : Nat → Nat) (cs : List pm_C) : va_W := cs.mapIdx (fun k c => (ad k, pm_cc b aC ad c))
def pm_cl (b : Nat) (ad : Nat → Nat) (lv : pm_L) : pm_L := lv.map (fun q => (q.1, pm_cv b ad q.2))
def pm_okv (n : Nat) (v : Value) : Prop := ∀ k, v = .ref k → k < n
def pm_vals (c : pm_C) : List Value := match c with
  | .inr o => o.2
  | .inl a => a.2
def pm_ok (lv : pm_L) (st : List Value) (cs : List pm_C) : Prop := (∀ q ∈ lv, pm_okv cs.length q.2) ∧ (∀ v ∈ st, pm_okv cs.length v) ∧ ∀ c ∈ cs, ∀ v ∈ pm_vals c, pm_okv cs.length v
theorem pm_cv_cat (b : Nat) (ad : Nat → Nat) (v : Value) : (pm_cv b ad v).category = v.category := by cases v <;> rfl
theorem pm_ch_get {b : Nat} {aC : Nat → ClassId} {ad : Nat → Nat} {cs : List pm_C} {k : Nat} {c : pm_C} (h : cs[k]? = some c) : (pm_ch b aC ad cs)[k]? = some (ad k, pm_cc b aC ad c) := by
  simp [pm_ch, List.getElem?_mapIdx, h]
theorem pm_ch_len (b : Nat) (aC : Nat → ClassId) (ad : Nat → Nat) (cs : List pm_C) : (pm_ch b aC ad cs).length = cs.length := by simp [pm_ch]
theorem pm_ch_inv {b : Nat} {aC : Nat → ClassId} {ad : Nat → Nat} {cs : List pm_C} {k : Nat} {q : Nat × va_E} (h : (pm_ch b aC ad cs)[k]? = some q) : ∃ c, cs[k]? = some c ∧ q = (ad k, pm_cc b aC ad c) := by
  rw [pm_ch, List.getElem?_mapIdx] at h
  cases hc : cs[k]? with
  | none => rw [hc] at h; cases h
  | some c => rw [hc] at h; exact ⟨c, rfl, (Option.some.inj h).symm⟩
theorem pm_ch_set (b : Nat) (aC : Nat → ClassId) (ad : Nat → Nat) (cs : List pm_C) (k : Nat) (c : pm_C) : pm_ch b aC ad (cs.set k c) = (pm_ch b aC ad cs).set k (ad k, pm_cc b aC ad c) := by
  apply List.ext_getElem?
  intro j
  rw [pm_ch, List.getElem?_mapIdx, List.getElem?_set, List.getElem?_set, pm_ch, List.getElem?_mapIdx, List.length_mapIdx]
  by_cases hj : k = j
  · subst hj
    by_cases hk : k < cs.length
    · simp [hk]
    · simp [hk]
  · simp [hj]
theorem pm_ch_app (b : Nat) (aC : Nat → ClassId) (ad : Nat → Nat) (cs : List pm_C) (c : pm_C) : pm_ch b aC ad (cs ++ [c]) = pm_ch b aC ad cs ++ [(ad cs.length, pm_cc b aC ad c)] := by
  simp [pm_ch, List.mapIdx_append]
theorem pm_cv_ad {b n : Nat} {ad ad' : Nat → Nat} (ha : ∀ k, k < n → ad' k = ad k) {v : Value} (h : pm_okv n v) : pm_cv b ad' v = pm_cv b ad v := by
  cases v with
  | ref k => show Value.ref _ = Value.ref _; rw [ha k (h k rfl)]
  | _ => rfl
theorem pm_cvs_ad {b n : Nat} {ad ad' : Nat → Nat} (ha : ∀ k, k < n → ad' k = ad k) {vs : List Value} (h : ∀ v ∈ vs, pm_okv n v) : vs.map (pm_cv b ad') = vs.map (pm_cv b ad) := List.map_congr_left fun v hv => pm_cv_ad ha (h v hv)
theorem pm_cl_ad {b n : Nat} {ad ad' : Nat → Nat} (ha : ∀ k, k < n → ad' k = ad k) {lv : pm_L} (h : ∀ q ∈ lv, pm_okv n q.2) : pm_cl b ad' lv = pm_cl b ad lv := List.map_congr_left fun q hq => by rw [pm_cv_ad ha (h q hq)]
theorem pm_okv_getD {n : Nat} {vs : List Value} (h : ∀ v ∈ vs, pm_okv n v) (j : Nat) : pm_okv n (vs.getD j .null) := by
  rw [List.getD_eq_getElem?_getD]
  cases hj : vs[j]? with
  | none => intro k hk; cases hk
  | some v => exact h v (List.mem_of_getElem? hj)
theorem pm_gr_ad {n : Nat} {ad ad' : Nat → Nat} (ha : ∀ k, k < n → ad' k = ad k) {v : Value} (h : pm_okv n v) : pm_gr ad' v = pm_gr ad v := by
  cases v with
  | ref k => show some _ = some _; rw [ha k (h k rfl)]
  | _ => rfl
theorem pm_cc_ad {b n : Nat} {aC : Nat → ClassId} {ad ad' : Nat → Nat} (ha : ∀ k, k < n → ad' k = ad k) {c : pm_C} (h : ∀ v ∈ pm_vals c, pm_okv n v) : pm_cc b aC ad' c = pm_cc b aC ad c := by
  cases c with
  | inr o =>
    show (Sum.inr (o.1, o.2.map (pm_cv b ad')) : va_E) = Sum.inr (o.1, o.2.map (pm_cv b ad))
    rw [pm_cvs_ad (b := b) ha (vs := o.2) h]
  | inl a =>
    obtain ⟨t, vs⟩ := a
    show Sum.inl (aC t, vs.length, pm_ca ad' t vs) = Sum.inl (aC t, vs.length, pm_ca ad t vs)
    have e : pm_ca ad' t vs = pm_ca ad t vs := by
      unfold pm_ca
      split
      · rfl
      · rfl
      · rfl
      · congr 4
        funext j
        exact pm_gr_ad ha (pm_okv_getD h j)
    rw [e]
theorem pm_ch_ad {b : Nat} {aC : Nat → ClassId} {ad ad' : Nat → Nat} {cs : List pm_C} {n : Nat} (hn : cs.length ≤ n) (ha : ∀ k, k < n → ad' k = ad k) (h : ∀ c ∈ cs, ∀ v ∈ pm_vals c, pm_okv n v) : pm_ch b aC ad' cs = pm_ch b aC ad cs := by
  apply List.ext_getElem?
  intro j
  rw [pm_ch, pm_ch, List.getElem?_mapIdx, List.getElem?_mapIdx]
  cases hj : cs[j]? with
  | none => rfl
  | some c =>
    have hl : j < cs.length := (List.getElem?_eq_some_iff.mp hj).1
    show some (ad' j, pm_cc b aC ad' c) = some (ad j, pm_cc b aC ad c)
    rw [ha j (by omega), pm_cc_ad ha (h c (List.mem_of_getElem? hj))]
theorem pm_ld_mem {lv : pm_L} {i : Nat} {v : Value} (h : pm_ld lv i = some v) : (i, v) ∈ lv := by
  unfold pm_ld at h
  cases hf : lv.find? (fun q => q.1 == i) with
  | none => rw [hf] at h; cases h
  | some q =>
    rw [hf] at h
    have h1 := List.find?_some hf
    have h2 := List.mem_of_find?_eq_some hf
    cases h
    have : q.1 = i := by simpa using h1
    rw [← this]
    exact h2
theorem pm_ld_slot {b nL : Nat} {ad : Nat → Nat} {lv : pm_L} {ls : Array Slot} (hl : lv_has ls nL (pm_cl b ad lv)) {i : Nat} {v : Value} (h : pm_ld lv i = some v) : ls[i]? = some (.val (pm_cv b ad v)) :=
  hl.2.2 (i, pm_cv b ad v) (List.mem_map.mpr ⟨(i, v), pm_ld_mem h, rfl⟩)
theorem pm_ld_at {b : Nat} {ad : Nat → Nat} {lv : pm_L} {i : Nat} {v : Value} (h : pm_ld lv i = some v) : ∃ k : Nat, (pm_cl b ad lv)[k]? = some (i, pm_cv b ad v) :=
  List.getElem?_of_mem (List.mem_map.mpr ⟨(i, v), pm_ld_mem h, rfl⟩)
theorem pm_s1_cl (b : Nat) (ad : Nat → Nat) (lv : pm_L) (i : Nat) (v : Value) : (i, pm_cv b ad v) :: (pm_cl b ad lv).filter (fun q => !(q.1 == i) && !(q.1 + 1 == i && q.2.category == 2)) = pm_cl b ad (pm_s1 lv i v) := by
  unfold pm_s1 pm_cl
  rw [List.map_cons, List.filter_map]
  congr 2
  apply List.filter_congr
  intro q _
  simp [pm_cv_cat]
theorem pm_s2_cl (b : Nat) (ad : Nat → Nat) (lv : pm_L) (i : Nat) (v : Value) : (i, pm_cv b ad v) :: (pm_cl b ad lv).filter (fun q => !(q.1 == i) && (!(q.1 == i + 1) && !(q.1 + 1 == i && q.2.category == 2))) = pm_cl b ad (pm_s2 lv i v) := by
  unfold pm_s2 pm_cl
  rw [List.map_cons, List.filter_map]
  congr 2
  apply List.filter_congr
  intro q _
  simp [pm_cv_cat]
theorem pm_s1_ok {n i : Nat} {lv : pm_L} {v : Value} (h : ∀ q ∈ lv, pm_okv n q.2) (hv : pm_okv n v) : ∀ q ∈ pm_s1 lv i v, pm_okv n q.2 := by
  intro q hq
  rcases List.mem_cons.mp hq with h1 | h1
  · rw [h1]; exact hv
  · exact h q (List.mem_filter.mp h1).1
theorem pm_s2_ok {n i : Nat} {lv : pm_L} {v : Value} (h : ∀ q ∈ lv, pm_okv n q.2) (hv : pm_okv n v) : ∀ q ∈ pm_s2 lv i v, pm_okv n q.2 := by
  intro q hq
  rcases List.mem_cons.mp hq with h1 | h1
  · rw [h1]; exact hv
  · exact h q (List.mem_filter.mp h1).1
theorem pm_okv_int (n : Nat) (x : Int32) : pm_okv n (.int x) := fun k h => by cases h
theorem pm_okv_long (n : Nat) (x : Int64) : pm_okv n (.long x) := fun k h => by cases h
theorem pm_okv_null (n : Nat) : pm_okv n .null := fun k h => by cases h
theorem pm_okv_ra (n k : Nat) : pm_okv n (.retAddr k) := fun k h => by cases h
theorem pm_okv_ref {n k : Nat} (h : k < n) : pm_okv n (.ref k) := fun j e => by cases e; exact h
theorem pm_okv_mono {n n' : Nat} (hn : n ≤ n') {v : Value} (h : pm_okv n v) : pm_okv n' v := fun k e => Nat.lt_of_lt_of_le (h k e) hn
theorem pm_sum_cv (b : Nat) (ad : Nat → Nat) (st : List Value) : pm_sum (st.map (pm_cv b ad)) = pm_sum st := by
  unfold pm_sum
  rw [List.map_map]
  congr 1
  apply List.map_congr_left
  intro v _
  exact pm_cv_cat b ad v
theorem pm_br_eq {pc t : Nat} {off : Int} (h : pm_br pc off = some t) : (pc : Int) + off = (t : Int) := by
  unfold pm_br at h
  split at h
  · cases h
    omega
  · cases h
/-- the kinds of arrays -/
def pm_tys (aC : Nat → ClassId) : List (ClassId × FieldType) := [(aC 0, .int), (aC 1, .long), (aC 2, .boolean), (aC 3, .object RX2), (aC 4, .object RX3), (aC 5, .object RX5), (aC 6, .object RX6)]
theorem pm_gi_set (vs : List Value) {k : Nat} (hk : k < vs.length) (x : Int32) : (fun j => pm_gi ((vs.set k (.int x)).getD j .null)) = upd (fun j => pm_gi (vs.getD j .null)) k x := by
  funext j
  unfold upd
  by_cases hj : j = k
  · subst hj
    simp [List.getD_eq_getElem?_getD, List.getElem?_set, hk, pm_gi]
  · rw [if_neg hj]
    simp [List.getD_eq_getElem?_getD, List.getElem?_set, Ne.symm hj]
theorem pm_gl_set (vs : List Value) {k : Nat} (hk : k < vs.length) (x : Int64) : (fun j => pm_gl ((vs.set k (.long x)).getD j .null)) = vp_updL (fun j => pm_gl (vs.getD j .null)) k x := by
  funext j
  unfold vp_updL
  by_cases hj : j = k
  · subst hj
    simp [List.getD_eq_getElem?_getD, List.getElem?_set, hk, pm_gl]
  · rw [if_neg hj]
    simp [List.getD_eq_getElem?_getD, List.getElem?_set, Ne.symm hj]
theorem pm_gr_set (ad : Nat → Nat) (vs : List Value) {k : Nat} (hk : k < vs.length) (v : Value) : (fun j => pm_gr ad ((vs.set k v).getD j .null)) = va_up (fun j => pm_gr ad (vs.getD j .null)) k (pm_gr ad v) := by
  funext j
  unfold va_up
  by_cases hj : j = k
  · subst hj
    simp [List.getD_eq_getElem?_getD, List.getElem?_set, hk]
  · rw [if_neg hj]
    simp [List.getD_eq_getElem?_getD, List.getElem?_set, Ne.symm hj]
theorem pm_gi_cpy (vs ws : List Value) {sp dp n : Nat} (hd : dp + n ≤ ws.length) : (fun j => pm_gi ((pm_cpy vs ws sp dp n).getD j .null)) = va_cpy (fun j => pm_gi (vs.getD j .null)) (fun j => pm_gi (ws.getD j .null)) sp dp n := by
  funext j
  unfold va_cpy pm_cpy
  rw [List.getD_eq_getElem?_getD, List.getElem?_map]
  by_cases hj : j < ws.length
  · rw [List.getElem?_range hj]
    show pm_gi (if _ then _ else _) = _
    split <;> rfl
  · have e : (List.range ws.length)[j]? = none := by simp; omega
    rw [e, if_neg (by omega)]
    show pm_gi Value.null = pm_gi (ws.getD j Value.null)
    rw [List.getD_eq_getElem?_getD, List.getElem?_eq_none (by omega)]
    rfl
theorem pm_cpy_len (vs ws : List Value) (sp dp n : Nat) : (pm_cpy vs ws sp dp n).length = ws.length := by simp [pm_cpy]
theorem pm_dv_i (n : Nat) : (fun j => pm_gi ((List.replicate n (Value.int 0)).getD j .null)) = fun _ => 0 := by
  funext j
  rw [List.getD_eq_getElem?_getD, List.getElem?_replicate]
  split <;> rfl
theorem pm_dv_l (n : Nat) : (fun j => pm_gl ((List.replicate n (Value.long 0)).getD j .null)) = fun _ => 0 := by
  funext j
  rw [List.getD_eq_getElem?_getD, List.getElem?_replicate]
  split <;> rfl
theorem pm_dv_r (ad : Nat → Nat) (n : Nat) : (fun j => pm_gr ad ((List.replicate n Value.null).getD j .null)) = fun _ => none := by
  funext j
  rw [List.getD_eq_getElem?_getD, List.getElem?_replicate]
  split <;> rfl
