-- deps: 31.base
/-! THE STANDING CELLS 0 .. 30: ints (field, index) as in the reference's content, 50 rows, 51 numbers, 52 results; pointers 1 requests, 3 messages, 5 acks, 12 changes -/
abbrev PT : Type := Nat → Nat → Option Nat
def pv (x : Option Nat) : Value := match x with
  | some p => .ref p
  | none => .null
def uy (Y : PT) (k j : Nat) (v : Option Nat) : PT := fun a b => if a = k ∧ b = j then v else Y a b
theorem uy_i {Y : PT} {k j : Nat} {v : Option Nat} : uy Y k j v k j = v := if_pos ⟨rfl, rfl⟩
theorem uy_n {Y : PT} {k j a b : Nat} {v : Option Nat} (h : ¬ (a = k ∧ b = j)) : uy Y k j v a b = Y a b := if_neg h
def ob5 (a : MS) (r : Nat) : List Value := [.int (nI r), .ref 1, .ref 2, .ref (8 + 6 * r), .ref (10 + 6 * r), .ref (11 + 6 * r), .ref (12 + 6 * r), .int (a.1 6 r), .int (a.1 10 r), .int (a.1 11 r), .int (a.1 12 r)]
def ob1 (a : MS) (r : Nat) : List Value := [.ref (9 + 6 * r), .int (a.1 7 r), .int (a.1 9 r)]
def ob0 (a : MS) : List Value := [.ref 1, .ref 2, .ref 5, .int (a.1 2 0), .int (a.1 29 0)]
def ob4 (a : MS) : List Value := [.ref 3, .int (a.1 17 0)]
def ob7 (a : MS) : List Value := [.int (a.1 1 0), .ref 2, .ref 4, .ref 6]
def ccell (a : MS) (Y : PT) (p : Nat) : pm_C :=
  if p = 0 then .inr (7, ob7 a)
  else if p = 1 then .inl (6, (List.range 12).map fun j => pv (Y 1 j))
  else if p = 2 then .inr (4, ob4 a)
  else if p = 3 then .inl (4, (List.range 600).map fun j => pv (Y 3 j))
  else if p = 4 then .inr (0, ob0 a)
  else if p = 5 then .inl (3, (List.range 4).map fun j => pv (Y 5 j))
  else if p = 6 then .inl (5, (List.range 4).map fun j => Value.ref (7 + 6 * j))
  else if (p - 7) % 6 = 0 then .inr (5, ob5 a ((p - 7) / 6))
  else if (p - 7) % 6 = 1 then .inr (1, ob1 a ((p - 7) / 6))
  else if (p - 7) % 6 = 2 then .inl (0, (List.range 12).map fun j => .int (a.1 50 (12 * ((p - 7) / 6) + j)))
  else if (p - 7) % 6 = 3 then .inl (0, (List.range 4).map fun j => .int (a.1 51 (4 * ((p - 7) / 6) + j)))
  else if (p - 7) % 6 = 4 then .inl (0, (List.range 12).map fun j => .int (a.1 52 (12 * ((p - 7) / 6) + j)))
  else .inl (3, (List.range 4).map fun j => pv (Y 12 (4 * ((p - 7) / 6) + j)))
def cset (cs : List pm_C) (a : MS) (Y : PT) : List pm_C := (List.range cs.length).map fun p => if p ≤ 30 then ccell a Y p else cs.getD p (.inl (0, []))
theorem cset_length (cs : List pm_C) (a : MS) (Y : PT) : (cset cs a Y).length = cs.length := by unfold cset; simp
theorem cset_in {cs : List pm_C} {a : MS} {Y : PT} {p : Nat} (hc : 73 < cs.length) (h2 : p ≤ 30) : (cset cs a Y)[p]? = some (ccell a Y p) := by
  unfold cset
  rw [List.getElem?_map, List.getElem?_range (by omega)]
  simp [h2]
theorem cset_out {cs : List pm_C} {a : MS} {Y : PT} {p : Nat} (h1 : ¬ p ≤ 30) : (cset cs a Y)[p]? = cs[p]? := by
  unfold cset
  rw [List.getElem?_map]
  rcases Nat.lt_or_ge p cs.length with h | h
  · rw [List.getElem?_range h]
    simp [h1, List.getD, h]
  · rw [List.getElem?_eq_none (by simpa using h), List.getElem?_eq_none h]; rfl
theorem cset_ext {cs cs' : List pm_C} {a : MS} {Y : PT} (hc : 73 < cs.length) (hl : cs'.length = cs.length) (h1 : ∀ p, p ≤ 30 → cs'[p]? = some (ccell a Y p)) (h2 : ∀ p, ¬ p ≤ 30 → cs'[p]? = cs[p]?) : cs' = cset cs a Y := by
  apply List.ext_getElem?
  intro p
  by_cases h : p ≤ 30
  · rw [h1 p h, cset_in hc h]
  · rw [h2 p h, cset_out h]
theorem cset_app {cs : List pm_C} {a : MS} {Y : PT} {c : pm_C} (hc : 73 < cs.length) : cset cs a Y ++ [c] = cset (cs ++ [c]) a Y := by
  refine cset_ext (by rw [List.length_append]; omega) (by rw [List.length_append, List.length_append, cset_length]) (fun p h => ?_) (fun p h => ?_)
  · rw [List.getElem?_append_left (by rw [cset_length]; omega), cset_in hc h]
  · rcases Nat.lt_or_ge p cs.length with g | g
    · rw [List.getElem?_append_left (by rw [cset_length]; omega), List.getElem?_append_left g, cset_out h]
    · rw [List.getElem?_append_right (by rw [cset_length]; omega), List.getElem?_append_right g, cset_length]
theorem cset_set {cs : List pm_C} {a : MS} {Y : PT} {c : pm_C} {p : Nat} (hc : 73 < cs.length) (hp : 30 < p) : (cset cs a Y).set p c = cset (cs.set p c) a Y := by
  refine cset_ext (by rw [List.length_set]; omega) (by rw [List.length_set, List.length_set, cset_length]) (fun q h => ?_) (fun q h => ?_)
  · rw [gs_ne (by omega), cset_in hc h]
  · by_cases e : p = q
    · subst e
      rw [List.getElem?_set, List.getElem?_set, if_pos rfl, if_pos rfl, cset_length]
    · rw [gs_ne e, gs_ne e, cset_out h]
theorem cset_upd {cs : List pm_C} {a a' : MS} {Y Y' : PT} {c : pm_C} {p : Nat} (hc : 73 < cs.length) (hp : p ≤ 30) (h1 : ccell a' Y' p = c) (h2 : ∀ q, q ≤ 30 → q ≠ p → ccell a' Y' q = ccell a Y q) : (cset cs a Y).set p c = cset cs a' Y' := by
  refine cset_ext hc (by rw [List.length_set, cset_length]) (fun q h => ?_) (fun q h => ?_)
  · by_cases e : p = q
    · subst e
      rw [gs_self (cset_in hc h), h1]
    · rw [gs_ne e, cset_in hc h, h2 q h (Ne.symm e)]
  · rw [gs_ne (by omega), cset_out h]
section CS
variable {cs : List pm_C} {a : MS} {Y : PT}
theorem cs0 (hc : 73 < cs.length) : (cset cs a Y)[0]? = some (.inr (7, ob7 a)) := cset_in hc (by omega)
theorem cs1 (hc : 73 < cs.length) : (cset cs a Y)[1]? = some (.inl (6, (List.range 12).map fun j => pv (Y 1 j))) := cset_in hc (by omega)
theorem cs2 (hc : 73 < cs.length) : (cset cs a Y)[2]? = some (.inr (4, ob4 a)) := cset_in hc (by omega)
theorem cs3 (hc : 73 < cs.length) : (cset cs a Y)[3]? = some (.inl (4, (List.range 600).map fun j => pv (Y 3 j))) := cset_in hc (by omega)
theorem cs4 (hc : 73 < cs.length) : (cset cs a Y)[4]? = some (.inr (0, ob0 a)) := cset_in hc (by omega)
theorem cs5 (hc : 73 < cs.length) : (cset cs a Y)[5]? = some (.inl (3, (List.range 4).map fun j => pv (Y 5 j))) := cset_in hc (by omega)
theorem cs6 (hc : 73 < cs.length) : (cset cs a Y)[6]? = some (.inl (5, (List.range 4).map fun j => Value.ref (7 + 6 * j))) := cset_in hc (by omega)
theorem cs7 {r : Nat} (hc : 73 < cs.length) (hr : r < 4) : (cset cs a Y)[7 + 6 * r]? = some (.inr (5, ob5 a r)) := by
  rw [cset_in hc (by omega)]
  rcases (by omega : r = 0 ∨ r = 1 ∨ r = 2 ∨ r = 3) with rfl | rfl | rfl | rfl <;> rfl
theorem cs8 {r : Nat} (hc : 73 < cs.length) (hr : r < 4) : (cset cs a Y)[8 + 6 * r]? = some (.inr (1, ob1 a r)) := by
  rw [cset_in hc (by omega)]
  rcases (by omega : r = 0 ∨ r = 1 ∨ r = 2 ∨ r = 3) with rfl | rfl | rfl | rfl <;> rfl
theorem cs9 {r : Nat} (hc : 73 < cs.length) (hr : r < 4) : (cset cs a Y)[9 + 6 * r]? = some (.inl (0, (List.range 12).map fun j => .int (a.1 50 (12 * r + j)))) := by
  rw [cset_in hc (by omega)]
  rcases (by omega : r = 0 ∨ r = 1 ∨ r = 2 ∨ r = 3) with rfl | rfl | rfl | rfl <;> rfl
theorem cs10 {r : Nat} (hc : 73 < cs.length) (hr : r < 4) : (cset cs a Y)[10 + 6 * r]? = some (.inl (0, (List.range 4).map fun j => .int (a.1 51 (4 * r + j)))) := by
  rw [cset_in hc (by omega)]
  rcases (by omega : r = 0 ∨ r = 1 ∨ r = 2 ∨ r = 3) with rfl | rfl | rfl | rfl <;> rfl
theorem cs11 {r : Nat} (hc : 73 < cs.length) (hr : r < 4) : (cset cs a Y)[11 + 6 * r]? = some (.inl (0, (List.range 12).map fun j => .int (a.1 52 (12 * r + j)))) := by
  rw [cset_in hc (by omega)]
  rcases (by omega : r = 0 ∨ r = 1 ∨ r = 2 ∨ r = 3) with rfl | rfl | rfl | rfl <;> rfl
theorem cs12 {r : Nat} (hc : 73 < cs.length) (hr : r < 4) : (cset cs a Y)[12 + 6 * r]? = some (.inl (3, (List.range 4).map fun j => pv (Y 12 (4 * r + j)))) := by
  rw [cset_in hc (by omega)]
  rcases (by omega : r = 0 ∨ r = 1 ∨ r = 2 ∨ r = 3) with rfl | rfl | rfl | rfl <;> rfl
/-- a field number of the ints: which cells it touches -/
theorem cc_up {k j : Nat} {v : Int32} {p : Nat} (hp : p ≤ 30)
    (h0 : p = 0 → k ≠ 1) (h2 : p = 2 → k ≠ 17) (h4 : p = 4 → k ≠ 2 ∧ k ≠ 29)
    (h5 : 7 ≤ p → (p - 7) % 6 = 0 → ¬ ((k = 6 ∨ k = 10 ∨ k = 11 ∨ k = 12) ∧ j = (p - 7) / 6))
    (h6 : 7 ≤ p → (p - 7) % 6 = 1 → ¬ ((k = 7 ∨ k = 9) ∧ j = (p - 7) / 6))
    (h7 : 7 ≤ p → (p - 7) % 6 = 2 → ∀ b, b < 12 → ¬ (k = 50 ∧ j = 12 * ((p - 7) / 6) + b))
    (h8 : 7 ≤ p → (p - 7) % 6 = 3 → ∀ b, b < 4 → ¬ (k = 51 ∧ j = 4 * ((p - 7) / 6) + b))
    (h9 : 7 ≤ p → (p - 7) % 6 = 4 → ∀ b, b < 12 → ¬ (k = 52 ∧ j = 12 * ((p - 7) / 6) + b)) : ccell (up a k j v) Y p = ccell a Y p := by
  unfold ccell
  by_cases e0 : p = 0
  · rw [if_pos e0, if_pos e0]; unfold ob7; rw [up_n (fun z => h0 e0 z.1.symm)]
  rw [if_neg e0, if_neg e0]
  by_cases e1 : p = 1
  · rw [if_pos e1, if_pos e1]
  rw [if_neg e1, if_neg e1]
  by_cases e2 : p = 2
  · rw [if_pos e2, if_pos e2]; unfold ob4; rw [up_n (fun z => h2 e2 z.1.symm)]
  rw [if_neg e2, if_neg e2]
  by_cases e3 : p = 3
  · rw [if_pos e3, if_pos e3]
  rw [if_neg e3, if_neg e3]
  by_cases e4 : p = 4
  · rw [if_pos e4, if_pos e4]; unfold ob0; rw [up_n (fun z => (h4 e4).1 z.1.symm), up_n (fun z => (h4 e4).2 z.1.symm)]
  rw [if_neg e4, if_neg e4]
  by_cases e5 : p = 5
  · rw [if_pos e5, if_pos e5]
  rw [if_neg e5, if_neg e5]
  by_cases e6 : p = 6
  · rw [if_pos e6, if_pos e6]
  rw [if_neg e6, if_neg e6]
  have h7' : 7 ≤ p := by omega
  by_cases m0 : (p - 7) % 6 = 0
  · rw [if_pos m0, if_pos m0]; have h := h5 h7' m0; unfold ob5; rw [up_n (by omega), up_n (by omega), up_n (by omega), up_n (by omega)]
  rw [if_neg m0, if_neg m0]
  by_cases m1 : (p - 7) % 6 = 1
  · rw [if_pos m1, if_pos m1]; have h := h6 h7' m1; unfold ob1; rw [up_n (by omega), up_n (by omega)]
  rw [if_neg m1, if_neg m1]
  by_cases m2 : (p - 7) % 6 = 2
  · rw [if_pos m2, if_pos m2]
    congr 2
    apply List.map_congr_left
    intro b hb
    rw [up_n (fun z => h7 h7' m2 b (by simpa using hb) ⟨z.1.symm, z.2.symm⟩)]
  rw [if_neg m2, if_neg m2]
  by_cases m3 : (p - 7) % 6 = 3
  · rw [if_pos m3, if_pos m3]
    congr 2
    apply List.map_congr_left
    intro b hb
    rw [up_n (fun z => h8 h7' m3 b (by simpa using hb) ⟨z.1.symm, z.2.symm⟩)]
  rw [if_neg m3, if_neg m3]
  by_cases m4 : (p - 7) % 6 = 4
  · rw [if_pos m4, if_pos m4]
    congr 2
    apply List.map_congr_left
    intro b hb
    rw [up_n (fun z => h9 h7' m4 b (by simpa using hb) ⟨z.1.symm, z.2.symm⟩)]
  rw [if_neg m4, if_neg m4]
theorem cc_uy {k j : Nat} {v : Option Nat} {p : Nat} (hp : p ≤ 30) (h1 : p = 1 → k ≠ 1) (h3 : p = 3 → k ≠ 3) (h5 : p = 5 → k ≠ 5)
    (h12 : 7 ≤ p → (p - 7) % 6 = 5 → ∀ b, b < 4 → ¬ (k = 12 ∧ j = 4 * ((p - 7) / 6) + b)) : ccell a (uy Y k j v) p = ccell a Y p := by
  unfold ccell
  by_cases e0 : p = 0
  · rw [if_pos e0, if_pos e0]
  rw [if_neg e0, if_neg e0]
  by_cases e1 : p = 1
  · rw [if_pos e1, if_pos e1]
    congr 2; apply List.map_congr_left; intro b hb
    rw [uy_n (fun z => h1 e1 z.1.symm)]
  rw [if_neg e1, if_neg e1]
  by_cases e2 : p = 2
  · rw [if_pos e2, if_pos e2]
  rw [if_neg e2, if_neg e2]
  by_cases e3 : p = 3
  · rw [if_pos e3, if_pos e3]
    exact congrArg (fun l => (Sum.inl (4, l) : pm_C)) (List.map_congr_left (fun b hb => congrArg pv (uy_n (fun z => h3 e3 z.1.symm))))
  rw [if_neg e3, if_neg e3]
  by_cases e4 : p = 4
  · rw [if_pos e4, if_pos e4]
  rw [if_neg e4, if_neg e4]
  by_cases e5 : p = 5
  · rw [if_pos e5, if_pos e5]
    congr 2; apply List.map_congr_left; intro b hb
    rw [uy_n (fun z => h5 e5 z.1.symm)]
  rw [if_neg e5, if_neg e5]
  by_cases e6 : p = 6
  · rw [if_pos e6, if_pos e6]
  rw [if_neg e6, if_neg e6]
  have h7' : 7 ≤ p := by omega
  by_cases m0 : (p - 7) % 6 = 0
  · rw [if_pos m0, if_pos m0]
  rw [if_neg m0, if_neg m0]
  by_cases m1 : (p - 7) % 6 = 1
  · rw [if_pos m1, if_pos m1]
  rw [if_neg m1, if_neg m1]
  by_cases m2 : (p - 7) % 6 = 2
  · rw [if_pos m2, if_pos m2]
  rw [if_neg m2, if_neg m2]
  by_cases m3 : (p - 7) % 6 = 3
  · rw [if_pos m3, if_pos m3]
  rw [if_neg m3, if_neg m3]
  by_cases m4 : (p - 7) % 6 = 4
  · rw [if_pos m4, if_pos m4]
  rw [if_neg m4, if_neg m4]
  congr 2; apply List.map_congr_left; intro b hb
  rw [uy_n (fun z => h12 h7' (by omega) b (by simpa using hb) ⟨z.1.symm, z.2.symm⟩)]
/-! what a change of a standing cell is -/
theorem cs2_up {v : Int32} (hc : 73 < cs.length) : (cset cs a Y).set 2 (.inr (4, (ob4 a).set 1 (.int v))) = cset cs (up a 17 0 v) Y := cset_upd hc (by omega) rfl (fun q h e => cc_up h (by omega) (fun z => absurd z e) (by omega) (by omega) (by omega) (by omega) (by omega) (by omega))
theorem cs4_up {k f : Nat} {v : Int32} (hc : 73 < cs.length) (hk : (k = 3 ∧ f = 2) ∨ (k = 4 ∧ f = 29)) : (cset cs a Y).set 4 (.inr (0, (ob0 a).set k (.int v))) = cset cs (up a f 0 v) Y := cset_upd hc (by omega) (by rcases hk with ⟨rfl, rfl⟩ | ⟨rfl, rfl⟩ <;> rfl) (fun q h e => cc_up h (by omega) (by omega) (fun z => absurd z e) (by omega) (by omega) (by omega) (by omega) (by omega))
theorem cs7_up {r k f : Nat} {v : Int32} (hc : 73 < cs.length) (hr : r < 4) (hk : (k = 7 ∧ f = 6) ∨ (k = 8 ∧ f = 10) ∨ (k = 9 ∧ f = 11) ∨ (k = 10 ∧ f = 12)) : (cset cs a Y).set (7 + 6 * r) (.inr (5, (ob5 a r).set k (.int v))) = cset cs (up a f r v) Y := by
  refine cset_upd hc (by omega) ?_ (fun q h e => cc_up h (by omega) (by omega) (by omega) (by omega) (by omega) (by omega) (by omega) (by omega))
  have hr4 : r = 0 ∨ r = 1 ∨ r = 2 ∨ r = 3 := by omega
  rcases hr4 with rfl | rfl | rfl | rfl <;> rcases hk with ⟨rfl, rfl⟩ | ⟨rfl, rfl⟩ | ⟨rfl, rfl⟩ | ⟨rfl, rfl⟩ <;> rfl
theorem cs8_up {r k f : Nat} {v : Int32} (hc : 73 < cs.length) (hr : r < 4) (hk : (k = 1 ∧ f = 7) ∨ (k = 2 ∧ f = 9)) : (cset cs a Y).set (8 + 6 * r) (.inr (1, (ob1 a r).set k (.int v))) = cset cs (up a f r v) Y := by
  refine cset_upd hc (by omega) ?_ (fun q h e => cc_up h (by omega) (by omega) (by omega) (by omega) (by omega) (by omega) (by omega) (by omega))
  have hr4 : r = 0 ∨ r = 1 ∨ r = 2 ∨ r = 3 := by omega
  rcases hr4 with rfl | rfl | rfl | rfl <;> rcases hk with ⟨rfl, rfl⟩ | ⟨rfl, rfl⟩ <;> rfl
theorem map_upI (a : MS) (n j c f : Nat) (hj : j < n) (x : Int32) : ((List.range n).map fun b => Value.int (a.1 f (c + b))).set j (.int x) = (List.range n).map fun b => Value.int ((up a f (c + j) x).1 f (c + b)) := by
  rw [map_up n j hj]
  apply List.map_congr_left
  intro b _
  by_cases e : b = j
  · subst e; rw [if_pos rfl, up_i]
  · rw [if_neg e, up_n (fun z => e (by omega))]
theorem map_upY (Y : PT) (n j c f : Nat) (hj : j < n) (x : Option Nat) : ((List.range n).map fun b => pv (Y f (c + b))).set j (pv x) = (List.range n).map fun b => pv (uy Y f (c + j) x f (c + b)) := by
  rw [map_up n j hj]
  apply List.map_congr_left
  intro b _
  by_cases e : b = j
  · subst e; rw [if_pos rfl, uy_i]
  · rw [if_neg e, uy_n (fun z => e (by omega))]
theorem cs9_up {r j : Nat} {v : Int32} (hc : 73 < cs.length) (hr : r < 4) (hj : j < 12) : (cset cs a Y).set (9 + 6 * r) (.inl (0, ((List.range 12).map fun j => Value.int (a.1 50 (12 * r + j))).set j (.int v))) = cset cs (up a 50 (12 * r + j) v) Y := by
  refine cset_upd hc (by omega) ?_ (fun q h e => cc_up h (by omega) (by omega) (by omega) (by omega) (by omega) (by omega) (by omega) (by omega))
  rw [map_upI a 12 j (12 * r) 50 hj]
  have hr4 : r = 0 ∨ r = 1 ∨ r = 2 ∨ r = 3 := by omega
  rcases hr4 with rfl | rfl | rfl | rfl <;> rfl
theorem cs10_up {r j : Nat} {v : Int32} (hc : 73 < cs.length) (hr : r < 4) (hj : j < 4) : (cset cs a Y).set (10 + 6 * r) (.inl (0, ((List.range 4).map fun j => Value.int (a.1 51 (4 * r + j))).set j (.int v))) = cset cs (up a 51 (4 * r + j) v) Y := by
  refine cset_upd hc (by omega) ?_ (fun q h e => cc_up h (by omega) (by omega) (by omega) (by omega) (by omega) (by omega) (by omega) (by omega))
  rw [map_upI a 4 j (4 * r) 51 hj]
  have hr4 : r = 0 ∨ r = 1 ∨ r = 2 ∨ r = 3 := by omega
  rcases hr4 with rfl | rfl | rfl | rfl <;> rfl
theorem cs11_up {r j : Nat} {v : Int32} (hc : 73 < cs.length) (hr : r < 4) (hj : j < 12) : (cset cs a Y).set (11 + 6 * r) (.inl (0, ((List.range 12).map fun j => Value.int (a.1 52 (12 * r + j))).set j (.int v))) = cset cs (up a 52 (12 * r + j) v) Y := by
  refine cset_upd hc (by omega) ?_ (fun q h e => cc_up h (by omega) (by omega) (by omega) (by omega) (by omega) (by omega) (by omega) (by omega))
  rw [map_upI a 12 j (12 * r) 52 hj]
  have hr4 : r = 0 ∨ r = 1 ∨ r = 2 ∨ r = 3 := by omega
  rcases hr4 with rfl | rfl | rfl | rfl <;> rfl
theorem cs12_up {r j : Nat} {x : Option Nat} (hc : 73 < cs.length) (hr : r < 4) (hj : j < 4) : (cset cs a Y).set (12 + 6 * r) (.inl (3, ((List.range 4).map fun j => pv (Y 12 (4 * r + j))).set j (pv x))) = cset cs a (uy Y 12 (4 * r + j) x) := by
  refine cset_upd hc (by omega) ?_ (fun q h e => cc_uy h (by omega) (by omega) (by omega) (by omega))
  rw [map_upY Y 4 j (4 * r) 12 hj]
  have hr4 : r = 0 ∨ r = 1 ∨ r = 2 ∨ r = 3 := by omega
  rcases hr4 with rfl | rfl | rfl | rfl <;> rfl
theorem map_upY0 (Y : PT) (n j f : Nat) (hj : j < n) (x : Option Nat) : ((List.range n).map fun b => pv (Y f b)).set j (pv x) = (List.range n).map fun b => pv (uy Y f j x f b) := by
  have h := map_upY Y n j 0 f hj x
  simp only [Nat.zero_add] at h
  exact h
theorem cs1_up {j : Nat} {x : Option Nat} (hc : 73 < cs.length) (hj : j < 12) : (cset cs a Y).set 1 (.inl (6, ((List.range 12).map fun j => pv (Y 1 j)).set j (pv x))) = cset cs a (uy Y 1 j x) := by
  refine cset_upd hc (by omega) ?_ (fun q h e => cc_uy h (fun z => absurd z e) (by omega) (by omega) (by omega))
  rw [map_upY0 Y 12 j 1 hj]; rfl
theorem cs3_up {j : Nat} {x : Option Nat} (hc : 73 < cs.length) (hj : j < 600) : (cset cs a Y).set 3 (.inl (4, ((List.range 600).map fun j => pv (Y 3 j)).set j (pv x))) = cset cs a (uy Y 3 j x) := by
  refine cset_upd hc (by omega) ?_ (fun q h e => cc_uy h (by omega) (fun z => absurd z e) (by omega) (by omega))
  rw [map_upY0 Y 600 j 3 hj]; rfl
theorem cs5_up {j : Nat} {x : Option Nat} (hc : 73 < cs.length) (hj : j < 4) : (cset cs a Y).set 5 (.inl (3, ((List.range 4).map fun j => pv (Y 5 j)).set j (pv x))) = cset cs a (uy Y 5 j x) := by
  refine cset_upd hc (by omega) ?_ (fun q h e => cc_uy h (by omega) (by omega) (fun z => absurd z e) (by omega))
  rw [map_upY0 Y 4 j 5 hj]; rfl
end CS
