-- deps: 68.d4
/-! the constructors -/
theorem rep_m (m : Nat) (v : Value) : List.replicate m v = (List.range m).map fun _ => v := by
  apply List.ext_getElem?
  intro i
  rw [List.getElem?_map]
  rcases Nat.lt_or_ge i m with h | h
  · rw [List.getElem?_range h, List.getElem?_replicate, if_pos h]; rfl
  · rw [List.getElem?_eq_none (by simpa using h), List.getElem?_eq_none (by simpa using h)]; rfl
section TW
variable {sc : pm_Sc} {i pc : Nat} {lv : pm_L} {st : List Value} {kn : Nat × Nat} {H T : List pm_C} {Q : (Option Value ⊕ Nat) → pm_H → Prop}
theorem w_tnew {n ci len : Nat} (ha : pm_at i pc = some (.new n, len, [ci])) (hi : ci < 9) (kk : pw sc i (pc + 3, lv, .ref (H.length + T.length) :: st, (H ++ (T ++ [.inr (ci, pm_df ci)]), kn.1 + 1, kn.2 + (pm_df ci).length)) Q) : pw sc i (pc, lv, st, (H ++ T, kn)) Q := by
  refine w_new ha hi ?_
  show pw sc i (pc + 3, lv, .ref (H ++ T).length :: st, ((H ++ T) ++ [_], _, _)) Q
  rw [List.length_append, List.append_assoc]; exact kk
theorem w_tnarr {at' : ArrayType} {t len m : Nat} {n : Int32} (ha : pm_at i pc = some (.newarray at', len, [t])) (hn : ((at' = .int ∧ t = 0) ∨ (at' = .long ∧ t = 1) ∨ (at' = .boolean ∧ t = 2)) ∧ ¬ n < 0 ∧ n.toNatClampNeg ≤ 1000) (hm : n.toNatClampNeg = m) (kk : pw sc i (pc + 2, lv, .ref (H.length + T.length) :: st, (H ++ (T ++ [.inl (t, (List.range m).map fun _ => pm_dv t)]), kn.1 + 1, kn.2 + m)) Q) : pw sc i (pc, lv, .int n :: st, (H ++ T, kn)) Q := by
  subst hm
  refine w_newarray ha hn ?_
  show pw sc i (pc + 2, lv, .ref (H ++ T).length :: st, ((H ++ T) ++ [_], _, _)) Q
  rw [List.length_append, List.append_assoc, rep_m]; exact kk
theorem w_tanarr {l t len m : Nat} {n : Int32} (ha : pm_at i pc = some (.anewarray l, len, [t])) (hn : 3 ≤ t ∧ t ≤ 6 ∧ ¬ n < 0 ∧ n.toNatClampNeg ≤ 1000) (hm : n.toNatClampNeg = m) (kk : pw sc i (pc + 3, lv, .ref (H.length + T.length) :: st, (H ++ (T ++ [.inl (t, (List.range m).map fun _ => Value.null)]), kn.1 + 1, kn.2 + m)) Q) : pw sc i (pc, lv, .int n :: st, (H ++ T, kn)) Q := by
  subst hm
  refine w_anewarray ha hn ?_
  show pw sc i (pc + 3, lv, .ref (H ++ T).length :: st, ((H ++ T) ++ [_], _, _)) Q
  rw [List.length_append, List.append_assoc, rep_m]; exact kk
theorem w_tput {n ci k lk k' len : Nat} {fs : List Value} {v : Value} (ha : pm_at i pc = some (.putfield n, len, [ci, k, lk])) (hp : T[k']? = some (.inr (ci, fs))) (hl : k < fs.length) (hf : pm_fit (pm_ty ci k) v = true) (kk : pw sc i (pc + 3, lv, st, (H ++ T.set k' (.inr (ci, fs.set k v)), kn)) Q) : pw sc i (pc, lv, v :: .ref (H.length + k') :: st, (H ++ T, kn)) Q := by
  refine w_putfield ha (h := (H ++ T, kn)) ?_ hl hf ?_
  · show (H ++ T)[H.length + k']? = _
    rw [List.getElem?_append_right (by omega), show H.length + k' - H.length = k' by omega]; exact hp
  · show pw sc i (pc + 3, lv, st, ((H ++ T).set (H.length + k') _, kn)) Q
    rw [List.set_append_right _ _ (by omega), show H.length + k' - H.length = k' by omega]; exact kk
end TW
set_option maxRecDepth 100000 in
set_option maxHeartbeats 1000000 in
theorem c_i4 {sc : pm_Sc} {H : List pm_C} {kn : Nat × Nat} : pu sc 20 [.ref H.length] (H ++ [.inr (4, pm_df 4)], kn) (pz none (H ++ [.inr (4, [.ref (H.length + 1), .int 0]), .inl (4, (List.range 600).map fun _ => Value.null)], kn.1 + 1, kn.2 + 600)) := by
  refine w_aload_n rfl rfl ?_
  refine w_objinit rfl ⟨(Nat.le_of_ble_eq_true rfl), (Nat.le_of_ble_eq_true rfl)⟩ ?_
  refine w_aload_n rfl rfl ?_
  refine w_sipush (v := 600) rfl (by decide) ?_
  refine w_tanarr (m := 600) rfl (by decide) (by decide) ?_
  refine w_tput (k' := 0) rfl rfl (Nat.le_of_ble_eq_true rfl) rfl ?_
  refine w_aload_n rfl rfl ?_
  refine w_iconst (v := 0) rfl (by decide) ?_
  refine w_tput (k' := 0) rfl rfl (Nat.le_of_ble_eq_true rfl) rfl ?_
  exact w_return rfl rfl ⟨rfl, rfl⟩
set_option maxRecDepth 100000 in
set_option maxHeartbeats 1000000 in
theorem c_i0 {sc : pm_Sc} {H : List pm_C} {kn : Nat × Nat} : pu sc 0 [.ref H.length, .ref 1, .ref 2] (H ++ [.inr (0, pm_df 0)], kn) (pz none (H ++ [.inr (0, [.ref 1, .ref 2, .ref (H.length + 1), .int 0, .int 0]), .inl (3, (List.range 4).map fun _ => Value.null)], kn.1 + 1, kn.2 + 4)) := by
  refine w_aload_n rfl rfl ?_
  refine w_objinit rfl ⟨(Nat.le_of_ble_eq_true rfl), (Nat.le_of_ble_eq_true rfl)⟩ ?_
  refine w_aload_n rfl rfl ?_
  refine w_iconst (v := 4) rfl (by decide) ?_
  refine w_tanarr (m := 4) rfl (by decide) (by decide) ?_
  refine w_tput (k' := 0) rfl rfl (Nat.le_of_ble_eq_true rfl) rfl ?_
  refine w_aload_n rfl rfl ?_
  refine w_iconst (v := 0) rfl (by decide) ?_
  refine w_tput (k' := 0) rfl rfl (Nat.le_of_ble_eq_true rfl) rfl ?_
  refine w_aload_n rfl rfl ?_
  refine w_iconst (v := 0) rfl (by decide) ?_
  refine w_tput (k' := 0) rfl rfl (Nat.le_of_ble_eq_true rfl) rfl ?_
  refine w_aload_n rfl rfl ?_
  refine w_aload_n rfl rfl ?_
  refine w_tput (k' := 0) rfl rfl (Nat.le_of_ble_eq_true rfl) rfl ?_
  refine w_aload_n rfl rfl ?_
  refine w_aload_n rfl rfl ?_
  refine w_tput (k' := 0) rfl rfl (Nat.le_of_ble_eq_true rfl) rfl ?_
  exact w_return rfl rfl ⟨rfl, rfl⟩
set_option maxRecDepth 100000 in
set_option maxHeartbeats 1000000 in
theorem c_i1 {sc : pm_Sc} {H : List pm_C} {kn : Nat × Nat} : pu sc 7 [.ref H.length] (H ++ [.inr (1, pm_df 1)], kn) (pz none (H ++ [.inr (1, [.ref (H.length + 1), .int 0, .int 0]), .inl (0, (List.range 12).map fun _ => Value.int 0)], kn.1 + 1, kn.2 + 12)) := by
  refine w_aload_n rfl rfl ?_
  refine w_objinit rfl ⟨(Nat.le_of_ble_eq_true rfl), (Nat.le_of_ble_eq_true rfl)⟩ ?_
  refine w_aload_n rfl rfl ?_
  refine w_bipush (v := 12) rfl (by decide) ?_
  refine w_tnarr (m := 12) rfl (by decide) (by decide) ?_
  refine w_tput (k' := 0) rfl rfl (Nat.le_of_ble_eq_true rfl) rfl ?_
  refine w_aload_n rfl rfl ?_
  refine w_iconst (v := 0) rfl (by decide) ?_
  refine w_tput (k' := 0) rfl rfl (Nat.le_of_ble_eq_true rfl) rfl ?_
  refine w_aload_n rfl rfl ?_
  refine w_iconst (v := 0) rfl (by decide) ?_
  refine w_tput (k' := 0) rfl rfl (Nat.le_of_ble_eq_true rfl) rfl ?_
  exact w_return rfl rfl ⟨rfl, rfl⟩
theorem c_i1h {sc : pm_Sc} {H T : List pm_C} {kn : Nat × Nat} : pu sc 7 [.ref (H.length + T.length)] (H ++ (T ++ [.inr (1, pm_df 1)]), kn) (pz none (H ++ (T ++ [.inr (1, [.ref (H.length + T.length + 1), .int 0, .int 0]), .inl (0, (List.range 12).map fun _ => Value.int 0)]), kn.1 + 1, kn.2 + 12)) := by
  have h := c_i1 (sc := sc) (H := H ++ T) (kn := kn)
  rw [List.length_append, List.append_assoc, List.append_assoc] at h
  exact h
set_option maxRecDepth 100000 in
set_option maxHeartbeats 1000000 in
theorem c_i5 {sc : pm_Sc} {H : List pm_C} {kn : Nat × Nat} (x : Int32) : pu sc 24 [.ref H.length, .int x, .ref 1, .ref 2] (H ++ [.inr (5, pm_df 5)], kn) (pz none (H ++ [.inr (5, [.int x, .ref 1, .ref 2, .ref (H.length + 1), .ref (H.length + 3), .ref (H.length + 4), .ref (H.length + 5), .int 0, .int 0, .int 0, .int 0]), .inr (1, [.ref (H.length + 2), .int 0, .int 0]), .inl (0, (List.range 12).map fun _ => Value.int 0), .inl (0, (List.range 4).map fun _ => Value.int 0), .inl (0, (List.range 12).map fun _ => Value.int 0), .inl (3, (List.range 4).map fun _ => Value.null)], kn.1 + 5, kn.2 + 35)) := by
  refine w_aload_n rfl rfl ?_
  refine w_objinit rfl ⟨(Nat.le_of_ble_eq_true rfl), (Nat.le_of_ble_eq_true rfl)⟩ ?_
  refine w_aload_n rfl rfl ?_
  refine w_tnew rfl (Nat.le_of_ble_eq_true rfl) ?_
  refine w_dup rfl rfl ?_
  refine w_special rfl (by decide) rfl ⟨(Nat.le_of_ble_eq_true rfl), (Nat.le_of_ble_eq_true rfl), (Nat.le_of_ble_eq_true rfl)⟩ rfl (Nat.le_of_ble_eq_true rfl) (c_i1h (H := H) (T := [.inr (5, pm_df 5)])) ?_
  rintro _ _ ⟨rfl, rfl⟩
  refine ⟨_, rfl, ?_⟩
  refine w_tput (k' := 0) rfl rfl (Nat.le_of_ble_eq_true rfl) rfl ?_
  refine w_aload_n rfl rfl ?_
  refine w_iconst (v := 4) rfl (by decide) ?_
  refine w_tnarr (m := 4) rfl (by decide) (by decide) ?_
  refine w_tput (k' := 0) rfl rfl (Nat.le_of_ble_eq_true rfl) rfl ?_
  refine w_aload_n rfl rfl ?_
  refine w_bipush (v := 12) rfl (by decide) ?_
  refine w_tnarr (m := 12) rfl (by decide) (by decide) ?_
  refine w_tput (k' := 0) rfl rfl (Nat.le_of_ble_eq_true rfl) rfl ?_
  refine w_aload_n rfl rfl ?_
  refine w_iconst (v := 4) rfl (by decide) ?_
  refine w_tanarr (m := 4) rfl (by decide) (by decide) ?_
  refine w_tput (k' := 0) rfl rfl (Nat.le_of_ble_eq_true rfl) rfl ?_
  refine w_aload_n rfl rfl ?_
  refine w_iconst (v := 0) rfl (by decide) ?_
  refine w_tput (k' := 0) rfl rfl (Nat.le_of_ble_eq_true rfl) rfl ?_
  refine w_aload_n rfl rfl ?_
  refine w_iconst (v := 0) rfl (by decide) ?_
  refine w_tput (k' := 0) rfl rfl (Nat.le_of_ble_eq_true rfl) rfl ?_
  refine w_aload_n rfl rfl ?_
  refine w_iconst (v := 0) rfl (by decide) ?_
  refine w_tput (k' := 0) rfl rfl (Nat.le_of_ble_eq_true rfl) rfl ?_
  refine w_aload_n rfl rfl ?_
  refine w_iconst (v := 0) rfl (by decide) ?_
  refine w_tput (k' := 0) rfl rfl (Nat.le_of_ble_eq_true rfl) rfl ?_
  refine w_aload_n rfl rfl ?_
  refine w_iload_n rfl rfl ?_
  refine w_tput (k' := 0) rfl rfl (Nat.le_of_ble_eq_true rfl) rfl ?_
  refine w_aload_n rfl rfl ?_
  refine w_aload_n rfl rfl ?_
  refine w_tput (k' := 0) rfl rfl (Nat.le_of_ble_eq_true rfl) rfl ?_
  refine w_aload_n rfl rfl ?_
  refine w_aload_n rfl rfl ?_
  refine w_tput (k' := 0) rfl rfl (Nat.le_of_ble_eq_true rfl) rfl ?_
  exact w_return rfl rfl ⟨rfl, rfl⟩
def z0S : MS := (fun _ _ => 0, fun _ _ => 0)
def fF (f : Int32) : Int32 := if ¬ f < 0 ∧ ¬ 4 ≤ f then f else -1
def a0S (f : Int32) : MS := up z0S 1 0 (fF f)
def Y0 : PT := fun _ _ => none
def L0 (f : Int32) : List pm_C := (List.range 31).map (ccell (a0S f) Y0)
def cO : pm_C := .inr (7, pm_df 7)
def cA : pm_C := .inl (6, (List.range 12).map fun _ => Value.null)
def cP : pm_C := .inr (4, [.ref 3, .int 0])
def cM : pm_C := .inl (4, (List.range 600).map fun _ => Value.null)
def cC : pm_C := .inr (0, [.ref 1, .ref 2, .ref 5, .int 0, .int 0])
def cK : pm_C := .inl (3, (List.range 4).map fun _ => Value.null)
def cS (f : Int32) : pm_C := .inr (7, [.int (fF f), .ref 2, .ref 4, .ref 6])
def cR (k : Nat) : pm_C := .inl (5, (List.range 4).map fun j => if j < k then Value.ref (7 + 6 * j) else .null)
def six (r : Nat) : List pm_C := [.inr (5, [.int (nI r), .ref 1, .ref 2, .ref (8 + 6 * r), .ref (10 + 6 * r), .ref (11 + 6 * r), .ref (12 + 6 * r), .int 0, .int 0, .int 0, .int 0]), .inr (1, [.ref (9 + 6 * r), .int 0, .int 0]), .inl (0, (List.range 12).map fun _ => Value.int 0), .inl (0, (List.range 4).map fun _ => Value.int 0), .inl (0, (List.range 12).map fun _ => Value.int 0), .inl (3, (List.range 4).map fun _ => Value.null)]
def sixs : Nat → List pm_C
  | 0 => []
  | r + 1 => sixs r ++ six r
def stR (f : Int32) (r : Nat) : List pm_C := [cS f, cA, cP, cM, cC, cK, cR r] ++ sixs r
theorem sixs_len : ∀ r, (sixs r).length = 6 * r
  | 0 => rfl
  | r + 1 => by rw [sixs, List.length_append, sixs_len r]; show 6 * r + 6 = _; omega
theorem stR_len (f : Int32) (r : Nat) : (stR f r).length = 7 + 6 * r := by
  unfold stR
  rw [List.length_append, sixs_len]; show 7 + 6 * r = _; omega
theorem stR_step {f : Int32} {r : Nat} (hr : r < 4) : (stR f r ++ six r).set 6 (.inl (5, ((List.range 4).map fun j => if j < r then Value.ref (7 + 6 * j) else .null).set r (.ref (7 + 6 * r)))) = stR f (r + 1) := by
  have e : (((List.range 4).map fun j => if j < r then Value.ref (7 + 6 * j) else Value.null).set r (.ref (7 + 6 * r))) = (List.range 4).map fun j => if j < r + 1 then Value.ref (7 + 6 * j) else .null := by
    rcases (by omega : r = 0 ∨ r = 1 ∨ r = 2 ∨ r = 3) with rfl | rfl | rfl | rfl <;> rfl
  rw [e]
  rfl
theorem stR_4 (f : Int32) : stR f 4 = L0 f := rfl
set_option maxRecDepth 100000 in
set_option maxHeartbeats 1000000 in
theorem l_i7 {sc : pm_Sc} {f : Int32} : ∀ (d r : Nat) (kn : Nat × Nat) (lv : pm_L), r + d = 4 → pm_ld lv 0 = some (.ref 0) → pm_ld lv 2 = some (.ref 1) → pm_ld lv 3 = some (.ref 2) → pm_ld lv 4 = some (.int (nI r)) → pw sc 54 (63, lv, [], (stR f r, kn)) (pz none (L0 f, kn.1 + 6 * d, kn.2 + 46 * d)) := by
  intro d
  induction d with
  | zero =>
    intro r kn lv hr g0 g2 g3 g4
    obtain rfl : 4 = r := by omega
    refine w_iload rfl g4 ?_
    refine w_iconst (v := 4) rfl (by decide) ?_
    refine w_if_icmp_ge rfl rfl (fun c => ?_) (fun c => ?_)
    · exact w_return rfl rfl ⟨rfl, rfl⟩
    · exact absurd (by decide) c
  | succ d ih =>
    intro r kn lv hr g0 g2 g3 g4
    refine w_iload rfl g4 ?_
    refine w_iconst (v := 4) rfl (by decide) ?_
    refine w_if_icmp_ge rfl rfl (fun c => ?_) (fun c => ?_)
    · exact absurd c (nI_ge (a := r) (b := 4) (by omega) (by omega))
    · refine w_aload_n rfl g0 ?_
      refine w_getfield (p := 0) (fs := [.int (fF f), .ref 2, .ref 4, .ref 6]) rfl rfl rfl ?_
      refine w_iload rfl g4 ?_
      refine w_new rfl (Nat.le_of_ble_eq_true rfl) ?_
      refine w_dup rfl rfl ?_
      refine w_iload rfl g4 ?_
      refine w_aload_n rfl g2 ?_
      refine w_aload_n rfl g3 ?_
      refine w_special rfl (by decide) rfl ⟨(Nat.le_of_ble_eq_true rfl), (Nat.le_of_ble_eq_true rfl), (Nat.le_of_ble_eq_true rfl)⟩ rfl (Nat.le_of_ble_eq_true rfl) (c_i5 (H := stR f r) (nI r)) ?_
      rintro _ _ ⟨rfl, rfl⟩
      refine ⟨_, rfl, ?_⟩
      show pw sc 54 (86, lv, [.ref (stR f r).length, .int (nI r), .ref 6], (stR f r ++ [_, _, _, _, _, _], kn.1 + 1 + 5, kn.2 + 11 + 35)) _
      rw [stR_len]
      have hq : (stR f r ++ six r)[7 + 6 * r]? = some (.inr (5, [.int (nI r), .ref 1, .ref 2, .ref (8 + 6 * r), .ref (10 + 6 * r), .ref (11 + 6 * r), .ref (12 + 6 * r), .int 0, .int 0, .int 0, .int 0])) := by
        rw [List.getElem?_append_right (by rw [stR_len]; omega), stR_len, Nat.sub_self]; rfl
      have e1 : 7 + 6 * r + 1 = 8 + 6 * r := by omega
      have e2 : 7 + 6 * r + 2 = 9 + 6 * r := by omega
      have e3 : 7 + 6 * r + 3 = 10 + 6 * r := by omega
      have e4 : 7 + 6 * r + 4 = 11 + 6 * r := by omega
      have e5 : 7 + 6 * r + 5 = 12 + 6 * r := by omega
      rw [e1, e2, e3, e4, e5]
      show pw sc 54 (86, lv, [.ref (7 + 6 * r), .int (nI r), .ref 6], (stR f r ++ six r, kn.1 + 1 + 5, kn.2 + 11 + 35)) _
      refine w_aastore (t := 5) (vs := (List.range 4).map fun j => if j < r then Value.ref (7 + 6 * j) else .null) rfl rfl hq ⟨nI_pos (by omega), by rw [nI_clamp (by omega), List.length_map, List.length_range]; omega, by omega, by omega, rfl⟩ ?_
      rw [nI_clamp (by omega)]
      show pw sc 54 (_, lv, _, ((stR f r ++ six r).set 6 _, kn.1 + 1 + 5, kn.2 + 11 + 35)) _
      rw [stR_step (by omega)]
      refine w_iincN (j := r) rfl rfl g4 (Nat.le_of_ble_eq_true rfl) ?_
      refine w_goto rfl rfl ?_
      have z := ih (r + 1) (kn.1 + 1 + 5, kn.2 + 11 + 35) (pm_s1 lv 4 (.int (nI (r + 1)))) (by omega) (ld_s1 (by decide) g0 (fun _ => rfl)) (ld_s1 (by decide) g2 (fun _ => rfl)) (ld_s1 (by decide) g3 (fun _ => rfl)) ld_self
      rw [show kn.1 + 6 * (d + 1) = kn.1 + 1 + 5 + 6 * d by omega, show kn.2 + 46 * (d + 1) = kn.2 + 11 + 35 + 46 * d by omega]
      exact z
set_option maxRecDepth 100000 in
set_option maxHeartbeats 1000000 in
theorem c_i7 {sc : pm_Sc} {kn : Nat × Nat} (f : Int32) : pu sc 54 [.ref 0, .int f] ([cO], kn) (pz none (L0 f, kn.1 + 30, kn.2 + 811)) := by
  refine w_aload_n rfl rfl ?_
  refine w_objinit rfl ⟨(Nat.le_of_ble_eq_true rfl), (Nat.le_of_ble_eq_true rfl)⟩ ?_
  refine w_bipush (v := 12) rfl (by decide) ?_
  refine w_tanarr (H := []) (T := [cO]) (m := 12) rfl (by decide) (by decide) ?_
  refine w_astore_n rfl (Nat.le_of_ble_eq_true rfl) ?_
  refine w_tnew (H := []) (T := [cO, cA]) rfl (Nat.le_of_ble_eq_true rfl) ?_
  refine w_dup rfl rfl ?_
  refine w_special rfl (by decide) rfl ⟨(Nat.le_of_ble_eq_true rfl), (Nat.le_of_ble_eq_true rfl), (Nat.le_of_ble_eq_true rfl)⟩ rfl (Nat.le_of_ble_eq_true rfl) (c_i4 (H := [cO, cA])) ?_
  rintro _ _ ⟨rfl, rfl⟩
  refine ⟨_, rfl, ?_⟩
  refine w_astore_n rfl (Nat.le_of_ble_eq_true rfl) ?_
  refine w_aload_n rfl rfl ?_
  refine w_iload_n rfl rfl ?_
  refine w_static rfl (by decide) rfl ⟨(Nat.le_of_ble_eq_true rfl), (Nat.le_of_ble_eq_true rfl), (Nat.le_of_ble_eq_true rfl)⟩ rfl (Nat.le_of_ble_eq_true rfl) (c_isRep f) ?_
  rintro _ _ ⟨rfl, rfl⟩
  refine ⟨_, rfl, ?_⟩
  have key : pw sc 54 (31, pm_s1 (pm_s1 (lv_args 0 [.ref 0, .int f]) 2 (.ref 1)) 3 (.ref 2), [.int (fF f), .ref 0], ([cO, cA, cP, cM], kn.1 + 3, kn.2 + 614)) (pz none (L0 f, kn.1 + 30, kn.2 + 811)) := by
    refine w_tput (H := []) (T := [cO, cA, cP, cM]) (k' := 0) (fs := pm_df 7) rfl rfl (Nat.le_of_ble_eq_true rfl) rfl ?_
    refine w_aload_n rfl rfl ?_
    refine w_aload_n rfl rfl ?_
    refine w_tput (H := []) (k' := 0) (fs := [.int (fF f), .null, .null, .null]) rfl rfl (Nat.le_of_ble_eq_true rfl) rfl ?_
    refine w_aload_n rfl rfl ?_
    refine w_tnew (H := []) (T := [.inr (7, [.int (fF f), .ref 2, .null, .null]), cA, cP, cM]) rfl (Nat.le_of_ble_eq_true rfl) ?_
    refine w_dup rfl rfl ?_
    refine w_aload_n rfl rfl ?_
    refine w_aload_n rfl rfl ?_
    refine w_special rfl (by decide) rfl ⟨(Nat.le_of_ble_eq_true rfl), (Nat.le_of_ble_eq_true rfl), (Nat.le_of_ble_eq_true rfl)⟩ rfl (Nat.le_of_ble_eq_true rfl) (c_i0 (H := [.inr (7, [.int (fF f), .ref 2, .null, .null]), cA, cP, cM])) ?_
    rintro _ _ ⟨rfl, rfl⟩
    refine ⟨_, rfl, ?_⟩
    refine w_tput (H := []) (T := [.inr (7, [.int (fF f), .ref 2, .null, .null]), cA, cP, cM, cC, cK]) (k' := 0) (fs := [.int (fF f), .ref 2, .null, .null]) rfl rfl (Nat.le_of_ble_eq_true rfl) rfl ?_
    refine w_aload_n rfl rfl ?_
    refine w_iconst (v := 4) rfl (by decide) ?_
    refine w_tanarr (H := []) (T := [.inr (7, [.int (fF f), .ref 2, .ref 4, .null]), cA, cP, cM, cC, cK]) (m := 4) rfl (by decide) (by decide) ?_
    refine w_tput (H := []) (T := [.inr (7, [.int (fF f), .ref 2, .ref 4, .null]), cA, cP, cM, cC, cK, cR 0]) (k' := 0) (fs := [.int (fF f), .ref 2, .ref 4, .null]) rfl rfl (Nat.le_of_ble_eq_true rfl) rfl ?_
    refine w_iconst (v := 0) rfl (by decide) ?_
    refine w_istore rfl (Nat.le_of_ble_eq_true rfl) ?_
    have z := l_i7 (sc := sc) (f := f) 4 0 (kn.1 + 6, kn.2 + 627) (pm_s1 (pm_s1 (pm_s1 (lv_args 0 [.ref 0, .int f]) 2 (.ref 1)) 3 (.ref 2)) 4 (.int (nI 0))) (by omega) rfl rfl rfl rfl
    exact z
  refine w_ifCond_eq rfl rfl (fun c => ?_) (fun c => ?_)
  · replace c := b01_f c
    refine w_iconst (v := -1) rfl (by decide) ?_
    have e : fF f = -1 := if_neg c
    rw [e] at key
    exact key
  · replace c := b01_t c
    refine w_iload_n rfl rfl ?_
    refine w_goto rfl rfl ?_
    have e : fF f = f := if_pos c
    rw [e] at key
    exact key
