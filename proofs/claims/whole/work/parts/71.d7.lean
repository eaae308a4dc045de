-- deps: 70.d6
/-! the start -/
theorem s0_z {f : Int32} {a j : Nat} (h : ¬ (a = 1 ∧ j = 0) ∧ ¬ (a = 13 ∧ j < 16) ∧ ¬ (a = 30 ∧ j < 48) ∧ ¬ (a = 34 ∧ j < 4)) : (s0S f).1 a j = 0 := by
  show (if a = 34 ∧ j < 4 then (-1 : Int32) else if a = 30 ∧ j < 48 then -1 else if a = 13 ∧ j < 16 then -1 else if a = 1 ∧ j = 0 then fF f else 0) = 0
  rw [if_neg h.2.2.2, if_neg h.2.2.1, if_neg h.2.1, if_neg h.1]
theorem s0_1 {f : Int32} : (s0S f).1 1 0 = fF f := rfl
theorem s0_13 {f : Int32} {j : Nat} (h : j < 16) : (s0S f).1 13 j = -1 := by
  show (if 13 = 34 ∧ j < 4 then (-1 : Int32) else if 13 = 30 ∧ j < 48 then -1 else if 13 = 13 ∧ j < 16 then -1 else if 13 = 1 ∧ j = 0 then fF f else 0) = -1
  rw [if_neg (by omega), if_neg (by omega), if_pos ⟨rfl, h⟩]
theorem s0_30 {f : Int32} {j : Nat} (h : j < 48) : (s0S f).1 30 j = -1 := by
  show (if 30 = 34 ∧ j < 4 then (-1 : Int32) else if 30 = 30 ∧ j < 48 then -1 else if 30 = 13 ∧ j < 16 then -1 else if 30 = 1 ∧ j = 0 then fF f else 0) = -1
  rw [if_neg (by omega), if_pos ⟨rfl, h⟩]
theorem s0_34 {f : Int32} {j : Nat} (h : j < 4) : (s0S f).1 34 j = -1 := by
  show (if 34 = 34 ∧ j < 4 then (-1 : Int32) else if 34 = 30 ∧ j < 48 then -1 else if 34 = 13 ∧ j < 16 then -1 else if 34 = 1 ∧ j = 0 then fF f else 0) = -1
  rw [if_pos ⟨rfl, h⟩]
theorem s0_l {f : Int32} {a j : Nat} : (s0S f).2 a j = 0 := rfl
theorem s0_m (f : Int32) : mN (s0S f) = 0 := by
  have e : mN (s0S f) = ((s0S f).1 17 0).toNatClampNeg := rfl
  rw [e, s0_z (by omega)]; rfl
theorem s0_q (f : Int32) : nqN (s0S f) = 0 := by
  have e : nqN (s0S f) = ((s0S f).1 2 0).toNatClampNeg := rfl
  rw [e, s0_z (by omega)]; rfl
theorem s0_n (f : Int32) (r : Nat) : lnN (s0S f) r = 0 := by
  have e : lnN (s0S f) r = ((s0S f).1 7 r).toNatClampNeg := rfl
  rw [e, s0_z (by omega)]; rfl
theorem fF_ok (f : Int32) : fF f = -1 ∨ ∃ r, r < 4 ∧ fF f = nI r := by
  unfold fF
  by_cases h : ¬ f < 0 ∧ ¬ 4 ≤ f
  · rw [if_pos h]; exact Or.inr (isRep_of h.1 (b3.mp h.2))
  · rw [if_neg h]; exact Or.inl rfl
theorem s0_inv (f : Int32) : All (s0S f) 0 := by
  refine ⟨⟨⟨⟨0, by omega, s0_z (by omega)⟩, ⟨0, by omega, s0_z (by omega)⟩, fun q hq => ⟨0, by omega, s0_z (by omega)⟩, fF_ok f⟩, fun r hr => ⟨⟨0, by omega, s0_z (by omega)⟩, ⟨0, 0, s0_z (by omega), s0_z (by omega), by omega, Row.zero _⟩, Or.inl (s0_z (by omega)), 0, by omega, s0_z (by omega)⟩, fun k hk => Or.inl (s0_13 hk), fun j hj => ?_, ⟨⟨0, by omega, s0_z (by omega)⟩, fun k hk => Or.inl (s0_30 hk), fun u hu => Or.inl (s0_34 hu), fun q hq => ⟨Or.inl (s0_z (by omega)), Or.inl (s0_z (by omega))⟩⟩, fun j hj => s0_z (by omega), fun q _ hq => ⟨s0_z (by omega), s0_z (by omega), s0_z (by omega), s0_z (by omega), fun u hu => s0_30 (by omega)⟩⟩, fun y hy => NP.not (s0_z (by omega))⟩
  rw [s0_m] at hj; omega
theorem s0_dl (f : Int32) : ∀ n, dlN (s0S f) n = 0
  | 0 => rfl
  | n + 1 => by rw [dlN, s0_dl f n, if_pos (s0_z (by omega))]
theorem s0_R (f : Int32) (cs : List pm_C) (kn : Nat × Nat) (hc : 73 < cs.length) : R (s0S f) (cs, a0S f, Y0, kn) := by
  refine ⟨hc, fun k j hk => ?_, fun r hr => ?_, fun i hi => Or.inl ⟨rfl, s0_13 hi⟩, fun j hj => ?_, fun i j hi => ?_, fun q hq => ?_, fun i j hi => ?_, fun q _ _ => rfl, fun u hu => Or.inl ⟨rfl, s0_34 hu⟩⟩
  · show (up z0S 1 0 (fF f)).1 k j = _
    by_cases e : k = 1 ∧ j = 0
    · rw [e.1, e.2, up_i]; rfl
    · rw [up_n e, s0_z (by omega)]; rfl
  · rw [s0_n]
    exact ⟨fun k hk => by omega, fun k hk => rfl, fun k hk => by omega⟩
  · rw [s0_m] at hj; omega
  · rw [s0_m] at hi; omega
  · rw [s0_q] at hq; omega
  · rw [s0_q] at hi; omega
theorem L0_len (f : Int32) : (L0 f).length = 31 := by unfold L0; rw [List.length_map, List.length_range]
def H0 (f : Int32) : List pm_C := mset (mI (L0 f) 41) (s0S f) ++ [outC 0]
theorem H0_len (f : Int32) : (H0 f).length = 74 := by unfold H0; rw [List.length_append, mset_length, mI_len]; rfl
theorem H0_c (f : Int32) : H0 f = cset (H0 f) (a0S f) Y0 := by
  refine cset_ext (by rw [H0_len]; omega) rfl (fun p h => ?_) (fun p h => rfl)
  unfold H0
  rw [List.getElem?_append_left (by rw [mset_length, mI_len]; omega), mset_out (by omega), mI_get (by omega), if_pos (by omega)]
  unfold L0
  rw [List.getD_eq_getElem?_getD, List.getElem?_map, List.getElem?_range (by omega)]; rfl
theorem H0_st (f : Int32) (k n : Nat) (hk : k ≤ 200) (hn : n ≤ 30000) : LSt (s0S f) (H0 f, a0S f, Y0, k, n) 0 0 := by
  refine ⟨s0_inv f, by omega, s0_R f _ _ (by rw [H0_len]; omega), fun a h1 h2 => ?_, ⟨0, ?_⟩, ?_, ?_⟩
  · show (H0 f)[a]? = _
    unfold H0
    rw [List.getElem?_append_left (by rw [mset_length, mI_len]; omega), mset_in (by rw [mI_len]; omega) h1 h2]
  · show (H0 f)[73]? = _
    unfold H0
    rw [List.getElem?_append_right (by rw [mset_length, mI_len]; omega), mset_length, mI_len]; rfl
  · rw [s0_dl]; show k ≤ _; omega
  · rw [s0_dl]; show n ≤ _; omega
/-! the law's run -/
set_option maxRecDepth 100000 in
theorem c_cell {sc : pm_Sc} {h : pm_H} (hs : sc.1 ≤ 2049) : pu sc 126 [.retAddr 0, .int 0] h (pz (some (.int (if 0 < sc.1 then sc.2 0 else 0))) h) := by
  refine w_iload_n rfl rfl ?_
  refine w_aload_nS rfl rfl ?_
  refine w_slen rfl ?_
  refine w_if_icmp_ge rfl rfl (fun c => ?_) (fun c => ?_)
  · have e : ¬ 0 < sc.1 := fun z => absurd c (nI_ge (a := 0) (b := sc.1) z (by omega))
    rw [if_neg e]
    refine w_iconst (v := 0) rfl (by decide) ?_
    exact w_ireturn rfl (Or.inl rfl) ⟨rfl, rfl⟩
  · have e : 0 < sc.1 := by
      rcases Nat.eq_zero_or_pos sc.1 with z | z
      · exact absurd (by rw [z]; decide) c
      · exact z
    rw [if_pos e]
    refine w_aload_nS rfl rfl ?_
    refine w_iload_n rfl rfl ?_
    refine w_sldN (j := 0) rfl rfl ⟨e, by omega⟩ ?_
    refine w_goto rfl rfl ?_
    exact w_ireturn rfl (Or.inl rfl) ⟨rfl, rfl⟩
theorem kI_41 : kI (32, 861) 41 = (73, 7893) := by decide
set_option maxRecDepth 100000 in
theorem pw_law (sc : pm_Sc) (hs : sc.1 ≤ 2049) : pw sc 136 (0, [(0, .retAddr 0)], [], ([], 0, 0)) QL := by
  generalize hf : (if 0 < sc.1 then sc.2 0 else 0) = f
  refine w_new rfl (Nat.le_of_ble_eq_true rfl) ?_
  refine w_dup rfl rfl ?_
  refine w_aload_nS rfl rfl ?_
  refine w_iconst (v := 0) rfl (by decide) ?_
  refine w_static rfl (by decide) rfl ⟨(Nat.le_of_ble_eq_true rfl), (Nat.le_of_ble_eq_true rfl), (Nat.le_of_ble_eq_true rfl)⟩ rfl (Nat.le_of_ble_eq_true rfl) (c_cell hs) ?_
  rintro _ _ ⟨rfl, rfl⟩
  refine ⟨_, rfl, ?_⟩
  rw [hf]
  refine w_special rfl (by decide) rfl ⟨(Nat.le_of_ble_eq_true rfl), (Nat.le_of_ble_eq_true rfl), (Nat.le_of_ble_eq_true rfl)⟩ rfl (Nat.le_of_ble_eq_true rfl) (c_i7 (kn := (1, 4)) f) ?_
  rintro _ _ ⟨rfl, rfl⟩
  refine ⟨_, rfl, ?_⟩
  refine w_astore_n rfl (Nat.le_of_ble_eq_true rfl) ?_
  refine w_new rfl (Nat.le_of_ble_eq_true rfl) ?_
  rw [L0_len]
  refine w_dup rfl rfl ?_
  refine w_aload_nS rfl rfl ?_
  refine w_iconst (v := 0) rfl (by decide) ?_
  refine w_static rfl (by decide) rfl ⟨(Nat.le_of_ble_eq_true rfl), (Nat.le_of_ble_eq_true rfl), (Nat.le_of_ble_eq_true rfl)⟩ rfl (Nat.le_of_ble_eq_true rfl) (c_cell hs) ?_
  rintro _ _ ⟨rfl, rfl⟩
  refine ⟨_, rfl, ?_⟩
  rw [hf]
  refine w_special rfl (by decide) rfl ⟨(Nat.le_of_ble_eq_true rfl), (Nat.le_of_ble_eq_true rfl), (Nat.le_of_ble_eq_true rfl)⟩ rfl (Nat.le_of_ble_eq_true rfl) (c_i8 (cs0 := L0 f) (kn := (32, 861)) (L0_len f) f) ?_
  rintro _ _ ⟨rfl, rfl⟩
  refine ⟨_, rfl, ?_⟩
  refine w_astore_n rfl (Nat.le_of_ble_eq_true rfl) ?_
  refine w_iconst (v := 1) rfl (by decide) ?_
  refine w_newarray rfl (by decide) ?_
  show pw sc 136 (29, _, [.ref (mset (mI (L0 f) 41) (s0S f)).length], (mset (mI (L0 f) 41) (s0S f) ++ [outC 0], (kI (32, 861) 41).1 + 1, (kI (32, 861) 41).2 + 1)) _
  rw [mset_length, mI_len, kI_41]
  refine w_astore_n rfl (Nat.le_of_ble_eq_true rfl) ?_
  refine w_iconst (v := 1) rfl (by decide) ?_
  refine w_istore rfl (Nat.le_of_ble_eq_true rfl) ?_
  have z := l_law (sc := sc) hs 513 0 (s0S f) (H0 f, a0S f, Y0, 74, 7894) 0 (by omega) (by omega) (H0_st f 74 7894 (by omega) (by omega))
  have e : hx (H0 f, a0S f, Y0, 74, 7894) = (H0 f, 74, 7894) := by
    show (cset (H0 f) (a0S f) Y0, 74, 7894) = _
    rw [← H0_c]
  rw [e] at z
  exact z _ rfl rfl rfl rfl rfl
theorem pm_ret1 {o : pm_S} (h : pm_ret 136 o = some (.inl (some (.int 1)))) : o.2.2.1 = [.int 1] ∧ ∃ len res, pm_at 136 o.1 = some (.ireturn, len, res) := by
  unfold pm_ret at h
  split at h
  · next r hr =>
    obtain ⟨ins, len, res⟩ := r
    rw [hr]
    generalize o.2.2.1 = st at h ⊢
    unfold pm_out at h
    split at h
    · rename_i v e3
      have e4 : ins = .ireturn := e3
      subst e4
      split at h
      · injection h with h1
        injection h1 with h2
        injection h2 with h3
        injection h3 with h4
        subst h4
        exact ⟨rfl, len, res, rfl⟩
      · cases h
    all_goals (first | (split at h <;> (first | (injection h with h1; injection h1 with h2; injection h2 with h3; cases h3) | (injection h with h1; cases h1) | cases h)) | cases h)
  · cases h
