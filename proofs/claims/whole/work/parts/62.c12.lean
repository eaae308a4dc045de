-- deps: 61.c11
/-! the program's calls -/
def px (x : Nat) (h1 : pm_H) : (Option Value ⊕ Nat) → pm_H → Prop := fun y h2 => y = .inr x ∧ h2 = h1
theorem y_send {s : MS} {k fr to v q p d : Int32} {j : Nat} : (f_send s k fr to v q p d).1 0 j = s.1 0 j := by unfold f_send; split <;> rfl
theorem y_row {s : MS} {k fr to v n f : Int32} {x : Int64} {j : Nat} : (f_row s k fr to v x n f).1 0 j = s.1 0 j := by unfold f_row; split <;> rfl
theorem y_reply {s : MS} {r p j : Nat} : (f_reply s r p).1 0 j = s.1 0 j := by unfold f_reply; split <;> rfl
theorem y_all {s : MS} {k fr v q p d : Int32} {j : Nat} : ∀ n, (f_all s k fr v q p d n).1 0 j = s.1 0 j
  | 0 => rfl
  | n + 1 => by
    rw [f_all]; split
    · exact y_all n
    · rw [y_send]; exact y_all n
theorem y_rep {s : MS} {r j : Nat} : ∀ k, (repN s r k).1 0 j = s.1 0 j
  | 0 => rfl
  | k + 1 => by rw [repN, y_reply]; exact y_rep k
theorem y_turn {s : MS} {r n j : Nat} {v f : Int32} {x : Int64} : (f_turn s r v x n f).1 0 j = s.1 0 j := by unfold f_turn; rw [y_rep, wanN_k (by omega)]; rfl
theorem y_rw {s : MS} {r j : Nat} {x : Int64} {n f : Int32} : ∀ u, (rwN s r x n f u).1 0 j = s.1 0 j
  | 0 => rfl
  | u + 1 => by
    rw [rwN]; split
    · exact y_rw u
    · rw [y_row]; exact y_rw u
theorem y_new {s : MS} {r j : Nat} : (f_new s r).1 0 j = s.1 0 j := by unfold f_new nwR; rw [y_turn, y_rw]
theorem y_change {s : MS} {r u j : Nat} {v n f : Int32} {x : Int64} : (f_change s r u v x n f).1 0 j = s.1 0 j := by
  unfold f_change
  split
  · split
    · rw [y_new]; rfl
    · rfl
  · rfl
theorem y_hate {s : MS} {r j : Nat} {fr : Int32} : (f_hate s r fr).1 0 j = s.1 0 j := by
  unfold f_hate
  split
  · split
    · rw [y_change]; rfl
    · rw [y_row]; rfl
  · rfl
theorem y_ask {s : MS} {r j : Nat} {q fr : Int32} : (f_ask s r q fr).1 0 j = s.1 0 j := by
  unfold f_ask
  split
  · split
    · rw [y_reply]; unfold f_order; rw [y_all]; rfl
    · split
      · rfl
      · rw [y_send]; rfl
  · split
    · unfold f_order; rw [y_all, y_reply]
    · rw [y_reply]
theorem y_ord {s : MS} {r j : Nat} {fr v p q d : Int32} : (f_ord s r fr v p q d).1 0 j = s.1 0 j := by
  unfold f_ord
  split
  · rw [y_reply]; rfl
  · rfl
theorem y_take {s : MS} {r m j : Nat} : (f_take s r m).1 0 j = s.1 0 j := by
  unfold f_take
  split
  · split
    · exact y_ask
    · rfl
  · split
    · exact y_ord
    · split
      · split
        · unfold f_proof; split
          · rw [y_send]; rfl
          · rfl
        · rfl
      · split
        · split
          · exact y_hate
          · rfl
        · split
          · exact y_change
          · unfold f_tnew; split
            · exact y_turn
            · rfl
theorem y_del {s : MS} {i j : Nat} : (f_del s i).1 0 j = s.1 0 j := by
  unfold f_del
  split
  · split
    · split
      · rw [trep_lt (by omega)]; rfl
      · rw [tack_lt (by omega)]; rfl
    · split
      · rfl
      · rw [y_take]; rfl
  · rfl
theorem y_fl : ∀ (d : Nat) (s : MS) (j : Nat) (c : Int32), s.1 0 0 = 0 → (flN d s j c).1.1 0 0 = 0
  | 0, s, j, c, h => h
  | d + 1, s, j, c, h => by
    rw [flN]; split
    · exact h
    · exact y_fl d _ _ _ (by rw [y_del]; exact up_i)
set_option maxRecDepth 100000 in
set_option maxHeartbeats 1000000 in
theorem c_ho0 {sc : pm_Sc} {cs : List pm_C} {a : MS} {Y : PT} {kn : Nat × Nat} (hc : 73 < cs.length) (x : Int32) (h : x < 0 ∨ a.1 17 0 ≤ x) : pu sc 68 [.ref 0, .int x] (cset cs a Y, kn) (pz (some (.int 0)) (cset cs a Y, kn)) := by
  refine w_aload_n rfl rfl ?_
  refine w_getfield rfl (cs0 hc) rfl ?_
  refine w_iload_n rfl rfl ?_
  refine w_virtual rfl rfl (cs2 hc) ⟨(Nat.le_of_ble_eq_true rfl), rfl, (Nat.le_of_ble_eq_true rfl), (Nat.le_of_ble_eq_true rfl)⟩ rfl (Nat.le_of_ble_eq_true rfl) (c_pfind0 hc x h) ?_
  rintro _ _ ⟨rfl, rfl⟩
  refine ⟨_, rfl, ?_⟩
  refine w_astore_nN rfl (Nat.le_of_ble_eq_true rfl) ?_
  refine w_aload_nN rfl rfl ?_
  refine w_ifnullN rfl rfl ?_
  refine w_iconst (v := 0) rfl (by decide) ?_
  exact w_ireturn rfl (Or.inr ⟨rfl, Or.inl rfl⟩) ⟨rfl, rfl⟩
set_option maxRecDepth 100000 in
set_option maxHeartbeats 1000000 in
theorem c_ho1 {sc : pm_Sc} {s : MS} {c : CX} {t j : Nat} (h : R s c) (hi : Inv s t) (ht : t + 1 < 2 ^ 31) (hj : j < mN s) (hp : ∀ y, y < 4 → NP s y) : ∃ c', pu sc 68 [.ref 0, .int (nI j)] (hx c) (pz (some (.int (b01 (s.1 28 j = 0)))) (hx c')) ∧ R (f_del s j) c' ∧ Ext c c' (if s.1 28 j = 0 then 55 else 0) := by
  obtain ⟨cs, a, Y, kn⟩ := c
  have hc : 73 < cs.length := h.1
  have hm : a.1 17 0 = nI (mN s) := (h.am hi).1
  have h6 : mN s ≤ 600 := hi.m.2
  have e1f : a.1 1 0 = s.1 1 0 := h.a 1 0 (by omega)
  obtain ⟨p, l, e, y, b1, b2, b3, b4, b5, b6, b7⟩ := h.2.2.2.2.1 j hj
  have b1 : Y 3 j = some p := b1
  have b3 : cs[p]? = some (.inr (3, [.int (s.1 19 j), .int (s.1 20 j), .ref l, .int (s.1 28 j)])) := b3
  unfold f_del
  by_cases D : s.1 28 j = 0
  · rw [if_pos D, if_pos D]
    have eb : b01 (s.1 28 j = 0) = 1 := if_pos D
    rw [eb]
    have r1 := h.st (kn' := kn) 1 hj b1 b3
    have x1 : Ext (cs, a, Y, kn) (cs.set p (.inr (3, [.int (s.1 19 j), .int (s.1 20 j), .ref l, .int 1])), a, Y, kn) 0 := ext_set b2 b3 nlk3
    have i1 := inv_st hi hj 1
    have hj1 : j < mN (up s 28 j 1) := by rw [m_cong (up_n (by omega))]; exact hj
    have q1 : nqN (up s 28 j 1) = nqN s := nq_cong (up_n (by omega))
    have hL1 : (cs.set p (.inr (3, [.int (s.1 19 j), .int (s.1 20 j), .ref l, .int 1])))[l]? = some (letC (s.1 18 j) (s.1 21 j) (s.1 23 j) (s.1 22 j) (s.1 24 j) e y) := (KC.set b3 nlk3) _ _ b4 lkL b5
    obtain ⟨hv, hk1, hk2⟩ := hi.2.2.2.1 j hj
    by_cases C4 : s.1 20 j = 4
    · rw [if_pos C4]
      obtain ⟨⟨u, hu, eu⟩, hk3⟩ := hk1 C4
      by_cases K2 : s.1 18 j = 2
      · rw [if_pos K2]
        rcases hk3 with ⟨-, ⟨q, hq, eq'⟩, pl, hpl, epl⟩ | z
        · rw [K2, eq', epl] at hL1
          rw [b6 K2] at hL1
          obtain ⟨c', k1, k2, k3⟩ := c_ctake2 (sc := sc) r1 i1 (by rw [q1]; exact hq) hu b4 hL1 (by obtain ⟨v, v1, v2⟩ := hv; rw [v2]; exact nI_pos (by omega))
          rw [← eu] at k1
          rw [eu, eq', epl, nI_clamp (by omega), nI_clamp (by have := hi.q.2; omega)]
          refine ⟨c', ?_, k2, (x1.tr k3).mono (by omega)⟩
          show pu sc 68 [.ref 0, .int (nI j)] (cset cs a Y, kn) _
          refine w_aload_n rfl rfl ?_
          refine w_getfield rfl (cs0 hc) rfl ?_
          refine w_iload_n rfl rfl ?_
          refine w_virtual rfl rfl (cs2 hc) ⟨(Nat.le_of_ble_eq_true rfl), rfl, (Nat.le_of_ble_eq_true rfl), (Nat.le_of_ble_eq_true rfl)⟩ rfl (Nat.le_of_ble_eq_true rfl) (c_pfind1 hc j hm h6 hj b1) ?_
          rintro _ _ ⟨rfl, rfl⟩
          refine ⟨_, rfl, ?_⟩
          refine w_astore_n rfl (Nat.le_of_ble_eq_true rfl) ?_
          refine w_aload_n rfl rfl ?_
          refine w_ifnull rfl rfl ?_
          refine w_aload_n rfl rfl ?_
          refine w_getfield rfl ((cset_out (Nat.not_le_of_gt (Nat.lt_of_lt_of_le (by decide) b2))).trans b3) rfl ?_
          refine w_ifCond_eq rfl rfl (fun c17 => ?_) (fun c17 => ?_)
          · refine w_aload_n rfl rfl ?_
            refine w_iconst (v := 1) rfl (by decide) ?_
            refine w_dp rfl hc ⟨(Nat.lt_of_lt_of_le (by decide) b2), b3⟩ (Nat.le_of_ble_eq_true rfl) rfl ?_
            refine w_aload_n rfl rfl ?_
            refine w_getfield rfl ((cset_out (Nat.not_le_of_gt (Nat.lt_of_lt_of_le (by decide) b2))).trans (gs_self b3)) rfl ?_
            refine w_iconst (v := 4) rfl (by decide) ?_
            refine w_if_icmp_ne rfl rfl (fun c32 => ?_) (fun c32 => ?_)
            · exact absurd C4 c32
            · refine w_aload_n rfl rfl ?_
              refine w_getfield rfl (cs0 (hcS hc)) rfl ?_
              refine w_aload_n rfl rfl ?_
              refine w_getfield rfl ((cset_out (Nat.not_le_of_gt (Nat.lt_of_lt_of_le (by decide) b2))).trans (gs_self b3)) rfl ?_
              refine w_aload_n rfl rfl ?_
              refine w_getfield rfl ((cset_out (Nat.not_le_of_gt (Nat.lt_of_lt_of_le (by decide) b2))).trans (gs_self b3)) rfl ?_
              refine w_virtual rfl rfl (cs4 (hcS hc)) ⟨(Nat.le_of_ble_eq_true rfl), rfl, (Nat.le_of_ble_eq_true rfl), (Nat.le_of_ble_eq_true rfl)⟩ rfl (Nat.le_of_ble_eq_true rfl) (k1) ?_
              rintro _ _ ⟨rfl, rfl⟩
              refine ⟨_, rfl, ?_⟩
              refine w_goto rfl rfl ?_
              refine w_iconst (v := 1) rfl (by decide) ?_
              exact w_ireturn rfl (Or.inr ⟨rfl, Or.inr rfl⟩) ⟨rfl, rfl⟩
          · exact absurd D c17
        · rw [K2] at z; exact absurd z (by decide)
      · rw [if_neg K2]
        have K4 : s.1 18 j = 4 := by
          rcases hk3 with z | z
          · exact absurd z.1 K2
          · exact z
        rw [K4] at hL1
        obtain ⟨c', k1, k2, k3⟩ := c_ctake4 (sc := sc) (j := j) (u := u) r1 i1 hu b4 hL1
        rw [← eu] at k1
        rw [eu, nI_clamp (by omega)]
        refine ⟨c', ?_, k2, (x1.tr k3).mono (by omega)⟩
        show pu sc 68 [.ref 0, .int (nI j)] (cset cs a Y, kn) _
        refine w_aload_n rfl rfl ?_
        refine w_getfield rfl (cs0 hc) rfl ?_
        refine w_iload_n rfl rfl ?_
        refine w_virtual rfl rfl (cs2 hc) ⟨(Nat.le_of_ble_eq_true rfl), rfl, (Nat.le_of_ble_eq_true rfl), (Nat.le_of_ble_eq_true rfl)⟩ rfl (Nat.le_of_ble_eq_true rfl) (c_pfind1 hc j hm h6 hj b1) ?_
        rintro _ _ ⟨rfl, rfl⟩
        refine ⟨_, rfl, ?_⟩
        refine w_astore_n rfl (Nat.le_of_ble_eq_true rfl) ?_
        refine w_aload_n rfl rfl ?_
        refine w_ifnull rfl rfl ?_
        refine w_aload_n rfl rfl ?_
        refine w_getfield rfl ((cset_out (Nat.not_le_of_gt (Nat.lt_of_lt_of_le (by decide) b2))).trans b3) rfl ?_
        refine w_ifCond_eq rfl rfl (fun c17 => ?_) (fun c17 => ?_)
        · refine w_aload_n rfl rfl ?_
          refine w_iconst (v := 1) rfl (by decide) ?_
          refine w_dp rfl hc ⟨(Nat.lt_of_lt_of_le (by decide) b2), b3⟩ (Nat.le_of_ble_eq_true rfl) rfl ?_
          refine w_aload_n rfl rfl ?_
          refine w_getfield rfl ((cset_out (Nat.not_le_of_gt (Nat.lt_of_lt_of_le (by decide) b2))).trans (gs_self b3)) rfl ?_
          refine w_iconst (v := 4) rfl (by decide) ?_
          refine w_if_icmp_ne rfl rfl (fun c32 => ?_) (fun c32 => ?_)
          · exact absurd C4 c32
          · refine w_aload_n rfl rfl ?_
            refine w_getfield rfl (cs0 (hcS hc)) rfl ?_
            refine w_aload_n rfl rfl ?_
            refine w_getfield rfl ((cset_out (Nat.not_le_of_gt (Nat.lt_of_lt_of_le (by decide) b2))).trans (gs_self b3)) rfl ?_
            refine w_aload_n rfl rfl ?_
            refine w_getfield rfl ((cset_out (Nat.not_le_of_gt (Nat.lt_of_lt_of_le (by decide) b2))).trans (gs_self b3)) rfl ?_
            refine w_virtual rfl rfl (cs4 (hcS hc)) ⟨(Nat.le_of_ble_eq_true rfl), rfl, (Nat.le_of_ble_eq_true rfl), (Nat.le_of_ble_eq_true rfl)⟩ rfl (Nat.le_of_ble_eq_true rfl) (k1) ?_
            rintro _ _ ⟨rfl, rfl⟩
            refine ⟨_, rfl, ?_⟩
            refine w_goto rfl rfl ?_
            refine w_iconst (v := 1) rfl (by decide) ?_
            exact w_ireturn rfl (Or.inr ⟨rfl, Or.inr rfl⟩) ⟨rfl, rfl⟩
        · exact absurd D c17
    · rw [if_neg C4]
      obtain ⟨r, hr, er, -⟩ := hk2 C4
      by_cases F : s.1 20 j = s.1 1 0
      · rw [if_pos F]
        refine ⟨_, ?_, r1, x1.mono (by omega)⟩
        show pu sc 68 [.ref 0, .int (nI j)] (cset cs a Y, kn) _
        refine w_aload_n rfl rfl ?_
        refine w_getfield rfl (cs0 hc) rfl ?_
        refine w_iload_n rfl rfl ?_
        refine w_virtual rfl rfl (cs2 hc) ⟨(Nat.le_of_ble_eq_true rfl), rfl, (Nat.le_of_ble_eq_true rfl), (Nat.le_of_ble_eq_true rfl)⟩ rfl (Nat.le_of_ble_eq_true rfl) (c_pfind1 hc j hm h6 hj b1) ?_
        rintro _ _ ⟨rfl, rfl⟩
        refine ⟨_, rfl, ?_⟩
        refine w_astore_n rfl (Nat.le_of_ble_eq_true rfl) ?_
        refine w_aload_n rfl rfl ?_
        refine w_ifnull rfl rfl ?_
        refine w_aload_n rfl rfl ?_
        refine w_getfield rfl ((cset_out (Nat.not_le_of_gt (Nat.lt_of_lt_of_le (by decide) b2))).trans b3) rfl ?_
        refine w_ifCond_eq rfl rfl (fun c17 => ?_) (fun c17 => ?_)
        · refine w_aload_n rfl rfl ?_
          refine w_iconst (v := 1) rfl (by decide) ?_
          refine w_dp rfl hc ⟨(Nat.lt_of_lt_of_le (by decide) b2), b3⟩ (Nat.le_of_ble_eq_true rfl) rfl ?_
          refine w_aload_n rfl rfl ?_
          refine w_getfield rfl ((cset_out (Nat.not_le_of_gt (Nat.lt_of_lt_of_le (by decide) b2))).trans (gs_self b3)) rfl ?_
          refine w_iconst (v := 4) rfl (by decide) ?_
          refine w_if_icmp_ne rfl rfl (fun c32 => ?_) (fun c32 => ?_)
          · refine w_aload_n rfl rfl ?_
            refine w_getfield rfl ((cset_out (Nat.not_le_of_gt (Nat.lt_of_lt_of_le (by decide) b2))).trans (gs_self b3)) rfl ?_
            rw [er]
            refine w_static rfl (by decide) rfl ⟨(Nat.le_of_ble_eq_true rfl), (Nat.le_of_ble_eq_true rfl), (Nat.le_of_ble_eq_true rfl)⟩ rfl (Nat.le_of_ble_eq_true rfl) (c_isRep (nI r)) ?_
            rintro _ _ ⟨rfl, rfl⟩
            refine ⟨_, rfl, ?_⟩
            rw [isR4 hr]
            rw [← er]
            refine w_ifCond_eq rfl rfl (fun c60 => ?_) (fun c60 => ?_)
            · exact absurd c60 (by decide)
            · refine w_aload_n rfl rfl ?_
              refine w_getfield rfl ((cset_out (Nat.not_le_of_gt (Nat.lt_of_lt_of_le (by decide) b2))).trans (gs_self b3)) rfl ?_
              refine w_aload_n rfl rfl ?_
              refine w_getfield rfl (cs0 (hcS hc)) rfl ?_
              refine w_if_icmp_eq rfl rfl (fun c71 => ?_) (fun c71 => ?_)
              · refine w_iconst (v := 1) rfl (by decide) ?_
                exact w_ireturn rfl (Or.inr ⟨rfl, Or.inr rfl⟩) ⟨rfl, rfl⟩
              · exact absurd (by rw [e1f]; exact F) c71
          · exact absurd c32 C4
        · exact absurd D c17
      · rw [if_neg F, er, nI_clamp (by omega)]
        obtain ⟨c', k1, k2, k3⟩ := c_takeM (sc := sc) r1 i1 ht hr hj1 er (np_up (hp r hr) (by omega)) b1 (l := l) (by
          have w := (gs_self b3 : (cs.set p (.inr (3, [.int (s.1 19 j), .int (s.1 20 j), .ref l, .int 1])))[p]? = _)
          have e28 : (up s 28 j 1).1 28 j = 1 := up_i
          rw [e28]; exact w)
        refine ⟨c', ?_, k2, (x1.tr k3).mono (by omega)⟩
        show pu sc 68 [.ref 0, .int (nI j)] (cset cs a Y, kn) _
        refine w_aload_n rfl rfl ?_
        refine w_getfield rfl (cs0 hc) rfl ?_
        refine w_iload_n rfl rfl ?_
        refine w_virtual rfl rfl (cs2 hc) ⟨(Nat.le_of_ble_eq_true rfl), rfl, (Nat.le_of_ble_eq_true rfl), (Nat.le_of_ble_eq_true rfl)⟩ rfl (Nat.le_of_ble_eq_true rfl) (c_pfind1 hc j hm h6 hj b1) ?_
        rintro _ _ ⟨rfl, rfl⟩
        refine ⟨_, rfl, ?_⟩
        refine w_astore_n rfl (Nat.le_of_ble_eq_true rfl) ?_
        refine w_aload_n rfl rfl ?_
        refine w_ifnull rfl rfl ?_
        refine w_aload_n rfl rfl ?_
        refine w_getfield rfl ((cset_out (Nat.not_le_of_gt (Nat.lt_of_lt_of_le (by decide) b2))).trans b3) rfl ?_
        refine w_ifCond_eq rfl rfl (fun c17 => ?_) (fun c17 => ?_)
        · refine w_aload_n rfl rfl ?_
          refine w_iconst (v := 1) rfl (by decide) ?_
          refine w_dp rfl hc ⟨(Nat.lt_of_lt_of_le (by decide) b2), b3⟩ (Nat.le_of_ble_eq_true rfl) rfl ?_
          refine w_aload_n rfl rfl ?_
          refine w_getfield rfl ((cset_out (Nat.not_le_of_gt (Nat.lt_of_lt_of_le (by decide) b2))).trans (gs_self b3)) rfl ?_
          refine w_iconst (v := 4) rfl (by decide) ?_
          refine w_if_icmp_ne rfl rfl (fun c32 => ?_) (fun c32 => ?_)
          · refine w_aload_n rfl rfl ?_
            refine w_getfield rfl ((cset_out (Nat.not_le_of_gt (Nat.lt_of_lt_of_le (by decide) b2))).trans (gs_self b3)) rfl ?_
            refine w_static rfl (by decide) rfl ⟨(Nat.le_of_ble_eq_true rfl), (Nat.le_of_ble_eq_true rfl), (Nat.le_of_ble_eq_true rfl)⟩ rfl (Nat.le_of_ble_eq_true rfl) (c_isRep (s.1 20 j)) ?_
            rintro _ _ ⟨rfl, rfl⟩
            refine ⟨_, rfl, ?_⟩
            rw [show b01 (¬ s.1 20 j < 0 ∧ ¬ 4 ≤ s.1 20 j) = 1 from by rw [er]; exact isR4 hr]
            refine w_ifCond_eq rfl rfl (fun c60 => ?_) (fun c60 => ?_)
            · exact absurd c60 (by decide)
            · refine w_aload_n rfl rfl ?_
              refine w_getfield rfl ((cset_out (Nat.not_le_of_gt (Nat.lt_of_lt_of_le (by decide) b2))).trans (gs_self b3)) rfl ?_
              refine w_aload_n rfl rfl ?_
              refine w_getfield rfl (cs0 (hcS hc)) rfl ?_
              refine w_if_icmp_eq rfl rfl (fun c71 => ?_) (fun c71 => ?_)
              · exact absurd (by rw [← e1f]; exact c71) F
              · refine w_aload_n rfl rfl ?_
                refine w_getfield rfl (cs0 (hcS hc)) rfl ?_
                refine w_aload_n rfl rfl ?_
                refine w_getfield rfl ((cset_out (Nat.not_le_of_gt (Nat.lt_of_lt_of_le (by decide) b2))).trans (gs_self b3)) rfl ?_
                refine w_ca6 (j := r) rfl (hcS hc) er hr ?_
                refine w_aload_n rfl rfl ?_
                refine w_getfield rfl ((cset_out (Nat.not_le_of_gt (Nat.lt_of_lt_of_le (by decide) b2))).trans (gs_self b3)) rfl ?_
                refine w_aload_n rfl rfl ?_
                refine w_getfield rfl ((cset_out (Nat.not_le_of_gt (Nat.lt_of_lt_of_le (by decide) b2))).trans (gs_self b3)) rfl ?_
                refine w_virtual rfl rfl (cs7 (hcS hc) hr) ⟨(Nat.le_of_ble_eq_true rfl), rfl, (Nat.le_of_ble_eq_true rfl), (Nat.le_of_ble_eq_true rfl)⟩ rfl (Nat.le_of_ble_eq_true rfl) k1 ?_
                rintro _ _ ⟨rfl, rfl⟩
                refine ⟨_, rfl, ?_⟩
                refine w_iconst (v := 1) rfl (by decide) ?_
                exact w_ireturn rfl (Or.inr ⟨rfl, Or.inr rfl⟩) ⟨rfl, rfl⟩
          · exact absurd c32 C4
        · exact absurd D c17
  · rw [if_neg D, if_neg D]
    have eb : b01 (s.1 28 j = 0) = 0 := if_neg D
    rw [eb]
    refine ⟨(cs, a, Y, kn), ?_, h, Ext.rf _⟩
    show pu sc 68 [.ref 0, .int (nI j)] (cset cs a Y, kn) _
    refine w_aload_n rfl rfl ?_
    refine w_getfield rfl (cs0 hc) rfl ?_
    refine w_iload_n rfl rfl ?_
    refine w_virtual rfl rfl (cs2 hc) ⟨(Nat.le_of_ble_eq_true rfl), rfl, (Nat.le_of_ble_eq_true rfl), (Nat.le_of_ble_eq_true rfl)⟩ rfl (Nat.le_of_ble_eq_true rfl) (c_pfind1 hc j hm h6 hj b1) ?_
    rintro _ _ ⟨rfl, rfl⟩
    refine ⟨_, rfl, ?_⟩
    refine w_astore_n rfl (Nat.le_of_ble_eq_true rfl) ?_
    refine w_aload_n rfl rfl ?_
    refine w_ifnull rfl rfl ?_
    refine w_aload_n rfl rfl ?_
    refine w_getfield rfl ((cset_out (Nat.not_le_of_gt (Nat.lt_of_lt_of_le (by decide) b2))).trans b3) rfl ?_
    refine w_ifCond_eq rfl rfl (fun c17 => ?_) (fun c17 => ?_)
    · exact absurd c17 D
    · refine w_iconst (v := 0) rfl (by decide) ?_
      exact w_ireturn rfl (Or.inr ⟨rfl, Or.inl rfl⟩) ⟨rfl, rfl⟩
set_option maxRecDepth 100000 in
set_option maxHeartbeats 1000000 in
theorem c_del0 {sc : pm_Sc} {cs : List pm_C} {a : MS} {Y : PT} {kn : Nat × Nat} (hc : 73 < cs.length) (x : Int32) (h : x < 0 ∨ a.1 17 0 ≤ x) : pu sc 57 [.ref 0, .int x] (cset cs a Y, kn) (pz (some (.int 0)) (cset cs a Y, kn)) := by
  refine w_aload_n rfl rfl ?_
  refine w_iload_n rfl rfl ?_
  refine w_virtual rfl rfl (cs0 hc) ⟨(Nat.le_of_ble_eq_true rfl), rfl, (Nat.le_of_ble_eq_true rfl), (Nat.le_of_ble_eq_true rfl)⟩ rfl (Nat.le_of_ble_eq_true rfl) (c_ho0 hc x h) ?_
  rintro _ _ ⟨rfl, rfl⟩
  refine ⟨_, rfl, ?_⟩
  exact w_ireturn rfl (Or.inr ⟨rfl, Or.inl rfl⟩) ⟨rfl, rfl⟩
set_option maxRecDepth 100000 in
set_option maxHeartbeats 1000000 in
theorem c_del1 {sc : pm_Sc} {s : MS} {c : CX} {t j : Nat} (h : R s c) (hi : Inv s t) (ht : t + 1 < 2 ^ 31) (hj : j < mN s) (hp : ∀ y, y < 4 → NP s y) : ∃ c', pu sc 57 [.ref 0, .int (nI j)] (hx c) (pz (some (.int (b01 (s.1 28 j = 0)))) (hx c')) ∧ R (f_del s j) c' ∧ Ext c c' (if s.1 28 j = 0 then 55 else 0) := by
  obtain ⟨c', k1, k2, k3⟩ := c_ho1 (sc := sc) h hi ht hj hp
  refine ⟨c', ?_, k2, k3⟩
  have hc : 73 < c.1.length := h.1
  show pu sc 57 [.ref 0, .int (nI j)] (cset c.1 c.2.1 c.2.2.1, c.2.2.2) _
  refine w_aload_n rfl rfl ?_
  refine w_iload_n rfl rfl ?_
  refine w_virtual rfl rfl (cs0 hc) ⟨(Nat.le_of_ble_eq_true rfl), rfl, (Nat.le_of_ble_eq_true rfl), (Nat.le_of_ble_eq_true rfl)⟩ rfl (Nat.le_of_ble_eq_true rfl) (k1) ?_
  rintro _ _ ⟨rfl, rfl⟩
  refine ⟨_, rfl, ?_⟩
  exact w_ireturn rfl (Or.inr ⟨rfl, b01_01⟩) ⟨rfl, rfl⟩
set_option maxRecDepth 100000 in
set_option maxHeartbeats 1000000 in
theorem c_fl0 {sc : pm_Sc} {cs : List pm_C} {a : MS} {Y : PT} {kn : Nat × Nat} (hc : 73 < cs.length) (x : Int32) (h : x < 0) : pu sc 58 [.ref 0, .int x] (cset cs a Y, kn) (px 1 (cset cs a Y, kn)) := by
  refine w_iload_n rfl rfl ?_
  refine w_ifCond_ge rfl rfl (fun c1 => ?_) (fun c1 => ?_)
  · exact absurd (Int32.lt_of_lt_of_le h c1) Int32.lt_irrefl
  · exact w_throw rfl (by decide) (by decide) ⟨rfl, rfl⟩
set_option maxRecDepth 100000 in
set_option maxHeartbeats 1000000 in
theorem c_fl2 {sc : pm_Sc} {cs : List pm_C} {a : MS} {Y : PT} {kn : Nat × Nat} (hc : 73 < cs.length) (x : Int32) (h : ¬ x < 0) (h2 : a.1 17 0 ≤ x) : pu sc 58 [.ref 0, .int x] (cset cs a Y, kn) (pz (some (.int 0)) (cset cs a Y, kn)) := by
  refine w_iload_n rfl rfl ?_
  refine w_ifCond_ge rfl rfl (fun c1 => ?_) (fun c1 => ?_)
  · refine w_iconst (v := 0) rfl (by decide) ?_
    refine w_istore_n rfl (Nat.le_of_ble_eq_true rfl) ?_
    refine w_iload_n rfl rfl ?_
    refine w_istore_n rfl (Nat.le_of_ble_eq_true rfl) ?_
    refine w_iload_n rfl rfl ?_
    refine w_sipush (v := 600) rfl (by decide) ?_
    refine w_if_icmp_ge rfl rfl (fun c22 => ?_) (fun c22 => ?_)
    · refine w_iload_n rfl rfl ?_
      exact w_ireturn rfl (Or.inl rfl) ⟨rfl, rfl⟩
    · refine w_iload_n rfl rfl ?_
      refine w_aload_n rfl rfl ?_
      refine w_getfield rfl (cs0 hc) rfl ?_
      refine w_getfield rfl (cs2 hc) rfl ?_
      refine w_if_icmp_ge rfl rfl (fun c33 => ?_) (fun c33 => ?_)
      · refine w_iload_n rfl rfl ?_
        exact w_ireturn rfl (Or.inl rfl) ⟨rfl, rfl⟩
      · exact absurd h2 c33
  · exact absurd (Int32.not_lt.mp h) c1
set_option maxRecDepth 100000 in
set_option maxHeartbeats 1000000 in
theorem l_flood {sc : pm_Sc} {T : Nat} (hT : T + 1 < 2 ^ 31) : ∀ (d : Nat) (s : MS) (c : CX) (j : Nat) (n : Int32), (600 ≤ j + d ∧ j < 2 ^ 31 - d) → FlP T s → R s c → ∃ c', R (flN d s j n).1 c' ∧ FlP T (flN d s j n).1 ∧ dlN s 600 ≤ dlN (flN d s j n).1 600 ∧ Ext c c' (55 * (dlN (flN d s j n).1 600 - dlN s 600)) ∧ ∀ lv, pm_ld lv 0 = some (.ref 0) → pm_ld lv 2 = some (.int n) → pm_ld lv 3 = some (.int (nI j)) → pw sc 58 (18, lv, [], hx c) (pz (some (.int (flN d s j n).2)) (hx c')) := by
  intro d
  induction d with
  | zero =>
    intro s c j n hj hF h
    have hc : 73 < c.1.length := h.1
    refine ⟨c, h, hF, Nat.le_refl _, (Ext.rf c).mono (by omega), fun lv g0 g2 g3 => ?_⟩
    show pw sc 58 (18, lv, [], (cset c.1 c.2.1 c.2.2.1, c.2.2.2)) _
    refine w_iload_n rfl g3 ?_
    refine w_sipush (v := 600) rfl (by decide) ?_
    refine w_if_icmp_ge rfl rfl (fun c22 => ?_) (fun c22 => ?_)
    · refine w_iload_n rfl g2 ?_
      exact w_ireturn rfl (Or.inl rfl) ⟨rfl, rfl⟩
    · exact absurd (nI_le (a := 600) (b := j) (by omega) (by omega)) c22
  | succ d ih =>
    intro s c j n hj hF h
    have hc : 73 < c.1.length := h.1
    obtain ⟨t, t1, hA⟩ := id hF
    have hi := hA.1
    have em : s.1 17 0 = nI (mN s) := hi.m.1
    have h6 : mN s ≤ 600 := hi.m.2
    have hm : c.2.1.1 17 0 = nI (mN s) := (h.am hi).1
    rw [flN]
    by_cases E : s.1 17 0 ≤ nI j
    · rw [if_pos E]
      refine ⟨c, h, hF, Nat.le_refl _, (Ext.rf c).mono (by omega), fun lv g0 g2 g3 => ?_⟩
      show pw sc 58 (18, lv, [], (cset c.1 c.2.1 c.2.2.1, c.2.2.2)) _
      refine w_iload_n rfl g3 ?_
      refine w_sipush (v := 600) rfl (by decide) ?_
      refine w_if_icmp_ge rfl rfl (fun c22 => ?_) (fun c22 => ?_)
      · refine w_iload_n rfl g2 ?_
        exact w_ireturn rfl (Or.inl rfl) ⟨rfl, rfl⟩
      · refine w_iload_n rfl g3 ?_
        refine w_aload_n rfl g0 ?_
        refine w_getfield rfl (cs0 hc) rfl ?_
        refine w_getfield rfl (cs2 hc) rfl ?_
        refine w_if_icmp_ge rfl rfl (fun c33 => ?_) (fun c33 => ?_)
        · refine w_iload_n rfl g2 ?_
          exact w_ireturn rfl (Or.inl rfl) ⟨rfl, rfl⟩
        · exact absurd (by rw [hm, ← em]; exact E) c33
    · rw [if_neg E]
      have hj2 : j < mN s := by
        rcases Nat.lt_or_ge j (mN s) with z | z
        · exact z
        · exact absurd (by rw [em]; exact nI_le z (by omega)) E
      have h0 := all_0 hA 0
      have hd := dlN_le s 600
      have r0 : R (up s 0 0 0) c := h.scr (fun a j _ _ => up_n (by omega)) rfl
      have hj0 : j < mN (up s 0 0 0) := by rw [m_cong (up_n (by omega))]; exact hj2
      obtain ⟨c1, k1, k2, k3⟩ := c_ho1 (sc := sc) r0 h0.1 (by omega) hj0 h0.2
      obtain ⟨c', q1, q2, q3, q4, H⟩ := ih (f_del (up s 0 0 0) j) c1 (j + 1) (n + b01 ((up s 0 0 0).1 28 j = 0)) (by omega) (flp_del hT hF hj2) k2
      have e0 : dlN (up s 0 0 0) 600 = dlN s 600 := dlN_cong 600 (fun j => up_n (by omega))
      have hdl := dl_del (s := up s 0 0 0) (i := j) (by omega)
      rw [e0] at hdl
      refine ⟨c', q1, q2, by omega, (k3.tr q4).mono ?_, fun lv g0 g2 g3 => ?_⟩
      · by_cases cz : (up s 0 0 0).1 28 j = 0
        · rw [if_pos cz] at hdl ⊢; omega
        · rw [if_neg cz] at hdl ⊢; omega
      · show pw sc 58 (18, lv, [], (cset c.1 c.2.1 c.2.2.1, c.2.2.2)) _
        refine w_iload_n rfl g3 ?_
        refine w_sipush (v := 600) rfl (by decide) ?_
        refine w_if_icmp_ge rfl rfl (fun c22 => ?_) (fun c22 => ?_)
        · exact absurd c22 (nI_ge (a := j) (b := 600) (by omega) (by omega))
        · refine w_iload_n rfl g3 ?_
          refine w_aload_n rfl g0 ?_
          refine w_getfield rfl (cs0 hc) rfl ?_
          refine w_getfield rfl (cs2 hc) rfl ?_
          refine w_if_icmp_ge rfl rfl (fun c33 => ?_) (fun c33 => ?_)
          · exact absurd (by rw [hm, ← em] at c33; exact c33) E
          · refine w_aload_n rfl g0 ?_
            refine w_iload_n rfl g3 ?_
            refine w_virtual rfl rfl (cs0 hc) ⟨(Nat.le_of_ble_eq_true rfl), rfl, (Nat.le_of_ble_eq_true rfl), (Nat.le_of_ble_eq_true rfl)⟩ rfl (Nat.le_of_ble_eq_true rfl) (k1) ?_
            rintro _ _ ⟨rfl, rfl⟩
            refine ⟨_, rfl, ?_⟩
            refine w_ifCond_eq rfl rfl (fun c41 => ?_) (fun c41 => ?_)
            · replace c41 := b01_f c41
              refine w_iincN (j := j) rfl rfl g3 (Nat.le_of_ble_eq_true rfl) ?_
              refine w_goto rfl rfl ?_
              have eb : b01 ((up s 0 0 0).1 28 j = 0) = 0 := if_neg c41
              rw [eb, Int32.add_zero] at H ⊢
              exact H _ (ld_s1 (by decide) g0 (fun _ => rfl)) (ld_s1 (by decide) g2 (fun _ => rfl)) ld_self
            · replace c41 := b01_t c41
              refine w_iinc rfl g2 (Nat.le_of_ble_eq_true rfl) rfl ?_
              refine w_iincN (j := j) rfl rfl (ld_s1 (by decide) g3 (fun _ => rfl)) (Nat.le_of_ble_eq_true rfl) ?_
              refine w_goto rfl rfl ?_
              have eb : b01 ((up s 0 0 0).1 28 j = 0) = 1 := if_pos c41
              rw [eb] at H ⊢
              exact H _ (ld_s1 (by decide) (ld_s1 (by decide) g0 (fun _ => rfl)) (fun _ => rfl)) (ld_s1 (by decide) ld_self (fun _ => rfl)) ld_self
set_option maxRecDepth 100000 in
set_option maxHeartbeats 1000000 in
theorem c_fl1 {sc : pm_Sc} {s : MS} {c : CX} {T j : Nat} (hT : T + 1 < 2 ^ 31) (hF : FlP T s) (h : R s c) (hj : j < 2 ^ 31 - 600) : ∃ c', pu sc 58 [.ref 0, .int (nI j)] (hx c) (pz (some (.int (flN 600 s j 0).2)) (hx c')) ∧ R (flN 600 s j 0).1 c' ∧ FlP T (flN 600 s j 0).1 ∧ dlN s 600 ≤ dlN (flN 600 s j 0).1 600 ∧ Ext c c' (55 * (dlN (flN 600 s j 0).1 600 - dlN s 600)) := by
  obtain ⟨c', q1, q2, q3, q4, H⟩ := l_flood (sc := sc) hT 600 s c j 0 (by omega) hF h
  refine ⟨c', ?_, q1, q2, q3, q4⟩
  refine w_iload_n rfl rfl ?_
  refine w_ifCond_ge rfl rfl (fun c1 => ?_) (fun c1 => ?_)
  · refine w_iconst (v := 0) rfl (by decide) ?_
    refine w_istore_n rfl (Nat.le_of_ble_eq_true rfl) ?_
    refine w_iload_n rfl rfl ?_
    refine w_istore_n rfl (Nat.le_of_ble_eq_true rfl) ?_
    exact H _ rfl rfl rfl
  · exact absurd (Int32.not_lt.mp (nI_pos (by omega))) c1
set_option maxRecDepth 100000 in
set_option maxHeartbeats 1000000 in
theorem c_lose0 {sc : pm_Sc} {cs : List pm_C} {a : MS} {Y : PT} {kn : Nat × Nat} (hc : 73 < cs.length) (x : Int32) (h : x < 0 ∨ a.1 17 0 ≤ x) : pu sc 59 [.ref 0, .int x] (cset cs a Y, kn) (pz (some (.int 0)) (cset cs a Y, kn)) := by
  refine w_aload_n rfl rfl ?_
  refine w_getfield rfl (cs0 hc) rfl ?_
  refine w_iload_n rfl rfl ?_
  refine w_virtual rfl rfl (cs2 hc) ⟨(Nat.le_of_ble_eq_true rfl), rfl, (Nat.le_of_ble_eq_true rfl), (Nat.le_of_ble_eq_true rfl)⟩ rfl (Nat.le_of_ble_eq_true rfl) (c_pfind0 hc x h) ?_
  rintro _ _ ⟨rfl, rfl⟩
  refine ⟨_, rfl, ?_⟩
  refine w_astore_nN rfl (Nat.le_of_ble_eq_true rfl) ?_
  refine w_aload_nN rfl rfl ?_
  refine w_ifnullN rfl rfl ?_
  refine w_iconst (v := 0) rfl (by decide) ?_
  exact w_ireturn rfl (Or.inr ⟨rfl, Or.inl rfl⟩) ⟨rfl, rfl⟩
set_option maxRecDepth 100000 in
set_option maxHeartbeats 1000000 in
theorem c_lose1 {sc : pm_Sc} {s : MS} {c : CX} {t j : Nat} (h : R s c) (hi : Inv s t) (hj : j < mN s) : ∃ c', pu sc 59 [.ref 0, .int (nI j)] (hx c) (pz (some (.int (b01 (s.1 28 j = 0)))) (hx c')) ∧ R (if s.1 28 j = 0 then up s 28 j 2 else s) c' ∧ Ext c c' 0 := by
  obtain ⟨cs, a, Y, kn⟩ := c
  have hc : 73 < cs.length := h.1
  have hm : a.1 17 0 = nI (mN s) := (h.am hi).1
  have h6 : mN s ≤ 600 := hi.m.2
  obtain ⟨p, l, e, y, b1, b2, b3, b4, b5, b6, b7⟩ := h.2.2.2.2.1 j hj
  have b1 : Y 3 j = some p := b1
  have b3 : cs[p]? = some (.inr (3, [.int (s.1 19 j), .int (s.1 20 j), .ref l, .int (s.1 28 j)])) := b3
  by_cases D : s.1 28 j = 0
  · rw [if_pos D]
    have eb : b01 (s.1 28 j = 0) = 1 := if_pos D
    rw [eb]
    refine ⟨_, ?_, h.st (kn' := kn) 2 hj b1 b3, ext_set b2 b3 nlk3⟩
    show pu sc 59 [.ref 0, .int (nI j)] (cset cs a Y, kn) _
    refine w_aload_n rfl rfl ?_
    refine w_getfield rfl (cs0 hc) rfl ?_
    refine w_iload_n rfl rfl ?_
    refine w_virtual rfl rfl (cs2 hc) ⟨(Nat.le_of_ble_eq_true rfl), rfl, (Nat.le_of_ble_eq_true rfl), (Nat.le_of_ble_eq_true rfl)⟩ rfl (Nat.le_of_ble_eq_true rfl) (c_pfind1 hc j hm h6 hj b1) ?_
    rintro _ _ ⟨rfl, rfl⟩
    refine ⟨_, rfl, ?_⟩
    refine w_astore_n rfl (Nat.le_of_ble_eq_true rfl) ?_
    refine w_aload_n rfl rfl ?_
    refine w_ifnull rfl rfl ?_
    refine w_aload_n rfl rfl ?_
    refine w_getfield rfl ((cset_out (Nat.not_le_of_gt (Nat.lt_of_lt_of_le (by decide) b2))).trans b3) rfl ?_
    refine w_ifCond_eq rfl rfl (fun c17 => ?_) (fun c17 => ?_)
    · refine w_aload_n rfl rfl ?_
      refine w_iconst (v := 2) rfl (by decide) ?_
      refine w_dp rfl hc ⟨(Nat.lt_of_lt_of_le (by decide) b2), b3⟩ (Nat.le_of_ble_eq_true rfl) rfl ?_
      refine w_iconst (v := 1) rfl (by decide) ?_
      exact w_ireturn rfl (Or.inr ⟨rfl, Or.inr rfl⟩) ⟨rfl, rfl⟩
    · exact absurd D c17
  · rw [if_neg D]
    have eb : b01 (s.1 28 j = 0) = 0 := if_neg D
    rw [eb]
    refine ⟨(cs, a, Y, kn), ?_, h, Ext.rf _⟩
    show pu sc 59 [.ref 0, .int (nI j)] (cset cs a Y, kn) _
    refine w_aload_n rfl rfl ?_
    refine w_getfield rfl (cs0 hc) rfl ?_
    refine w_iload_n rfl rfl ?_
    refine w_virtual rfl rfl (cs2 hc) ⟨(Nat.le_of_ble_eq_true rfl), rfl, (Nat.le_of_ble_eq_true rfl), (Nat.le_of_ble_eq_true rfl)⟩ rfl (Nat.le_of_ble_eq_true rfl) (c_pfind1 hc j hm h6 hj b1) ?_
    rintro _ _ ⟨rfl, rfl⟩
    refine ⟨_, rfl, ?_⟩
    refine w_astore_n rfl (Nat.le_of_ble_eq_true rfl) ?_
    refine w_aload_n rfl rfl ?_
    refine w_ifnull rfl rfl ?_
    refine w_aload_n rfl rfl ?_
    refine w_getfield rfl ((cset_out (Nat.not_le_of_gt (Nat.lt_of_lt_of_le (by decide) b2))).trans b3) rfl ?_
    refine w_ifCond_eq rfl rfl (fun c17 => ?_) (fun c17 => ?_)
    · exact absurd c17 D
    · refine w_iconst (v := 0) rfl (by decide) ?_
      exact w_ireturn rfl (Or.inr ⟨rfl, Or.inl rfl⟩) ⟨rfl, rfl⟩
theorem rep_arr (m : Nat) : List.replicate m Value.null = (List.range m).map fun u => pv ((fun _ => none) u) := by
  apply List.ext_getElem?
  intro i
  rw [List.getElem?_map]
  rcases Nat.lt_or_ge i m with h | h
  · rw [List.getElem?_range h, List.getElem?_replicate, if_pos h]; rfl
  · rw [List.getElem?_eq_none (by simpa using h), List.getElem?_eq_none (by simpa using h)]; rfl
set_option maxRecDepth 100000 in
set_option maxHeartbeats 1000000 in
theorem c_req_init {sc : pm_Sc} {cs : List pm_C} {a : MS} {Y : PT} {kn : Nat × Nat} (hc : 73 < cs.length) {x : pm_C} (hx : x = .inr (6, pm_df 6)) (o k v : Int32) : pu sc 46 [.ref cs.length, .int o, .int k, .int v] (cset (cs ++ [x]) a Y, kn) (pz none (cset (cs ++ [nreq cs.length o k v] ++ [arrC (fun _ => none)]) a Y, kn.1 + 1, kn.2 + 4)) := by
  subst hx
  have e1 : (cs ++ [(.inr (6, pm_df 6) : pm_C)]).length = cs.length + 1 := by rw [List.length_append]; rfl
  have hp : (cs ++ [(.inr (6, pm_df 6) : pm_C)] ++ [arrC (fun _ => none)])[cs.length]? = some (.inr (6, pm_df 6)) := ga_old ga_new
  refine w_aload_n rfl rfl ?_
  refine w_objinit rfl ⟨(Nat.le_of_ble_eq_true rfl), (Nat.le_of_ble_eq_true rfl)⟩ ?_
  refine w_aload_n rfl rfl ?_
  refine w_iconst (v := 4) rfl (by decide) ?_
  refine w_canarr (m := 4) rfl (hcA hc) (by decide) (by decide) ?_
  rw [rep_arr 4, e1]
  show pw sc 46 (_, _, _, (cset (cs ++ [(.inr (6, pm_df 6) : pm_C)] ++ [arrC (fun _ => none)]) a Y, _)) _
  refine w_dp rfl (hcA (hcA hc)) ⟨(hc30 hc), hp⟩ (Nat.le_of_ble_eq_true rfl) rfl ?_
  refine w_aload_n rfl rfl ?_
  refine w_aconst_null rfl ?_
  refine w_dp rfl (hcS (hcA (hcA hc))) ⟨(hc30 hc), (gs_self hp)⟩ (Nat.le_of_ble_eq_true rfl) rfl ?_
  refine w_aload_n rfl rfl ?_
  refine w_iconst (v := 0) rfl (by decide) ?_
  refine w_dp rfl (hcS (hcS (hcA (hcA hc)))) ⟨(hc30 hc), (gs_self (gs_self hp))⟩ (Nat.le_of_ble_eq_true rfl) rfl ?_
  refine w_aload_n rfl rfl ?_
  refine w_iconst (v := 0) rfl (by decide) ?_
  refine w_dp rfl (hcS (hcS (hcS (hcA (hcA hc))))) ⟨(hc30 hc), (gs_self (gs_self (gs_self hp)))⟩ (Nat.le_of_ble_eq_true rfl) rfl ?_
  refine w_aload_n rfl rfl ?_
  refine w_iconst (v := 0) rfl (by decide) ?_
  refine w_dp rfl (hcS (hcS (hcS (hcS (hcA (hcA hc)))))) ⟨(hc30 hc), (gs_self (gs_self (gs_self (gs_self hp))))⟩ (Nat.le_of_ble_eq_true rfl) rfl ?_
  refine w_aload_n rfl rfl ?_
  refine w_iload_n rfl rfl ?_
  refine w_dp rfl (hcS (hcS (hcS (hcS (hcS (hcA (hcA hc))))))) ⟨(hc30 hc), (gs_self (gs_self (gs_self (gs_self (gs_self hp)))))⟩ (Nat.le_of_ble_eq_true rfl) rfl ?_
  refine w_aload_n rfl rfl ?_
  refine w_iload_n rfl rfl ?_
  refine w_dp rfl (hcS (hcS (hcS (hcS (hcS (hcS (hcA (hcA hc)))))))) ⟨(hc30 hc), (gs_self (gs_self (gs_self (gs_self (gs_self (gs_self hp))))))⟩ (Nat.le_of_ble_eq_true rfl) rfl ?_
  refine w_aload_n rfl rfl ?_
  refine w_iload_n rfl rfl ?_
  refine w_dp rfl (hcS (hcS (hcS (hcS (hcS (hcS (hcS (hcA (hcA hc))))))))) ⟨(hc30 hc), (gs_self (gs_self (gs_self (gs_self (gs_self (gs_self (gs_self hp)))))))⟩ (Nat.le_of_ble_eq_true rfl) rfl ?_
  exact w_return rfl rfl ⟨rfl, by rw [List.set_set, List.set_set, List.set_set, List.set_set, List.set_set, List.set_set, List.set_set, set_app2]; rfl⟩
set_option maxRecDepth 100000 in
set_option maxHeartbeats 1000000 in
theorem c_begin {sc : pm_Sc} {cs : List pm_C} {a : MS} {Y : PT} {kn : Nat × Nat} (hc : 73 < cs.length) {p n m : Nat} {fs : List Value} (h30 : 30 < p) (hq : cs[p]? = some (.inr (6, fs))) (hn : a.1 2 0 = nI n) (h12 : n < 12) (hm : a.1 17 0 = nI m) (h6 : m ≤ 600) : pu sc 2 [.ref 4, .ref p] (cset cs a Y, kn) (pz (some (.int (nI n))) (hx (sndC (cs ++ [letC 0 0 (nI n) 0 0 0 none], up a 2 0 (nI (n + 1)), uy Y 1 n (some p), kn.1 + 1, kn.2 + 7) 4 (rm4 (a.1 29 0)) cs.length))) := by
  refine w_aload_n rfl rfl ?_
  refine w_getfield rfl (cs4 hc) rfl ?_
  refine w_bipush (v := 12) rfl (by decide) ?_
  refine w_if_icmp_lt rfl rfl (fun c6 => ?_) (fun c6 => ?_)
  · refine w_aload_n rfl rfl ?_
    refine w_getfield rfl (cs4 hc) rfl ?_
    refine w_istore_n rfl (Nat.le_of_ble_eq_true rfl) ?_
    refine w_aload_n rfl rfl ?_
    refine w_getfield rfl (cs4 hc) rfl ?_
    refine w_iload_n rfl rfl ?_
    refine w_aload_n rfl rfl ?_
    refine w_cs1 (j := n) rfl hc ((cset_out (Nat.not_le_of_gt h30)).trans hq) rfl hn h12 ?_
    refine w_aload_n rfl rfl ?_
    refine w_dup rfl rfl ?_
    refine w_getfield rfl (cs4 hc) rfl ?_
    refine w_iconst (v := 1) rfl (by decide) ?_
    refine w_iaddN (x := n) (y := 1) rfl hn rfl ?_
    refine w_cpC (f := 2) rfl hc (by decide) rfl ?_
    refine w_aload_n rfl rfl ?_
    refine w_getfield rfl (cs4 hc) rfl ?_
    refine w_iconst (v := 4) rfl (by decide) ?_
    refine w_aload_n rfl rfl ?_
    refine w_getfield rfl (cs4 hc) rfl ?_
    refine w_static rfl (by decide) rfl ⟨(Nat.le_of_ble_eq_true rfl), (Nat.le_of_ble_eq_true rfl), (Nat.le_of_ble_eq_true rfl)⟩ rfl (Nat.le_of_ble_eq_true rfl) (c_prim _) ?_
    rintro _ _ ⟨rfl, rfl⟩
    refine ⟨_, rfl, ?_⟩
    refine w_iload_n rfl rfl ?_
    rw [hn]
    refine w_static rfl (by decide) rfl ⟨(Nat.le_of_ble_eq_true rfl), (Nat.le_of_ble_eq_true rfl), (Nat.le_of_ble_eq_true rfl)⟩ rfl (Nat.le_of_ble_eq_true rfl) (c_askFor hc (nI n)) ?_
    rintro _ _ ⟨rfl, rfl⟩
    refine ⟨_, rfl, ?_⟩
    refine w_virtual rfl rfl (cs2 (hcA hc)) ⟨(Nat.le_of_ble_eq_true rfl), rfl, (Nat.le_of_ble_eq_true rfl), (Nat.le_of_ble_eq_true rfl)⟩ rfl (Nat.le_of_ble_eq_true rfl) (c_send (cs ++ [letC 0 0 (nI n) 0 0 0 none], up a 2 0 (nI (n + 1)), uy Y 1 n (some p), kn.1 + 1, kn.2 + 7) (hcA hc) 4 (rm4 (a.1 29 0)) cs.length hm h6) ?_
    rintro _ _ ⟨rfl, rfl⟩
    refine ⟨_, rfl, ?_⟩
    refine w_iload_n rfl rfl ?_
    exact w_ireturn rfl (Or.inl rfl) ⟨rfl, rfl⟩
  · exact absurd (by rw [hn]; exact nI_lt (a := n) (b := 12) h12 (by omega)) c6
theorem lt4_le3 {k : Int32} (h : k < 4) : k ≤ 3 := by
  rw [Int32.lt_iff_toInt_lt] at h
  rw [Int32.le_iff_toInt_le]
  have h4 : (4 : Int32).toInt = 4 := by decide
  have h3 : (3 : Int32).toInt = 3 := by decide
  omega
theorem nlt4_le3 {k : Int32} (h : ¬ k < 4) : ¬ k ≤ 3 := by
  intro z
  apply h
  rw [Int32.le_iff_toInt_le] at z
  rw [Int32.lt_iff_toInt_lt]
  have h4 : (4 : Int32).toInt = 4 := by decide
  have h3 : (3 : Int32).toInt = 3 := by decide
  omega
set_option maxRecDepth 100000 in
set_option maxHeartbeats 1000000 in
theorem c_iss0 {sc : pm_Sc} {cs : List pm_C} {a : MS} {Y : PT} {kn : Nat × Nat} (hc : 73 < cs.length) (o k v : Int32) (h : o < 0 ∨ 2 < o ∨ k < 0 ∨ ¬ k ≤ 3) : pu sc 55 [.ref 0, .int o, .int k, .int v] (cset cs a Y, kn) (px 1 (cset cs a Y, kn)) := by
  refine w_iload_n rfl rfl ?_
  refine w_ifCond_lt rfl rfl (fun c1 => ?_) (fun c1 => ?_)
  · exact w_throw rfl (by decide) (by decide) ⟨rfl, rfl⟩
  · refine w_iload_n rfl rfl ?_
    refine w_iconst (v := 2) rfl (by decide) ?_
    refine w_if_icmp_gt rfl rfl (fun c6 => ?_) (fun c6 => ?_)
    · exact w_throw rfl (by decide) (by decide) ⟨rfl, rfl⟩
    · refine w_iload_n rfl rfl ?_
      refine w_ifCond_lt rfl rfl (fun c10 => ?_) (fun c10 => ?_)
      · exact w_throw rfl (by decide) (by decide) ⟨rfl, rfl⟩
      · refine w_iload_n rfl rfl ?_
        refine w_iconst (v := 4) rfl (by decide) ?_
        refine w_if_icmp_lt rfl rfl (fun c15 => ?_) (fun c15 => ?_)
        · exact absurd h (by
            rintro (z | z | z | z)
            · exact c1 z
            · exact c6 z
            · exact c10 z
            · exact z (lt4_le3 c15))
        · exact w_throw rfl (by decide) (by decide) ⟨rfl, rfl⟩
set_option maxRecDepth 100000 in
set_option maxHeartbeats 1000000 in
theorem c_iss1 {sc : pm_Sc} {cs : List pm_C} {a : MS} {Y : PT} {kn : Nat × Nat} (hc : 73 < cs.length) (o k v : Int32) (h : ¬ (o < 0 ∨ 2 < o ∨ k < 0 ∨ ¬ k ≤ 3)) (h12 : a.1 2 0 = 12) : pu sc 55 [.ref 0, .int o, .int k, .int v] (cset cs a Y, kn) (px 2 (cset cs a Y, kn)) := by
  refine w_iload_n rfl rfl ?_
  refine w_ifCond_lt rfl rfl (fun c1 => ?_) (fun c1 => ?_)
  · exact absurd (by first | exact Or.inl (by assumption) | exact Or.inr (Or.inl (by assumption)) | exact Or.inr (Or.inr (Or.inl (by assumption))) | exact Or.inr (Or.inr (Or.inr (nlt4_le3 (by assumption))))) h
  · refine w_iload_n rfl rfl ?_
    refine w_iconst (v := 2) rfl (by decide) ?_
    refine w_if_icmp_gt rfl rfl (fun c6 => ?_) (fun c6 => ?_)
    · exact absurd (by first | exact Or.inl (by assumption) | exact Or.inr (Or.inl (by assumption)) | exact Or.inr (Or.inr (Or.inl (by assumption))) | exact Or.inr (Or.inr (Or.inr (nlt4_le3 (by assumption))))) h
    · refine w_iload_n rfl rfl ?_
      refine w_ifCond_lt rfl rfl (fun c10 => ?_) (fun c10 => ?_)
      · exact absurd (by first | exact Or.inl (by assumption) | exact Or.inr (Or.inl (by assumption)) | exact Or.inr (Or.inr (Or.inl (by assumption))) | exact Or.inr (Or.inr (Or.inr (nlt4_le3 (by assumption))))) h
      · refine w_iload_n rfl rfl ?_
        refine w_iconst (v := 4) rfl (by decide) ?_
        refine w_if_icmp_lt rfl rfl (fun c15 => ?_) (fun c15 => ?_)
        · refine w_aload_n rfl rfl ?_
          refine w_getfield rfl (cs0 hc) rfl ?_
          refine w_getfield rfl (cs4 hc) rfl ?_
          refine w_bipush (v := 12) rfl (by decide) ?_
          refine w_if_icmp_lt rfl rfl (fun c37 => ?_) (fun c37 => ?_)
          · exact absurd c37 (by rw [h12]; decide)
          · exact w_throw rfl (by decide) (by decide) ⟨rfl, rfl⟩
        · exact absurd (by first | exact Or.inl (by assumption) | exact Or.inr (Or.inl (by assumption)) | exact Or.inr (Or.inr (Or.inl (by assumption))) | exact Or.inr (Or.inr (Or.inr (nlt4_le3 (by assumption))))) h
set_option maxRecDepth 100000 in
set_option maxHeartbeats 1000000 in
theorem c_iss2 {sc : pm_Sc} {s : MS} {c : CX} {t : Nat} (o k v : Int32) (h : R s c) (hi : Inv s t) (hok : ¬ (o < 0 ∨ 2 < o ∨ k < 0 ∨ ¬ k ≤ 3)) (h2 : ¬ s.1 2 0 = 12) : ∃ c', pu sc 55 [.ref 0, .int o, .int k, .int v] (hx c) (pz (some (.int (nI (nqN s)))) (hx c')) ∧ R (f_issue s o k v) c' ∧ Ext c c' 4 := by
  obtain ⟨cs, a, Y, kn⟩ := c
  have hc : 73 < cs.length := h.1
  have hq : nqN s < 12 := by
    obtain ⟨g1, g2⟩ := hi.q
    rcases Nat.lt_or_ge (nqN s) 12 with g | g
    · exact g
    · exact absurd (by rw [g1, show nqN s = 12 by omega]; rfl) h2
  have hn : a.1 2 0 = nI (nqN s) := (h.a 2 0 (by omega)).trans hi.q.1
  have hm : a.1 17 0 = nI (mN s) := (h.am hi).1
  have e29 : a.1 29 0 = s.1 29 0 := h.a 29 0 (by omega)
  have r1 := h.isue (kn' := (kn.1 + 2, kn.2 + 12)) o k v hi hq
  have e1 : (cs ++ [nreq cs.length o k v] ++ [arrC (fun _ => none)]).length = cs.length + 2 := by rw [List.length_append, List.length_append]; rfl
  have hc1 : 73 < (cs ++ [nreq cs.length o k v] ++ [arrC (fun _ => none)]).length := hcA (hcA hc)
  obtain ⟨y, hy, ey⟩ := isRep_of (x := k) (fun z => hok (Or.inr (Or.inr (Or.inl z)))) (fun z => hok (Or.inr (Or.inr (Or.inr (fun w => absurd (Int32.lt_of_lt_of_le z w) Int32.lt_irrefl)))))
  have i1 : Inv (iss s o k v) t := by rw [ey]; exact inv_iss hi hq hy
  have r2 := r1.addC (letC 0 0 (nI (nqN s)) 0 0 0 none) 7
  have r3 := R_send (y := none) (e := 0) 4 (rm4 (s.1 29 0)) r2 i1 (l := cs.length + 2) (by omega) (by rw [← e1]; exact ga_new) (by decide)
  have eI : f_issue s o k v = f_send (iss s o k v) 0 4 (rm4 (s.1 29 0)) 0 (nI (nqN s)) 0 0 := by unfold f_issue; rw [if_neg hok, if_neg h2]
  rw [eI]
  have x1 : Ext (cs, a, Y, kn) (cs ++ [nreq cs.length o k v] ++ [arrC (fun _ => none)], up a 2 0 (nI (nqN s + 1)), uy Y 1 (nqN s) (some cs.length), kn.1 + 2, kn.2 + 12) 2 := by
    refine ⟨fun p _ h2 => ?_, by show cs.length ≤ (cs ++ [nreq cs.length o k v] ++ [arrC (fun _ => none)]).length; rw [e1]; omega, KC.app.tr KC.app, Nat.le_refl _, by show kn.2 + 12 ≤ kn.2 + 12 * 2; omega⟩
    show (cs ++ [nreq cs.length o k v] ++ [arrC (fun _ => none)])[p]? = cs[p]?
    rw [List.getElem?_append_left (by rw [List.length_append]; show p < cs.length + 1; omega), List.getElem?_append_left (by omega)]
  have x2 := ext_addC (c := (cs ++ [nreq cs.length o k v] ++ [arrC (fun _ => none)], up a 2 0 (nI (nqN s + 1)), uy Y 1 (nqN s) (some cs.length), kn.1 + 2, kn.2 + 12)) hc1 (m := 7) (by omega) (letC 0 0 (nI (nqN s)) 0 0 0 none)
  have x3 := ext_snd (c := addC (cs ++ [nreq cs.length o k v] ++ [arrC (fun _ => none)], up a 2 0 (nI (nqN s + 1)), uy Y 1 (nqN s) (some cs.length), kn.1 + 2, kn.2 + 12) (letC 0 0 (nI (nqN s)) 0 0 0 none) 7) (hcA hc1) 4 (rm4 (s.1 29 0)) (cs.length + 2)
  refine ⟨_, ?_, r3, ((x1.tr x2).tr x3).mono (by omega)⟩
  have cb := c_begin (sc := sc) (kn := (kn.1 + 2, kn.2 + 12)) (Y := Y) (a := a) hc1 (p := cs.length) (by omega) (ga_old ga_new) hn hq hm hi.m.2
  rw [e29, e1] at cb
  show pu sc 55 [.ref 0, .int o, .int k, .int v] (cset cs a Y, kn) _
  refine w_iload_n rfl rfl ?_
  refine w_ifCond_lt rfl rfl (fun c1 => ?_) (fun c1 => ?_)
  · exact absurd (by first | exact Or.inl (by assumption) | exact Or.inr (Or.inl (by assumption)) | exact Or.inr (Or.inr (Or.inl (by assumption))) | exact Or.inr (Or.inr (Or.inr (nlt4_le3 (by assumption))))) hok
  · refine w_iload_n rfl rfl ?_
    refine w_iconst (v := 2) rfl (by decide) ?_
    refine w_if_icmp_gt rfl rfl (fun c6 => ?_) (fun c6 => ?_)
    · exact absurd (by first | exact Or.inl (by assumption) | exact Or.inr (Or.inl (by assumption)) | exact Or.inr (Or.inr (Or.inl (by assumption))) | exact Or.inr (Or.inr (Or.inr (nlt4_le3 (by assumption))))) hok
    · refine w_iload_n rfl rfl ?_
      refine w_ifCond_lt rfl rfl (fun c10 => ?_) (fun c10 => ?_)
      · exact absurd (by first | exact Or.inl (by assumption) | exact Or.inr (Or.inl (by assumption)) | exact Or.inr (Or.inr (Or.inl (by assumption))) | exact Or.inr (Or.inr (Or.inr (nlt4_le3 (by assumption))))) hok
      · refine w_iload_n rfl rfl ?_
        refine w_iconst (v := 4) rfl (by decide) ?_
        refine w_if_icmp_lt rfl rfl (fun c15 => ?_) (fun c15 => ?_)
        · refine w_aload_n rfl rfl ?_
          refine w_getfield rfl (cs0 hc) rfl ?_
          refine w_getfield rfl (cs4 hc) rfl ?_
          refine w_bipush (v := 12) rfl (by decide) ?_
          refine w_if_icmp_lt rfl rfl (fun c37 => ?_) (fun c37 => ?_)
          · refine w_aload_n rfl rfl ?_
            refine w_getfield rfl (cs0 hc) rfl ?_
            refine w_cnew rfl hc (Nat.le_of_ble_eq_true rfl) ?_
            refine w_dup rfl rfl ?_
            refine w_iload_n rfl rfl ?_
            refine w_iload_n rfl rfl ?_
            refine w_iload_n rfl rfl ?_
            refine w_special rfl (by decide) rfl ⟨(Nat.le_of_ble_eq_true rfl), (Nat.le_of_ble_eq_true rfl), (Nat.le_of_ble_eq_true rfl)⟩ rfl (Nat.le_of_ble_eq_true rfl) (c_req_init hc rfl o k v) ?_
            rintro _ _ ⟨rfl, rfl⟩
            refine ⟨_, rfl, ?_⟩
            refine w_virtual rfl rfl (cs4 hc1) ⟨(Nat.le_of_ble_eq_true rfl), rfl, (Nat.le_of_ble_eq_true rfl), (Nat.le_of_ble_eq_true rfl)⟩ rfl (Nat.le_of_ble_eq_true rfl) cb ?_
            rintro _ _ ⟨rfl, rfl⟩
            refine ⟨_, rfl, ?_⟩
            exact w_ireturn rfl (Or.inl rfl) ⟨rfl, rfl⟩
          · exact absurd (by rw [hn]; exact nI_lt (a := nqN s) (b := 12) hq (by omega)) c37
        · exact absurd (by first | exact Or.inl (by assumption) | exact Or.inr (Or.inl (by assumption)) | exact Or.inr (Or.inr (Or.inl (by assumption))) | exact Or.inr (Or.inr (Or.inr (nlt4_le3 (by assumption))))) hok
