/-! THROWS, and where they are caught -/
def pm_exc (x : Nat) : String := match x with
  | 1 => "java/lang/IllegalArgumentException"
  | 2 => "java/lang/IllegalStateException"
  | _ => "java/util/NoSuchElementException"
abbrev pm_sup : List String := ["java/lang/RuntimeException", "java/lang/Exception"]
def pm_isT (r : pm_R) : Bool := match r.2.1, r.2.2.2 with
  | .new _, [e] => decide (100 < e)
  | _, _ => false
/-- where 'throw new' stands: method, pc; class link, text, constructor link -/
def pm_thr : List (Nat × Nat) := [(55, 18), (55, 40), (56, 13), (58, 4), (60, 7), (61, 26), (62, 28), (63, 75), (65, 23), (66, 22)]
def pm_Site (j pc x : Nat) : Prop := ∃ (ik is ic : Nat) (text : String) (ix : Nat) (rx : ByteArray), (decode rx 0 = .ok (.aload_n 0, 1) ∧ decode rx 1 = .ok (.aload_n 1, 1) ∧ decode rx 2 = .ok (.invokespecial ix, 3) ∧ decode rx 5 = .ok (.return_, 1)) ∧ decode (pm_b j) pc = .ok (.new ik, 3) ∧ decode (pm_b j) (pc + 3) = .ok (.dup, 1) ∧ decode (pm_b j) (pc + 4) = .ok (.ldc is, 2) ∧ decode (pm_b j) (pc + 6) = .ok (.invokespecial ic, 3) ∧ decode (pm_b j) (pc + 9) = .ok (.athrow, 1) ∧ (is, text) ∈ pm_strs ∧ Cond.classLink (pm_own j) ik (pm_exc x) ∈ pm_G ∧ Cond.initialized (pm_exc x) ∈ pm_G ∧
  (vn_atS (pm_own j) ic (pm_exc x) ix rx pm_sup).all (fun w => decide (w ∈ lw_tbl) && (goodWord w || pm_isN w)) = true ∧ pm_own j = RX7 ∧ pm_hh j = [] ∧ 6 ≤ pm_rk j ∧ Bundle.fit (pm_exc x) = true ∧ (∀ n ∈ pm_sup, Bundle.fit n = true)
theorem pm_gin {w : Cond} {i : Nat} (h : lw_tbl[i]? = some w) (hg : goodWord w = true) : w ∈ pm_G := List.mem_filter.mpr ⟨List.mem_of_getElem? h, hg⟩
set_option maxRecDepth 100000 in
theorem ts_48_1 : (vn_atS RX7 48 "java/lang/IllegalArgumentException" 7 prog_12_method_2_code pm_sup).all (fun w => decide (w ∈ lw_tbl) && (goodWord w || pm_isN w)) = true := by decide +kernel
set_option maxRecDepth 100000 in
theorem ts_58_2 : (vn_atS RX7 58 "java/lang/IllegalStateException" 7 prog_13_method_2_code pm_sup).all (fun w => decide (w ∈ lw_tbl) && (goodWord w || pm_isN w)) = true := by decide +kernel
set_option maxRecDepth 100000 in
theorem ts_74_3 : (vn_atS RX7 74 "java/util/NoSuchElementException" 13 prog_20_method_4_code pm_sup).all (fun w => decide (w ∈ lw_tbl) && (goodWord w || pm_isN w)) = true := by decide +kernel
theorem tx_1 : decode prog_12_method_2_code 0 = .ok (.aload_n 0, 1) ∧ decode prog_12_method_2_code 1 = .ok (.aload_n 1, 1) ∧ decode prog_12_method_2_code 2 = .ok (.invokespecial 7, 3) ∧ decode prog_12_method_2_code 5 = .ok (.return_, 1) := by decide +kernel
theorem tx_2 : decode prog_13_method_2_code 0 = .ok (.aload_n 0, 1) ∧ decode prog_13_method_2_code 1 = .ok (.aload_n 1, 1) ∧ decode prog_13_method_2_code 2 = .ok (.invokespecial 7, 3) ∧ decode prog_13_method_2_code 5 = .ok (.return_, 1) := by decide +kernel
theorem tx_3 : decode prog_20_method_4_code 0 = .ok (.aload_n 0, 1) ∧ decode prog_20_method_4_code 1 = .ok (.aload_n 1, 1) ∧ decode prog_20_method_4_code 2 = .ok (.invokespecial 13, 3) ∧ decode prog_20_method_4_code 5 = .ok (.return_, 1) := by decide +kernel
set_option maxRecDepth 100000 in
theorem st_55_18 : pm_Site 55 18 1 := ⟨44, 46, 48, "no such op or key", _, _, tx_1, dX7_issue_18, dX7_issue_21, dX7_issue_22, dX7_issue_24, dX7_issue_27, by decide +kernel, pm_gin (i := 494) rfl rfl, pm_gin (i := 64) rfl rfl, ts_48_1, rfl, rfl, by decide, by decide +kernel, by decide +kernel⟩
set_option maxRecDepth 100000 in
theorem st_55_40 : pm_Site 55 40 2 := ⟨54, 56, 58, "there are 12 requests", _, _, tx_2, dX7_issue_40, dX7_issue_43, dX7_issue_44, dX7_issue_46, dX7_issue_49, by decide +kernel, pm_gin (i := 562) rfl rfl, pm_gin (i := 65) rfl rfl, ts_58_2, rfl, rfl, by decide, by decide +kernel, by decide +kernel⟩
set_option maxRecDepth 100000 in
theorem st_56_13 : pm_Site 56 13 3 := ⟨70, 72, 74, "no such request", _, _, tx_3, dX7_retry_13, dX7_retry_16, dX7_retry_17, dX7_retry_19, dX7_retry_22, by decide +kernel, pm_gin (i := 627) rfl rfl, pm_gin (i := 69) rfl rfl, ts_74_3, rfl, rfl, by decide, by decide +kernel, by decide +kernel⟩
set_option maxRecDepth 100000 in
theorem st_58_4 : pm_Site 58 4 1 := ⟨44, 82, 48, "from is below 0", _, _, tx_1, dX7_flood_4, dX7_flood_7, dX7_flood_8, dX7_flood_10, dX7_flood_13, by decide +kernel, pm_gin (i := 494) rfl rfl, pm_gin (i := 64) rfl rfl, ts_48_1, rfl, rfl, by decide, by decide +kernel, by decide +kernel⟩
set_option maxRecDepth 100000 in
theorem st_60_7 : pm_Site 60 7 1 := ⟨44, 93, 48, "no such replica", _, _, tx_1, dX7_patience_7, dX7_patience_10, dX7_patience_11, dX7_patience_13, dX7_patience_16, by decide +kernel, pm_gin (i := 494) rfl rfl, pm_gin (i := 64) rfl rfl, ts_48_1, rfl, rfl, by decide, by decide +kernel, by decide +kernel⟩
set_option maxRecDepth 100000 in
theorem st_61_26 : pm_Site 61 26 1 := ⟨44, 99, 48, "no such replica or request, or the faulty one", _, _, tx_1, dX7_lie_26, dX7_lie_29, dX7_lie_30, dX7_lie_32, dX7_lie_35, by decide +kernel, pm_gin (i := 494) rfl rfl, pm_gin (i := 64) rfl rfl, ts_48_1, rfl, rfl, by decide, by decide +kernel, by decide +kernel⟩
set_option maxRecDepth 100000 in
theorem st_62_28 : pm_Site 62 28 1 := ⟨44, 99, 48, "no such replica or request, or the faulty one", _, _, tx_1, dX7_echo_28, dX7_echo_31, dX7_echo_32, dX7_echo_34, dX7_echo_37, by decide +kernel, pm_gin (i := 494) rfl rfl, pm_gin (i := 64) rfl rfl, ts_48_1, rfl, rfl, by decide, by decide +kernel, by decide +kernel⟩
set_option maxRecDepth 100000 in
theorem st_63_75 : pm_Site 63 75 1 := ⟨44, 130, 48, "no such replica or what", _, _, tx_1, dX7_replica_75, dX7_replica_78, dX7_replica_79, dX7_replica_81, dX7_replica_84, by decide +kernel, pm_gin (i := 494) rfl rfl, pm_gin (i := 64) rfl rfl, ts_48_1, rfl, rfl, by decide, by decide +kernel, by decide +kernel⟩
set_option maxRecDepth 100000 in
theorem st_65_23 : pm_Site 65 23 3 := ⟨70, 142, 74, "no such message or what", _, _, tx_3, dX7_message_23, dX7_message_26, dX7_message_27, dX7_message_29, dX7_message_32, by decide +kernel, pm_gin (i := 627) rfl rfl, pm_gin (i := 69) rfl rfl, ts_74_3, rfl, rfl, by decide, by decide +kernel, by decide +kernel⟩
set_option maxRecDepth 100000 in
theorem st_66_22 : pm_Site 66 22 3 := ⟨70, 145, 74, "no such request or what", _, _, tx_3, dX7_request_22, dX7_request_25, dX7_request_26, dX7_request_28, dX7_request_31, by decide +kernel, pm_gin (i := 627) rfl rfl, pm_gin (i := 69) rfl rfl, ts_74_3, rfl, rfl, by decide, by decide +kernel, by decide +kernel⟩
theorem pm_thrs (j : Nat) : (pm_tb j).all (fun r => !pm_isT r || pm_thr.contains (j, r.1)) = true := by
  match j with
  | 0 => exact by decide +kernel
  | 1 => exact by decide +kernel
  | 2 => exact by decide +kernel
  | 3 => exact by decide +kernel
  | 4 => exact by decide +kernel
  | 5 => exact by decide +kernel
  | 6 => exact by decide +kernel
  | 7 => exact by decide +kernel
  | 8 => exact by decide +kernel
  | 9 => exact by decide +kernel
  | 10 => exact by decide +kernel
  | 11 => exact by decide +kernel
  | 12 => exact by decide +kernel
  | 13 => exact by decide +kernel
  | 14 => exact by decide +kernel
  | 15 => exact by decide +kernel
  | 16 => exact by decide +kernel
  | 17 => exact by decide +kernel
  | 18 => exact by decide +kernel
  | 19 => exact by decide +kernel
  | 20 => exact by decide +kernel
  | 21 => exact by decide +kernel
  | 22 => exact by decide +kernel
  | 23 => exact by decide +kernel
  | 24 => exact by decide +kernel
  | 25 => exact by decide +kernel
  | 26 => exact by decide +kernel
  | 27 => exact by decide +kernel
  | 28 => exact by decide +kernel
  | 29 => exact by decide +kernel
  | 30 => exact by decide +kernel
  | 31 => exact by decide +kernel
  | 32 => exact by decide +kernel
  | 33 => exact by decide +kernel
  | 34 => exact by decide +kernel
  | 35 => exact by decide +kernel
  | 36 => exact by decide +kernel
  | 37 => exact by decide +kernel
  | 38 => exact by decide +kernel
  | 39 => exact by decide +kernel
  | 40 => exact by decide +kernel
  | 41 => exact by decide +kernel
  | 42 => exact by decide +kernel
  | 43 => exact by decide +kernel
  | 44 => exact by decide +kernel
  | 45 => exact by decide +kernel
  | 46 => exact by decide +kernel
  | 47 => exact by decide +kernel
  | 48 => exact by decide +kernel
  | 49 => exact by decide +kernel
  | 50 => exact by decide +kernel
  | 51 => exact by decide +kernel
  | 52 => exact by decide +kernel
  | 53 => exact by decide +kernel
  | 54 => exact by decide +kernel
  | 55 => exact by decide +kernel
  | 56 => exact by decide +kernel
  | 57 => exact by decide +kernel
  | 58 => exact by decide +kernel
  | 59 => exact by decide +kernel
  | 60 => exact by decide +kernel
  | 61 => exact by decide +kernel
  | 62 => exact by decide +kernel
  | 63 => exact by decide +kernel
  | 64 => exact by decide +kernel
  | 65 => exact by decide +kernel
  | 66 => exact by decide +kernel
  | 67 => exact by decide +kernel
  | 68 => exact by decide +kernel
  | 69 => exact by decide +kernel
  | 70 => exact by decide +kernel
  | 71 => exact by decide +kernel
  | 72 => exact by decide +kernel
  | 73 => exact by decide +kernel
  | 74 => exact by decide +kernel
  | 75 => exact by decide +kernel
  | 76 => exact by decide +kernel
  | 77 => exact by decide +kernel
  | 78 => exact by decide +kernel
  | 79 => exact by decide +kernel
  | 80 => exact by decide +kernel
  | 81 => exact by decide +kernel
  | 82 => exact by decide +kernel
  | 83 => exact by decide +kernel
  | 84 => exact by decide +kernel
  | 85 => exact by decide +kernel
  | 86 => exact by decide +kernel
  | 87 => exact by decide +kernel
  | 88 => exact by decide +kernel
  | 89 => exact by decide +kernel
  | 90 => exact by decide +kernel
  | 91 => exact by decide +kernel
  | 92 => exact by decide +kernel
  | 93 => exact by decide +kernel
  | 94 => exact by decide +kernel
  | 95 => exact by decide +kernel
  | 96 => exact by decide +kernel
  | 97 => exact by decide +kernel
  | 98 => exact by decide +kernel
  | 99 => exact by decide +kernel
  | 100 => exact by decide +kernel
  | 101 => exact by decide +kernel
  | 102 => exact by decide +kernel
  | 103 => exact by decide +kernel
  | 104 => exact by decide +kernel
  | 105 => exact by decide +kernel
  | 106 => exact by decide +kernel
  | 107 => exact by decide +kernel
  | 108 => exact by decide +kernel
  | 109 => exact by decide +kernel
  | 110 => exact by decide +kernel
  | 111 => exact by decide +kernel
  | 112 => exact by decide +kernel
  | 113 => exact by decide +kernel
  | 114 => exact by decide +kernel
  | 115 => exact by decide +kernel
  | 116 => exact by decide +kernel
  | 117 => exact by decide +kernel
  | 118 => exact by decide +kernel
  | 119 => exact by decide +kernel
  | 120 => exact by decide +kernel
  | 121 => exact by decide +kernel
  | 122 => exact by decide +kernel
  | 123 => exact by decide +kernel
  | 124 => exact by decide +kernel
  | 125 => exact by decide +kernel
  | 126 => exact by decide +kernel
  | 127 => exact by decide +kernel
  | 128 => exact by decide +kernel
  | 129 => exact by decide +kernel
  | 130 => exact by decide +kernel
  | 131 => exact by decide +kernel
  | 132 => exact by decide +kernel
  | 133 => exact by decide +kernel
  | 134 => exact by decide +kernel
  | 135 => exact by decide +kernel
  | 136 => exact by decide +kernel
  | n + 137 =>
    have e : pm_tb (n + 137) = [] := by
      unfold pm_tb
      rw [List.getD_eq_getElem?_getD, List.getElem?_eq_none (by show pm_tbs.length ≤ n + 137; exact Nat.le_add_left _ _)]
      rfl
    rw [e]
    rfl
set_option maxRecDepth 100000 in
theorem pm_thr_st : ∀ q ∈ pm_thr, (!pm_ini q.1 && lw_tbl.all (fun w => decide (w ≠ Cond.static (pm_y q.1)))) = true := by decide +kernel
theorem pm_site {j x : Nat} {w : pm_S} (h : pm_ret j w = some (.inr x)) : pm_Site j w.1 x ∧ pm_sum w.2.2.1 ≤ 8 ∧ (j, w.1) ∈ pm_thr := by
  unfold pm_ret at h
  split at h
  · next r hr =>
    have hm := pm_at_row hr
    have ht := List.all_eq_true.mp (pm_thrs j) _ hm
    obtain ⟨ins, len, res⟩ := r
    have key : pm_isT (w.1, ins, len, res) = true ∧ res = [100 + x] ∧ pm_sum w.2.2.1 ≤ 8 := by
      unfold pm_out at h
      dsimp only at h
      split at h
      all_goals (try split at h)
      all_goals (try cases h)
      next hc =>
      refine ⟨decide_eq_true hc.1, ?_, ?_⟩
      · congr 1
        omega
      · first | exact hc.2 | (simp_all)
    obtain ⟨k1, k2, k3⟩ := key
    rw [k1] at ht
    have hin : (j, w.1) ∈ pm_thr := by simpa using ht
    refine ⟨?_, k3, hin⟩
    subst k2
    simp only [pm_thr, List.mem_cons, List.not_mem_nil, or_false, Prod.mk.injEq] at hin
    rcases hin with ⟨rfl, hp⟩ | ⟨rfl, hp⟩ | ⟨rfl, hp⟩ | ⟨rfl, hp⟩ | ⟨rfl, hp⟩ | ⟨rfl, hp⟩ | ⟨rfl, hp⟩ | ⟨rfl, hp⟩ | ⟨rfl, hp⟩ | ⟨rfl, hp⟩
    · rw [hp] at hr ⊢
      have e : pm_at 55 18 = some (.new 44, 3, [101]) := by decide +kernel
      rw [e] at hr
      have e2 : [101] = [100 + x] := congrArg (fun z : Instr × Nat × List Nat => z.2.2) (Option.some.inj hr)
      have e3 : x = 1 := by simp only [List.cons.injEq, and_true] at e2; omega
      subst e3
      exact st_55_18
    · rw [hp] at hr ⊢
      have e : pm_at 55 40 = some (.new 54, 3, [102]) := by decide +kernel
      rw [e] at hr
      have e2 : [102] = [100 + x] := congrArg (fun z : Instr × Nat × List Nat => z.2.2) (Option.some.inj hr)
      have e3 : x = 2 := by simp only [List.cons.injEq, and_true] at e2; omega
      subst e3
      exact st_55_40
    · rw [hp] at hr ⊢
      have e : pm_at 56 13 = some (.new 70, 3, [103]) := by decide +kernel
      rw [e] at hr
      have e2 : [103] = [100 + x] := congrArg (fun z : Instr × Nat × List Nat => z.2.2) (Option.some.inj hr)
      have e3 : x = 3 := by simp only [List.cons.injEq, and_true] at e2; omega
      subst e3
      exact st_56_13
    · rw [hp] at hr ⊢
      have e : pm_at 58 4 = some (.new 44, 3, [101]) := by decide +kernel
      rw [e] at hr
      have e2 : [101] = [100 + x] := congrArg (fun z : Instr × Nat × List Nat => z.2.2) (Option.some.inj hr)
      have e3 : x = 1 := by simp only [List.cons.injEq, and_true] at e2; omega
      subst e3
      exact st_58_4
    · rw [hp] at hr ⊢
      have e : pm_at 60 7 = some (.new 44, 3, [101]) := by decide +kernel
      rw [e] at hr
      have e2 : [101] = [100 + x] := congrArg (fun z : Instr × Nat × List Nat => z.2.2) (Option.some.inj hr)
      have e3 : x = 1 := by simp only [List.cons.injEq, and_true] at e2; omega
      subst e3
      exact st_60_7
    · rw [hp] at hr ⊢
      have e : pm_at 61 26 = some (.new 44, 3, [101]) := by decide +kernel
      rw [e] at hr
      have e2 : [101] = [100 + x] := congrArg (fun z : Instr × Nat × List Nat => z.2.2) (Option.some.inj hr)
      have e3 : x = 1 := by simp only [List.cons.injEq, and_true] at e2; omega
      subst e3
      exact st_61_26
    · rw [hp] at hr ⊢
      have e : pm_at 62 28 = some (.new 44, 3, [101]) := by decide +kernel
      rw [e] at hr
      have e2 : [101] = [100 + x] := congrArg (fun z : Instr × Nat × List Nat => z.2.2) (Option.some.inj hr)
      have e3 : x = 1 := by simp only [List.cons.injEq, and_true] at e2; omega
      subst e3
      exact st_62_28
    · rw [hp] at hr ⊢
      have e : pm_at 63 75 = some (.new 44, 3, [101]) := by decide +kernel
      rw [e] at hr
      have e2 : [101] = [100 + x] := congrArg (fun z : Instr × Nat × List Nat => z.2.2) (Option.some.inj hr)
      have e3 : x = 1 := by simp only [List.cons.injEq, and_true] at e2; omega
      subst e3
      exact st_63_75
    · rw [hp] at hr ⊢
      have e : pm_at 65 23 = some (.new 70, 3, [103]) := by decide +kernel
      rw [e] at hr
      have e2 : [103] = [100 + x] := congrArg (fun z : Instr × Nat × List Nat => z.2.2) (Option.some.inj hr)
      have e3 : x = 3 := by simp only [List.cons.injEq, and_true] at e2; omega
      subst e3
      exact st_65_23
    · rw [hp] at hr ⊢
      have e : pm_at 66 22 = some (.new 70, 3, [103]) := by decide +kernel
      rw [e] at hr
      have e2 : [103] = [100 + x] := congrArg (fun z : Instr × Nat × List Nat => z.2.2) (Option.some.inj hr)
      have e3 : x = 3 := by simp only [List.cons.injEq, and_true] at e2; omega
      subst e3
      exact st_66_22
  · cases h
