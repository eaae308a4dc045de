/-! ONE INSTRUCTION: the pure machine's step is the machine's -/
def pm_Fc (s : State) (D : va_G) (aC : Nat → ClassId) (b : Nat) (A : Nat → Prop) (nL nc0 ns0 : Nat) (ad : Nat → Nat) (lv : pm_L) (h : pm_H) (ls : Array Slot) (H : Heap) (locs : List Loc) (cells slots : Nat) : Prop :=
  va_P D vwCl (pm_ch b aC ad h.1) H ∧ va_D A (pm_ch b aC ad h.1) ∧ va_S A s.heap H locs ∧ lv_has ls nL (pm_cl b ad lv) ∧ cells + nc0 = h.2.1 ∧ slots + ns0 = h.2.2
def pm_Go (p : Program) (l : Launch) (e : Env) (R : Room) (s : State) (m : MethodId) (args : Array Value) (below : List Frame) (meth : Method) (c : Code) (Q : State → Prop) (D : va_G) (aC : Nat → ClassId) (b : Nat) (A : Nat → Prop) (nL nc0 ns0 : Nat) (s0 s1 : pm_S) : Prop :=
  ∀ (ad : Nat → Nat) (ls : Array Slot) (H : Heap) (locs : List Loc) (cells slots : Nat), pm_Fc s D aC b A nL nc0 ns0 ad s0.2.1 s0.2.2.2 ls H locs cells slots → pm_ok s0.2.1 s0.2.2.1 s0.2.2.2.1 → s1.2.2.2.2.1 ≤ nc0 + R.cells → s1.2.2.2.2.2 ≤ ns0 + R.slots →
    (∀ (ad' : Nat → Nat) (ls' : Array Slot) (H' : Heap) (locs' : List Loc) (cells' slots' : Nat), (∀ k, k < s0.2.2.2.1.length → ad' k = ad k) → pm_Fc s D aC b A nL nc0 ns0 ad' s1.2.1 s1.2.2.2 ls' H' locs' cells' slots' → W p l e R s m args below meth c H' locs' cells' slots' Q (F0 m s1.1 ls' (s1.2.2.1.map (pm_cv b ad')))) →
    W p l e R s m args below meth c H locs cells slots Q (F0 m s0.1 ls (s0.2.2.1.map (pm_cv b ad)))
section PO
variable {p : Program} {l : Launch} {e : Env} {R : Room} {s : State} {m : MethodId} {args : Array Value} {below : List Frame} {meth : Method} {c : Code} {Q : State → Prop}
variable {D : va_G} {aC : Nat → ClassId} {b : Nat} {sc : pm_Sc} {A : Nat → Prop} {nL nc0 ns0 : Nat} {cc : ByteArray} {own : String} {pc : Nat} {lv : pm_L} {r : List Value} {h : pm_H}
theorem po_null (hx : p.tables.exec = Jvm.exec) (hb : c.code = cc)  (hd : decode cc pc = .ok (.aconst_null, 1)) : pm_Go p l e R s m args below meth c Q D aC b A nL nc0 ns0 (pc, lv, r, h) (pc + 1, lv, .null :: r, h) :=
  fun ad ls H locs cells slots F O _ _ kk => lv_null hx hb hd (kk ad ls H locs cells slots (fun _ _ => rfl) F)
theorem po_iconst (hx : p.tables.exec = Jvm.exec) (hb : c.code = cc) {n : Int} (hd : decode cc pc = .ok (.iconst n, 1)) : pm_Go p l e R s m args below meth c Q D aC b A nL nc0 ns0 (pc, lv, r, h) (pc + 1, lv, .int (Int32.ofInt n) :: r, h) :=
  fun ad ls H locs cells slots F O _ _ kk => lv_iconst hx hb hd rfl (kk ad ls H locs cells slots (fun _ _ => rfl) F)
theorem po_bipush (hx : p.tables.exec = Jvm.exec) (hb : c.code = cc) {n : Int} (hd : decode cc pc = .ok (.bipush n, 2)) : pm_Go p l e R s m args below meth c Q D aC b A nL nc0 ns0 (pc, lv, r, h) (pc + 2, lv, .int (Int8.ofInt n).toInt32 :: r, h) :=
  fun ad ls H locs cells slots F O _ _ kk => lv_bipush hx hb hd rfl (kk ad ls H locs cells slots (fun _ _ => rfl) F)
theorem po_sipush (hx : p.tables.exec = Jvm.exec) (hb : c.code = cc) {n : Int} (hd : decode cc pc = .ok (.sipush n, 3)) : pm_Go p l e R s m args below meth c Q D aC b A nL nc0 ns0 (pc, lv, r, h) (pc + 3, lv, .int (Int16.ofInt n).toInt32 :: r, h) :=
  fun ad ls H locs cells slots F O _ _ kk => lv_sipush hx hb hd rfl (kk ad ls H locs cells slots (fun _ _ => rfl) F)
theorem po_lconst (hx : p.tables.exec = Jvm.exec) (hb : c.code = cc) {n : Fin 2} (hd : decode cc pc = .ok (.lconst n, 1)) : pm_Go p l e R s m args below meth c Q D aC b A nL nc0 ns0 (pc, lv, r, h) (pc + 1, lv, .long (Int64.ofNat (n : Nat)) :: r, h) :=
  fun ad ls H locs cells slots F O _ _ kk => lv_lconst hx hb hd rfl (kk ad ls H locs cells slots (fun _ _ => rfl) F)
theorem po_ldcw (hx : p.tables.exec = Jvm.exec) (hb : c.code = cc) {i : Nat} {v : Int32} (hown : s.vm.findClass own = some m.cls) (hk : (Jvm.Cond.constant own i v).before args s = true) (hd : decode cc pc = .ok (.ldc_w i, 3)) : pm_Go p l e R s m args below meth c Q D aC b A nL nc0 ns0 (pc, lv, r, h) (pc + 3, lv, .int v :: r, h) :=
  fun ad ls H locs cells slots F O _ _ kk => lv_ldcw hx hb hown hk hd (kk ad ls H locs cells slots (fun _ _ => rfl) F)
theorem po_ldc2 (hx : p.tables.exec = Jvm.exec) (hb : c.code = cc) {i : Nat} {v : Int64} (hown : s.vm.findClass own = some m.cls) (hk : (Jvm.Cond.constantLong own i v).before args s = true) (hd : decode cc pc = .ok (.ldc2_w i, 3)) : pm_Go p l e R s m args below meth c Q D aC b A nL nc0 ns0 (pc, lv, r, h) (pc + 3, lv, .long v :: r, h) :=
  fun ad ls H locs cells slots F O _ _ kk => lv_ldc2 hx hb hown hk hd (kk ad ls H locs cells slots (fun _ _ => rfl) F)
theorem po_iload_n (hx : p.tables.exec = Jvm.exec) (hb : c.code = cc) {k : Fin 4} {x : Int32} (hl : pm_ld lv k = some (.int x)) (hd : decode cc pc = .ok (.iload_n k, 1)) : pm_Go p l e R s m args below meth c Q D aC b A nL nc0 ns0 (pc, lv, r, h) (pc + 1, lv, .int x :: r, h) :=
  fun ad ls H locs cells slots F O _ _ kk => lv_iload_n hx hb hd rfl (pm_ld_slot F.2.2.2.1 hl) (kk ad ls H locs cells slots (fun _ _ => rfl) F)
theorem po_iload (hx : p.tables.exec = Jvm.exec) (hb : c.code = cc) {k : Nat} {x : Int32} (hl : pm_ld lv k = some (.int x)) (hd : decode cc pc = .ok (.iload k, 2)) : pm_Go p l e R s m args below meth c Q D aC b A nL nc0 ns0 (pc, lv, r, h) (pc + 2, lv, .int x :: r, h) :=
  fun ad ls H locs cells slots F O _ _ kk => lv_iload hx hb hd (pm_ld_slot F.2.2.2.1 hl) (kk ad ls H locs cells slots (fun _ _ => rfl) F)
theorem po_lload_n (hx : p.tables.exec = Jvm.exec) (hb : c.code = cc) {k : Fin 4} {x : Int64} (hl : pm_ld lv k = some (.long x)) (hd : decode cc pc = .ok (.lload_n k, 1)) : pm_Go p l e R s m args below meth c Q D aC b A nL nc0 ns0 (pc, lv, r, h) (pc + 1, lv, .long x :: r, h) :=
  fun ad ls H locs cells slots F O _ _ kk => lv_lload_n hx hb hd rfl (pm_ld_slot F.2.2.2.1 hl) (kk ad ls H locs cells slots (fun _ _ => rfl) F)
theorem po_lload (hx : p.tables.exec = Jvm.exec) (hb : c.code = cc) {k : Nat} {x : Int64} (hl : pm_ld lv k = some (.long x)) (hd : decode cc pc = .ok (.lload k, 2)) : pm_Go p l e R s m args below meth c Q D aC b A nL nc0 ns0 (pc, lv, r, h) (pc + 2, lv, .long x :: r, h) :=
  fun ad ls H locs cells slots F O _ _ kk => lv_lload hx hb hd (pm_ld_slot F.2.2.2.1 hl) (kk ad ls H locs cells slots (fun _ _ => rfl) F)
theorem po_aload_n (hx : p.tables.exec = Jvm.exec) (hb : c.code = cc) {k : Fin 4} {x : Nat} (hl : pm_ld lv k = some (.ref x)) (hd : decode cc pc = .ok (.aload_n k, 1)) : pm_Go p l e R s m args below meth c Q D aC b A nL nc0 ns0 (pc, lv, r, h) (pc + 1, lv, .ref x :: r, h) :=
  fun ad ls H locs cells slots F O _ _ kk => lv_aload_n hx hb hd rfl (pm_ld_slot F.2.2.2.1 hl) (kk ad ls H locs cells slots (fun _ _ => rfl) F)
theorem po_aload (hx : p.tables.exec = Jvm.exec) (hb : c.code = cc) {k : Nat} {x : Nat} (hl : pm_ld lv k = some (.ref x)) (hd : decode cc pc = .ok (.aload k, 2)) : pm_Go p l e R s m args below meth c Q D aC b A nL nc0 ns0 (pc, lv, r, h) (pc + 2, lv, .ref x :: r, h) :=
  fun ad ls H locs cells slots F O _ _ kk => lv_aload hx hb hd (pm_ld_slot F.2.2.2.1 hl) (kk ad ls H locs cells slots (fun _ _ => rfl) F)
theorem po_aload_nN (hx : p.tables.exec = Jvm.exec) (hb : c.code = cc) {k : Fin 4} (hl : pm_ld lv k = some .null) (hd : decode cc pc = .ok (.aload_n k, 1)) : pm_Go p l e R s m args below meth c Q D aC b A nL nc0 ns0 (pc, lv, r, h) (pc + 1, lv, .null :: r, h) :=
  fun ad ls H locs cells slots F O _ _ kk => lv_aload_nN hx hb hd rfl (pm_ld_slot F.2.2.2.1 hl) (kk ad ls H locs cells slots (fun _ _ => rfl) F)
theorem po_aloadN (hx : p.tables.exec = Jvm.exec) (hb : c.code = cc) {k : Nat} (hl : pm_ld lv k = some .null) (hd : decode cc pc = .ok (.aload k, 2)) : pm_Go p l e R s m args below meth c Q D aC b A nL nc0 ns0 (pc, lv, r, h) (pc + 2, lv, .null :: r, h) :=
  fun ad ls H locs cells slots F O _ _ kk => lv_aloadN hx hb hd (pm_ld_slot F.2.2.2.1 hl) (kk ad ls H locs cells slots (fun _ _ => rfl) F)
theorem po_aload_nS (hx : p.tables.exec = Jvm.exec) (hb : c.code = cc) {k : Fin 4} {x : Nat} (hl : pm_ld lv k = some (.retAddr x)) (hd : decode cc pc = .ok (.aload_n k, 1)) : pm_Go p l e R s m args below meth c Q D aC b A nL nc0 ns0 (pc, lv, r, h) (pc + 1, lv, .retAddr x :: r, h) :=
  fun ad ls H locs cells slots F O _ _ kk => lv_aload_n hx hb hd rfl (pm_ld_slot F.2.2.2.1 hl) (kk ad ls H locs cells slots (fun _ _ => rfl) F)
theorem po_aloadS (hx : p.tables.exec = Jvm.exec) (hb : c.code = cc) {k : Nat} {x : Nat} (hl : pm_ld lv k = some (.retAddr x)) (hd : decode cc pc = .ok (.aload k, 2)) : pm_Go p l e R s m args below meth c Q D aC b A nL nc0 ns0 (pc, lv, r, h) (pc + 2, lv, .retAddr x :: r, h) :=
  fun ad ls H locs cells slots F O _ _ kk => lv_aload hx hb hd (pm_ld_slot F.2.2.2.1 hl) (kk ad ls H locs cells slots (fun _ _ => rfl) F)
theorem po_istore_n (hx : p.tables.exec = Jvm.exec) (hb : c.code = cc) {k : Fin 4} {x : Int32} (hd : decode cc pc = .ok (.istore_n k, 1)) (hn : (k : Nat) < nL) : pm_Go p l e R s m args below meth c Q D aC b A nL nc0 ns0 (pc, lv, .int x :: r, h) (pc + 1, pm_s1 lv k (.int x), r, h) :=
  fun ad ls H locs cells slots F O _ _ kk => lv_istore_n hx hb hd rfl F.2.2.2.1 hn (pm_s1_cl b ad lv k (.int x)) (fun ls' hl' => kk ad ls' H locs cells slots (fun _ _ => rfl) ⟨F.1, F.2.1, F.2.2.1, hl', F.2.2.2.2⟩)
theorem po_istore (hx : p.tables.exec = Jvm.exec) (hb : c.code = cc) {k : Nat} {x : Int32} (hd : decode cc pc = .ok (.istore k, 2)) (hn : k < nL) : pm_Go p l e R s m args below meth c Q D aC b A nL nc0 ns0 (pc, lv, .int x :: r, h) (pc + 2, pm_s1 lv k (.int x), r, h) :=
  fun ad ls H locs cells slots F O _ _ kk => lv_istore hx hb hd F.2.2.2.1 hn (pm_s1_cl b ad lv k (.int x)) (fun ls' hl' => kk ad ls' H locs cells slots (fun _ _ => rfl) ⟨F.1, F.2.1, F.2.2.1, hl', F.2.2.2.2⟩)
theorem po_lstore_n (hx : p.tables.exec = Jvm.exec) (hb : c.code = cc) {k : Fin 4} {x : Int64} (hd : decode cc pc = .ok (.lstore_n k, 1)) (hn : (k : Nat) + 1 < nL) : pm_Go p l e R s m args below meth c Q D aC b A nL nc0 ns0 (pc, lv, .long x :: r, h) (pc + 1, pm_s2 lv k (.long x), r, h) :=
  fun ad ls H locs cells slots F O _ _ kk => lv_lstore_n hx hb hd rfl F.2.2.2.1 hn (pm_s2_cl b ad lv k (.long x)) (fun ls' hl' => kk ad ls' H locs cells slots (fun _ _ => rfl) ⟨F.1, F.2.1, F.2.2.1, hl', F.2.2.2.2⟩)
theorem po_lstore (hx : p.tables.exec = Jvm.exec) (hb : c.code = cc) {k : Nat} {x : Int64} (hd : decode cc pc = .ok (.lstore k, 2)) (hn : k + 1 < nL) : pm_Go p l e R s m args below meth c Q D aC b A nL nc0 ns0 (pc, lv, .long x :: r, h) (pc + 2, pm_s2 lv k (.long x), r, h) :=
  fun ad ls H locs cells slots F O _ _ kk => lv_lstore hx hb hd F.2.2.2.1 hn (pm_s2_cl b ad lv k (.long x)) (fun ls' hl' => kk ad ls' H locs cells slots (fun _ _ => rfl) ⟨F.1, F.2.1, F.2.2.1, hl', F.2.2.2.2⟩)
theorem po_astore_n (hx : p.tables.exec = Jvm.exec) (hb : c.code = cc) {k : Fin 4} {x : Nat} (hd : decode cc pc = .ok (.astore_n k, 1)) (hn : (k : Nat) < nL) : pm_Go p l e R s m args below meth c Q D aC b A nL nc0 ns0 (pc, lv, .ref x :: r, h) (pc + 1, pm_s1 lv k (.ref x), r, h) :=
  fun ad ls H locs cells slots F O _ _ kk => lv_astore_n hx hb hd rfl F.2.2.2.1 hn (pm_s1_cl b ad lv k (.ref x)) (fun ls' hl' => kk ad ls' H locs cells slots (fun _ _ => rfl) ⟨F.1, F.2.1, F.2.2.1, hl', F.2.2.2.2⟩)
theorem po_astore (hx : p.tables.exec = Jvm.exec) (hb : c.code = cc) {k : Nat} {x : Nat} (hd : decode cc pc = .ok (.astore k, 2)) (hn : k < nL) : pm_Go p l e R s m args below meth c Q D aC b A nL nc0 ns0 (pc, lv, .ref x :: r, h) (pc + 2, pm_s1 lv k (.ref x), r, h) :=
  fun ad ls H locs cells slots F O _ _ kk => lv_astore hx hb hd F.2.2.2.1 hn (pm_s1_cl b ad lv k (.ref x)) (fun ls' hl' => kk ad ls' H locs cells slots (fun _ _ => rfl) ⟨F.1, F.2.1, F.2.2.1, hl', F.2.2.2.2⟩)
theorem po_astore_nN (hx : p.tables.exec = Jvm.exec) (hb : c.code = cc) {k : Fin 4} (hd : decode cc pc = .ok (.astore_n k, 1)) (hn : (k : Nat) < nL) : pm_Go p l e R s m args below meth c Q D aC b A nL nc0 ns0 (pc, lv, .null :: r, h) (pc + 1, pm_s1 lv k (.null), r, h) :=
  fun ad ls H locs cells slots F O _ _ kk => lv_astore_nN hx hb hd rfl F.2.2.2.1 hn (pm_s1_cl b ad lv k .null) (fun ls' hl' => kk ad ls' H locs cells slots (fun _ _ => rfl) ⟨F.1, F.2.1, F.2.2.1, hl', F.2.2.2.2⟩)
theorem po_astoreN (hx : p.tables.exec = Jvm.exec) (hb : c.code = cc) {k : Nat} (hd : decode cc pc = .ok (.astore k, 2)) (hn : k < nL) : pm_Go p l e R s m args below meth c Q D aC b A nL nc0 ns0 (pc, lv, .null :: r, h) (pc + 2, pm_s1 lv k (.null), r, h) :=
  fun ad ls H locs cells slots F O _ _ kk => lv_astoreN hx hb hd F.2.2.2.1 hn (pm_s1_cl b ad lv k .null) (fun ls' hl' => kk ad ls' H locs cells slots (fun _ _ => rfl) ⟨F.1, F.2.1, F.2.2.1, hl', F.2.2.2.2⟩)
theorem po_iinc (hx : p.tables.exec = Jvm.exec) (hb : c.code = cc) {k : Nat} {n : Int} {x : Int32} (hd : decode cc pc = .ok (.iinc k n, 3)) (hl : pm_ld lv k = some (.int x)) (hn : k < nL) : pm_Go p l e R s m args below meth c Q D aC b A nL nc0 ns0 (pc, lv, r, h) (pc + 3, pm_s1 lv k (.int (x + Int32.ofInt n)), r, h) := by
  intro ad ls H locs cells slots F O _ _ kk
  obtain ⟨q, hq⟩ := pm_ld_at (b := b) (ad := ad) hl
  exact lv_iinc hx hb hd F.2.2.2.1 hq rfl hn (pm_s1_cl b ad lv k (.int (x + Int32.ofInt n))) (fun ls' hl' => kk ad ls' H locs cells slots (fun _ _ => rfl) ⟨F.1, F.2.1, F.2.2.1, hl', F.2.2.2.2⟩)
theorem po_iadd (hx : p.tables.exec = Jvm.exec) (hb : c.code = cc) {x y : Int32} (hd : decode cc pc = .ok (.iadd, 1)) : pm_Go p l e R s m args below meth c Q D aC b A nL nc0 ns0 (pc, lv, .int y :: .int x :: r, h) (pc + 1, lv, .int (x + y) :: r, h) :=
  fun ad ls H locs cells slots F O _ _ kk => lv_iadd hx hb hd (kk ad ls H locs cells slots (fun _ _ => rfl) F)
theorem po_isub (hx : p.tables.exec = Jvm.exec) (hb : c.code = cc) {x y : Int32} (hd : decode cc pc = .ok (.isub, 1)) : pm_Go p l e R s m args below meth c Q D aC b A nL nc0 ns0 (pc, lv, .int y :: .int x :: r, h) (pc + 1, lv, .int (x - y) :: r, h) :=
  fun ad ls H locs cells slots F O _ _ kk => lv_isub hx hb hd (kk ad ls H locs cells slots (fun _ _ => rfl) F)
theorem po_imul (hx : p.tables.exec = Jvm.exec) (hb : c.code = cc) {x y : Int32} (hd : decode cc pc = .ok (.imul, 1)) : pm_Go p l e R s m args below meth c Q D aC b A nL nc0 ns0 (pc, lv, .int y :: .int x :: r, h) (pc + 1, lv, .int (x * y) :: r, h) :=
  fun ad ls H locs cells slots F O _ _ kk => lv_imul hx hb hd (kk ad ls H locs cells slots (fun _ _ => rfl) F)
theorem po_iand (hx : p.tables.exec = Jvm.exec) (hb : c.code = cc) {x y : Int32} (hd : decode cc pc = .ok (.iand, 1)) : pm_Go p l e R s m args below meth c Q D aC b A nL nc0 ns0 (pc, lv, .int y :: .int x :: r, h) (pc + 1, lv, .int (x &&& y) :: r, h) :=
  fun ad ls H locs cells slots F O _ _ kk => lv_iand hx hb hd (kk ad ls H locs cells slots (fun _ _ => rfl) F)
theorem po_ior (hx : p.tables.exec = Jvm.exec) (hb : c.code = cc) {x y : Int32} (hd : decode cc pc = .ok (.ior, 1)) : pm_Go p l e R s m args below meth c Q D aC b A nL nc0 ns0 (pc, lv, .int y :: .int x :: r, h) (pc + 1, lv, .int (x ||| y) :: r, h) :=
  fun ad ls H locs cells slots F O _ _ kk => lv_ior hx hb hd (kk ad ls H locs cells slots (fun _ _ => rfl) F)
theorem po_ixor (hx : p.tables.exec = Jvm.exec) (hb : c.code = cc) {x y : Int32} (hd : decode cc pc = .ok (.ixor, 1)) : pm_Go p l e R s m args below meth c Q D aC b A nL nc0 ns0 (pc, lv, .int y :: .int x :: r, h) (pc + 1, lv, .int (x ^^^ y) :: r, h) :=
  fun ad ls H locs cells slots F O _ _ kk => lv_ixor hx hb hd (kk ad ls H locs cells slots (fun _ _ => rfl) F)
theorem po_ishl (hx : p.tables.exec = Jvm.exec) (hb : c.code = cc) {x y : Int32} (hd : decode cc pc = .ok (.ishl, 1)) : pm_Go p l e R s m args below meth c Q D aC b A nL nc0 ns0 (pc, lv, .int y :: .int x :: r, h) (pc + 1, lv, .int (x <<< (y &&& 31)) :: r, h) :=
  fun ad ls H locs cells slots F O _ _ kk => lv_ishl hx hb hd (kk ad ls H locs cells slots (fun _ _ => rfl) F)
theorem po_ishr (hx : p.tables.exec = Jvm.exec) (hb : c.code = cc) {x y : Int32} (hd : decode cc pc = .ok (.ishr, 1)) : pm_Go p l e R s m args below meth c Q D aC b A nL nc0 ns0 (pc, lv, .int y :: .int x :: r, h) (pc + 1, lv, .int (x >>> (y &&& 31)) :: r, h) :=
  fun ad ls H locs cells slots F O _ _ kk => lv_ishr hx hb hd (kk ad ls H locs cells slots (fun _ _ => rfl) F)
theorem po_irem (hx : p.tables.exec = Jvm.exec) (hb : c.code = cc) {x y : Int32} (hne : ¬ y = 0) (hd : decode cc pc = .ok (.irem, 1)) : pm_Go p l e R s m args below meth c Q D aC b A nL nc0 ns0 (pc, lv, .int y :: .int x :: r, h) (pc + 1, lv, .int (x - x / y * y) :: r, h) :=
  fun ad ls H locs cells slots F O _ _ kk => lv_irem hx hb hd hne (kk ad ls H locs cells slots (fun _ _ => rfl) F)
theorem po_iushr (hx : p.tables.exec = Jvm.exec) (hb : c.code = cc) {x y : Int32} (hd : decode cc pc = .ok (.iushr, 1)) : pm_Go p l e R s m args below meth c Q D aC b A nL nc0 ns0 (pc, lv, .int y :: .int x :: r, h) (pc + 1, lv, .int ((x.toUInt32 >>> (y.toUInt32 &&& Int32.toUInt32 31)).toInt32) :: r, h) :=
  fun ad ls H locs cells slots F O _ _ kk => lv_iushr hx hb hd rfl (kk ad ls H locs cells slots (fun _ _ => rfl) F)
theorem po_lsub (hx : p.tables.exec = Jvm.exec) (hb : c.code = cc) {x y : Int64} (hd : decode cc pc = .ok (.lsub, 1)) : pm_Go p l e R s m args below meth c Q D aC b A nL nc0 ns0 (pc, lv, .long y :: .long x :: r, h) (pc + 1, lv, .long (x - y) :: r, h) :=
  fun ad ls H locs cells slots F O _ _ kk => lv_lsub hx hb hd (kk ad ls H locs cells slots (fun _ _ => rfl) F)
theorem po_land (hx : p.tables.exec = Jvm.exec) (hb : c.code = cc) {x y : Int64} (hd : decode cc pc = .ok (.land, 1)) : pm_Go p l e R s m args below meth c Q D aC b A nL nc0 ns0 (pc, lv, .long y :: .long x :: r, h) (pc + 1, lv, .long (x &&& y) :: r, h) :=
  fun ad ls H locs cells slots F O _ _ kk => lv_land hx hb hd (kk ad ls H locs cells slots (fun _ _ => rfl) F)
theorem po_lor (hx : p.tables.exec = Jvm.exec) (hb : c.code = cc) {x y : Int64} (hd : decode cc pc = .ok (.lor, 1)) : pm_Go p l e R s m args below meth c Q D aC b A nL nc0 ns0 (pc, lv, .long y :: .long x :: r, h) (pc + 1, lv, .long (x ||| y) :: r, h) :=
  fun ad ls H locs cells slots F O _ _ kk => lv_lor hx hb hd (kk ad ls H locs cells slots (fun _ _ => rfl) F)
theorem po_lshl (hx : p.tables.exec = Jvm.exec) (hb : c.code = cc) {x : Int64} {y : Int32} (hd : decode cc pc = .ok (.lshl, 1)) : pm_Go p l e R s m args below meth c Q D aC b A nL nc0 ns0 (pc, lv, .int y :: .long x :: r, h) (pc + 1, lv, .long (x <<< (y.toInt64 &&& 63)) :: r, h) :=
  fun ad ls H locs cells slots F O _ _ kk => lv_lshl hx hb hd rfl (kk ad ls H locs cells slots (fun _ _ => rfl) F)
theorem po_lshr (hx : p.tables.exec = Jvm.exec) (hb : c.code = cc) {x : Int64} {y : Int32} (hd : decode cc pc = .ok (.lshr, 1)) : pm_Go p l e R s m args below meth c Q D aC b A nL nc0 ns0 (pc, lv, .int y :: .long x :: r, h) (pc + 1, lv, .long (x >>> (y.toInt64 &&& 63)) :: r, h) :=
  fun ad ls H locs cells slots F O _ _ kk => lv_lshr hx hb hd rfl (kk ad ls H locs cells slots (fun _ _ => rfl) F)
theorem po_i2l (hx : p.tables.exec = Jvm.exec) (hb : c.code = cc) {x : Int32} (hd : decode cc pc = .ok (.i2l, 1)) : pm_Go p l e R s m args below meth c Q D aC b A nL nc0 ns0 (pc, lv, .int x :: r, h) (pc + 1, lv, .long x.toInt64 :: r, h) :=
  fun ad ls H locs cells slots F O _ _ kk => lv_i2l hx hb hd rfl (kk ad ls H locs cells slots (fun _ _ => rfl) F)
theorem po_l2i (hx : p.tables.exec = Jvm.exec) (hb : c.code = cc) {x : Int64} (hd : decode cc pc = .ok (.l2i, 1)) : pm_Go p l e R s m args below meth c Q D aC b A nL nc0 ns0 (pc, lv, .long x :: r, h) (pc + 1, lv, .int x.toInt32 :: r, h) :=
  fun ad ls H locs cells slots F O _ _ kk => lv_l2i hx hb hd rfl (kk ad ls H locs cells slots (fun _ _ => rfl) F)
theorem po_lcmp (hx : p.tables.exec = Jvm.exec) (hb : c.code = cc) {x y : Int64} (hd : decode cc pc = .ok (.lcmp, 1)) : pm_Go p l e R s m args below meth c Q D aC b A nL nc0 ns0 (pc, lv, .long y :: .long x :: r, h) (pc + 1, lv, .int (lg_cmp x y) :: r, h) :=
  fun ad ls H locs cells slots F O _ _ kk => W.lcmp hx hb hd (kk ad ls H locs cells slots (fun _ _ => rfl) F)
theorem po_dup (hx : p.tables.exec = Jvm.exec) (hb : c.code = cc) {v : Value} (hv : v.category = 1) (hd : decode cc pc = .ok (.dup, 1)) : pm_Go p l e R s m args below meth c Q D aC b A nL nc0 ns0 (pc, lv, v :: r, h) (pc + 1, lv, v :: v :: r, h) :=
  fun ad ls H locs cells slots F O _ _ kk => lv_dup hx hb hd ((pm_cv_cat b ad v).trans hv) (kk ad ls H locs cells slots (fun _ _ => rfl) F)
theorem po_pop (hx : p.tables.exec = Jvm.exec) (hb : c.code = cc) {v : Value} (hv : v.category = 1) (hd : decode cc pc = .ok (.pop, 1)) : pm_Go p l e R s m args below meth c Q D aC b A nL nc0 ns0 (pc, lv, v :: r, h) (pc + 1, lv, r, h) :=
  fun ad ls H locs cells slots F O _ _ kk => lv_pop hx hb hd ((pm_cv_cat b ad v).trans hv) (kk ad ls H locs cells slots (fun _ _ => rfl) F)
theorem po_dup2 (hx : p.tables.exec = Jvm.exec) (hb : c.code = cc) {v w : Value} (hv : v.category = 1) (hw : w.category = 1) (hd : decode cc pc = .ok (.dup2, 1)) : pm_Go p l e R s m args below meth c Q D aC b A nL nc0 ns0 (pc, lv, v :: w :: r, h) (pc + 1, lv, v :: w :: v :: w :: r, h) :=
  fun ad ls H locs cells slots F O _ _ kk => lv_dup2_11 hx hb hd ((pm_cv_cat b ad v).trans hv) ((pm_cv_cat b ad w).trans hw) (kk ad ls H locs cells slots (fun _ _ => rfl) F)
theorem po_goto (hx : p.tables.exec = Jvm.exec) (hb : c.code = cc) {off : Int} {t : Nat} (ht : pm_br pc off = some t) (hd : decode cc pc = .ok (.goto off, 3)) : pm_Go p l e R s m args below meth c Q D aC b A nL nc0 ns0 (pc, lv, r, h) (t, lv, r, h) :=
  fun ad ls H locs cells slots F O _ _ kk => lv_goto hx hb hd (pm_br_eq ht) (kk ad ls H locs cells slots (fun _ _ => rfl) F)
theorem po_ifnullN (hx : p.tables.exec = Jvm.exec) (hb : c.code = cc) {off : Int} {t : Nat} (ht : pm_br pc off = some t) (hd : decode cc pc = .ok (.ifnull off, 3)) : pm_Go p l e R s m args below meth c Q D aC b A nL nc0 ns0 (pc, lv, .null :: r, h) (t, lv, r, h) :=
  fun ad ls H locs cells slots F O _ _ kk => lv_ifnullN hx hb hd (pm_br_eq ht) (kk ad ls H locs cells slots (fun _ _ => rfl) F)
theorem po_ifnull (hx : p.tables.exec = Jvm.exec) (hb : c.code = cc) {off : Int} {x : Nat} (hd : decode cc pc = .ok (.ifnull off, 3)) : pm_Go p l e R s m args below meth c Q D aC b A nL nc0 ns0 (pc, lv, .ref x :: r, h) (pc + 3, lv, r, h) :=
  fun ad ls H locs cells slots F O _ _ kk => lv_ifnull hx hb hd (kk ad ls H locs cells slots (fun _ _ => rfl) F)
theorem po_ifnonnull (hx : p.tables.exec = Jvm.exec) (hb : c.code = cc) {off : Int} {t x : Nat} (ht : pm_br pc off = some t) (hd : decode cc pc = .ok (.ifnonnull off, 3)) : pm_Go p l e R s m args below meth c Q D aC b A nL nc0 ns0 (pc, lv, .ref x :: r, h) (t, lv, r, h) :=
  fun ad ls H locs cells slots F O _ _ kk => lv_ifnonnull hx hb hd (pm_br_eq ht) (kk ad ls H locs cells slots (fun _ _ => rfl) F)
theorem po_ifnonnullN (hx : p.tables.exec = Jvm.exec) (hb : c.code = cc) {off : Int} (hd : decode cc pc = .ok (.ifnonnull off, 3)) : pm_Go p l e R s m args below meth c Q D aC b A nL nc0 ns0 (pc, lv, .null :: r, h) (pc + 3, lv, r, h) :=
  fun ad ls H locs cells slots F O _ _ kk => lv_ifnonnullN hx hb hd (kk ad ls H locs cells slots (fun _ _ => rfl) F)
theorem po_ifCond (hx : p.tables.exec = Jvm.exec) (hb : c.code = cc) {q : ClassFile.Cond} {off : Int} {t : Nat} {x : Int32} (hd : decode cc pc = .ok (.ifCond q off, 3)) (ht : pm_br pc off = some t) : pm_Go p l e R s m args below meth c Q D aC b A nL nc0 ns0 (pc, lv, .int x :: r, h) (if pm_cmp q x 0 = true then t else pc + 3, lv, r, h) := by
  intro ad ls H locs cells slots F O _ _ kk
  have k2 := kk ad ls H locs cells slots (fun _ _ => rfl) F
  cases q
  · exact lv_if_eq hx hb hd (pm_br_eq ht) (fun hc => by
      have e1 : pm_cmp .eq x 0 = true := decide_eq_true hc
      simp only [e1, if_true] at k2; exact k2) (fun hc => by
      have e1 : ¬ pm_cmp .eq x 0 = true := fun z => hc (of_decide_eq_true z)
      simp only [e1, if_false] at k2; exact k2)
  · exact lv_if_ne hx hb hd (pm_br_eq ht) (fun hc => by
      have e1 : pm_cmp .ne x 0 = true := decide_eq_true hc
      simp only [e1, if_true] at k2; exact k2) (fun hc => by
      have e1 : ¬ pm_cmp .ne x 0 = true := fun z => (of_decide_eq_true z) hc
      simp only [e1, if_false] at k2; exact k2)
  · exact lv_if_lt hx hb hd (pm_br_eq ht) (fun hc => by
      have e1 : pm_cmp .lt x 0 = true := decide_eq_true hc
      simp only [e1, if_true] at k2; exact k2) (fun hc => by
      have e1 : ¬ pm_cmp .lt x 0 = true := fun z => hc (of_decide_eq_true z)
      simp only [e1, if_false] at k2; exact k2)
  · exact lv_if_ge hx hb hd (pm_br_eq ht) (fun hc => by
      have e1 : pm_cmp .ge x 0 = true := decide_eq_true hc
      simp only [e1, if_true] at k2; exact k2) (fun hc => by
      have e1 : ¬ pm_cmp .ge x 0 = true := fun z => hc (of_decide_eq_true z)
      simp only [e1, if_false] at k2; exact k2)
  · exact lv_if_gt hx hb hd (pm_br_eq ht) (fun hc => by
      have e1 : pm_cmp .gt x 0 = true := decide_eq_true hc
      simp only [e1, if_true] at k2; exact k2) (fun hc => by
      have e1 : ¬ pm_cmp .gt x 0 = true := fun z => hc (of_decide_eq_true z)
      simp only [e1, if_false] at k2; exact k2)
  · exact lv_if_le hx hb hd (pm_br_eq ht) (fun hc => by
      have e1 : pm_cmp .le x 0 = true := decide_eq_true hc
      simp only [e1, if_true] at k2; exact k2) (fun hc => by
      have e1 : ¬ pm_cmp .le x 0 = true := fun z => hc (of_decide_eq_true z)
      simp only [e1, if_false] at k2; exact k2)
theorem po_if_icmp (hx : p.tables.exec = Jvm.exec) (hb : c.code = cc) {q : ClassFile.Cond} {off : Int} {t : Nat} {x y : Int32} (hd : decode cc pc = .ok (.if_icmp q off, 3)) (ht : pm_br pc off = some t) : pm_Go p l e R s m args below meth c Q D aC b A nL nc0 ns0 (pc, lv, .int y :: .int x :: r, h) (if pm_cmp q x y = true then t else pc + 3, lv, r, h) := by
  intro ad ls H locs cells slots F O _ _ kk
  have k2 := kk ad ls H locs cells slots (fun _ _ => rfl) F
  cases q
  · exact lv_icmp_eq hx hb hd (pm_br_eq ht) (fun hc => by
      have e1 : pm_cmp .eq x y = true := decide_eq_true hc
      simp only [e1, if_true] at k2; exact k2) (fun hc => by
      have e1 : ¬ pm_cmp .eq x y = true := fun z => hc (of_decide_eq_true z)
      simp only [e1, if_false] at k2; exact k2)
  · exact lv_icmp_ne hx hb hd (pm_br_eq ht) (fun hc => by
      have e1 : pm_cmp .ne x y = true := decide_eq_true hc
      simp only [e1, if_true] at k2; exact k2) (fun hc => by
      have e1 : ¬ pm_cmp .ne x y = true := fun z => (of_decide_eq_true z) hc
      simp only [e1, if_false] at k2; exact k2)
  · exact lv_icmp_lt hx hb hd (pm_br_eq ht) (fun hc => by
      have e1 : pm_cmp .lt x y = true := decide_eq_true hc
      simp only [e1, if_true] at k2; exact k2) (fun hc => by
      have e1 : ¬ pm_cmp .lt x y = true := fun z => hc (of_decide_eq_true z)
      simp only [e1, if_false] at k2; exact k2)
  · exact lv_icmp_ge hx hb hd (pm_br_eq ht) (fun hc => by
      have e1 : pm_cmp .ge x y = true := decide_eq_true hc
      simp only [e1, if_true] at k2; exact k2) (fun hc => by
      have e1 : ¬ pm_cmp .ge x y = true := fun z => hc (of_decide_eq_true z)
      simp only [e1, if_false] at k2; exact k2)
  · exact lv_icmp_gt hx hb hd (pm_br_eq ht) (fun hc => by
      have e1 : pm_cmp .gt x y = true := decide_eq_true hc
      simp only [e1, if_true] at k2; exact k2) (fun hc => by
      have e1 : ¬ pm_cmp .gt x y = true := fun z => hc (of_decide_eq_true z)
      simp only [e1, if_false] at k2; exact k2)
  · exact lv_icmp_le hx hb hd (pm_br_eq ht) (fun hc => by
      have e1 : pm_cmp .le x y = true := decide_eq_true hc
      simp only [e1, if_true] at k2; exact k2) (fun hc => by
      have e1 : ¬ pm_cmp .le x y = true := fun z => hc (of_decide_eq_true z)
      simp only [e1, if_false] at k2; exact k2)
theorem po_tableOut (hx : p.tables.exec = Jvm.exec) (hb : c.code = cc) {d lo hi : Int} {offs : Array Int} {len t : Nat} {x : Int32} (hd : decode cc pc = .ok (.tableswitch d lo hi offs, len)) (hr : x.toInt < lo ∨ hi < x.toInt) (ht : pm_br pc d = some t) : pm_Go p l e R s m args below meth c Q D aC b A nL nc0 ns0 (pc, lv, .int x :: r, h) (t, lv, r, h) :=
  fun ad ls H locs cells slots F O _ _ kk => lv_tableOut hx hb hd hr (pm_br_eq ht) (kk ad ls H locs cells slots (fun _ _ => rfl) F)
theorem po_tableIn (hx : p.tables.exec = Jvm.exec) (hb : c.code = cc) {d lo hi off : Int} {offs : Array Int} {len t : Nat} {x : Int32} (hd : decode cc pc = .ok (.tableswitch d lo hi offs, len)) (hr : ¬ (x.toInt < lo ∨ hi < x.toInt)) (ho : offs[(x.toInt - lo).toNat]? = some off) (ht : pm_br pc off = some t) : pm_Go p l e R s m args below meth c Q D aC b A nL nc0 ns0 (pc, lv, .int x :: r, h) (t, lv, r, h) :=
  fun ad ls H locs cells slots F O _ _ kk => lv_tableIn hx hb hd (fun z => hr (Or.inl z)) (fun z => hr (Or.inr z)) ho (pm_br_eq ht) (kk ad ls H locs cells slots (fun _ _ => rfl) F)
end PO
