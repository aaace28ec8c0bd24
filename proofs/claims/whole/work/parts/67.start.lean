def R_law : String := "HatRoundLaw"
def lw_P (b : Addr) (xs : List Int32) (args : Array Value) (s : State) : Prop := args = #[.ref b] ∧ s.IntsAt b xs ∧ xs.length ≤ 2048 ∧ (Jvm.Cond.and given_1 narrow_1).before args s = true
def lw_Q (_ : Array Value) (s : State) (o : Outcome) (t : State) : Prop := o = .returned (some (.int 1)) ∧ Framed s o t [] 600000 7302250
def lw_Z (below : List Frame) (a : Array Value) (s : State) : State → Prop := fun t => ∃ o, t.status = .running ∧ Ended t below o ∧ lw_Q a s o t
/-- the law's own end, with 1 on the stack, nothing written that was there before, its room as the claim has it -/
theorem lw_ret {p : Program} {l : Launch} {e : Env} {s : State} {m : MethodId} {below : List Frame} {meth : Method} {c : Code} {b : Nat} (hx : p.tables.exec = Jvm.exec) (hb : c.code = code) (hr : meth.sig.returnType = ret) (hlocks : meth.locks = false) {pc : Nat} {H : Heap} {ls : Array Slot} (hdg : decode code pc = .ok (.ireturn, 1)) : W p l e room_1 s m #[Value.ref b] below meth c H [] 600000 7302250 (lw_Z below #[Value.ref b] s) (F0 m pc ls [.int 1]) := by
  intro T hT X
  obtain ⟨fs, hret, hrun, hended, hW, hframe⟩ := X.leave (v := some (.int 1)) (hlocks := hlocks) (fun h => by rw [hr] at h; cases h)
  have hmeth' : T.vm.method? m = some meth := X.method'
  refine ⟨T.setFrames fs, ?_, .returned (some (.int 1)), hrun, hended, rfl, ⟨_, rfl⟩, hW, hframe⟩
  jvm_step X.here [X.here.top, hx, hb, hdg, hmeth', hr, ret, narrow_b1]
  (try refine ⟨rfl, ?_⟩); (try refine ⟨rfl, ?_⟩)
  first | (intro acts; rw [hret _ acts rfl rfl rfl]) | rw [hret _ _ rfl rfl rfl]
  exact Steps.refl _
/-- what holds at the law's entry: the machine, the code, the tables' words (any of lw_tbl by 'hts w (by decide +kernel)'), the script of L ints xs at the cell b, what the Statement gives of the start (any of its parts by flat_of_before) -/
def lw_At (p : Program) (s : State) (m : MethodId) (meth : Method) (c : Code) (b L : Nat) (xs : Nat → Int32) : Prop :=
  p.tables.exec = Jvm.exec ∧ c.code = code ∧ meth.sig.returnType = ret ∧ c.maxLocals = 4 ∧ s.vm.findClass R_law = some m.cls ∧ (∀ w ∈ lw_tbl, w.before #[Value.ref b] s = true) ∧ va_X b L xs s s.heap ∧ b < s.heap.size ∧ meth.locks = false ∧ (Jvm.Cond.and given_1 narrow_1).before #[Value.ref b] s = true
set_option maxRecDepth 20000 in
theorem law_nf {s : State} {args : Array Value} (hts : ∀ w ∈ lw_tbl, w.before args s = true) : ∀ q ∈ hNF, va_Nw (.fieldLinkNest q.1 q.2.1 q.2.2.1 q.2.2.2.1 q.2.2.2.2.1 q.2.2.2.2.2) s := List.forall_mem_cons.mpr ⟨va_Nw.of rfl (hts _ (List.mem_append_right _ (List.mem_of_getElem? (i := 28) (by decide +kernel)))), List.forall_mem_cons.mpr ⟨va_Nw.of rfl (hts _ (List.mem_append_right _ (List.mem_of_getElem? (i := 29) (by decide +kernel)))), List.forall_mem_cons.mpr ⟨va_Nw.of rfl (hts _ (List.mem_append_right _ (List.mem_of_getElem? (i := 43) (by decide +kernel)))), List.forall_mem_cons.mpr ⟨va_Nw.of rfl (hts _ (List.mem_append_right _ (List.mem_of_getElem? (i := 45) (by decide +kernel)))), List.forall_mem_cons.mpr ⟨va_Nw.of rfl (hts _ (List.mem_append_right _ (List.mem_of_getElem? (i := 65) (by decide +kernel)))), List.forall_mem_cons.mpr ⟨va_Nw.of rfl (hts _ (List.mem_append_right _ (List.mem_of_getElem? (i := 67) (by decide +kernel)))), List.forall_mem_cons.mpr ⟨va_Nw.of rfl (hts _ (List.mem_append_right _ (List.mem_of_getElem? (i := 69) (by decide +kernel)))), List.forall_mem_cons.mpr ⟨va_Nw.of rfl (hts _ (List.mem_append_right _ (List.mem_of_getElem? (i := 71) (by decide +kernel)))), List.forall_mem_cons.mpr ⟨va_Nw.of rfl (hts _ (List.mem_append_right _ (List.mem_of_getElem? (i := 73) (by decide +kernel)))), List.forall_mem_cons.mpr ⟨va_Nw.of rfl (hts _ (List.mem_append_right _ (List.mem_of_getElem? (i := 108) (by decide +kernel)))), List.forall_mem_cons.mpr ⟨va_Nw.of rfl (hts _ (List.mem_append_right _ (List.mem_of_getElem? (i := 123) (by decide +kernel)))), List.forall_mem_cons.mpr ⟨va_Nw.of rfl (hts _ (List.mem_append_right _ (List.mem_of_getElem? (i := 125) (by decide +kernel)))), List.forall_mem_cons.mpr ⟨va_Nw.of rfl (hts _ (List.mem_append_right _ (List.mem_of_getElem? (i := 203) (by decide +kernel)))), List.forall_mem_cons.mpr ⟨va_Nw.of rfl (hts _ (List.mem_append_right _ (List.mem_of_getElem? (i := 205) (by decide +kernel)))), List.forall_mem_cons.mpr ⟨va_Nw.of rfl (hts _ (List.mem_append_right _ (List.mem_of_getElem? (i := 212) (by decide +kernel)))), List.forall_mem_cons.mpr ⟨va_Nw.of rfl (hts _ (List.mem_append_right _ (List.mem_of_getElem? (i := 214) (by decide +kernel)))), fun _ h => absurd h List.not_mem_nil⟩⟩⟩⟩⟩⟩⟩⟩⟩⟩⟩⟩⟩⟩⟩⟩
set_option maxRecDepth 20000 in
theorem law_nm {s : State} {args : Array Value} (hts : ∀ w ∈ lw_tbl, w.before args s = true) : ∀ q ∈ hNM, va_Nw (.methodLinkNest q.1 q.2.1 q.2.2.1 q.2.2.2) s := List.forall_mem_cons.mpr ⟨va_Nw.of rfl (hts _ (List.mem_append_right _ (List.mem_of_getElem? (i := 22) (by decide +kernel)))), List.forall_mem_cons.mpr ⟨va_Nw.of rfl (hts _ (List.mem_append_right _ (List.mem_of_getElem? (i := 38) (by decide +kernel)))), List.forall_mem_cons.mpr ⟨va_Nw.of rfl (hts _ (List.mem_append_right _ (List.mem_of_getElem? (i := 118) (by decide +kernel)))), List.forall_mem_cons.mpr ⟨va_Nw.of rfl (hts _ (List.mem_append_right _ (List.mem_of_getElem? (i := 211) (by decide +kernel)))), List.forall_mem_cons.mpr ⟨va_Nw.of rfl (hts _ (List.mem_append_right _ (List.mem_of_getElem? (i := 246) (by decide +kernel)))), List.forall_mem_cons.mpr ⟨va_Nw.of rfl (hts _ (List.mem_append_right _ (List.mem_of_getElem? (i := 317) (by decide +kernel)))), fun _ h => absurd h List.not_mem_nil⟩⟩⟩⟩⟩⟩
theorem law_AO {s : State} {args : Array Value} (hts : ∀ w ∈ lw_tbl, w.before args s = true) : va_AO RX3 s := va_AO.of (hts (.arrayOver (.object RX3)) (List.mem_append_right _ (List.mem_of_getElem? (i := 103) (by decide +kernel))))
theorem law_arr {s : State} {args : Array Value} {ty : FieldType} (hno : ∀ C, ty ≠ .object C) (h : (Cond.arrayClass ty).before args s = true) : ∃ c, ArrOfT s c ty ∧ va_RA s c ty := by
  obtain ⟨c, k, comp, h1, h2, h3⟩ := Cond.arrayClass_spec h
  refine ⟨c, fun n z => ⟨fun k h => (by cases h), k, h2, comp, h3⟩, ?_⟩
  cases ty with
  | object C => exact absurd rfl (hno C)
  | _ => exact h1
theorem law_arq {s : State} (h : va_AO RX3 s) : ∃ c, ArrOfT s c (.object RX3) ∧ va_RA s c (.object RX3) := by
  obtain ⟨comp, c, k, h1, h2, h3, h4, h5⟩ := Cond.arrayOver_spec h
  exact ⟨c, fun n z => ⟨fun k h => (by cases h), k, h3, comp, h4⟩, k, comp, h3, h4, h1, h5⟩
set_option maxRecDepth 20000 in
theorem law_stPL {s : State} {args : Array Value} {A : Nat → Prop} (hts : ∀ w ∈ lw_tbl, w.before args s = true) (hgv : (Jvm.Cond.and given_1 narrow_1).before args s = true) (hA : ∀ a : Nat, a < s.heap.size → ¬ A a) : ∃ t : Nat, va_Z RX5 "PERSON_LEAST" "[I" (.ref t) A s s.heap ∧ va_T .int t 6 (fun j => .int (tPL j)) A s s.heap := by
  have hel : ∀ j : Nat, j < 6 → (Term.elem (.static "HatRound" "PERSON_LEAST" "[I") (.int (Int32.ofNat j))).eval args s none [] s = some (Value.int (tPL j)) := fun j hj => by
   match j, hj with
   | 0, _ => exact va_eqt (flat_of_before _ hgv (Cond.eq (.elem (.static "HatRound" "PERSON_LEAST" "[I") (.int 0)) (.int 0)) (by decide +kernel))
   | 1, _ => exact va_eqt (flat_of_before _ hgv (Cond.eq (.elem (.static "HatRound" "PERSON_LEAST" "[I") (.int 1)) (.int 0)) (by decide +kernel))
   | 2, _ => exact va_eqt (flat_of_before _ hgv (Cond.eq (.elem (.static "HatRound" "PERSON_LEAST" "[I") (.int 2)) (.int 0)) (by decide +kernel))
   | 3, _ => exact va_eqt (flat_of_before _ hgv (Cond.eq (.elem (.static "HatRound" "PERSON_LEAST" "[I") (.int 3)) (.int 0)) (by decide +kernel))
   | 4, _ => exact va_eqt (flat_of_before _ hgv (Cond.eq (.elem (.static "HatRound" "PERSON_LEAST" "[I") (.int 4)) (.int 0)) (by decide +kernel))
   | 5, _ => exact va_eqt (flat_of_before _ hgv (Cond.eq (.elem (.static "HatRound" "PERSON_LEAST" "[I") (.int 5)) (.int 0)) (by decide +kernel))
   | j + 6, hj => exact absurd hj (by omega)
  obtain ⟨t, h1, h2⟩ := va_Tof (tm := (.static "HatRound" "PERSON_LEAST" "[I")) (ty := .int) (N := 6) (f := fun j => .int (tPL j)) (by decide) (flat_of_before _ hgv (Cond.arrayOf (.static "HatRound" "PERSON_LEAST" "[I") .int) (by decide +kernel)) (va_eqt (flat_of_before _ hgv (Cond.eq (.length (.static "HatRound" "PERSON_LEAST" "[I")) (.int 6)) (by decide +kernel))) hel hA
  exact ⟨t, va_Zof (hts (.laysStatic RX5 "PERSON_LEAST" "[I") (List.mem_append_right _ (List.mem_of_getElem? (i := 204) (by decide +kernel)))) (hts (.initialized RX5) (List.mem_append_right _ (List.mem_of_getElem? (i := 1) (by decide +kernel)))) h1 hA, h2⟩
set_option maxRecDepth 20000 in
theorem law_stPM {s : State} {args : Array Value} {A : Nat → Prop} (hts : ∀ w ∈ lw_tbl, w.before args s = true) (hgv : (Jvm.Cond.and given_1 narrow_1).before args s = true) (hA : ∀ a : Nat, a < s.heap.size → ¬ A a) : ∃ t : Nat, va_Z RX5 "PERSON_MOST" "[I" (.ref t) A s s.heap ∧ va_T .int t 6 (fun j => .int (tPM j)) A s s.heap := by
  have hel : ∀ j : Nat, j < 6 → (Term.elem (.static "HatRound" "PERSON_MOST" "[I") (.int (Int32.ofNat j))).eval args s none [] s = some (Value.int (tPM j)) := fun j hj => by
   match j, hj with
   | 0, _ => exact va_eqt (flat_of_before _ hgv (Cond.eq (.elem (.static "HatRound" "PERSON_MOST" "[I") (.int 0)) (.int 3)) (by decide +kernel))
   | 1, _ => exact va_eqt (flat_of_before _ hgv (Cond.eq (.elem (.static "HatRound" "PERSON_MOST" "[I") (.int 1)) (.int 9)) (by decide +kernel))
   | 2, _ => exact va_eqt (flat_of_before _ hgv (Cond.eq (.elem (.static "HatRound" "PERSON_MOST" "[I") (.int 2)) (.int 9)) (by decide +kernel))
   | 3, _ => exact va_eqt (flat_of_before _ hgv (Cond.eq (.elem (.static "HatRound" "PERSON_MOST" "[I") (.int 3)) (.int 3)) (by decide +kernel))
   | 4, _ => exact va_eqt (flat_of_before _ hgv (Cond.eq (.elem (.static "HatRound" "PERSON_MOST" "[I") (.int 4)) (.int 2)) (by decide +kernel))
   | 5, _ => exact va_eqt (flat_of_before _ hgv (Cond.eq (.elem (.static "HatRound" "PERSON_MOST" "[I") (.int 5)) (.int 5)) (by decide +kernel))
   | j + 6, hj => exact absurd hj (by omega)
  obtain ⟨t, h1, h2⟩ := va_Tof (tm := (.static "HatRound" "PERSON_MOST" "[I")) (ty := .int) (N := 6) (f := fun j => .int (tPM j)) (by decide) (flat_of_before _ hgv (Cond.arrayOf (.static "HatRound" "PERSON_MOST" "[I") .int) (by decide +kernel)) (va_eqt (flat_of_before _ hgv (Cond.eq (.length (.static "HatRound" "PERSON_MOST" "[I")) (.int 6)) (by decide +kernel))) hel hA
  exact ⟨t, va_Zof (hts (.laysStatic RX5 "PERSON_MOST" "[I") (List.mem_append_right _ (List.mem_of_getElem? (i := 206) (by decide +kernel)))) (hts (.initialized RX5) (List.mem_append_right _ (List.mem_of_getElem? (i := 1) (by decide +kernel)))) h1 hA, h2⟩
set_option maxRecDepth 20000 in
theorem law_stTL {s : State} {args : Array Value} {A : Nat → Prop} (hts : ∀ w ∈ lw_tbl, w.before args s = true) (hgv : (Jvm.Cond.and given_1 narrow_1).before args s = true) (hA : ∀ a : Nat, a < s.heap.size → ¬ A a) : ∃ t : Nat, va_Z RX5 "TUNE_LEAST" "[I" (.ref t) A s s.heap ∧ va_T .int t 3 (fun j => .int (tTL j)) A s s.heap := by
  have hel : ∀ j : Nat, j < 3 → (Term.elem (.static "HatRound" "TUNE_LEAST" "[I") (.int (Int32.ofNat j))).eval args s none [] s = some (Value.int (tTL j)) := fun j hj => by
   match j, hj with
   | 0, _ => exact va_eqt (flat_of_before _ hgv (Cond.eq (.elem (.static "HatRound" "TUNE_LEAST" "[I") (.int 0)) (.int 0)) (by decide +kernel))
   | 1, _ => exact va_eqt (flat_of_before _ hgv (Cond.eq (.elem (.static "HatRound" "TUNE_LEAST" "[I") (.int 1)) (.int 1)) (by decide +kernel))
   | 2, _ => exact va_eqt (flat_of_before _ hgv (Cond.eq (.elem (.static "HatRound" "TUNE_LEAST" "[I") (.int 2)) (.int 0)) (by decide +kernel))
   | j + 3, hj => exact absurd hj (by omega)
  obtain ⟨t, h1, h2⟩ := va_Tof (tm := (.static "HatRound" "TUNE_LEAST" "[I")) (ty := .int) (N := 3) (f := fun j => .int (tTL j)) (by decide) (flat_of_before _ hgv (Cond.arrayOf (.static "HatRound" "TUNE_LEAST" "[I") .int) (by decide +kernel)) (va_eqt (flat_of_before _ hgv (Cond.eq (.length (.static "HatRound" "TUNE_LEAST" "[I")) (.int 3)) (by decide +kernel))) hel hA
  exact ⟨t, va_Zof (hts (.laysStatic RX5 "TUNE_LEAST" "[I") (List.mem_append_right _ (List.mem_of_getElem? (i := 213) (by decide +kernel)))) (hts (.initialized RX5) (List.mem_append_right _ (List.mem_of_getElem? (i := 1) (by decide +kernel)))) h1 hA, h2⟩
set_option maxRecDepth 20000 in
theorem law_stTM {s : State} {args : Array Value} {A : Nat → Prop} (hts : ∀ w ∈ lw_tbl, w.before args s = true) (hgv : (Jvm.Cond.and given_1 narrow_1).before args s = true) (hA : ∀ a : Nat, a < s.heap.size → ¬ A a) : ∃ t : Nat, va_Z RX5 "TUNE_MOST" "[I" (.ref t) A s s.heap ∧ va_T .int t 3 (fun j => .int (tTM j)) A s s.heap := by
  have hel : ∀ j : Nat, j < 3 → (Term.elem (.static "HatRound" "TUNE_MOST" "[I") (.int (Int32.ofNat j))).eval args s none [] s = some (Value.int (tTM j)) := fun j hj => by
   match j, hj with
   | 0, _ => exact va_eqt (flat_of_before _ hgv (Cond.eq (.elem (.static "HatRound" "TUNE_MOST" "[I") (.int 0)) (.int 2)) (by decide +kernel))
   | 1, _ => exact va_eqt (flat_of_before _ hgv (Cond.eq (.elem (.static "HatRound" "TUNE_MOST" "[I") (.int 1)) (.int 9)) (by decide +kernel))
   | 2, _ => exact va_eqt (flat_of_before _ hgv (Cond.eq (.elem (.static "HatRound" "TUNE_MOST" "[I") (.int 2)) (.int 9)) (by decide +kernel))
   | j + 3, hj => exact absurd hj (by omega)
  obtain ⟨t, h1, h2⟩ := va_Tof (tm := (.static "HatRound" "TUNE_MOST" "[I")) (ty := .int) (N := 3) (f := fun j => .int (tTM j)) (by decide) (flat_of_before _ hgv (Cond.arrayOf (.static "HatRound" "TUNE_MOST" "[I") .int) (by decide +kernel)) (va_eqt (flat_of_before _ hgv (Cond.eq (.length (.static "HatRound" "TUNE_MOST" "[I")) (.int 3)) (by decide +kernel))) hel hA
  exact ⟨t, va_Zof (hts (.laysStatic RX5 "TUNE_MOST" "[I") (List.mem_append_right _ (List.mem_of_getElem? (i := 215) (by decide +kernel)))) (hts (.initialized RX5) (List.mem_append_right _ (List.mem_of_getElem? (i := 1) (by decide +kernel)))) h1 hA, h2⟩
set_option maxRecDepth 20000 in
theorem law_E {p : Program} {s : State} {m : MethodId} {meth : Method} {c : Code} {b L : Nat} {xs : Nat → Int32} (C0 : lw_At p s m meth c b L xs) : ∃ E : hE, hX p s m #[Value.ref b] meth c E (fun q => s.heap.size ≤ q) cL_law 4 RL wsL_law ret ∧ va_AO RX3 s := by
  obtain ⟨hx, hb, hr, hml, hown, hts, hX, hbl, hlocks, hgv⟩ := C0
  have hA : ∀ a : Nat, a < s.heap.size → ¬ (fun q : Nat => s.heap.size ≤ q) a := fun a h => Nat.not_le.mpr h
  obtain ⟨t1, z1, y1⟩ := law_stPL hts hgv hA
  obtain ⟨t2, z2, y2⟩ := law_stPM hts hgv hA
  obtain ⟨t3, z3, y3⟩ := law_stTL hts hgv hA
  obtain ⟨t4, z4, y4⟩ := law_stTM hts hgv hA
  obtain ⟨cI, a1⟩ := law_arr (ty := .int) (fun C h => by cases h) (hts (.arrayClass .int) (List.mem_append_right _ (List.mem_of_getElem? (i := 35) (by decide +kernel))))
  obtain ⟨cZ, a2⟩ := law_arr (ty := .boolean) (fun C h => by cases h) (hts (.arrayClass .boolean) (List.mem_append_right _ (List.mem_of_getElem? (i := 131) (by decide +kernel))))
  obtain ⟨cQ, a3⟩ := law_arq (law_AO hts)
  obtain ⟨c0, i0, k0⟩ := u_known (C := RX0) (T := TX0) (N := 3) (n := 3) hts inX0 (hts (.instantiable RX0 3) (List.mem_append_right _ (List.mem_of_getElem? (i := 97) (by decide +kernel))))
  obtain ⟨c1, i1, k1⟩ := u_known (C := RX1) (T := TX1) (N := 2) (n := 2) hts inX1 (hts (.instantiable RX1 2) (List.mem_append_right _ (List.mem_of_getElem? (i := 117) (by decide +kernel))))
  obtain ⟨c2, i2, k2⟩ := u_known (C := RX2) (T := TX2) (N := 4) (n := 4) hts inX2 (hts (.instantiable RX2 4) (List.mem_append_right _ (List.mem_of_getElem? (i := 37) (by decide +kernel))))
  obtain ⟨c3, i3, k3⟩ := u_known (C := RX3) (T := TX3) (N := 9) (n := 9) hts inX3 (hts (.instantiable RX3 9) (List.mem_append_right _ (List.mem_of_getElem? (i := 58) (by decide +kernel))))
  obtain ⟨c4, i4, k4⟩ := u_known (C := RX4) (T := TX4) (N := 2) (n := 2) hts inX4 (hts (.instantiable RX4 2) (List.mem_append_right _ (List.mem_of_getElem? (i := 21) (by decide +kernel))))
  obtain ⟨c5, i5, k5⟩ := u_known (C := RX5) (T := TX5) (N := 13) (n := 13) hts inX5 (hts (.instantiable RX5 13) (List.mem_append_right _ (List.mem_of_getElem? (i := 13) (by decide +kernel))))
  obtain ⟨c6, i6, k6⟩ := u_known (C := RX6) (T := TX6) (N := 23) (n := 23) hts inX6 (hts (.instantiable RX6 23) (List.mem_append_right _ (List.mem_of_getElem? (i := 513) (by decide +kernel))))
  refine ⟨((fun k => if k = 0 then c0 else if k = 1 then c1 else if k = 2 then c2 else if k = 3 then c3 else if k = 4 then c4 else if k = 5 then c5 else c6, fun k => if k = 0 then i0 else if k = 1 then i1 else if k = 2 then i2 else if k = 3 then i3 else if k = 4 then i4 else if k = 5 then i5 else i6), (cI, cZ, cQ), (t1, t2, t3, t4)), ⟨hx, hb, hml, hown, fun w hw => hts w (wsL_law_in w hw), ⟨⟨fun k q hq => ?_, fun k q hq => ?_⟩, law_nf hts, law_nm hts⟩, fun q h => h, ⟨⟨z1, z2, z3, z4⟩, y1, y2, y3, y4⟩, hlocks, hr⟩, law_AO hts⟩
  · match k, hq with
    | 0, hq => cases hq; exact k0
    | 1, hq => cases hq; exact k1
    | 2, hq => cases hq; exact k2
    | 3, hq => cases hq; exact k3
    | 4, hq => cases hq; exact k4
    | 5, hq => cases hq; exact k5
    | 6, hq => cases hq; exact k6
    | k + 7, hq => simp [vwCl] at hq
  · match k, hq with
    | 0, hq => cases hq; exact a1
    | 1, hq => cases hq; exact a2
    | 2, hq => cases hq; exact a3
    | k + 3, hq => simp [hTy] at hq
