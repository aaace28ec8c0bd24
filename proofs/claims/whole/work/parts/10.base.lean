abbrev hE : Type := va_G × (ClassId × ClassId × ClassId) × (Nat × Nat × Nat × Nat)
abbrev hTy (E : hE) : List (ClassId × FieldType) := [(E.2.1.1, .int), (E.2.1.2.1, .boolean), (E.2.1.2.2, .object RX3)]
def hNW (U : State) : Prop := (∀ q ∈ hNF, va_Nw (.fieldLinkNest q.1 q.2.1 q.2.2.1 q.2.2.2.1 q.2.2.2.2.1 q.2.2.2.2.2) U) ∧ (∀ q ∈ hNM, va_Nw (.methodLinkNest q.1 q.2.1 q.2.2.1 q.2.2.2) U)
theorem hNW.warm {s U : State} (hW : s.WarmedH U.vm) (h : hNW s) : hNW U := ⟨fun q hq => va_Nw.warmF hW (h.1 q hq), fun q hq => va_Nw.warmM hW (h.2 q hq)⟩
theorem hNW.same {u U : State} (hv : u.vm = U.vm) (h : hNW u) : hNW U := ⟨fun q hq => va_Nw.same rfl hv (h.1 q hq), fun q hq => va_Nw.same rfl hv (h.2 q hq)⟩
def hK (E : hE) (U : State) : Prop := va_K E.1 vwCl (hTy E) U ∧ hNW U
def tPL (_ : Nat) : Int32 := 0
def tPM (j : Nat) : Int32 := match j with
  | 0 => 3
  | 1 => 9
  | 2 => 9
  | 3 => 3
  | 4 => 2
  | _ => 5
def tTL (j : Nat) : Int32 := match j with
  | 1 => 1
  | _ => 0
def tTM (j : Nat) : Int32 := match j with
  | 0 => 2
  | _ => 9
/-- the four static rows of bounds, which nobody writes -/
def hZ (E : hE) (A : Nat → Prop) (U : State) (H : Heap) : Prop :=
  (va_Z RX5 "PERSON_LEAST" "[I" (.ref E.2.2.1) A U H ∧ va_Z RX5 "PERSON_MOST" "[I" (.ref E.2.2.2.1) A U H ∧ va_Z RX5 "TUNE_LEAST" "[I" (.ref E.2.2.2.2.1) A U H ∧ va_Z RX5 "TUNE_MOST" "[I" (.ref E.2.2.2.2.2) A U H) ∧
  va_T .int E.2.2.1 6 (fun j => .int (tPL j)) A U H ∧ va_T .int E.2.2.2.1 6 (fun j => .int (tPM j)) A U H ∧ va_T .int E.2.2.2.2.1 3 (fun j => .int (tTL j)) A U H ∧ va_T .int E.2.2.2.2.2 3 (fun j => .int (tTM j)) A U H
theorem hZ.moved {E : hE} {A : Nat → Prop} {u U : State} {H : Heap} (hvm : u.vm.Alike U.vm) (h : hZ E A u H) : hZ E A U H := by
  obtain ⟨⟨a, b, c, d⟩, x, y, z, w⟩ := h
  exact ⟨⟨a.moved hvm, b.moved hvm, c.moved hvm, d.moved hvm⟩, x.moved hvm, y.moved hvm, z.moved hvm, w.moved hvm⟩
theorem hZ.kept {E : hE} {A : Nat → Prop} {U : State} {H H1 : Heap} (h : hZ E A U H) (hq : ∀ a : Nat, a < H.size → ¬ A a → H1[a]? = H[a]?) : hZ E A U H1 := by
  obtain ⟨⟨a, b, c, d⟩, x, y, z, w⟩ := h
  exact ⟨⟨a.kept hq, b.kept hq, c.kept hq, d.kept hq⟩, x.kept hq, y.kept hq, z.kept hq, w.kept hq⟩
theorem hZ.narrow {E : hE} {A B : Nat → Prop} {U : State} {H : Heap} (h : hZ E A U H) (hAB : ∀ q, B q → A q) : hZ E B U H := by
  obtain ⟨⟨a, b, c, d⟩, x, y, z, w⟩ := h
  exact ⟨⟨a.narrow hAB, b.narrow hAB, c.narrow hAB, d.narrow hAB⟩, x.narrow hAB, y.narrow hAB, z.narrow hAB, w.narrow hAB⟩
/-- what is known in a method's body -/
def hX (p : Program) (s : State) (m : MethodId) (args : Array Value) (meth : Method) (c : Code) (E : hE) (A : Nat → Prop) (cc : ByteArray) (nL : Nat) (own : String) (Ts : List Cond) (ret : Option FieldType) : Prop :=
  p.tables.exec = Jvm.exec ∧ c.code = cc ∧ c.maxLocals = nL ∧ s.vm.findClass own = some m.cls ∧ (∀ w ∈ Ts, w.before args s = true) ∧ hK E s ∧ (∀ q, s.heap.size ≤ q → A q) ∧ hZ E A s s.heap ∧ meth.locks = false ∧ meth.sig.returnType = ret
/-- the machine at a place, with these locals, this stack and this world, comes to a state with Q -/
def hG (p : Program) (l : Launch) (e : Env) (R : Room) (s : State) (m : MethodId) (args : Array Value) (below : List Frame) (meth : Method) (c : Code) (E : hE) (A : Nat → Prop) (nL : Nat) (Q : State → Prop) (cells slots : Nat) (pc : Nat) (lv : List (Nat × Value)) (st : List Value) (ws : va_W) : Prop :=
  ∀ (H : Heap) (locs : List Loc) (ls : Array Slot), va_P E.1 vwCl ws H → va_D A ws → va_S A s.heap H locs → lv_has ls nL lv → W p l e R s m args below meth c H locs cells slots Q (F0 m pc ls st)
/-- places of a world put anew -/
def hrep (ws : va_W) : List Nat → va_W → va_W
  | i :: is, q :: w => hrep (ws.set i q) is w
  | _, _ => ws
theorem hrep_at : ∀ (is : List Nat) (w1 ws : va_W), is.length = w1.length → va_nd is = true → (∀ i ∈ is, i < ws.length) → ∀ (k : Nat) (q : Nat × va_E), (hrep ws is w1)[k]? = some q → (∃ j : Nat, is[j]? = some k ∧ w1[j]? = some q) ∨ (k ∉ is ∧ ws[k]? = some q)
  | [], w1, ws, _, _, _, k, q, h => Or.inr ⟨List.not_mem_nil, by unfold hrep at h; exact h⟩
  | i :: is, [], ws, hl, _, _, k, q, h => by simp at hl
  | i :: is, x :: w1, ws, hl, hn, hb, k, q, h => by
    simp only [va_nd, Bool.and_eq_true, decide_eq_true_eq] at hn
    rcases hrep_at is w1 (ws.set i x) (by simpa using hl) hn.2 (fun j hj => by rw [List.length_set]; exact hb j (List.mem_cons_of_mem _ hj)) k q h with ⟨j, h1, h2⟩ | ⟨h1, h2⟩
    · exact Or.inl ⟨j + 1, by simpa using h1, by simpa using h2⟩
    · by_cases hk : i = k
      · subst hk
        rw [List.getElem?_set_self (hb i List.mem_cons_self)] at h2
        exact Or.inl ⟨0, rfl, by simpa using h2⟩
      · rw [List.getElem?_set_ne hk] at h2
        exact Or.inr ⟨fun hm => (List.mem_cons.mp hm).elim (fun e => hk e.symm) h1, h2⟩
theorem hrep_PD {A0 : Nat → Prop} {D : va_G} {cl : List vw_C} {ws wc w1 : va_W} {H H1 : Heap} (hP : va_P D cl ws H) (hD : va_D A0 ws) (is : List Nat) (hC : is.map (fun i => ws[i]?) = wc.map some) (hn : va_nd is = true) (hf : w1.map Prod.fst = wc.map Prod.fst)
    (hk : ∀ q : Nat, q < H.size → ¬ va_A wc H.size q → H1[q]? = H[q]?) (hP1 : va_P D cl w1 H1) : va_P D cl (hrep ws is w1) H1 ∧ va_D A0 (hrep ws is w1) := by
  have hl : is.length = w1.length := by
    have a := congrArg List.length hC
    have b := congrArg List.length hf
    simp at a b
    omega
  have hat : ∀ (j k : Nat), is[j]? = some k → ∃ q, wc[j]? = some q ∧ ws[k]? = some q := by
    intro j k hj
    have h1 : (is.map (fun i => ws[i]?))[j]? = (wc.map some)[j]? := by rw [hC]
    rw [List.getElem?_map, List.getElem?_map, hj] at h1
    cases hw : wc[j]? with
    | none => rw [hw] at h1; cases h1
    | some q => rw [hw] at h1; exact ⟨q, rfl, Option.some.inj h1⟩
  have hb : ∀ i ∈ is, i < ws.length := by
    intro i hi
    obtain ⟨j, hj⟩ := List.getElem?_of_mem hi
    obtain ⟨q, -, hq⟩ := hat j i hj
    exact (List.getElem?_eq_some_iff.mp hq).1
  have key := hrep_at is w1 ws hl hn hb
  have key2 : ∀ (k : Nat) (q : Nat × va_E), (hrep ws is w1)[k]? = some q → ∃ q0, ws[k]? = some q0 ∧ q0.1 = q.1 := by
    intro k q hq
    rcases key k q hq with ⟨j, h1, h2⟩ | ⟨-, h2⟩
    · obtain ⟨q0, h3, h4⟩ := hat j k h1
      refine ⟨q0, h4, ?_⟩
      have h5 : (w1.map Prod.fst)[j]? = (wc.map Prod.fst)[j]? := by rw [hf]
      rw [List.getElem?_map, List.getElem?_map, h2, h3] at h5
      exact (Option.some.inj h5).symm
    · exact ⟨q, h2, rfl⟩
  refine ⟨fun k q hq => ?_, fun i j x y hx hy hxy => ?_, fun k q hq => ?_⟩
  · rcases key k q hq with ⟨j, h1, h2⟩ | ⟨h1, h2⟩
    · exact hP1 j q h2
    · refine (hP k q h2).kept (hk q.1 ((hP k q h2).lt) fun hA => ?_)
      rcases hA with ⟨j, e, h3⟩ | h3
      · have hj : j < is.length := by
          have := (List.getElem?_eq_some_iff.mp h3).1
          have a := congrArg List.length hC
          simp at a
          omega
        obtain ⟨q0, h4, h5⟩ := hat j is[j] (List.getElem?_eq_getElem hj)
        rw [h3] at h4
        cases h4
        have := hD.1 k is[j] q (q.1, e) h2 h5 rfl
        exact h1 (by rw [this]; exact List.getElem_mem hj)
      · have := (hP k q h2).lt
        omega
  · obtain ⟨x0, h1, h2⟩ := key2 i x hx
    obtain ⟨y0, h3, h4⟩ := key2 j y hy
    exact hD.1 i j x0 y0 h1 h3 (h2.trans (hxy.trans h4.symm))
  · obtain ⟨q0, h1, h2⟩ := key2 k q hq
    rw [← h2]
    exact hD.2 k q0 h1
/-- a method's contract: from the world ws, with these arguments, it answers rv and leaves the world w1 (the same cells) -/
def hC (l : Launch) (y : MethodName) (Ts : List Cond) (rm : Room) (E : hE) (av : List Value) (ws : va_W) (rv : Option Value) (w1 : va_W) : Prop :=
  ∀ sz : Nat, Met l y Ts rm (va_Pc av (fun U => U.heap.size = sz ∧ va_P E.1 vwCl ws U.heap ∧ hK E U ∧ va_D (fun _ => True) ws ∧ hZ E (va_A ws sz) U U.heap)) (fun _ st oc t => oc = .returned rv ∧ va_P E.1 vwCl w1 t.heap ∧ va_F (va_A ws sz) st t) 0 0 (va_A ws sz)
def hQ (E : hE) (A : Nat → Prop) (below : List Frame) (args : Array Value) (s : State) (rv : Option Value) (w1 : va_W) : State → Prop := MQ below (fun _ st oc t => oc = .returned rv ∧ va_P E.1 vwCl w1 t.heap ∧ va_F A st t) args s 0 0 A
theorem hC_intro {l : Launch} {y : MethodName} {Ts ws' : List Cond} {rm : Room} {E : hE} {av : List Value} {ws : va_W} {rv : Option Value} {w1 : va_W} {cc : ByteArray} {maxL : Nat} {ret : Option FieldType} (hy : plainName y.cls = true) (hw : Ts = Cond.code y cc maxL ret :: ws') (hlen : (lg_sl av).length ≤ maxL) {lv0 : List (Nat × Value)} (hlv : lv_args 0 av = lv0)
    (body : ∀ (p : Program) (e : Env) (s : State) (m : MethodId) (below : List Frame) (meth : Method) (c : Code) (A : Nat → Prop), hX p s m av.toArray meth c E A cc maxL y.cls Ts ret → hG p l e rm s m av.toArray below meth c E A maxL (hQ E A below av.toArray s rv w1) 0 0 0 lv0 [] ws) : hC l y Ts rm E av ws rv w1 := by
  intro sz
  refine Met.ofW (cc := cc) (maxL := maxL) (ret := ret) hy hw ?_
  intro p e s m args below meth c s₁ B hml hv
  obtain ⟨rfl, hsz, hP, hK1, hD0, hZ0⟩ := hv
  subst hsz
  have hts := atoms_spec (ws := Ts) B.pre
  have hown : s.vm.findClass y.cls = some m.cls := findClass_of_methodNamed B.named
  have hl := lv_entry av (n := maxL) hlen
  rw [lg_entry_eq]
  rw [hlv] at hl
  exact body p e s m below meth c (va_A ws s.heap.size) ⟨B.exec, B.bytes, hml, hown, hts, hK1, fun q h => Or.inr h, hZ0, B.notSynchronized, B.returns⟩ s.heap [] _ hP (hD0.self (sz := s.heap.size)) va_S.rf hl
/-- what a call asks of a callee, proved once a method -/
def hCF (y : MethodName) (wsC : List Cond) (rm : Room) (bytes : ByteArray) (maxL : Nat) (ret : Option FieldType) (n : Nat) : Prop := (∃ ws', wsC = Cond.code y bytes maxL ret :: ws') ∧ (y.cls ≠ "java/lang/invoke/MethodHandle" ∧ y.cls ≠ "java/lang/invoke/VarHandle" ∧ (parseMethodDescriptor y.desc).map (fun d => d.parameters.length) = some n) ∧ rm.cells = 0 ∧ rm.slots = 0
theorem hK.warm {E : hE} {s U : State} (hW : s.WarmedH U.vm) (h : hK E s) : hK E U := ⟨va_K.moved hW.alike h.1, h.2.warm hW⟩
theorem hblind {E : hE} {av : List Value} {ws : va_W} {A : Nat → Prop} {sz : Nat} : FrameBlind (va_Pc av (fun U => U.heap.size = sz ∧ va_P E.1 vwCl ws U.heap ∧ hK E U ∧ va_D (fun _ => True) ws ∧ hZ E A U U.heap)) := fun a U g mk q => by
  obtain ⟨q0, q1, qP, qK, qD, qZ⟩ := q
  exact ⟨q0, q1, qP, ⟨va_K.moved (u := U) (U := U.calling g mk a) (Vm.Alike.refl U.vm) qK.1, hNW.same (u := U) (U := U.calling g mk a) rfl qK.2⟩, qD, hZ.moved (u := U) (U := U.calling g mk a) (Vm.Alike.refl U.vm) qZ⟩
theorem nI_inc (a : Nat) : nI a + Int32.ofInt 1 = nI (a + 1) := nI_1 a
theorem tab_out {x : Int32} (hi : Nat) (hhi : hi < 2 ^ 31) (h : ∀ k : Nat, k < hi + 1 → ¬ x = nI k) : x.toInt < 0 ∨ (hi : Int) < x.toInt := by
  by_cases h0 : x < 0
  · exact Or.inl (by simpa using Int32.lt_iff_toInt_lt.mp h0)
  · obtain ⟨j, hj, rfl⟩ := nI_of h0
    rw [nI_toInt hj]
    refine Or.inr ?_
    by_cases hk : j < hi + 1
    · exact absurd rfl (h j hk)
    · omega
abbrev Sc : Type := Int32 × Int32 × Int32 × Int32 × Int32 × (Nat → Int32) × (Nat → Int32) × (Nat → Int32)
def updS (f : Nat → Sc) (k : Nat) (x : Sc) : Nat → Sc := fun j => if j = k then x else f j
theorem hP_cong {D : va_G} {cl : List vw_C} {ws : va_W} {H : Heap} {q1 a n : Nat} {cA : ClassId} {f g : Nat → Int32} (hfg : ∀ j, j < n → f j = g j) (h : va_P D cl (ws.set q1 (a, .inl (cA, n, .inl f))) H) : va_P D cl (ws.set q1 (a, .inl (cA, n, .inl g))) H := by
  have hc : vp_cell cA (n, .inl f) = vp_cell cA (n, .inl g) := by
    rw [vp_cell_i, vp_cell_i]
    unfold arrV
    congr 1
    congr 1
    funext j
    show Value.int (f j.val) = Value.int (g j.val)
    rw [hfg j.val j.isLt]
  intro k q hk
  by_cases hq : q1 = k
  · subst hq
    by_cases hl : q1 < ws.length
    · rw [List.getElem?_set_self hl] at hk
      cases hk
      have h1 := h q1 _ (List.getElem?_set_self hl)
      show H[a]? = some (vp_cell cA (n, .inl g))
      rw [← hc]
      exact h1
    · rw [List.getElem?_eq_none (by rw [List.length_set]; omega)] at hk
      cases hk
  · rw [List.getElem?_set_ne hq] at hk
    exact h k q (by rw [List.getElem?_set_ne hq]; exact hk)
section HG
variable {p : Program} {l : Launch} {e : Env} {R : Room} {s : State} {m : MethodId} {args : Array Value} {below : List Frame} {meth : Method} {c : Code} {E : hE} {A : Nat → Prop} {cc : ByteArray} {nL : Nat} {own : String} {Ts : List Cond} {ret : Option FieldType} {Q : State → Prop} {cells slots pc : Nat} {lv lv' : List (Nat × Value)} {st st' : List Value} {ws ws' : va_W}
/-- behind a call -/
theorem hg_back {wc w1 : va_W} {rv : Option Value} {rest : List Value} {H : Heap} {locs : List Loc} {ls : Array Slot} {st0 : List Value} (is : List Nat) (hC1 : is.map (fun i => ws[i]?) = wc.map some) (hnd : va_nd is = true) (hf : w1.map Prod.fst = wc.map Prod.fst) (hws : hrep ws is w1 = ws') (hA : ∀ q, s.heap.size ≤ q → A q) (hP : va_P E.1 vwCl ws H) (hD : va_D A ws) (hS : va_S A s.heap H locs) (hl : lv_has ls nL lv)
    (hr : va_Run p l e R s m args below meth c H locs cells slots 0 0 (F0 m pc ls st0) rest (fun st oc t => oc = .returned rv ∧ va_P E.1 vwCl w1 t.heap ∧ va_F (va_A wc H.size) st t) (va_A wc H.size))
    (k : hG p l e R s m args below meth c E A nL Q cells slots (pc + 3) lv (rv.toList ++ rest) ws') : W p l e R s m args below meth c H locs cells slots Q (F0 m pc ls st0) := by
  intro T hT X
  obtain ⟨v, st₀, t, T', L, h0, X', hL, e1, e2, ⟨hv, hP1, hz, hk⟩, st1⟩ := hr T hT X
  cases hv
  rw [h0] at hz hk
  have hF : ∀ q, va_A wc H.size q → A q := va_free hD hS hA is hC1
  obtain ⟨hP2, hD2⟩ := hrep_PD hP hD is hC1 hnd hf (H1 := T'.heap) (fun q h1 h2 => by rw [e1]; exact hk q h1 h2) (by rw [e1]; exact hP1)
  rw [hws] at hP2 hD2
  obtain ⟨t2, a1, b1⟩ := k T'.heap (locs ++ L) ls hP2 hD2 ⟨Nat.le_trans hS.1 (by rw [e1]; exact hz), fun q h1 h2 => by rw [e1, hk q (Nat.lt_of_lt_of_le h1 hS.1) (fun z => h2 (hF q z))]; exact hS.2.1 q h1 h2, fun q hq => by
      rcases List.mem_append.mp hq with h | h
      · exact hS.2.2 q h
      · exact hF _ (hL q h)⟩ hl T' rfl X'
  exact ⟨t2, st1 t2 a1, b1⟩
theorem hg_pre {wc : va_W} {H : Heap} {locs : List Loc} {av : List Value} (C : hX p s m args meth c E A cc nL own Ts ret) (is : List Nat) (hC1 : is.map (fun i => ws[i]?) = wc.map some) (hnd : va_nd is = true) (hP : va_P E.1 vwCl ws H) (hD : va_D A ws) (hS : va_S A s.heap H locs) : ∀ U : State, U.heap = H → s.WarmedH U.vm → va_Pc av (fun U => U.heap.size = H.size ∧ va_P E.1 vwCl wc U.heap ∧ hK E U ∧ va_D (fun _ => True) wc ∧ hZ E (va_A wc H.size) U U.heap) av.toArray U := by
  intro U hU hW
  have hPc : va_P E.1 vwCl wc H := fun k q hk => by
    have h1 : (is.map (fun i => ws[i]?))[k]? = some (some q) := by rw [hC1, List.getElem?_map, hk]; rfl
    rw [List.getElem?_map] at h1
    cases hi : is[k]? with
    | none => rw [hi] at h1; cases h1
    | some i => rw [hi] at h1; exact hP i q (Option.some.inj h1)
  have hDc : va_D A wc := hD.sub is hnd hC1
  refine ⟨rfl, by rw [hU], by rw [hU]; exact hPc, C.2.2.2.2.2.1.warm hW, hDc.weaken (fun _ _ _ _ => trivial), ?_⟩
  rw [hU]
  exact ((C.2.2.2.2.2.2.2.1.kept hS.2.1).moved hW.alike).narrow (va_free hD hS C.2.2.2.2.2.2.1 is hC1)
theorem hg_callV (C : hX p s m args meth c E A cc nL own Ts ret) {y : MethodName} {wsC : List Cond} {rm : Room} {wc w1 : va_W} {rv : Option Value} {b : Nat} {As rest : List Value} {bytes : ByteArray} {maxL index ci : Nat} {retc : Option FieldType} {q : vw_C} {fs : List Value} (hM : hC l y wsC rm E (.ref b :: As) wc rv w1) (hF : hCF y wsC rm bytes maxL retc As.length) (hT : GoodIn Ts (wsV own index y.cls y wsC)) (hR : rm.frames + 1 ≤ R.frames ∧ 8 + (maxL + 11) + rm.locals ≤ R.locals) (hcap : cells ≤ R.cells ∧ slots ≤ R.slots)
    (is : List Nat) (hC1 : is.map (fun i => ws[i]?) = wc.map some) (hnd : va_nd is = true) (ad : List Nat) (hf1 : w1.map Prod.fst = ad) (hf0 : wc.map Prod.fst = ad) (hws : hrep ws is w1 = ws') (q0 : Nat) (hcl : vwCl[ci]? = some q) (hq : q.1 = y.cls) (he : ws[q0]? = some (b, .inr (ci, fs))) (hst : st = As.reverse ++ .ref b :: rest) (hrest : (rest.map fun v => v.category).sum ≤ 8) (hd : decode cc pc = .ok (.invokevirtual index, 3))
    (k : hG p l e R s m args below meth c E A nL Q cells slots (pc + 3) lv (rv.toList ++ rest) ws') : hG p l e R s m args below meth c E A nL Q cells slots pc lv st ws := by
  intro H locs ls hP hD hS hl
  subst hst
  obtain ⟨⟨wsx, hw⟩, hdd, hr1, hr2⟩ := hF
  obtain ⟨hx, hb, hml, hown, hts, hk, hA, -⟩ := id C
  exact hg_back is hC1 hnd (hf1.trans hf0.symm) hws hA hP hD hS hl (va_runV (As := As) (rest := rest) (b := b) ⟨hx, hb, hml, hown, hts⟩ (hM H.size) (cwV As.length hts hT hw hr1 hr2 ⟨rfl, hdd⟩ hR) ⟨hblind, by rw [← hq]; exact va_recv hk.1 hP hcl he, hg_pre C is hC1 hnd hP hD hS⟩ rfl rfl hl.1 rfl (lv_room hrest) hd ⟨hcap.1, hcap.2⟩) k
theorem hg_callS (C : hX p s m args meth c E A cc nL own Ts ret) {y : MethodName} {wsC : List Cond} {rm : Room} {wc w1 : va_W} {rv : Option Value} {As rest : List Value} {bytes : ByteArray} {maxL index : Nat} {retc : Option FieldType} (hM : hC l y wsC rm E As wc rv w1) (hF : hCF y wsC rm bytes maxL retc As.length) (hT : GoodIn Ts (va_wsS own index y wsC)) (hR : rm.frames + 1 ≤ R.frames ∧ 8 + (maxL + 11) + rm.locals ≤ R.locals) (hcap : cells ≤ R.cells ∧ slots ≤ R.slots)
    (is : List Nat) (hC1 : is.map (fun i => ws[i]?) = wc.map some) (hnd : va_nd is = true) (ad : List Nat) (hf1 : w1.map Prod.fst = ad) (hf0 : wc.map Prod.fst = ad) (hws : hrep ws is w1 = ws') (hst : st = As.reverse ++ rest) (hrest : (rest.map fun v => v.category).sum ≤ 8) (hd : decode cc pc = .ok (.invokestatic index, 3))
    (k : hG p l e R s m args below meth c E A nL Q cells slots (pc + 3) lv (rv.toList ++ rest) ws') : hG p l e R s m args below meth c E A nL Q cells slots pc lv st ws := by
  intro H locs ls hP hD hS hl
  subst hst
  obtain ⟨⟨wsx, hw⟩, hdd, hr1, hr2⟩ := hF
  obtain ⟨hx, hb, hml, hown, hts, hk, hA, -⟩ := id C
  exact hg_back is hC1 hnd (hf1.trans hf0.symm) hws hA hP hD hS hl (va_runS (As := As) (rest := rest) ⟨hx, hb, hml, hown, hts⟩ (hM H.size) (va_cwS As.length hts hT hw hr1 hr2 hdd hR) ⟨hblind, hg_pre C is hC1 hnd hP hD hS⟩ rfl rfl hl.1 rfl (lv_room hrest) hd ⟨hcap.1, hcap.2⟩) k
theorem hg_callN (C : hX p s m args meth c E A cc nL own Ts ret) {y : MethodName} {wsC : List Cond} {rm : Room} {wc w1 : va_W} {rv : Option Value} {As rest : List Value} {bytes : ByteArray} {maxL index : Nat} {retc : Option FieldType} {host : String} (hM : hC l y wsC rm E As wc rv w1) (hF : hCF y wsC rm bytes maxL retc As.length) (hT : GoodIn Ts wsC) (hl0 : (own, index, y, host) ∈ hNM) (hini : Cond.initialized y.cls ∈ Ts) (hst0 : Cond.static y ∈ Ts) (hR : rm.frames + 1 ≤ R.frames ∧ 8 + (maxL + 11) + rm.locals ≤ R.locals) (hcap : cells ≤ R.cells ∧ slots ≤ R.slots)
    (is : List Nat) (hC1 : is.map (fun i => ws[i]?) = wc.map some) (hnd : va_nd is = true) (ad : List Nat) (hf1 : w1.map Prod.fst = ad) (hf0 : wc.map Prod.fst = ad) (hws : hrep ws is w1 = ws') (hst : st = As.reverse ++ rest) (hrest : (rest.map fun v => v.category).sum ≤ 8) (hd : decode cc pc = .ok (.invokestatic index, 3))
    (k : hG p l e R s m args below meth c E A nL Q cells slots (pc + 3) lv (rv.toList ++ rest) ws') : hG p l e R s m args below meth c E A nL Q cells slots pc lv st ws := by
  intro H locs ls hP hD hS hl
  subst hst
  obtain ⟨⟨wsx, hw⟩, hdd, hr1, hr2⟩ := hF
  obtain ⟨hx, hb, hml, hown, hts, hk, hA, -⟩ := id C
  exact hg_back is hC1 hnd (hf1.trans hf0.symm) hws hA hP hD hS hl (va_runSN (As := As) (rest := rest) (host := host) ⟨hx, hb, hml, hown, hts⟩ (hM H.size) ⟨va_cnB As.length hts hT hw hr1 hr2 (hk.2.2 _ hl0) (hts _ hini) hdd hR, hts _ hst0, trivial⟩ ⟨hblind, hg_pre C is hC1 hnd hP hD hS⟩ rfl rfl hl.1 rfl (lv_room hrest) hd ⟨hcap.1, hcap.2⟩) k
theorem hg_iconst (C : hX p s m args meth c E A cc nL own Ts ret) {n : Int} {v : Int32} (hd : decode cc pc = .ok (.iconst n, 1)) (hv : Int32.ofInt n = v) (k : hG p l e R s m args below meth c E A nL Q cells slots (pc + 1) lv (.int v :: st) ws) : hG p l e R s m args below meth c E A nL Q cells slots pc lv (st) ws := fun H locs ls hP hD hS hl => lv_iconst C.1 C.2.1 hd hv (k H locs ls hP hD hS hl)
theorem hg_bipush (C : hX p s m args meth c E A cc nL own Ts ret) {n : Int} {v : Int32} (hd : decode cc pc = .ok (.bipush n, 2)) (hv : (Int8.ofInt n).toInt32 = v) (k : hG p l e R s m args below meth c E A nL Q cells slots (pc + 2) lv (.int v :: st) ws) : hG p l e R s m args below meth c E A nL Q cells slots pc lv (st) ws := fun H locs ls hP hD hS hl => lv_bipush C.1 C.2.1 hd hv (k H locs ls hP hD hS hl)
theorem hg_sipush (C : hX p s m args meth c E A cc nL own Ts ret) {n : Int} {v : Int32} (hd : decode cc pc = .ok (.sipush n, 3)) (hv : (Int16.ofInt n).toInt32 = v) (k : hG p l e R s m args below meth c E A nL Q cells slots (pc + 3) lv (.int v :: st) ws) : hG p l e R s m args below meth c E A nL Q cells slots pc lv (st) ws := fun H locs ls hP hD hS hl => lv_sipush C.1 C.2.1 hd hv (k H locs ls hP hD hS hl)
theorem hg_lconst (C : hX p s m args meth c E A cc nL own Ts ret) {n : Fin 2} {v : Int64} (hd : decode cc pc = .ok (.lconst n, 1)) (hv : Int64.ofNat (n : Nat) = v) (k : hG p l e R s m args below meth c E A nL Q cells slots (pc + 1) lv (.long v :: st) ws) : hG p l e R s m args below meth c E A nL Q cells slots pc lv (st) ws := fun H locs ls hP hD hS hl => lv_lconst C.1 C.2.1 hd hv (k H locs ls hP hD hS hl)
theorem hg_iload_n (C : hX p s m args meth c E A cc nL own Ts ret) {n : Fin 4} {i : Nat} {x : Int32} (hd : decode cc pc = .ok (.iload_n n, 1)) (hi : (n : Nat) = i) (j : Nat) (hj : lv[j]? = some (i, .int x)) (k : hG p l e R s m args below meth c E A nL Q cells slots (pc + 1) lv (.int x :: st) ws) : hG p l e R s m args below meth c E A nL Q cells slots pc lv st ws := fun H locs ls hP hD hS hl => lv_iload_n C.1 C.2.1 hd hi (lv_at hl j hj) (k H locs ls hP hD hS hl)
theorem hg_iload (C : hX p s m args meth c E A cc nL own Ts ret) {i : Nat} {x : Int32} (hd : decode cc pc = .ok (.iload i, 2)) (j : Nat) (hj : lv[j]? = some (i, .int x)) (k : hG p l e R s m args below meth c E A nL Q cells slots (pc + 2) lv (.int x :: st) ws) : hG p l e R s m args below meth c E A nL Q cells slots pc lv st ws := fun H locs ls hP hD hS hl => lv_iload C.1 C.2.1 hd (lv_at hl j hj) (k H locs ls hP hD hS hl)
theorem hg_istore_n (C : hX p s m args meth c E A cc nL own Ts ret) {n : Fin 4} {i : Nat} {x : Int32} (hd : decode cc pc = .ok (.istore_n n, 1)) (hi : (n : Nat) = i) (hn : i < nL) (hl0 : (i, Value.int x) :: lv.filter (fun q => !(q.1 == i) && !(q.1 + 1 == i && q.2.category == 2)) = lv') (k : hG p l e R s m args below meth c E A nL Q cells slots (pc + 1) lv' st ws) : hG p l e R s m args below meth c E A nL Q cells slots pc lv (.int x :: st) ws := fun H locs ls hP hD hS hl => lv_istore_n C.1 C.2.1 hd hi hl hn hl0 (fun ls1 hl1 => k H locs ls1 hP hD hS hl1)
theorem hg_istore (C : hX p s m args meth c E A cc nL own Ts ret) {i : Nat} {x : Int32} (hd : decode cc pc = .ok (.istore i, 2)) (hn : i < nL) (hl0 : (i, Value.int x) :: lv.filter (fun q => !(q.1 == i) && !(q.1 + 1 == i && q.2.category == 2)) = lv') (k : hG p l e R s m args below meth c E A nL Q cells slots (pc + 2) lv' st ws) : hG p l e R s m args below meth c E A nL Q cells slots pc lv (.int x :: st) ws := fun H locs ls hP hD hS hl => lv_istore C.1 C.2.1 hd hl hn hl0 (fun ls1 hl1 => k H locs ls1 hP hD hS hl1)
theorem hg_lload_n (C : hX p s m args meth c E A cc nL own Ts ret) {n : Fin 4} {i : Nat} {x : Int64} (hd : decode cc pc = .ok (.lload_n n, 1)) (hi : (n : Nat) = i) (j : Nat) (hj : lv[j]? = some (i, .long x)) (k : hG p l e R s m args below meth c E A nL Q cells slots (pc + 1) lv (.long x :: st) ws) : hG p l e R s m args below meth c E A nL Q cells slots pc lv st ws := fun H locs ls hP hD hS hl => lv_lload_n C.1 C.2.1 hd hi (lv_at hl j hj) (k H locs ls hP hD hS hl)
theorem hg_lload (C : hX p s m args meth c E A cc nL own Ts ret) {i : Nat} {x : Int64} (hd : decode cc pc = .ok (.lload i, 2)) (j : Nat) (hj : lv[j]? = some (i, .long x)) (k : hG p l e R s m args below meth c E A nL Q cells slots (pc + 2) lv (.long x :: st) ws) : hG p l e R s m args below meth c E A nL Q cells slots pc lv st ws := fun H locs ls hP hD hS hl => lv_lload C.1 C.2.1 hd (lv_at hl j hj) (k H locs ls hP hD hS hl)
theorem hg_lstore_n (C : hX p s m args meth c E A cc nL own Ts ret) {n : Fin 4} {i : Nat} {x : Int64} (hd : decode cc pc = .ok (.lstore_n n, 1)) (hi : (n : Nat) = i) (hn : i + 1 < nL) (hl0 : (i, Value.long x) :: lv.filter (fun q => !(q.1 == i) && (!(q.1 == i + 1) && !(q.1 + 1 == i && q.2.category == 2))) = lv') (k : hG p l e R s m args below meth c E A nL Q cells slots (pc + 1) lv' st ws) : hG p l e R s m args below meth c E A nL Q cells slots pc lv (.long x :: st) ws := fun H locs ls hP hD hS hl => lv_lstore_n C.1 C.2.1 hd hi hl hn hl0 (fun ls1 hl1 => k H locs ls1 hP hD hS hl1)
theorem hg_lstore (C : hX p s m args meth c E A cc nL own Ts ret) {i : Nat} {x : Int64} (hd : decode cc pc = .ok (.lstore i, 2)) (hn : i + 1 < nL) (hl0 : (i, Value.long x) :: lv.filter (fun q => !(q.1 == i) && (!(q.1 == i + 1) && !(q.1 + 1 == i && q.2.category == 2))) = lv') (k : hG p l e R s m args below meth c E A nL Q cells slots (pc + 2) lv' st ws) : hG p l e R s m args below meth c E A nL Q cells slots pc lv (.long x :: st) ws := fun H locs ls hP hD hS hl => lv_lstore C.1 C.2.1 hd hl hn hl0 (fun ls1 hl1 => k H locs ls1 hP hD hS hl1)
theorem hg_aload_n (C : hX p s m args meth c E A cc nL own Ts ret) {n : Fin 4} {i : Nat} {x : Nat} (hd : decode cc pc = .ok (.aload_n n, 1)) (hi : (n : Nat) = i) (j : Nat) (hj : lv[j]? = some (i, .ref x)) (k : hG p l e R s m args below meth c E A nL Q cells slots (pc + 1) lv (.ref x :: st) ws) : hG p l e R s m args below meth c E A nL Q cells slots pc lv st ws := fun H locs ls hP hD hS hl => lv_aload_n C.1 C.2.1 hd hi (lv_at hl j hj) (k H locs ls hP hD hS hl)
theorem hg_aload (C : hX p s m args meth c E A cc nL own Ts ret) {i : Nat} {x : Nat} (hd : decode cc pc = .ok (.aload i, 2)) (j : Nat) (hj : lv[j]? = some (i, .ref x)) (k : hG p l e R s m args below meth c E A nL Q cells slots (pc + 2) lv (.ref x :: st) ws) : hG p l e R s m args below meth c E A nL Q cells slots pc lv st ws := fun H locs ls hP hD hS hl => lv_aload C.1 C.2.1 hd (lv_at hl j hj) (k H locs ls hP hD hS hl)
theorem hg_astore_n (C : hX p s m args meth c E A cc nL own Ts ret) {n : Fin 4} {i : Nat} {x : Nat} (hd : decode cc pc = .ok (.astore_n n, 1)) (hi : (n : Nat) = i) (hn : i < nL) (hl0 : (i, Value.ref x) :: lv.filter (fun q => !(q.1 == i) && !(q.1 + 1 == i && q.2.category == 2)) = lv') (k : hG p l e R s m args below meth c E A nL Q cells slots (pc + 1) lv' st ws) : hG p l e R s m args below meth c E A nL Q cells slots pc lv (.ref x :: st) ws := fun H locs ls hP hD hS hl => lv_astore_n C.1 C.2.1 hd hi hl hn hl0 (fun ls1 hl1 => k H locs ls1 hP hD hS hl1)
theorem hg_iinc (C : hX p s m args meth c E A cc nL own Ts ret) {i : Nat} {n : Int} {x v : Int32} (hd : decode cc pc = .ok (.iinc i n, 3)) (j : Nat) (hj : lv[j]? = some (i, .int x)) (hv : x + Int32.ofInt n = v) (hn : i < nL) (hl0 : (i, Value.int v) :: lv.filter (fun q => !(q.1 == i) && !(q.1 + 1 == i && q.2.category == 2)) = lv') (k : hG p l e R s m args below meth c E A nL Q cells slots (pc + 3) lv' st ws) : hG p l e R s m args below meth c E A nL Q cells slots pc lv st ws := fun H locs ls hP hD hS hl => lv_iinc C.1 C.2.1 hd hl hj hv hn hl0 (fun ls1 hl1 => k H locs ls1 hP hD hS hl1)
theorem hg_iadd (C : hX p s m args meth c E A cc nL own Ts ret) {x y : Int32} (hd : decode cc pc = .ok (.iadd, 1))  (k : hG p l e R s m args below meth c E A nL Q cells slots (pc + 1) lv (.int (x + y) :: st) ws) : hG p l e R s m args below meth c E A nL Q cells slots pc lv (.int y :: .int x :: st) ws := fun H locs ls hP hD hS hl => lv_iadd C.1 C.2.1 hd  (k H locs ls hP hD hS hl)
theorem hg_isub (C : hX p s m args meth c E A cc nL own Ts ret) {x y : Int32} (hd : decode cc pc = .ok (.isub, 1))  (k : hG p l e R s m args below meth c E A nL Q cells slots (pc + 1) lv (.int (x - y) :: st) ws) : hG p l e R s m args below meth c E A nL Q cells slots pc lv (.int y :: .int x :: st) ws := fun H locs ls hP hD hS hl => lv_isub C.1 C.2.1 hd  (k H locs ls hP hD hS hl)
theorem hg_imul (C : hX p s m args meth c E A cc nL own Ts ret) {x y : Int32} (hd : decode cc pc = .ok (.imul, 1))  (k : hG p l e R s m args below meth c E A nL Q cells slots (pc + 1) lv (.int (x * y) :: st) ws) : hG p l e R s m args below meth c E A nL Q cells slots pc lv (.int y :: .int x :: st) ws := fun H locs ls hP hD hS hl => lv_imul C.1 C.2.1 hd  (k H locs ls hP hD hS hl)
theorem hg_iand (C : hX p s m args meth c E A cc nL own Ts ret) {x y : Int32} (hd : decode cc pc = .ok (.iand, 1))  (k : hG p l e R s m args below meth c E A nL Q cells slots (pc + 1) lv (.int (x &&& y) :: st) ws) : hG p l e R s m args below meth c E A nL Q cells slots pc lv (.int y :: .int x :: st) ws := fun H locs ls hP hD hS hl => lv_iand C.1 C.2.1 hd  (k H locs ls hP hD hS hl)
theorem hg_ior (C : hX p s m args meth c E A cc nL own Ts ret) {x y : Int32} (hd : decode cc pc = .ok (.ior, 1))  (k : hG p l e R s m args below meth c E A nL Q cells slots (pc + 1) lv (.int (x ||| y) :: st) ws) : hG p l e R s m args below meth c E A nL Q cells slots pc lv (.int y :: .int x :: st) ws := fun H locs ls hP hD hS hl => lv_ior C.1 C.2.1 hd  (k H locs ls hP hD hS hl)
theorem hg_ixor (C : hX p s m args meth c E A cc nL own Ts ret) {x y : Int32} (hd : decode cc pc = .ok (.ixor, 1))  (k : hG p l e R s m args below meth c E A nL Q cells slots (pc + 1) lv (.int (x ^^^ y) :: st) ws) : hG p l e R s m args below meth c E A nL Q cells slots pc lv (.int y :: .int x :: st) ws := fun H locs ls hP hD hS hl => lv_ixor C.1 C.2.1 hd  (k H locs ls hP hD hS hl)
theorem hg_ishl (C : hX p s m args meth c E A cc nL own Ts ret) {x y : Int32} (hd : decode cc pc = .ok (.ishl, 1))  (k : hG p l e R s m args below meth c E A nL Q cells slots (pc + 1) lv (.int (x <<< (y &&& 31)) :: st) ws) : hG p l e R s m args below meth c E A nL Q cells slots pc lv (.int y :: .int x :: st) ws := fun H locs ls hP hD hS hl => lv_ishl C.1 C.2.1 hd  (k H locs ls hP hD hS hl)
theorem hg_ishr (C : hX p s m args meth c E A cc nL own Ts ret) {x y : Int32} (hd : decode cc pc = .ok (.ishr, 1))  (k : hG p l e R s m args below meth c E A nL Q cells slots (pc + 1) lv (.int (x >>> (y &&& 31)) :: st) ws) : hG p l e R s m args below meth c E A nL Q cells slots pc lv (.int y :: .int x :: st) ws := fun H locs ls hP hD hS hl => lv_ishr C.1 C.2.1 hd  (k H locs ls hP hD hS hl)
theorem hg_idiv (C : hX p s m args meth c E A cc nL own Ts ret) {x y : Int32} (hd : decode cc pc = .ok (.idiv, 1)) (hne : ¬ y = 0) (k : hG p l e R s m args below meth c E A nL Q cells slots (pc + 1) lv (.int (x / y) :: st) ws) : hG p l e R s m args below meth c E A nL Q cells slots pc lv (.int y :: .int x :: st) ws := fun H locs ls hP hD hS hl => lv_idiv C.1 C.2.1 hd hne (k H locs ls hP hD hS hl)
theorem hg_irem (C : hX p s m args meth c E A cc nL own Ts ret) {x y : Int32} (hd : decode cc pc = .ok (.irem, 1)) (hne : ¬ y = 0) (k : hG p l e R s m args below meth c E A nL Q cells slots (pc + 1) lv (.int (x - x / y * y) :: st) ws) : hG p l e R s m args below meth c E A nL Q cells slots pc lv (.int y :: .int x :: st) ws := fun H locs ls hP hD hS hl => lv_irem C.1 C.2.1 hd hne (k H locs ls hP hD hS hl)
theorem hg_ineg (C : hX p s m args meth c E A cc nL own Ts ret) {x : Int32} (hd : decode cc pc = .ok (.ineg, 1))  (k : hG p l e R s m args below meth c E A nL Q cells slots (pc + 1) lv (.int (-x) :: st) ws) : hG p l e R s m args below meth c E A nL Q cells slots pc lv (.int x :: st) ws := fun H locs ls hP hD hS hl => lv_ineg C.1 C.2.1 hd  (k H locs ls hP hD hS hl)
theorem hg_iushr (C : hX p s m args meth c E A cc nL own Ts ret) {x y : Int32} (hd : decode cc pc = .ok (.iushr, 1))  (k : hG p l e R s m args below meth c E A nL Q cells slots (pc + 1) lv (.int ((x.toUInt32 >>> (y.toUInt32 &&& Int32.toUInt32 31)).toInt32) :: st) ws) : hG p l e R s m args below meth c E A nL Q cells slots pc lv (.int y :: .int x :: st) ws := fun H locs ls hP hD hS hl => lv_iushr C.1 C.2.1 hd rfl (k H locs ls hP hD hS hl)
theorem hg_i2l (C : hX p s m args meth c E A cc nL own Ts ret) {x : Int32} (hd : decode cc pc = .ok (.i2l, 1))  (k : hG p l e R s m args below meth c E A nL Q cells slots (pc + 1) lv (.long x.toInt64 :: st) ws) : hG p l e R s m args below meth c E A nL Q cells slots pc lv (.int x :: st) ws := fun H locs ls hP hD hS hl => lv_i2l C.1 C.2.1 hd rfl (k H locs ls hP hD hS hl)
theorem hg_l2i (C : hX p s m args meth c E A cc nL own Ts ret) {x : Int64} (hd : decode cc pc = .ok (.l2i, 1))  (k : hG p l e R s m args below meth c E A nL Q cells slots (pc + 1) lv (.int x.toInt32 :: st) ws) : hG p l e R s m args below meth c E A nL Q cells slots pc lv (.long x :: st) ws := fun H locs ls hP hD hS hl => lv_l2i C.1 C.2.1 hd rfl (k H locs ls hP hD hS hl)
theorem hg_ladd (C : hX p s m args meth c E A cc nL own Ts ret) {x y : Int64} (hd : decode cc pc = .ok (.ladd, 1))  (k : hG p l e R s m args below meth c E A nL Q cells slots (pc + 1) lv (.long (x + y) :: st) ws) : hG p l e R s m args below meth c E A nL Q cells slots pc lv (.long y :: .long x :: st) ws := fun H locs ls hP hD hS hl => lv_ladd C.1 C.2.1 hd  (k H locs ls hP hD hS hl)
theorem hg_lmul (C : hX p s m args meth c E A cc nL own Ts ret) {x y : Int64} (hd : decode cc pc = .ok (.lmul, 1))  (k : hG p l e R s m args below meth c E A nL Q cells slots (pc + 1) lv (.long (x * y) :: st) ws) : hG p l e R s m args below meth c E A nL Q cells slots pc lv (.long y :: .long x :: st) ws := fun H locs ls hP hD hS hl => lv_lmul C.1 C.2.1 hd  (k H locs ls hP hD hS hl)
theorem hg_land (C : hX p s m args meth c E A cc nL own Ts ret) {x y : Int64} (hd : decode cc pc = .ok (.land, 1))  (k : hG p l e R s m args below meth c E A nL Q cells slots (pc + 1) lv (.long (x &&& y) :: st) ws) : hG p l e R s m args below meth c E A nL Q cells slots pc lv (.long y :: .long x :: st) ws := fun H locs ls hP hD hS hl => lv_land C.1 C.2.1 hd  (k H locs ls hP hD hS hl)
theorem hg_lor (C : hX p s m args meth c E A cc nL own Ts ret) {x y : Int64} (hd : decode cc pc = .ok (.lor, 1))  (k : hG p l e R s m args below meth c E A nL Q cells slots (pc + 1) lv (.long (x ||| y) :: st) ws) : hG p l e R s m args below meth c E A nL Q cells slots pc lv (.long y :: .long x :: st) ws := fun H locs ls hP hD hS hl => lv_lor C.1 C.2.1 hd  (k H locs ls hP hD hS hl)
theorem hg_lrem (C : hX p s m args meth c E A cc nL own Ts ret) {x y : Int64} (hd : decode cc pc = .ok (.lrem, 1)) (hne : ¬ y = 0) (k : hG p l e R s m args below meth c E A nL Q cells slots (pc + 1) lv (.long (x - x / y * y) :: st) ws) : hG p l e R s m args below meth c E A nL Q cells slots pc lv (.long y :: .long x :: st) ws := fun H locs ls hP hD hS hl => lv_lrem C.1 C.2.1 hd hne (k H locs ls hP hD hS hl)
theorem hg_lshl (C : hX p s m args meth c E A cc nL own Ts ret) {x : Int64} {y : Int32} (hd : decode cc pc = .ok (.lshl, 1))  (k : hG p l e R s m args below meth c E A nL Q cells slots (pc + 1) lv (.long (x <<< (y.toInt64 &&& 63)) :: st) ws) : hG p l e R s m args below meth c E A nL Q cells slots pc lv (.int y :: .long x :: st) ws := fun H locs ls hP hD hS hl => lv_lshl C.1 C.2.1 hd rfl (k H locs ls hP hD hS hl)
theorem hg_lushr (C : hX p s m args meth c E A cc nL own Ts ret) {x : Int64} {y : Int32} (hd : decode cc pc = .ok (.lushr, 1))  (k : hG p l e R s m args below meth c E A nL Q cells slots (pc + 1) lv (.long ((x.toUInt64 >>> (y.toInt64.toUInt64 &&& Int64.toUInt64 63)).toInt64) :: st) ws) : hG p l e R s m args below meth c E A nL Q cells slots pc lv (.int y :: .long x :: st) ws := fun H locs ls hP hD hS hl => lv_lushr C.1 C.2.1 hd rfl (k H locs ls hP hD hS hl)
theorem hg_lcmp (C : hX p s m args meth c E A cc nL own Ts ret) {x y : Int64} (hd : decode cc pc = .ok (.lcmp, 1))  (k : hG p l e R s m args below meth c E A nL Q cells slots (pc + 1) lv (.int (lg_cmp x y) :: st) ws) : hG p l e R s m args below meth c E A nL Q cells slots pc lv (.long y :: .long x :: st) ws := fun H locs ls hP hD hS hl => W.lcmp C.1 C.2.1 hd  (k H locs ls hP hD hS hl)
theorem hg_dup (C : hX p s m args meth c E A cc nL own Ts ret) {va : Value} (hd : decode cc pc = .ok (.dup, 1)) (hva : va.category = 1) (k : hG p l e R s m args below meth c E A nL Q cells slots (pc + 1) lv (va :: va :: st) ws) : hG p l e R s m args below meth c E A nL Q cells slots pc lv (va :: st) ws := fun H locs ls hP hD hS hl => lv_dup C.1 C.2.1 hd hva (k H locs ls hP hD hS hl)
theorem hg_dup2 (C : hX p s m args meth c E A cc nL own Ts ret) {va vb : Value} (hd : decode cc pc = .ok (.dup2, 1)) (hva : va.category = 1) (hvb : vb.category = 1) (k : hG p l e R s m args below meth c E A nL Q cells slots (pc + 1) lv (va :: vb :: va :: vb :: st) ws) : hG p l e R s m args below meth c E A nL Q cells slots pc lv (va :: vb :: st) ws := fun H locs ls hP hD hS hl => lv_dup2_11 C.1 C.2.1 hd hva hvb (k H locs ls hP hD hS hl)
theorem hg_pop (C : hX p s m args meth c E A cc nL own Ts ret) {va : Value} (hd : decode cc pc = .ok (.pop, 1)) (hva : va.category = 1) (k : hG p l e R s m args below meth c E A nL Q cells slots (pc + 1) lv (st) ws) : hG p l e R s m args below meth c E A nL Q cells slots pc lv (va :: st) ws := fun H locs ls hP hD hS hl => lv_pop C.1 C.2.1 hd hva (k H locs ls hP hD hS hl)
theorem hg_goto (C : hX p s m args meth c E A cc nL own Ts ret) {off : Int} {tgt : Nat} (hd : decode cc pc = .ok (.goto off, 3)) (ht : (pc : Int) + off = (tgt : Int)) (k : hG p l e R s m args below meth c E A nL Q cells slots tgt lv st ws) : hG p l e R s m args below meth c E A nL Q cells slots pc lv st ws := fun H locs ls hP hD hS hl => lv_goto C.1 C.2.1 hd ht (k H locs ls hP hD hS hl)
theorem hg_icmp_eq (C : hX p s m args meth c E A cc nL own Ts ret) {x y : Int32} {off : Int} {tgt : Nat} (hd : decode cc pc = .ok (.if_icmp .eq off, 3)) (ht : (pc : Int) + off = (tgt : Int)) (kt : x = y → hG p l e R s m args below meth c E A nL Q cells slots tgt lv st ws) (kf : ¬ x = y → hG p l e R s m args below meth c E A nL Q cells slots (pc + 3) lv st ws) : hG p l e R s m args below meth c E A nL Q cells slots pc lv (.int y :: .int x :: st) ws := fun H locs ls hP hD hS hl => lv_icmp_eq C.1 C.2.1 hd ht (fun h => kt h H locs ls hP hD hS hl) (fun h => kf h H locs ls hP hD hS hl)
theorem hg_icmp_ne (C : hX p s m args meth c E A cc nL own Ts ret) {x y : Int32} {off : Int} {tgt : Nat} (hd : decode cc pc = .ok (.if_icmp .ne off, 3)) (ht : (pc : Int) + off = (tgt : Int)) (kt : ¬ x = y → hG p l e R s m args below meth c E A nL Q cells slots tgt lv st ws) (kf : x = y → hG p l e R s m args below meth c E A nL Q cells slots (pc + 3) lv st ws) : hG p l e R s m args below meth c E A nL Q cells slots pc lv (.int y :: .int x :: st) ws := fun H locs ls hP hD hS hl => lv_icmp_ne C.1 C.2.1 hd ht (fun h => kt h H locs ls hP hD hS hl) (fun h => kf h H locs ls hP hD hS hl)
theorem hg_icmp_lt (C : hX p s m args meth c E A cc nL own Ts ret) {x y : Int32} {off : Int} {tgt : Nat} (hd : decode cc pc = .ok (.if_icmp .lt off, 3)) (ht : (pc : Int) + off = (tgt : Int)) (kt : x < y → hG p l e R s m args below meth c E A nL Q cells slots tgt lv st ws) (kf : ¬ x < y → hG p l e R s m args below meth c E A nL Q cells slots (pc + 3) lv st ws) : hG p l e R s m args below meth c E A nL Q cells slots pc lv (.int y :: .int x :: st) ws := fun H locs ls hP hD hS hl => lv_icmp_lt C.1 C.2.1 hd ht (fun h => kt h H locs ls hP hD hS hl) (fun h => kf h H locs ls hP hD hS hl)
theorem hg_icmp_ge (C : hX p s m args meth c E A cc nL own Ts ret) {x y : Int32} {off : Int} {tgt : Nat} (hd : decode cc pc = .ok (.if_icmp .ge off, 3)) (ht : (pc : Int) + off = (tgt : Int)) (kt : y ≤ x → hG p l e R s m args below meth c E A nL Q cells slots tgt lv st ws) (kf : ¬ y ≤ x → hG p l e R s m args below meth c E A nL Q cells slots (pc + 3) lv st ws) : hG p l e R s m args below meth c E A nL Q cells slots pc lv (.int y :: .int x :: st) ws := fun H locs ls hP hD hS hl => lv_icmp_ge C.1 C.2.1 hd ht (fun h => kt h H locs ls hP hD hS hl) (fun h => kf h H locs ls hP hD hS hl)
theorem hg_icmp_gt (C : hX p s m args meth c E A cc nL own Ts ret) {x y : Int32} {off : Int} {tgt : Nat} (hd : decode cc pc = .ok (.if_icmp .gt off, 3)) (ht : (pc : Int) + off = (tgt : Int)) (kt : y < x → hG p l e R s m args below meth c E A nL Q cells slots tgt lv st ws) (kf : ¬ y < x → hG p l e R s m args below meth c E A nL Q cells slots (pc + 3) lv st ws) : hG p l e R s m args below meth c E A nL Q cells slots pc lv (.int y :: .int x :: st) ws := fun H locs ls hP hD hS hl => lv_icmp_gt C.1 C.2.1 hd ht (fun h => kt h H locs ls hP hD hS hl) (fun h => kf h H locs ls hP hD hS hl)
theorem hg_icmp_le (C : hX p s m args meth c E A cc nL own Ts ret) {x y : Int32} {off : Int} {tgt : Nat} (hd : decode cc pc = .ok (.if_icmp .le off, 3)) (ht : (pc : Int) + off = (tgt : Int)) (kt : x ≤ y → hG p l e R s m args below meth c E A nL Q cells slots tgt lv st ws) (kf : ¬ x ≤ y → hG p l e R s m args below meth c E A nL Q cells slots (pc + 3) lv st ws) : hG p l e R s m args below meth c E A nL Q cells slots pc lv (.int y :: .int x :: st) ws := fun H locs ls hP hD hS hl => lv_icmp_le C.1 C.2.1 hd ht (fun h => kt h H locs ls hP hD hS hl) (fun h => kf h H locs ls hP hD hS hl)
theorem hg_if_eq (C : hX p s m args meth c E A cc nL own Ts ret) {x : Int32} {off : Int} {tgt : Nat} (hd : decode cc pc = .ok (.ifCond .eq off, 3)) (ht : (pc : Int) + off = (tgt : Int)) (kt : x = 0 → hG p l e R s m args below meth c E A nL Q cells slots tgt lv st ws) (kf : ¬ x = 0 → hG p l e R s m args below meth c E A nL Q cells slots (pc + 3) lv st ws) : hG p l e R s m args below meth c E A nL Q cells slots pc lv (.int x :: st) ws := fun H locs ls hP hD hS hl => lv_if_eq C.1 C.2.1 hd ht (fun h => kt h H locs ls hP hD hS hl) (fun h => kf h H locs ls hP hD hS hl)
theorem hg_if_ne (C : hX p s m args meth c E A cc nL own Ts ret) {x : Int32} {off : Int} {tgt : Nat} (hd : decode cc pc = .ok (.ifCond .ne off, 3)) (ht : (pc : Int) + off = (tgt : Int)) (kt : ¬ x = 0 → hG p l e R s m args below meth c E A nL Q cells slots tgt lv st ws) (kf : x = 0 → hG p l e R s m args below meth c E A nL Q cells slots (pc + 3) lv st ws) : hG p l e R s m args below meth c E A nL Q cells slots pc lv (.int x :: st) ws := fun H locs ls hP hD hS hl => lv_if_ne C.1 C.2.1 hd ht (fun h => kt h H locs ls hP hD hS hl) (fun h => kf h H locs ls hP hD hS hl)
theorem hg_if_lt (C : hX p s m args meth c E A cc nL own Ts ret) {x : Int32} {off : Int} {tgt : Nat} (hd : decode cc pc = .ok (.ifCond .lt off, 3)) (ht : (pc : Int) + off = (tgt : Int)) (kt : x < 0 → hG p l e R s m args below meth c E A nL Q cells slots tgt lv st ws) (kf : ¬ x < 0 → hG p l e R s m args below meth c E A nL Q cells slots (pc + 3) lv st ws) : hG p l e R s m args below meth c E A nL Q cells slots pc lv (.int x :: st) ws := fun H locs ls hP hD hS hl => lv_if_lt C.1 C.2.1 hd ht (fun h => kt h H locs ls hP hD hS hl) (fun h => kf h H locs ls hP hD hS hl)
theorem hg_if_ge (C : hX p s m args meth c E A cc nL own Ts ret) {x : Int32} {off : Int} {tgt : Nat} (hd : decode cc pc = .ok (.ifCond .ge off, 3)) (ht : (pc : Int) + off = (tgt : Int)) (kt : 0 ≤ x → hG p l e R s m args below meth c E A nL Q cells slots tgt lv st ws) (kf : ¬ 0 ≤ x → hG p l e R s m args below meth c E A nL Q cells slots (pc + 3) lv st ws) : hG p l e R s m args below meth c E A nL Q cells slots pc lv (.int x :: st) ws := fun H locs ls hP hD hS hl => lv_if_ge C.1 C.2.1 hd ht (fun h => kt h H locs ls hP hD hS hl) (fun h => kf h H locs ls hP hD hS hl)
theorem hg_if_gt (C : hX p s m args meth c E A cc nL own Ts ret) {x : Int32} {off : Int} {tgt : Nat} (hd : decode cc pc = .ok (.ifCond .gt off, 3)) (ht : (pc : Int) + off = (tgt : Int)) (kt : 0 < x → hG p l e R s m args below meth c E A nL Q cells slots tgt lv st ws) (kf : ¬ 0 < x → hG p l e R s m args below meth c E A nL Q cells slots (pc + 3) lv st ws) : hG p l e R s m args below meth c E A nL Q cells slots pc lv (.int x :: st) ws := fun H locs ls hP hD hS hl => lv_if_gt C.1 C.2.1 hd ht (fun h => kt h H locs ls hP hD hS hl) (fun h => kf h H locs ls hP hD hS hl)
theorem hg_if_le (C : hX p s m args meth c E A cc nL own Ts ret) {x : Int32} {off : Int} {tgt : Nat} (hd : decode cc pc = .ok (.ifCond .le off, 3)) (ht : (pc : Int) + off = (tgt : Int)) (kt : x ≤ 0 → hG p l e R s m args below meth c E A nL Q cells slots tgt lv st ws) (kf : ¬ x ≤ 0 → hG p l e R s m args below meth c E A nL Q cells slots (pc + 3) lv st ws) : hG p l e R s m args below meth c E A nL Q cells slots pc lv (.int x :: st) ws := fun H locs ls hP hD hS hl => lv_if_le C.1 C.2.1 hd ht (fun h => kt h H locs ls hP hD hS hl) (fun h => kf h H locs ls hP hD hS hl)
theorem hg_tabIn (C : hX p s m args meth c E A cc nL own Ts ret) {dflt lo hi : Int} {offs : Array Int} {len : Nat} {x : Int32} {off : Int} {tgt : Nat} (hd : decode cc pc = .ok (.tableswitch dflt lo hi offs, len)) (h1 : ¬ x.toInt < lo) (h2 : ¬ hi < x.toInt) (ho : offs[(x.toInt - lo).toNat]? = some off) (ht : (pc : Int) + off = (tgt : Int)) (k : hG p l e R s m args below meth c E A nL Q cells slots tgt lv st ws) : hG p l e R s m args below meth c E A nL Q cells slots pc lv (.int x :: st) ws := fun H locs ls hP hD hS hl => lv_tableIn C.1 C.2.1 hd h1 h2 ho ht (k H locs ls hP hD hS hl)
theorem hg_tabOut (C : hX p s m args meth c E A cc nL own Ts ret) {dflt lo hi : Int} {offs : Array Int} {len : Nat} {x : Int32} {tgt : Nat} (hd : decode cc pc = .ok (.tableswitch dflt lo hi offs, len)) (h : x.toInt < lo ∨ hi < x.toInt) (ht : (pc : Int) + dflt = (tgt : Int)) (k : hG p l e R s m args below meth c E A nL Q cells slots tgt lv st ws) : hG p l e R s m args below meth c E A nL Q cells slots pc lv (.int x :: st) ws := fun H locs ls hP hD hS hl => lv_tableOut C.1 C.2.1 hd h ht (k H locs ls hP hD hS hl)
theorem hg_ldcw (C : hX p s m args meth c E A cc nL own Ts ret) {index : Nat} {v : Int32} (hc : Cond.constant own index v ∈ Ts) (hd : decode cc pc = .ok (.ldc_w index, 3)) (k : hG p l e R s m args below meth c E A nL Q cells slots (pc + 3) lv (.int v :: st) ws) : hG p l e R s m args below meth c E A nL Q cells slots pc lv st ws := fun H locs ls hP hD hS hl => lv_ldcw C.1 C.2.1 C.2.2.2.1 (C.2.2.2.2.1 _ hc) hd (k H locs ls hP hD hS hl)
theorem hg_ldc2 (C : hX p s m args meth c E A cc nL own Ts ret) {index : Nat} {v : Int64} (hc : Cond.constantLong own index v ∈ Ts) (hd : decode cc pc = .ok (.ldc2_w index, 3)) (k : hG p l e R s m args below meth c E A nL Q cells slots (pc + 3) lv (.long v :: st) ws) : hG p l e R s m args below meth c E A nL Q cells slots pc lv st ws := fun H locs ls hP hD hS hl => lv_ldc2 C.1 C.2.1 C.2.2.2.1 (C.2.2.2.2.1 _ hc) hd (k H locs ls hP hD hS hl)
theorem hg_get (C : hX p s m args meth c E A cc nL own Ts ret) {Cn : String} {T : u_T} {N ci index a : Nat} {fs : List Value} {v : Value} (hin : ∀ w ∈ u_ws Cn T N, w ∈ Ts) (q0 : Nat) (he : ws[q0]? = some (a, .inr (ci, fs))) (hc : vwCl[ci]? = some (Cn, T, N)) (k0 : Nat) (hk : k0 < N) (hlink : Cond.fieldLink own index (T k0).1 (T k0).2.1 (T k0).2.2.1 ∈ Ts) (hv : fs[k0]? = some v) (hd : decode cc pc = .ok (.getfield index, 3)) (k : hG p l e R s m args below meth c E A nL Q cells slots (pc + 3) lv (v :: st) ws) : hG p l e R s m args below meth c E A nL Q cells slots pc lv (.ref a :: st) ws := fun H locs ls hP hD hS hl => va_get C.1 C.2.1 C.2.2.2.2.1 hin C.2.2.2.1 C.2.2.2.2.2.1.1 hP q0 he hc k0 hk (C.2.2.2.2.1 _ hlink) (fun _ h9 => h9) hv hd (k H locs ls hP hD hS hl)
theorem hg_getN (C : hX p s m args meth c E A cc nL own Ts ret) {Cn host : String} {T : u_T} {N ci index a : Nat} {fs : List Value} {v : Value} (hin : ∀ w ∈ u_ws Cn T N, w ∈ Ts) (q0 : Nat) (he : ws[q0]? = some (a, .inr (ci, fs))) (hc : vwCl[ci]? = some (Cn, T, N)) (k0 : Nat) (hk : k0 < N) (hlink : (own, index, (T k0).1, (T k0).2.1, (T k0).2.2.1, host) ∈ hNF) (hv : fs[k0]? = some v) (hd : decode cc pc = .ok (.getfield index, 3)) (k : hG p l e R s m args below meth c E A nL Q cells slots (pc + 3) lv (v :: st) ws) : hG p l e R s m args below meth c E A nL Q cells slots pc lv (.ref a :: st) ws := fun H locs ls hP hD hS hl => va_getN (host := host) C.1 C.2.1 C.2.2.2.2.1 hin C.2.2.2.1 C.2.2.2.2.2.1.1 hP q0 he hc k0 hk (va_Nw.use rfl (C.2.2.2.2.2.1.2.1 _ hlink)) (fun _ h9 => h9) hv hd (k H locs ls hP hD hS hl)
theorem hg_put (C : hX p s m args meth c E A cc nL own Ts ret) {Cn : String} {T : u_T} {N ci index a : Nat} {fs : List Value} {v : Value} {ty : FieldType} (hin : ∀ w ∈ u_ws Cn T N, w ∈ Ts) (ty0 : Nat → FieldType) (hty : ∀ k, k < N → parseFieldDescriptor (T k).2.2.1 = some (ty0 k)) (hnm : ∀ a, a < N → ∀ b, b < N → a ≠ b → (T a).2.1 ≠ (T b).2.1) (q0 : Nat) (he : ws[q0]? = some (a, .inr (ci, fs))) (hc : vwCl[ci]? = some (Cn, T, N)) (k0 : Nat) (hk : k0 < N) (hlink : Cond.fieldLink own index (T k0).1 (T k0).2.1 (T k0).2.2.1 ∈ Ts) (hfin : (T k0).2.2.2 = false) (hdt : ty0 k0 = ty) (hn : narrow ty v = v) (hfit : fits ty v = true) (hl0 : k0 < fs.length) (hws : ws.set q0 (a, .inr (ci, fs.set k0 v)) = ws') (hd : decode cc pc = .ok (.putfield index, 3)) (k : hG p l e R s m args below meth c E A nL Q cells slots (pc + 3) lv st ws') : hG p l e R s m args below meth c E A nL Q cells slots pc lv (v :: .ref a :: st) ws := by
  subst hws
  subst hdt
  exact fun H locs ls hP hD hS hl => va_put C.1 C.2.1 C.2.2.2.2.1 hin ty0 hty hnm C.2.2.2.1 C.2.2.2.2.2.1.1 hP hD hS q0 he hc k0 hk (C.2.2.2.2.1 _ hlink) (fun _ h9 => h9) hfin (hty k0 hk) hn hfit hl0 hd (fun H1 locs1 hP1 hD1 hS1 => k H1 locs1 ls hP1 hD1 hS1 hl)
theorem hg_putN (C : hX p s m args meth c E A cc nL own Ts ret) {Cn host : String} {T : u_T} {N ci index a : Nat} {fs : List Value} {v : Value} {ty : FieldType} (hin : ∀ w ∈ u_ws Cn T N, w ∈ Ts) (ty0 : Nat → FieldType) (hty : ∀ k, k < N → parseFieldDescriptor (T k).2.2.1 = some (ty0 k)) (hnm : ∀ a, a < N → ∀ b, b < N → a ≠ b → (T a).2.1 ≠ (T b).2.1) (q0 : Nat) (he : ws[q0]? = some (a, .inr (ci, fs))) (hc : vwCl[ci]? = some (Cn, T, N)) (k0 : Nat) (hk : k0 < N) (hlink : (own, index, (T k0).1, (T k0).2.1, (T k0).2.2.1, host) ∈ hNF) (hfin : (T k0).2.2.2 = false) (hdt : ty0 k0 = ty) (hn : narrow ty v = v) (hfit : fits ty v = true) (hl0 : k0 < fs.length) (hws : ws.set q0 (a, .inr (ci, fs.set k0 v)) = ws') (hd : decode cc pc = .ok (.putfield index, 3)) (k : hG p l e R s m args below meth c E A nL Q cells slots (pc + 3) lv st ws') : hG p l e R s m args below meth c E A nL Q cells slots pc lv (v :: .ref a :: st) ws := by
  subst hws
  subst hdt
  exact fun H locs ls hP hD hS hl => va_putN (host := host) C.1 C.2.1 C.2.2.2.2.1 hin ty0 hty hnm C.2.2.2.1 C.2.2.2.2.2.1.1 hP hD hS q0 he hc k0 hk (va_Nw.use rfl (C.2.2.2.2.2.1.2.1 _ hlink)) (fun _ h9 => h9) hfin (hty k0 hk) hn hfit hl0 hd (fun H1 locs1 hP1 hD1 hS1 => k H1 locs1 ls hP1 hD1 hS1 hl)
theorem hg_iald (C : hX p s m args meth c E A cc nL own Ts ret) {a n : Nat} {f : Nat → Int32} {i : Int32} (q0 : Nat) (ha : ws[q0]? = some (a, .inl (E.2.1.1, n, .inl f))) (hin : vp_in i n) (hd : decode cc pc = .ok (.iaload, 1)) (k : hG p l e R s m args below meth c E A nL Q cells slots (pc + 1) lv (.int (f i.toNatClampNeg) :: st) ws) : hG p l e R s m args below meth c E A nL Q cells slots pc lv (.int i :: .ref a :: st) ws := fun H locs ls hP hD hS hl => va_iald C.1 C.2.1 C.2.2.2.2.2.1.1 hP q0 0 ha rfl hin hd (k H locs ls hP hD hS hl)
theorem hg_zald (C : hX p s m args meth c E A cc nL own Ts ret) {a n : Nat} {f : Nat → Int32} {i : Int32} (q0 : Nat) (ha : ws[q0]? = some (a, .inl (E.2.1.2.1, n, .inl f))) (hin : vp_in i n) (hd : decode cc pc = .ok (.baload, 1)) (k : hG p l e R s m args below meth c E A nL Q cells slots (pc + 1) lv (.int (f i.toNatClampNeg) :: st) ws) : hG p l e R s m args below meth c E A nL Q cells slots pc lv (.int i :: .ref a :: st) ws := fun H locs ls hP hD hS hl => va_zald C.1 C.2.1 C.2.2.2.2.2.1.1 hP q0 1 ha rfl hin hd (k H locs ls hP hD hS hl)
theorem hg_aald (C : hX p s m args meth c E A cc nL own Ts ret) {a n b : Nat} {f : Nat → Option Nat} {i : Int32} (q0 : Nat) (ha : ws[q0]? = some (a, .inl (E.2.1.2.2, n, .inr (.inr (.inr (.inr f)))))) (hin : vp_in i n) (hb0 : f i.toNatClampNeg = some b) (hd : decode cc pc = .ok (.aaload, 1)) (k : hG p l e R s m args below meth c E A nL Q cells slots (pc + 1) lv (.ref b :: st) ws) : hG p l e R s m args below meth c E A nL Q cells slots pc lv (.int i :: .ref a :: st) ws := fun H locs ls hP hD hS hl => va_aldq (C := RX3) C.1 C.2.1 C.2.2.2.2.2.1.1 hP q0 2 ha rfl hin hd (by rw [hb0]; exact k H locs ls hP hD hS hl)
theorem hg_iast (C : hX p s m args meth c E A cc nL own Ts ret) {a n : Nat} {f : Nat → Int32} {i x : Int32} (q0 : Nat) (ha : ws[q0]? = some (a, .inl (E.2.1.1, n, .inl f))) (hin : vp_in i n) (hws : ws.set q0 (a, .inl (E.2.1.1, n, .inl (upd f i.toNatClampNeg x))) = ws') (hd : decode cc pc = .ok (.iastore, 1)) (k : hG p l e R s m args below meth c E A nL Q cells slots (pc + 1) lv st ws') : hG p l e R s m args below meth c E A nL Q cells slots pc lv (.int x :: .int i :: .ref a :: st) ws := by
  subst hws
  exact fun H locs ls hP hD hS hl => va_iast C.1 C.2.1 C.2.2.2.2.2.1.1 hP hD hS q0 0 ha rfl hin hd (fun H1 locs1 hP1 hD1 hS1 => k H1 locs1 ls hP1 hD1 hS1 hl)
theorem hg_zast (C : hX p s m args meth c E A cc nL own Ts ret) {a n : Nat} {f : Nat → Int32} {i x : Int32} (q0 : Nat) (ha : ws[q0]? = some (a, .inl (E.2.1.2.1, n, .inl f))) (hin : vp_in i n) (hws : ws.set q0 (a, .inl (E.2.1.2.1, n, .inl (upd f i.toNatClampNeg (vp_nar .boolean x)))) = ws') (hd : decode cc pc = .ok (.bastore, 1)) (k : hG p l e R s m args below meth c E A nL Q cells slots (pc + 1) lv st ws') : hG p l e R s m args below meth c E A nL Q cells slots pc lv (.int x :: .int i :: .ref a :: st) ws := by
  subst hws
  exact fun H locs ls hP hD hS hl => va_zast C.1 C.2.1 C.2.2.2.2.2.1.1 hP hD hS q0 1 ha rfl hin hd (fun H1 locs1 hP1 hD1 hS1 => k H1 locs1 ls hP1 hD1 hS1 hl)
theorem hg_join {J : Nat} {v : Int32} {st1 : List Value} (arms : hG p l e R s m args below meth c E A nL Q cells slots J lv (.int v :: st1) ws → hG p l e R s m args below meth c E A nL Q cells slots pc lv st ws) (k : hG p l e R s m args below meth c E A nL Q cells slots J lv (.int v :: st1) ws) : hG p l e R s m args below meth c E A nL Q cells slots pc lv st ws := arms k
theorem hg_top {v v' : Int32} (h : v = v') (k : hG p l e R s m args below meth c E A nL Q cells slots pc lv (.int v :: st) ws) : hG p l e R s m args below meth c E A nL Q cells slots pc lv (.int v' :: st) ws := by
  subst h
  exact k
theorem hg_alen (C : hX p s m args meth c E A cc nL own Ts ret) {a n : Nat} {f : Nat → Int32} {v : Int32} (q0 : Nat) (ha : ws[q0]? = some (a, .inl (E.2.1.1, n, .inl f))) (hv : Int32.ofNat n = v) (hd : decode cc pc = .ok (.arraylength, 1)) (k : hG p l e R s m args below meth c E A nL Q cells slots (pc + 1) lv (.int v :: st) ws) : hG p l e R s m args below meth c E A nL Q cells slots pc lv (.ref a :: st) ws := fun H locs ls hP hD hS hl => va_alen (ty := .int) C.1 C.2.1 C.2.2.2.2.2.1.1 hP q0 0 ha rfl hv hd (k H locs ls hP hD hS hl)
theorem hg_tlen (C : hX p s m args meth c E A cc nL own Ts ret) {t N : Nat} {f : Nat → Value} {v : Int32} (hT : va_T .int t N f A s s.heap) (hv : Int32.ofNat N = v) (hd : decode cc pc = .ok (.arraylength, 1)) (k : hG p l e R s m args below meth c E A nL Q cells slots (pc + 1) lv (.int v :: st) ws) : hG p l e R s m args below meth c E A nL Q cells slots pc lv (.ref t :: st) ws := fun H locs ls hP hD hS hl => va_tlen C.1 C.2.1 hT hS hv hd (k H locs ls hP hD hS hl)
theorem hg_ti (C : hX p s m args meth c E A cc nL own Ts ret) {t N : Nat} {f : Nat → Int32} {i : Int32} (hT : va_T .int t N (fun j => .int (f j)) A s s.heap) (hin : vp_in i N) (hd : decode cc pc = .ok (.iaload, 1)) (k : hG p l e R s m args below meth c E A nL Q cells slots (pc + 1) lv (.int (f i.toNatClampNeg) :: st) ws) : hG p l e R s m args below meth c E A nL Q cells slots pc lv (.int i :: .ref t :: st) ws := fun H locs ls hP hD hS hl => va_ti C.1 C.2.1 hT hS hin rfl hd (k H locs ls hP hD hS hl)
theorem hg_getsN (C : hX p s m args meth c E A cc nL own Ts ret) {n0 d0 host : String} {v : Value} {index : Nat} (hz : va_Z RX5 n0 d0 v A s s.heap) (hlink : (own, index, RX5, n0, d0, host) ∈ hNF) (hd : decode cc pc = .ok (.getstatic index, 3)) (k : hG p l e R s m args below meth c E A nL Q cells slots (pc + 3) lv (v :: st) ws) : hG p l e R s m args below meth c E A nL Q cells slots pc lv st ws := fun H locs ls hP hD hS hl => va_getsN (host := host) C.1 C.2.1 hz hS C.2.2.2.1 (va_Nw.use rfl (C.2.2.2.2.2.1.2.1 _ hlink)) (fun _ h9 => h9) hd (k H locs ls hP hD hS hl)
theorem hg_eq (hlv : lv = lv') (hst : st = st') (hws : ws = ws') (k : hG p l e R s m args below meth c E A nL Q cells slots pc lv' st' ws') : hG p l e R s m args below meth c E A nL Q cells slots pc lv st ws := by
  subst hlv
  subst hst
  subst hws
  exact k
theorem hg_sub (ks : List Nat) (h : lv_pick lv ks = lv') (k : hG p l e R s m args below meth c E A nL Q cells slots pc lv' st ws) : hG p l e R s m args below meth c E A nL Q cells slots pc lv st ws := fun H locs ls hP hD hS hl => k H locs ls hP hD hS (lv_sub hl ks h)
theorem hg_mmax (C : hX p s m args meth c E A cc nL own Ts ret) {index : Nat} {x y : Int32} (h1 : Cond.methodLink own index Lib.Math.max.name ∈ Ts) (h2 : Cond.static Lib.Math.max.name ∈ Ts) (h3 : Cond.initialized "java/lang/Math" ∈ Ts) (h4 : Cond.code Lib.Math.max.name Lib.Math.max.code 2 (some .int) ∈ Ts) (hf : 1 ≤ R.frames) (hlo : (st.map fun v => v.category).sum + 13 ≤ R.locals) (hcap : cells ≤ R.cells ∧ slots ≤ R.slots) (hd : decode cc pc = .ok (.invokestatic index, 3)) (k : hG p l e R s m args below meth c E A nL Q cells slots (pc + 3) lv (.int (if x < y then y else x) :: st) ws) : hG p l e R s m args below meth c E A nL Q cells slots pc lv (.int y :: .int x :: st) ws := fun H locs ls hP hD hS hl => va_mmax C.1 C.2.1 (C.2.2.1.trans hl.1.symm) C.2.2.2.1 (C.2.2.2.2.1 _ h1) (C.2.2.2.2.1 _ h2) (C.2.2.2.2.1 _ h3) (C.2.2.2.2.1 _ h4) hf hlo hcap.1 hcap.2 hd (k H locs ls hP hD hS hl)
theorem hg_mmin (C : hX p s m args meth c E A cc nL own Ts ret) {index : Nat} {x y : Int32} (h1 : Cond.methodLink own index Lib.Math.min.name ∈ Ts) (h2 : Cond.static Lib.Math.min.name ∈ Ts) (h3 : Cond.initialized "java/lang/Math" ∈ Ts) (h4 : Cond.code Lib.Math.min.name Lib.Math.min.code 2 (some .int) ∈ Ts) (hf : 1 ≤ R.frames) (hlo : (st.map fun v => v.category).sum + 13 ≤ R.locals) (hcap : cells ≤ R.cells ∧ slots ≤ R.slots) (hd : decode cc pc = .ok (.invokestatic index, 3)) (k : hG p l e R s m args below meth c E A nL Q cells slots (pc + 3) lv (.int (if y < x then y else x) :: st) ws) : hG p l e R s m args below meth c E A nL Q cells slots pc lv (.int y :: .int x :: st) ws := fun H locs ls hP hD hS hl => va_mmin C.1 C.2.1 (C.2.2.1.trans hl.1.symm) C.2.2.2.1 (C.2.2.2.2.1 _ h1) (C.2.2.2.2.1 _ h2) (C.2.2.2.2.1 _ h3) (C.2.2.2.2.1 _ h4) hf hlo hcap.1 hcap.2 hd (k H locs ls hP hD hS hl)
theorem hg_mabs (C : hX p s m args meth c E A cc nL own Ts ret) {index : Nat} {x : Int32} (h1 : Cond.methodLink own index Lib.Math.abs.name ∈ Ts) (h2 : Cond.static Lib.Math.abs.name ∈ Ts) (h3 : Cond.initialized "java/lang/Math" ∈ Ts) (h4 : Cond.code Lib.Math.abs.name Lib.Math.abs.code 1 (some .int) ∈ Ts) (hf : 1 ≤ R.frames) (hlo : (st.map fun v => v.category).sum + 13 ≤ R.locals) (hcap : cells ≤ R.cells ∧ slots ≤ R.slots) (hd : decode cc pc = .ok (.invokestatic index, 3)) (k : hG p l e R s m args below meth c E A nL Q cells slots (pc + 3) lv (.int (if 0 ≤ x then x else 0 - x) :: st) ws) : hG p l e R s m args below meth c E A nL Q cells slots pc lv (.int x :: st) ws := fun H locs ls hP hD hS hl => va_mabs C.1 C.2.1 (C.2.2.1.trans hl.1.symm) C.2.2.2.1 (C.2.2.2.2.1 _ h1) (C.2.2.2.2.1 _ h2) (C.2.2.2.2.1 _ h3) (C.2.2.2.2.1 _ h4) hf hlo hcap.1 hcap.2 hd (k H locs ls hP hD hS hl)
theorem hg_copyi (C : hX p s m args meth c E A cc nL own Ts ret) {index a a0 n0 : Nat} {f g : Nat → Int32} {n : Int32} (h1 : Cond.methodLink own index arraycopyName ∈ Ts) (h2 : Cond.native arraycopyName ∈ Ts) (h3 : Cond.static arraycopyName ∈ Ts) (h4 : Cond.initialized "java/lang/System" ∈ Ts) (q0 q1 : Nat) (ha0 : ws[q0]? = some (a0, .inl (E.2.1.1, n0, .inl f))) (ha1 : ws[q1]? = some (a, .inl (E.2.1.1, n0, .inl g))) (hn : ¬ n < 0) (hn0 : n.toNatClampNeg = n0) (hf : 1 ≤ R.frames) (hlo : (st.map fun v => v.category).sum + (nativeFrameWords "java/lang/System" "arraycopy" 5 + 11) ≤ R.locals) (hws : ws.set q1 (a, .inl (E.2.1.1, n0, .inl f)) = ws') (hd : decode cc pc = .ok (.invokestatic index, 3)) (k : hG p l e R s m args below meth c E A nL Q cells slots (pc + 3) lv st ws') : hG p l e R s m args below meth c E A nL Q cells slots pc lv (.int n :: .int 0 :: .ref a :: .int 0 :: .ref a0 :: st) ws := by
  subst hws
  subst hn0
  exact fun H locs ls hP hD hS hl => va_copyi C.1 C.2.1 (C.2.2.1.trans hl.1.symm) C.2.2.2.1 (C.2.2.2.2.1 _ h1) (C.2.2.2.2.1 _ h2) (C.2.2.2.2.1 _ h3) (C.2.2.2.2.1 _ h4) C.2.2.2.2.2.1.1 hP hD hS q0 q1 0 0 (ty := .int) ha0 ha1 rfl rfl rfl (by decide) (by decide) hn (Nat.le_of_eq (Nat.zero_add _)) (Nat.le_of_eq (Nat.zero_add _)) (fun i _ => rfl) hf hlo hd (fun H1 locs1 hP1 hD1 hS1 => k H1 locs1 ls (hP_cong (fun j hj => by show va_cpy f g 0 0 _ j = f j; rw [pk_cpy_in (Nat.zero_le _) (by omega)]; congr 1; omega) hP1) (hD.set ha1) hS1 hl)
theorem hg_iret {rv : Option Value} {w1 : va_W} {v : Int32} (C : hX p s m args meth c E A cc nL own Ts (some .int)) (hd : decode cc pc = .ok (.ireturn, 1)) (hv : rv = some (.int v)) (hw : ws = w1) : hG p l e R s m args below meth c E A nL (hQ E A below args s rv w1) 0 0 pc lv [.int v] ws := fun H locs ls hP hD hS hl => W.iret C.1 C.2.1 C.2.2.2.2.2.2.2.2.2 (fun t ht hW => ⟨by rw [hv], by rw [ht, ← hw]; exact hP, hS.F ht⟩) hS.2.2 hd C.2.2.2.2.2.2.2.2.1
theorem hg_lret {rv : Option Value} {w1 : va_W} {v : Int64} (C : hX p s m args meth c E A cc nL own Ts (some .long)) (hd : decode cc pc = .ok (.lreturn, 1)) (hv : rv = some (.long v)) (hw : ws = w1) : hG p l e R s m args below meth c E A nL (hQ E A below args s rv w1) 0 0 pc lv [.long v] ws := fun H locs ls hP hD hS hl => W.lret C.1 C.2.1 C.2.2.2.2.2.2.2.2.2 (fun t ht hW => ⟨by rw [hv], by rw [ht, ← hw]; exact hP, hS.F ht⟩) hS.2.2 hd C.2.2.2.2.2.2.2.2.1
theorem hg_zret {rv : Option Value} {w1 : va_W} {v : Int32} (C : hX p s m args meth c E A cc nL own Ts (some .boolean)) (hd : decode cc pc = .ok (.ireturn, 1)) (hn : narrow .boolean (.int v) = .int v) (hv : rv = some (.int v)) (hw : ws = w1) : hG p l e R s m args below meth c E A nL (hQ E A below args s rv w1) 0 0 pc lv [.int v] ws := fun H locs ls hP hD hS hl => W.zret C.1 C.2.1 C.2.2.2.2.2.2.2.2.2 hn (fun t ht hW => ⟨by rw [hv], by rw [ht, ← hw]; exact hP, hS.F ht⟩) hS.2.2 hd C.2.2.2.2.2.2.2.2.1
theorem hg_vret {rv : Option Value} {w1 : va_W} (C : hX p s m args meth c E A cc nL own Ts none) (hd : decode cc pc = .ok (.return_, 1)) (hv : rv = none) (hw : ws = w1) : hG p l e R s m args below meth c E A nL (hQ E A below args s rv w1) 0 0 pc lv [] ws := fun H locs ls hP hD hS hl => W.vret C.1 C.2.1 C.2.2.2.2.2.2.2.2.2 (fun t ht hW => ⟨by rw [hv], by rw [ht, ← hw]; exact hP, hS.F ht⟩) hS.2.2 hd C.2.2.2.2.2.2.2.2.1
end HG
/-- a value that no check opens: hid_eq says what it is -/
noncomputable def hid {α : Type} (x : α) : α := Classical.choose (⟨x, rfl⟩ : ∃ z : α, z = x)
theorem hid_eq {α : Type} (x : α) : hid x = x := Classical.choose_spec (⟨x, rfl⟩ : ∃ z : α, z = x)
/-- a loop's course: the steps 0 .. n - 1, one behind the other -/
def itN {σ : Type} (f : Nat → σ → σ) : Nat → σ → σ
  | 0, x => x
  | n + 1, x => f n (itN f n x)
