/-- a constructor's contract: it returns, and leaves a world with Φ; mc cells of ms slots are new -/
def hN (l : Launch) (y : MethodName) (Ts : List Cond) (rm : Room) (E : hE) (av : List Value) (ws : va_W) (Φ : va_W → Prop) (mc ms : Nat) : Prop :=
  ∀ sz : Nat, Met l y Ts rm (va_Pc av (fun U => U.heap.size = sz ∧ va_P E.1 vwCl ws U.heap ∧ (hK E U ∧ va_AO RX3 U) ∧ va_D (fun _ => True) ws ∧ hZ E (va_A ws sz) U U.heap)) (fun _ st oc t => oc = .returned none ∧ (∃ w1, Φ w1 ∧ va_P E.1 vwCl w1 t.heap ∧ va_D (va_A ws sz) w1) ∧ va_F (va_A ws sz) st t) mc ms (va_A ws sz)
def hQN (E : hE) (A : Nat → Prop) (below : List Frame) (args : Array Value) (s : State) (Φ : va_W → Prop) (mc ms : Nat) : State → Prop := MQ below (fun _ st oc t => oc = .returned none ∧ (∃ w1, Φ w1 ∧ va_P E.1 vwCl w1 t.heap ∧ va_D A w1) ∧ va_F A st t) args s mc ms A
theorem hN_intro {l : Launch} {y : MethodName} {Ts ws' : List Cond} {rm : Room} {E : hE} {av : List Value} {ws : va_W} {Φ : va_W → Prop} {mc ms : Nat} {cc : ByteArray} {maxL : Nat} {ret : Option FieldType} (hy : plainName y.cls = true) (hw : Ts = Cond.code y cc maxL ret :: ws') (hlen : (lg_sl av).length ≤ maxL) {lv0 : List (Nat × Value)} (hlv : lv_args 0 av = lv0)
    (body : ∀ (p : Program) (e : Env) (s : State) (m : MethodId) (below : List Frame) (meth : Method) (c : Code) (A : Nat → Prop), hX p s m av.toArray meth c E A cc maxL y.cls Ts ret → va_AO RX3 s → meth.name = y.name → hG p l e rm s m av.toArray below meth c E A maxL (hQN E A below av.toArray s Φ mc ms) 0 0 0 lv0 [] ws) : hN l y Ts rm E av ws Φ mc ms := by
  intro sz
  refine Met.ofW (cc := cc) (maxL := maxL) (ret := ret) hy hw ?_
  intro p e s m args below meth c s₁ B hml hv
  obtain ⟨rfl, hsz, hP, ⟨hK1, hO⟩, hD0, hZ0⟩ := hv
  subst hsz
  have hts := atoms_spec (ws := Ts) B.pre
  have hown : s.vm.findClass y.cls = some m.cls := findClass_of_methodNamed B.named
  have hl := lv_entry av (n := maxL) hlen
  rw [lg_entry_eq]
  rw [hlv] at hl
  exact body p e s m below meth c (va_A ws s.heap.size) ⟨B.exec, B.bytes, hml, hown, hts, hK1, fun q h => Or.inr h, hZ0, B.notSynchronized, B.returns⟩ hO (name_of_methodNamed B.named B.method).1 s.heap [] _ hP (hD0.self (sz := s.heap.size)) va_S.rf hl
theorem hblindN {E : hE} {av : List Value} {ws : va_W} {A : Nat → Prop} {sz : Nat} : FrameBlind (va_Pc av (fun U => U.heap.size = sz ∧ va_P E.1 vwCl ws U.heap ∧ (hK E U ∧ va_AO RX3 U) ∧ va_D (fun _ => True) ws ∧ hZ E A U U.heap)) := fun a U g mk q => by
  obtain ⟨q0, q1, qP, ⟨qK, qO⟩, qD, qZ⟩ := q
  exact ⟨q0, q1, qP, ⟨⟨va_K.moved (u := U) (U := U.calling g mk a) (Vm.Alike.refl U.vm) qK.1, hNW.same (u := U) (U := U.calling g mk a) rfl qK.2⟩, va_AO.moved (u := U) (U := U.calling g mk a) (Vm.Alike.refl U.vm) qO⟩, qD, hZ.moved (u := U) (U := U.calling g mk a) (Vm.Alike.refl U.vm) qZ⟩
/-- what a call of a constructor asks of it -/
def hNF_ (y : MethodName) (wsC : List Cond) (rm : Room) (bytes : ByteArray) (maxL n mc ms : Nat) : Prop := (∃ ws', wsC = Cond.code y bytes maxL none :: ws') ∧ (y.cls ≠ "java/lang/invoke/MethodHandle" ∧ y.cls ≠ "java/lang/invoke/VarHandle" ∧ (parseMethodDescriptor y.desc).map (fun d => d.parameters.length) = some n) ∧ rm.cells = mc ∧ rm.slots = ms ∧ y.name = "<init>"
theorem hctor_PD {A0 : Nat → Prop} {D : va_G} {cl : List vw_C} {pre w1 : va_W} {cell : Nat × va_E} {H H1 : Heap} (hP : va_P D cl (pre ++ [cell]) H) (hD : va_D A0 (pre ++ [cell])) (hA : ∀ q, va_A [cell] H.size q → A0 q) (hk : ∀ q : Nat, q < H.size → ¬ va_A [cell] H.size q → H1[q]? = H[q]?) (hP1 : va_P D cl w1 H1) (hD1 : va_D (va_A [cell] H.size) w1) : va_P D cl (pre ++ w1) H1 ∧ va_D A0 (pre ++ w1) := by
  have hpre : ∀ (k : Nat) (q : Nat × va_E), pre[k]? = some q → (pre ++ [cell])[k]? = some q := fun k q h => by
    rw [List.getElem?_append_left (List.getElem?_eq_some_iff.mp h).1]
    exact h
  have hcell : (pre ++ [cell])[pre.length]? = some cell := by
    rw [List.getElem?_append_right (Nat.le_refl _), Nat.sub_self]
    rfl
  have hno : ∀ (k : Nat) (q : Nat × va_E), pre[k]? = some q → ¬ va_A [cell] H.size q.1 := fun k q h hA => by
    rcases hA with ⟨j, e, hj⟩ | hA
    · have hj0 : j = 0 := by
        have := (List.getElem?_eq_some_iff.mp hj).1
        simp at this
        exact this
      rw [hj0] at hj
      have hc : cell = (q.1, e) := by simpa using hj
      have := hD.1 k pre.length q cell (hpre k q h) hcell (by rw [hc])
      have := (List.getElem?_eq_some_iff.mp h).1
      omega
    · have := (hP k q (hpre k q h)).lt
      omega
  refine ⟨fun k q hq => ?_, fun i j x y hx hy hxy => ?_, fun k q hq => ?_⟩
  · by_cases hl : k < pre.length
    · rw [List.getElem?_append_left hl] at hq
      exact (hP k q (hpre k q hq)).kept (hk q.1 ((hP k q (hpre k q hq)).lt) (hno k q hq))
    · rw [List.getElem?_append_right (by omega)] at hq
      exact hP1 _ q hq
  · by_cases h1 : i < pre.length
    · rw [List.getElem?_append_left h1] at hx
      by_cases h2 : j < pre.length
      · rw [List.getElem?_append_left h2] at hy
        exact hD.1 i j x y (hpre i x hx) (hpre j y hy) hxy
      · rw [List.getElem?_append_right (by omega)] at hy
        exact absurd (hxy ▸ hD1.2 _ y hy) (hno i x hx)
    · rw [List.getElem?_append_right (by omega)] at hx
      by_cases h2 : j < pre.length
      · rw [List.getElem?_append_left h2] at hy
        exact absurd (hxy ▸ hD1.2 _ x hx) (hno j y hy)
      · rw [List.getElem?_append_right (by omega)] at hy
        have := hD1.1 _ _ x y hx hy hxy
        omega
  · by_cases hl : k < pre.length
    · rw [List.getElem?_append_left hl] at hq
      exact hD.2 k q (hpre k q hq)
    · rw [List.getElem?_append_right (by omega)] at hq
      exact hA _ (hD1.2 _ q hq)
section HN
variable {p : Program} {l : Launch} {e : Env} {R : Room} {s : State} {m : MethodId} {args : Array Value} {below : List Frame} {meth : Method} {c : Code} {E : hE} {A : Nat → Prop} {cc : ByteArray} {nL : Nat} {own : String} {Ts : List Cond} {ret : Option FieldType} {Q : State → Prop} {cells slots pc : Nat} {lv lv' : List (Nat × Value)} {st st' : List Value} {ws ws' : va_W}
theorem hg_vretN {Φ : va_W → Prop} (C : hX p s m args meth c E A cc nL own Ts none) (hd : decode cc pc = .ok (.return_, 1)) (hΦ : Φ ws) : hG p l e R s m args below meth c E A nL (hQN E A below args s Φ cells slots) cells slots pc lv [] ws := fun H locs ls hP hD hS hl => W.vret C.1 C.2.1 C.2.2.2.2.2.2.2.2.2 (fun t ht hW => ⟨rfl, ⟨ws, hΦ, by rw [ht]; exact hP, hD⟩, hS.F ht⟩) hS.2.2 hd C.2.2.2.2.2.2.2.2.1
theorem hg_obj (C : hX p s m args meth c E A cc nL own Ts ret) {idx a : Nat} (h1 : Cond.methodLink own idx objectInit ∈ Ts) (h2 : Cond.instanceMethod objectInit ∈ Ts) (h3 : Cond.code objectInit ⟨#[0xb1]⟩ 1 none ∈ Ts) (hf : 1 ≤ R.frames) (hlo : (st.map fun v => v.category).sum + 12 ≤ R.locals) (hd : decode cc pc = .ok (.invokespecial idx, 3)) (k : hG p l e R s m args below meth c E A nL Q cells slots (pc + 3) lv st ws) : hG p l e R s m args below meth c E A nL Q cells slots pc lv (.ref a :: st) ws := fun H locs ls hP hD hS hl => W.objInit C.1 C.2.1 C.2.2.2.1 (C.2.2.2.2.1 _ h1) (C.2.2.2.2.1 _ h2) (C.2.2.2.2.1 _ h3) rfl (hl.1.trans C.2.2.1.symm) rfl hd hf (by show 2 * 0 + _ + 12 ≤ _; omega) (k H locs ls hP hD hS hl)
theorem hg_new (C : hX p s m args meth c E A cc nL own Ts ret) {index ci : Nat} {Cn : String} {T : u_T} {N : Nat} {fs : List Value} (hin : ∀ w ∈ u_ws Cn T N, w ∈ Ts) (ty : Nat → FieldType) (hty : ∀ k, k < N → parseFieldDescriptor (T k).2.2.1 = some (ty k)) (h1 : Cond.classLink own index Cn ∈ Ts) (h2 : Cond.instantiable Cn N ∈ Ts) (h3 : Cond.initialized Cn ∈ Ts) (hc : vwCl[ci]? = some (Cn, T, N)) (hfs : ∀ j, j < N → defaultValue (ty j) = vp_V fs j) (hcells : cells + 1 ≤ R.cells) (hslots : slots + N ≤ R.slots) (hd : decode cc pc = .ok (.new index, 3))
    (k : ∀ q : Nat, hG p l e R s m args below meth c E A nL Q (cells + 1) (slots + N) (pc + 3) lv (.ref q :: st) (ws ++ [(q, .inr (ci, fs))])) : hG p l e R s m args below meth c E A nL Q cells slots pc lv st ws := fun H locs ls hP hD hS hl => va_new C.1 C.2.1 C.2.2.2.2.1 hin ty hty C.2.2.2.1 (C.2.2.2.2.1 _ h1) (C.2.2.2.2.1 _ h2) (C.2.2.2.2.1 _ h3) C.2.2.2.2.2.1.1 hP hD hS C.2.2.2.2.2.2.1 hc hfs hcells hslots hd (fun q H1 hP1 hD1 hS1 => k q H1 locs ls hP1 hD1 hS1 hl)
theorem hRA {s : State} {D : va_G} {cl : List vw_C} {tys : List (ClassId × FieldType)} {cA cB : ClassId} {ty : FieldType} (k : Nat) (hk : tys[k]? = some (cB, ty)) (h : va_K D cl (tys ++ [(cA, ty)]) s) : cA = cB := by
  have h1 := (h.2 tys.length (cA, ty) (by rw [List.getElem?_append_right (Nat.le_refl _), Nat.sub_self]; rfl)).2
  have h2 := (h.2 k (cB, ty) (by rw [List.getElem?_append_left (List.getElem?_eq_some_iff.mp hk).1]; exact hk)).2
  unfold va_RA at h1 h2
  cases ty with
  | object C =>
    obtain ⟨-, -, -, -, -, h1⟩ := h1
    obtain ⟨-, -, -, -, -, h2⟩ := h2
    exact Option.some.inj (h1.symm.trans h2)
  | _ => exact Option.some.inj (h1.symm.trans h2)
theorem hg_newi (C : hX p s m args meth c E A cc nL own Ts ret) {n : Int32} (N : Nat) (h1 : Cond.arrayClass .int ∈ Ts) (hn : ¬ n < 0) (hN : n.toNatClampNeg = N) (hb : N ≤ 1000) (hcells : cells + 1 ≤ R.cells) (hslots : slots + N ≤ R.slots) (hd : decode cc pc = .ok (.newarray .int, 2))
    (k : ∀ q : Nat, hG p l e R s m args below meth c E A nL Q (cells + 1) (slots + N) (pc + 2) lv (.ref q :: st) (ws ++ [(q, .inl (E.2.1.1, N, .inl (fun _ => 0)))])) : hG p l e R s m args below meth c E A nL Q cells slots pc lv (.int n :: st) ws := fun H locs ls hP hD hS hl =>
  va_newa (atype := .int) (ty := .int) (a0 := (N, .inl (fun _ => 0))) C.1 C.2.1 (C.2.2.2.2.1 _ h1) rfl C.2.2.2.2.2.1.1 hP hD hS C.2.2.2.2.2.2.1 (fun _ => rfl) hn hN (Nat.le_trans (Nat.mul_le_mul hb (show componentBytes .int ≤ 8 by decide)) (by decide)) hcells hslots hd (fun q cA H1 hK1 hP1 hD1 hS1 => by
    have hc : cA = E.2.1.1 := hRA 0 rfl hK1
    subst hc
    exact k q H1 locs ls hP1 hD1 hS1 hl)
theorem hg_newz (C : hX p s m args meth c E A cc nL own Ts ret) {n : Int32} (N : Nat) (h1 : Cond.arrayClass .boolean ∈ Ts) (hn : ¬ n < 0) (hN : n.toNatClampNeg = N) (hb : N ≤ 1000) (hcells : cells + 1 ≤ R.cells) (hslots : slots + N ≤ R.slots) (hd : decode cc pc = .ok (.newarray .boolean, 2))
    (k : ∀ q : Nat, hG p l e R s m args below meth c E A nL Q (cells + 1) (slots + N) (pc + 2) lv (.ref q :: st) (ws ++ [(q, .inl (E.2.1.2.1, N, .inl (fun _ => 0)))])) : hG p l e R s m args below meth c E A nL Q cells slots pc lv (.int n :: st) ws := fun H locs ls hP hD hS hl =>
  va_newa (atype := .boolean) (ty := .boolean) (a0 := (N, .inl (fun _ => 0))) C.1 C.2.1 (C.2.2.2.2.1 _ h1) rfl C.2.2.2.2.2.1.1 hP hD hS C.2.2.2.2.2.2.1 (fun _ => rfl) hn hN (Nat.le_trans (Nat.mul_le_mul hb (show componentBytes .boolean ≤ 8 by decide)) (by decide)) hcells hslots hd (fun q cA H1 hK1 hP1 hD1 hS1 => by
    have hc : cA = E.2.1.2.1 := hRA 1 rfl hK1
    subst hc
    exact k q H1 locs ls hP1 hD1 hS1 hl)
theorem hg_newq (C : hX p s m args meth c E A cc nL own Ts ret) (O : va_AO RX3 s) {index : Nat} {n : Int32} (N : Nat) (h1 : Cond.classLink own index RX3 ∈ Ts) (hn : ¬ n < 0) (hN : n.toNatClampNeg = N) (hb : N ≤ 1000) (hcells : cells + 1 ≤ R.cells) (hslots : slots + N ≤ R.slots) (hd : decode cc pc = .ok (.anewarray index, 3))
    (k : ∀ q : Nat, hG p l e R s m args below meth c E A nL Q (cells + 1) (slots + N) (pc + 3) lv (.ref q :: st) (ws ++ [(q, .inl (E.2.1.2.2, N, .inr (.inr (.inr (.inr (fun _ => none))))))])) : hG p l e R s m args below meth c E A nL Q cells slots pc lv (.int n :: st) ws := fun H locs ls hP hD hS hl =>
  va_newq C.1 C.2.1 C.2.2.2.1 (C.2.2.2.2.1 _ h1) O C.2.2.2.2.2.1.1 hP hD hS C.2.2.2.2.2.2.1 hn hN (by omega) hcells hslots hd (fun q cA H1 hK1 hP1 hD1 hS1 => by
    have hc : cA = E.2.1.2.2 := hRA 2 rfl hK1
    subst hc
    exact k q H1 locs ls hP1 hD1 hS1 hl)
theorem hg_putF (C : hX p s m args meth c E A cc nL own Ts ret) {T : u_T} {N ci index a : Nat} {fs : List Value} {v : Value} {ty : FieldType} (hin : ∀ w ∈ u_ws own T N, w ∈ Ts) (ty0 : Nat → FieldType) (hty : ∀ k, k < N → parseFieldDescriptor (T k).2.2.1 = some (ty0 k)) (hnm : ∀ a, a < N → ∀ b, b < N → a ≠ b → (T a).2.1 ≠ (T b).2.1) (q0 : Nat) (he : ws[q0]? = some (a, .inr (ci, fs))) (hc : vwCl[ci]? = some (own, T, N)) (k0 : Nat) (hk : k0 < N) (hlink : Cond.fieldLink own index (T k0).1 (T k0).2.1 (T k0).2.2.1 ∈ Ts) (hfin : (T k0).2.2.2 = true) (hini : meth.name = "<init>") (hdecl : (T k0).1 = own) (hdt : ty0 k0 = ty) (hn : narrow ty v = v) (hfit : fits ty v = true) (hl0 : k0 < fs.length) (hws : ws.set q0 (a, .inr (ci, fs.set k0 v)) = ws') (hd : decode cc pc = .ok (.putfield index, 3)) (k : hG p l e R s m args below meth c E A nL Q cells slots (pc + 3) lv st ws') : hG p l e R s m args below meth c E A nL Q cells slots pc lv (v :: .ref a :: st) ws := by
  subst hws
  subst hdt
  exact fun H locs ls hP hD hS hl => va_putF C.1 C.2.1 C.2.2.2.2.1 hin ty0 hty hnm C.2.2.2.1 C.2.2.2.2.2.1.1 hP hD hS q0 he hc k0 hk (C.2.2.2.2.1 _ hlink) (fun _ h9 => h9) hfin hini hdecl (hty k0 hk) hn hfit hl0 hd (fun H1 locs1 hP1 hD1 hS1 => k H1 locs1 ls hP1 hD1 hS1 hl)
theorem hg_astq (C : hX p s m args meth c E A cc nL own Ts ret) {a n v : Nat} {vs : List Value} {f : Nat → Option Nat} {i : Int32} (q0 qk : Nat) (ha : ws[q0]? = some (a, .inl (E.2.1.2.2, n, .inr (.inr (.inr (.inr f)))))) (hv : ws[qk]? = some (v, .inr (3, vs))) (hin : vp_in i n) (hws : ws.set q0 (a, .inl (E.2.1.2.2, n, .inr (.inr (.inr (.inr (va_up f i.toNatClampNeg (some v))))))) = ws') (hd : decode cc pc = .ok (.aastore, 1)) (k : hG p l e R s m args below meth c E A nL Q cells slots (pc + 1) lv st ws') : hG p l e R s m args below meth c E A nL Q cells slots pc lv (.ref v :: .int i :: .ref a :: st) ws := by
  subst hws
  exact fun H locs ls hP hD hS hl => va_astq (r := (RX3, TX3, 9)) C.1 C.2.1 C.2.2.2.2.2.1.1 hP hD hS q0 2 qk 3 ha rfl hv rfl hin hd (fun H1 locs1 hP1 hD1 hS1 => k H1 locs1 ls hP1 hD1 hS1 hl)
theorem hg_qcong {a n : Nat} {cA : ClassId} {f g : Nat → Option Nat} (q1 : Nat) (ha : ws[q1]? = some (a, .inl (cA, n, .inr (.inr (.inr (.inr f)))))) (hfg : ∀ j, j < n → f j = g j) (hws : ws.set q1 (a, .inl (cA, n, .inr (.inr (.inr (.inr g))))) = ws') (k : hG p l e R s m args below meth c E A nL Q cells slots pc lv st ws') : hG p l e R s m args below meth c E A nL Q cells slots pc lv st ws := by
  subst hws
  intro H locs ls hP hD hS hl
  refine k H locs ls ?_ (hD.set ha) hS hl
  have hc : vp_cell cA (n, .inr (.inr (.inr (.inr f)))) = vp_cell cA (n, .inr (.inr (.inr (.inr g)))) := by
    rw [vp_cell_q, vp_cell_q]
    unfold arrV
    congr 1
    congr 1
    funext j
    show va_rf (f j.val) = va_rf (g j.val)
    rw [hfg j.val j.isLt]
  intro k q hk
  by_cases hq : q1 = k
  · subst hq
    rw [List.getElem?_set_self (List.getElem?_eq_some_iff.mp ha).1] at hk
    cases hk
    have h1 := hP q1 _ ha
    show H[a]? = some (vp_cell cA (n, .inr (.inr (.inr (.inr g)))))
    rw [← hc]
    exact h1
  · rw [List.getElem?_set_ne hq] at hk
    exact hP k q hk
theorem hg_cback {pre : va_W} {cell : Nat × va_E} {Φ : va_W → Prop} {mc ms : Nat} {rest : List Value} {H : Heap} {locs : List Loc} {ls : Array Slot} {st0 : List Value} (hA : ∀ q, s.heap.size ≤ q → A q) (hP : va_P E.1 vwCl (pre ++ [cell]) H) (hD : va_D A (pre ++ [cell])) (hS : va_S A s.heap H locs) (hl : lv_has ls nL lv)
    (hr : va_Run p l e R s m args below meth c H locs cells slots mc ms (F0 m pc ls st0) rest (fun st oc t => oc = .returned none ∧ (∃ w1, Φ w1 ∧ va_P E.1 vwCl w1 t.heap ∧ va_D (va_A [cell] H.size) w1) ∧ va_F (va_A [cell] H.size) st t) (va_A [cell] H.size))
    (k : ∀ w1, Φ w1 → hG p l e R s m args below meth c E A nL Q (cells + mc) (slots + ms) (pc + 3) lv rest (pre ++ w1)) : W p l e R s m args below meth c H locs cells slots Q (F0 m pc ls st0) := by
  intro T hT X
  obtain ⟨v, st₀, t, T', L, h0, X', hL, e1, e2, ⟨hv, ⟨w1, hΦ, hP1, hD1⟩, hz, hk⟩, st1⟩ := hr T hT X
  cases hv
  rw [h0] at hz hk
  have hcell : (pre ++ [cell])[pre.length]? = some cell := by
    rw [List.getElem?_append_right (Nat.le_refl _), Nat.sub_self]
    rfl
  have hF : ∀ q, va_A [cell] H.size q → A q := fun q h => by
    rcases h with ⟨j, e, hj⟩ | h
    · have hj0 : j = 0 := by
        have := (List.getElem?_eq_some_iff.mp hj).1
        simp at this
        exact this
      rw [hj0] at hj
      have hc : cell = (q, e) := by simpa using hj
      have := hD.2 _ cell hcell
      rw [hc] at this
      exact this
    · exact hA q (Nat.le_trans hS.1 h)
  obtain ⟨hP2, hD2⟩ := hctor_PD hP hD hF (H1 := T'.heap) (fun q h1 h2 => by rw [e1]; exact hk q h1 h2) (by rw [e1]; exact hP1) hD1
  obtain ⟨t2, a1, b1⟩ := k w1 hΦ T'.heap (locs ++ L) ls hP2 hD2 ⟨Nat.le_trans hS.1 (by rw [e1]; exact hz), fun q h1 h2 => by rw [e1, hk q (Nat.lt_of_lt_of_le h1 hS.1) (fun z => h2 (hF q z))]; exact hS.2.1 q h1 h2, fun q hq => by
      rcases List.mem_append.mp hq with h | h
      · exact hS.2.2 q h
      · exact hF _ (hL q h)⟩ hl T' rfl X'
  exact ⟨t2, st1 t2 a1, b1⟩
theorem hg_cpre {pre : va_W} {cell : Nat × va_E} {H : Heap} {locs : List Loc} {av : List Value} (C : hX p s m args meth c E A cc nL own Ts ret) (O : va_AO RX3 s) (hP : va_P E.1 vwCl (pre ++ [cell]) H) (hD : va_D A (pre ++ [cell])) (hS : va_S A s.heap H locs) : ∀ U : State, U.heap = H → s.WarmedH U.vm → va_Pc av (fun U => U.heap.size = H.size ∧ va_P E.1 vwCl [cell] U.heap ∧ (hK E U ∧ va_AO RX3 U) ∧ va_D (fun _ => True) [cell] ∧ hZ E (va_A [cell] H.size) U U.heap) av.toArray U := by
  intro U hU hW
  have hcell : (pre ++ [cell])[pre.length]? = some cell := by
    rw [List.getElem?_append_right (Nat.le_refl _), Nat.sub_self]
    rfl
  have hone : ∀ (k : Nat) (q : Nat × va_E), [cell][k]? = some q → k = 0 ∧ q = cell := fun k q h => by
    have h0 : k = 0 := by
      have := (List.getElem?_eq_some_iff.mp h).1
      simp at this
      exact this
    rw [h0] at h
    exact ⟨h0, (by simpa using h.symm)⟩
  have hPc : va_P E.1 vwCl [cell] H := fun k q h => by
    rw [(hone k q h).2]
    exact hP _ cell hcell
  have hDc : va_D A [cell] := ⟨fun i j x y h1 h2 _ => (hone i x h1).1.trans (hone j y h2).1.symm, fun k q h => by rw [(hone k q h).2]; exact hD.2 _ cell hcell⟩
  have hF : ∀ q, va_A [cell] H.size q → A q := fun q h => by
    rcases h with ⟨j, e, hj⟩ | h
    · exact hDc.2 j (q, e) hj
    · exact C.2.2.2.2.2.2.1 q (Nat.le_trans hS.1 h)
  refine ⟨rfl, by rw [hU], by rw [hU]; exact hPc, ⟨C.2.2.2.2.2.1.warm hW, va_AO.moved hW.alike O⟩, hDc.weaken (fun _ _ _ _ => trivial), ?_⟩
  rw [hU]
  exact ((C.2.2.2.2.2.2.2.1.kept hS.2.1).moved hW.alike).narrow hF
theorem hg_callI (C : hX p s m args meth c E A cc nL own Ts ret) (O : va_AO RX3 s) {y : MethodName} {wsC : List Cond} {rm : Room} {pre : va_W} {cell : Nat × va_E} {Φ : va_W → Prop} {mc ms b : Nat} {As rest : List Value} {bytes : ByteArray} {maxL index : Nat} (hM : hN l y wsC rm E (.ref b :: As) [cell] Φ mc ms) (hF : hNF_ y wsC rm bytes maxL As.length mc ms) (hT : GoodIn Ts wsC) (hini : Cond.initialized y.cls ∈ Ts) (hl0 : Cond.methodLink own index y ∈ Ts) (hin : Cond.instanceMethod y ∈ Ts) (hR : rm.frames + 1 ≤ R.frames ∧ 8 + (maxL + 11) + rm.locals ≤ R.locals) (hcap : cells + mc ≤ R.cells ∧ slots + ms ≤ R.slots) (hws : ws = pre ++ [cell]) (hst : st = As.reverse ++ .ref b :: rest) (hrest : (rest.map fun v => v.category).sum ≤ 8) (hd : decode cc pc = .ok (.invokespecial index, 3))
    (k : ∀ w1, Φ w1 → hG p l e R s m args below meth c E A nL Q (cells + mc) (slots + ms) (pc + 3) lv rest (pre ++ w1)) : hG p l e R s m args below meth c E A nL Q cells slots pc lv st ws := by
  intro H locs ls hP hD hS hl
  subst hst
  subst hws
  obtain ⟨⟨wsx, hw⟩, hdd, hr1, hr2, hy1⟩ := hF
  obtain ⟨hx, hb, hml, hown, hts, hk, hA, -⟩ := id C
  exact hg_cback hA hP hD hS hl (va_runI (As := As) (rest := rest) (b := b) ⟨hx, hb, hml, hown, hts⟩ (hM H.size) (cwI As.length hts hT hw hr1 hr2 (hts _ hini) (hts _ hl0) (hts _ hin) hy1 hdd hR) ⟨hblindN, hg_cpre C O hP hD hS⟩ rfl rfl hl.1 rfl (lv_room hrest) hd hcap) k
theorem hg_callIN (C : hX p s m args meth c E A cc nL own Ts ret) (O : va_AO RX3 s) {y : MethodName} {wsC : List Cond} {rm : Room} {pre : va_W} {cell : Nat × va_E} {Φ : va_W → Prop} {mc ms b : Nat} {As rest : List Value} {bytes : ByteArray} {maxL index : Nat} {host : String} (hM : hN l y wsC rm E (.ref b :: As) [cell] Φ mc ms) (hF : hNF_ y wsC rm bytes maxL As.length mc ms) (hT : GoodIn Ts wsC) (hini : Cond.initialized y.cls ∈ Ts) (hl0 : (own, index, y, host) ∈ hNM) (hin : Cond.instanceMethod y ∈ Ts) (hR : rm.frames + 1 ≤ R.frames ∧ 8 + (maxL + 11) + rm.locals ≤ R.locals) (hcap : cells + mc ≤ R.cells ∧ slots + ms ≤ R.slots) (hws : ws = pre ++ [cell]) (hst : st = As.reverse ++ .ref b :: rest) (hrest : (rest.map fun v => v.category).sum ≤ 8) (hd : decode cc pc = .ok (.invokespecial index, 3))
    (k : ∀ w1, Φ w1 → hG p l e R s m args below meth c E A nL Q (cells + mc) (slots + ms) (pc + 3) lv rest (pre ++ w1)) : hG p l e R s m args below meth c E A nL Q cells slots pc lv st ws := by
  intro H locs ls hP hD hS hl
  subst hst
  subst hws
  obtain ⟨⟨wsx, hw⟩, hdd, hr1, hr2, hy1⟩ := hF
  obtain ⟨hx, hb, hml, hown, hts, hk, hA, -⟩ := id C
  exact hg_cback hA hP hD hS hl (va_runIN (As := As) (rest := rest) (b := b) (host := host) ⟨hx, hb, hml, hown, hts⟩ (hM H.size) ⟨va_cnB As.length hts hT hw hr1 hr2 (hk.2.2 _ hl0) (hts _ hini) hdd hR, hy1, hts _ hin⟩ ⟨hblindN, hg_cpre C O hP hD hS⟩ rfl rfl hl.1 rfl (lv_room hrest) hd hcap) k
end HN
