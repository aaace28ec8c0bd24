theorem hD_fst {A : Nat → Prop} {ws ws' : va_W} (h : ws'.map Prod.fst = ws.map Prod.fst) (hD : va_D A ws) : va_D A ws' := by
  have key : ∀ (k : Nat) (q : Nat × va_E), ws'[k]? = some q → ∃ q0, ws[k]? = some q0 ∧ q0.1 = q.1 := by
    intro k q hq
    have h1 : (ws'.map Prod.fst)[k]? = (ws.map Prod.fst)[k]? := by rw [h]
    rw [List.getElem?_map, List.getElem?_map, hq] at h1
    cases hw : ws[k]? with
    | none => rw [hw] at h1; cases h1
    | some q0 => rw [hw] at h1; exact ⟨q0, rfl, (Option.some.inj h1).symm⟩
  refine ⟨fun i j x y hx hy hxy => ?_, fun k q hq => ?_⟩
  · obtain ⟨x0, h1, h2⟩ := key i x hx
    obtain ⟨y0, h3, h4⟩ := key j y hy
    exact hD.1 i j x0 y0 h1 h3 (h2.trans (hxy.trans h4.symm))
  · obtain ⟨q0, h1, h2⟩ := key k q hq
    rw [← h2]
    exact hD.2 k q0 h1
theorem hspl_at {pre wc post : va_W} {k : Nat} {q : Nat × va_E} (h : wc[k]? = some q) : (pre ++ (wc ++ post))[pre.length + k]? = some q := by
  have hl := (List.getElem?_eq_some_iff.mp h).1
  rw [List.getElem?_append_right (by omega), Nat.add_sub_cancel_left, List.getElem?_append_left hl]
  exact h
theorem hspl_in {pre wc post : va_W} {k : Nat} {q : Nat × va_E} (h : (pre ++ (wc ++ post))[k]? = some q) : (∃ j : Nat, k = pre.length + j ∧ wc[j]? = some q) ∨ ((k < pre.length ∨ pre.length + wc.length ≤ k) ∧ ∀ w1 : va_W, w1.length = wc.length → (pre ++ (w1 ++ post))[k]? = some q) := by
  by_cases h1 : k < pre.length
  · refine Or.inr ⟨Or.inl h1, fun w1 _ => ?_⟩
    rw [List.getElem?_append_left h1] at h ⊢
    exact h
  · rw [List.getElem?_append_right (by omega)] at h
    by_cases h2 : k - pre.length < wc.length
    · rw [List.getElem?_append_left h2] at h
      exact Or.inl ⟨k - pre.length, by omega, h⟩
    · rw [List.getElem?_append_right (by omega)] at h
      refine Or.inr ⟨Or.inr (by omega), fun w1 hl => ?_⟩
      rw [List.getElem?_append_right (by omega), List.getElem?_append_right (by omega), hl]
      exact h
theorem hspl_PD {A0 : Nat → Prop} {D : va_G} {cl : List vw_C} {pre wc w1 post : va_W} {H H1 : Heap} (hP : va_P D cl (pre ++ (wc ++ post)) H) (hD : va_D A0 (pre ++ (wc ++ post))) (hf : w1.map Prod.fst = wc.map Prod.fst)
    (hk : ∀ q : Nat, q < H.size → ¬ va_A wc H.size q → H1[q]? = H[q]?) (hP1 : va_P D cl w1 H1) : va_P D cl (pre ++ (w1 ++ post)) H1 ∧ va_D A0 (pre ++ (w1 ++ post)) := by
  have hl : w1.length = wc.length := by
    have b := congrArg List.length hf
    simpa using b
  refine ⟨fun k q hq => ?_, hD_fst (by simp only [List.map_append, hf]) hD⟩
  rcases hspl_in hq with ⟨j, -, h2⟩ | ⟨h1, h2⟩
  · exact hP1 j q h2
  · have h3 := h2 wc hl.symm
    refine (hP k q h3).kept (hk q.1 ((hP k q h3).lt) fun hA => ?_)
    rcases hA with ⟨j, e, h4⟩ | h4
    · have h5 := hD.1 k (pre.length + j) q (q.1, e) h3 (hspl_at h4) rfl
      have h6 := (List.getElem?_eq_some_iff.mp h4).1
      omega
    · have := (hP k q h3).lt
      omega
section HS
variable {p : Program} {l : Launch} {e : Env} {R : Room} {s : State} {m : MethodId} {args : Array Value} {below : List Frame} {meth : Method} {c : Code} {E : hE} {A : Nat → Prop} {cc : ByteArray} {nL : Nat} {own : String} {Ts : List Cond} {ret : Option FieldType} {Q : State → Prop} {cells slots pc : Nat} {lv lv' : List (Nat × Value)} {st st' : List Value} {ws ws' : va_W}
/-- a call whose cells lie together -/
theorem hg_callC (C : hX p s m args meth c E A cc nL own Ts ret) {y : MethodName} {wsC : List Cond} {rm : Room} {wc w1 : va_W} {rv : Option Value} {b : Nat} {As rest : List Value} {bytes : ByteArray} {maxL index ci : Nat} {retc : Option FieldType} {q : vw_C} {fs : List Value} (hM : hC l y wsC rm E (.ref b :: As) wc rv w1) (hF : hCF y wsC rm bytes maxL retc As.length) (hT : GoodIn Ts (wsV own index y.cls y wsC)) (hR : rm.frames + 1 ≤ R.frames ∧ 8 + (maxL + 11) + rm.locals ≤ R.locals) (hcap : cells ≤ R.cells ∧ slots ≤ R.slots)
    (pre post : va_W) (hsp : ws = pre ++ (wc ++ post)) (ad : List Nat) (hf1 : w1.map Prod.fst = ad) (hf0 : wc.map Prod.fst = ad) (hws : pre ++ (w1 ++ post) = ws') (q0 : Nat) (hcl : vwCl[ci]? = some q) (hq : q.1 = y.cls) (he : wc[q0]? = some (b, .inr (ci, fs))) (hst : st = As.reverse ++ .ref b :: rest) (hrest : (rest.map fun v => v.category).sum ≤ 8) (hd : decode cc pc = .ok (.invokevirtual index, 3))
    (k : hG p l e R s m args below meth c E A nL Q cells slots (pc + 3) lv (rv.toList ++ rest) ws') : hG p l e R s m args below meth c E A nL Q cells slots pc lv st ws := by
  intro H locs ls hP hD hS hl
  subst hst
  subst hsp
  obtain ⟨⟨wsx, hw⟩, hdd, hr1, hr2⟩ := hF
  obtain ⟨hx, hb, hml, hown, hts, hk, hA, hz, -⟩ := id C
  have hPc : va_P E.1 vwCl wc H := fun k q hk => hP _ q (hspl_at hk)
  have hDc : va_D A wc := ⟨fun i j x y h1 h2 h3 => by have := hD.1 _ _ x y (hspl_at (pre := pre) (post := post) h1) (hspl_at h2) h3; omega, fun k q hk => hD.2 _ q (hspl_at hk)⟩
  have hFr : ∀ q, va_A wc H.size q → A q := fun q h => by
    rcases h with ⟨k, e, h⟩ | h
    · exact hDc.2 k (q, e) h
    · exact hA q (Nat.le_trans hS.1 h)
  have hpre : ∀ U : State, U.heap = H → s.WarmedH U.vm → va_Pc (.ref b :: As) (fun U => U.heap.size = H.size ∧ va_P E.1 vwCl wc U.heap ∧ hK E U ∧ va_D (fun _ => True) wc ∧ hZ E (va_A wc H.size) U U.heap) (Value.ref b :: As).toArray U := by
    intro U hU hW
    refine ⟨rfl, by rw [hU], by rw [hU]; exact hPc, hk.warm hW, hDc.weaken (fun _ _ _ _ => trivial), ?_⟩
    rw [hU]
    exact ((hz.kept hS.2.1).moved hW.alike).narrow hFr
  have hr := va_runV (e := e) (below := below) (meth := meth) (H := H) (locs := locs) (cells := cells) (slots := slots) (g := F0 m pc ls (As.reverse ++ .ref b :: rest)) (As := As) (rest := rest) (b := b) ⟨hx, hb, hml, hown, hts⟩ (hM H.size) (cwV As.length hts hT hw hr1 hr2 ⟨rfl, hdd⟩ hR) ⟨hblind, by rw [← hq]; exact va_recv hk.1 hPc hcl he, hpre⟩ rfl rfl hl.1 rfl (lv_room hrest) hd ⟨hcap.1, hcap.2⟩
  intro T hT X
  obtain ⟨v, st₀, t, T', L, h0, X', hL, e1, e2, ⟨hv, hP1, hz1, hk1⟩, st1⟩ := hr T hT X
  cases hv
  rw [h0] at hz1 hk1
  obtain ⟨hP2, hD2⟩ := hspl_PD hP hD (hf1.trans hf0.symm) (H1 := T'.heap) (fun q h1 h2 => by rw [e1]; exact hk1 q h1 h2) (by rw [e1]; exact hP1)
  rw [hws] at hP2 hD2
  obtain ⟨t2, a1, b1⟩ := k T'.heap (locs ++ L) ls hP2 hD2 ⟨Nat.le_trans hS.1 (by rw [e1]; exact hz1), fun q h1 h2 => by rw [e1, hk1 q (Nat.lt_of_lt_of_le h1 hS.1) (fun z => h2 (hFr q z))]; exact hS.2.1 q h1 h2, fun q hq => by
      rcases List.mem_append.mp hq with h | h
      · exact hS.2.2 q h
      · exact hFr _ (hL q h)⟩ hl T' rfl X'
  exact ⟨t2, st1 t2 a1, b1⟩
end HS
