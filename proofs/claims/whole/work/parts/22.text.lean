/-- where a reader of the text stands behind i parts -/
def ffI (i : Nat) (x : Int32) : Prop := ∃ k : Nat, x = nI k ∧ i < k ∧ k < 200
theorem ff_k {i : Nat} {x tl : Int32} (hv : ffI i x) (htl : tl.toNatClampNeg ≤ 64) (h : ¬ tl ≤ x) : ∃ k : Nat, x = nI k ∧ i < k ∧ k < 64 := by
  obtain ⟨k, rfl, h1, h2⟩ := hv
  have := lt_cl (by omega) h
  exact ⟨k, rfl, h1, by omega⟩
theorem ff_lt {i : Nat} {x tl : Int32} (hv : ffI i x) (htl : tl.toNatClampNeg ≤ 64) (h : ¬ tl ≤ x) : i < 64 := by
  obtain ⟨k, rfl, h1, h2⟩ := ff_k hv htl h
  omega
theorem ff_7 {i : Nat} {x tl : Int32} (hv : ffI i x) (htl : tl.toNatClampNeg ≤ 64) (h : ¬ tl ≤ x) : ffI (i + 1) (x + 7) := by
  obtain ⟨k, rfl, h1, h2⟩ := ff_k hv htl h
  exact ⟨k + 7, nI_add k 7, by omega, by omega⟩
theorem ff_4 {i : Nat} {x tl : Int32} (hv : ffI i x) (htl : tl.toNatClampNeg ≤ 64) (h : ¬ tl ≤ x) : ffI (i + 1) (x + 4) := by
  obtain ⟨k, rfl, h1, h2⟩ := ff_k hv htl h
  exact ⟨k + 4, nI_add k 4, by omega, by omega⟩
theorem ff_abs {P : Prop} {i : Nat} {x : Int32} (hv : ffI i x) (h : x = (-9)) : P := by
  obtain ⟨k, rfl, h1, h2⟩ := hv
  have h3 : ¬ nI k < 0 := nI_pos (by omega)
  exact absurd (by rw [h]; decide) h3
theorem cf_in {q : Int32} {i n : Nat} (hq : vp_in q 1000) (hi : i < 10) (hn : n < 1000) (h : ¬ nI n ≤ q + nI i) : vp_in (q + nI i) n := by
  obtain ⟨j, hj, rfl⟩ := vp_in_of hq (by decide)
  rw [nI_add] at h ⊢
  exact vp_in_nI (lt_nI (by omega) h) (by omega)
/-- the counts of people and tunes behind i parts -/
def lnI (i : Nat) (x : Int32) : Prop := ∃ k : Nat, x = nI k ∧ k ≤ i
theorem ln_1 {i : Nat} {x : Int32} (h : lnI i x) : lnI (i + 1) (x + 1) := by
  obtain ⟨k, rfl, h1⟩ := h
  exact ⟨k + 1, nI_1 k, by omega⟩
theorem ln_0 {i : Nat} {x : Int32} (h : lnI i x) : lnI (i + 1) x := by
  obtain ⟨k, rfl, h1⟩ := h
  exact ⟨k, rfl, by omega⟩
theorem ln_6 {i : Nat} {x : Int32} (h : lnI i x) (hi : i ≤ 64) : vp_in (x * 6) 1000 := by
  obtain ⟨k, rfl, h1⟩ := h
  rw [show nI k * 6 = nI (k * 6) from pk_mul k 6]
  exact vp_in_nI (by omega) (by decide)
theorem ln_3 {i : Nat} {x : Int32} (h : lnI i x) (hi : i ≤ 64) : vp_in (x * 3) 1000 := by
  obtain ⟨k, rfl, h1⟩ := h
  rw [show nI k * 3 = nI (k * 3) from pk_mul k 3]
  exact vp_in_nI (by omega) (by decide)

theorem mmX4_append_f15 : (Cond.fieldLink RX4 15 "HatRound$Text" "length" "I") ∈ wsX4_append := (List.mem_cons_of_mem _ (List.mem_append_left _ (List.mem_of_getElem? (i := 0) rfl)))
theorem mrX4_append_4 : ∀ w ∈ u_ws RX4 TX4 2, w ∈ wsX4_append := fun _ h => (List.mem_cons_of_mem _ (List.mem_append_right _ h))
theorem mmX4_append_f9 : (Cond.fieldLink RX4 9 "HatRound$Text" "bytes" "[I") ∈ wsX4_append := (List.mem_cons_of_mem _ (List.mem_append_left _ (List.mem_of_getElem? (i := 1) rfl)))
abbrev rmX4_append : Room := { frames := 0, cells := 0, slots := 0, locals := 0 }
theorem hfX4_append : hCF yX4_append wsX4_append rmX4_append cX4_append 2 none 1 := ⟨⟨_, rfl⟩, by decide +kernel, rfl, rfl⟩
noncomputable def fX4_append (tl : Int32) (tx : Nat → Int32) (a : Int32) : Int32 × (Nat → Int32) := hid (if (64 : Int32) ≤ tl then (tl, tx) else (tl + 1, upd tx tl.toNatClampNeg a))
set_option maxHeartbeats 4000000 in
set_option maxRecDepth 100000 in
theorem kX4_append (l : Launch) (E : hE) (ta : Nat) (tb : Nat) (tl : Int32) (tx : Nat → Int32) (a : Int32) (ht0 : ¬ tl < 0) : hC l yX4_append wsX4_append rmX4_append E [.ref ta, .int a] [(ta, .inr (4, [.ref tb, .int tl])), (tb, .inl (E.2.1.1, 64, .inl tx))] none [(ta, .inr (4, [.ref tb, .int ((fX4_append tl tx a).1)])), (tb, .inl (E.2.1.1, 64, .inl ((fX4_append tl tx a).2)))] := by
  refine hC_intro (cc := cX4_append) (maxL := 2) (ret := none) (lv0 := [(0, .ref ta), (1, .int a)]) (by decide) rfl (Nat.le_of_ble_eq_true rfl) rfl ?_
  intro p e s m below meth c A C
  refine hg_aload_n C dX4_append_0 rfl 0 rfl ?_
  refine hg_get C (Cn := RX4) (T := TX4) (N := 2) (v := .int tl) mrX4_append_4 0 rfl rfl 1 (by decide) mmX4_append_f15 rfl dX4_append_1 ?_
  refine hg_bipush C (v := 64) dX4_append_4 (by decide) ?_
  refine hg_icmp_ge C (tgt := 29) dX4_append_6 (by decide) (fun c1 => ?_) (fun c1 => ?_)
  · have e9 : (fX4_append tl tx a) = (tl, tx) := (hid_eq _).trans ((if_pos c1).trans rfl)
    rw [e9]
    exact hg_vret C dX4_append_29 rfl rfl
  · refine hg_aload_n C dX4_append_9 rfl 0 rfl ?_
    refine hg_get C (Cn := RX4) (T := TX4) (N := 2) (v := .ref tb) mrX4_append_4 0 rfl rfl 0 (by decide) mmX4_append_f9 rfl dX4_append_10 ?_
    refine hg_aload_n C dX4_append_13 rfl 0 rfl ?_
    refine hg_get C (Cn := RX4) (T := TX4) (N := 2) (v := .int tl) mrX4_append_4 0 rfl rfl 1 (by decide) mmX4_append_f15 rfl dX4_append_14 ?_
    refine hg_iload_n C dX4_append_17 rfl 1 rfl ?_
    refine hg_iast C (ws' := [(ta, .inr (4, [.ref tb, .int tl])), (tb, .inl (E.2.1.1, 64, .inl (upd tx tl.toNatClampNeg a)))]) 1 rfl (vp_of (N := 64) (n := 64) rfl (by decide) (by assumption) (by assumption)) rfl dX4_append_18 ?_
    refine hg_aload_n C dX4_append_19 rfl 0 rfl ?_
    refine hg_dup C dX4_append_20 rfl ?_
    refine hg_get C (Cn := RX4) (T := TX4) (N := 2) (v := .int tl) mrX4_append_4 0 rfl rfl 1 (by decide) mmX4_append_f15 rfl dX4_append_21 ?_
    refine hg_iconst C (v := 1) dX4_append_24 (by decide) ?_
    refine hg_iadd C dX4_append_25 ?_
    refine hg_put C (Cn := RX4) (T := TX4) (N := 2) (ws' := [(ta, .inr (4, [.ref tb, .int (tl + 1)])), (tb, .inl (E.2.1.1, 64, .inl (upd tx tl.toNatClampNeg a)))]) mrX4_append_4 tyX4 tyX4_ok nmX4 0 rfl rfl 1 (by decide) mmX4_append_f15 rfl rfl rfl rfl (Nat.le_of_ble_eq_true rfl) rfl dX4_append_26 ?_
    have e9 : (fX4_append tl tx a) = (tl + 1, upd tx tl.toNatClampNeg a) := (hid_eq _).trans ((if_neg c1).trans rfl)
    rw [e9]
    exact hg_vret C dX4_append_29 rfl rfl
theorem mmX4_clear_f15 : (Cond.fieldLink RX4 15 "HatRound$Text" "length" "I") ∈ wsX4_clear := (List.mem_cons_of_mem _ (List.mem_append_left _ (List.mem_of_getElem? (i := 0) rfl)))
theorem mrX4_clear_4 : ∀ w ∈ u_ws RX4 TX4 2, w ∈ wsX4_clear := fun _ h => (List.mem_cons_of_mem _ (List.mem_append_right _ h))
abbrev rmX4_clear : Room := { frames := 0, cells := 0, slots := 0, locals := 0 }
theorem hfX4_clear : hCF yX4_clear wsX4_clear rmX4_clear cX4_clear 1 none 0 := ⟨⟨_, rfl⟩, by decide +kernel, rfl, rfl⟩
noncomputable def fX4_clear  : Int32 := hid (0)
set_option maxHeartbeats 4000000 in
set_option maxRecDepth 100000 in
theorem kX4_clear (l : Launch) (E : hE) (ta : Nat) (tb : Nat) (tl : Int32) (tx : Nat → Int32) : hC l yX4_clear wsX4_clear rmX4_clear E [.ref ta] [(ta, .inr (4, [.ref tb, .int tl])), (tb, .inl (E.2.1.1, 64, .inl tx))] none [(ta, .inr (4, [.ref tb, .int fX4_clear])), (tb, .inl (E.2.1.1, 64, .inl tx))] := by
  refine hC_intro (cc := cX4_clear) (maxL := 1) (ret := none) (lv0 := [(0, .ref ta)]) (by decide) rfl (Nat.le_of_ble_eq_true rfl) rfl ?_
  intro p e s m below meth c A C
  refine hg_aload_n C dX4_clear_0 rfl 0 rfl ?_
  refine hg_iconst C (v := 0) dX4_clear_1 (by decide) ?_
  refine hg_put C (Cn := RX4) (T := TX4) (N := 2) (ws' := [(ta, .inr (4, [.ref tb, .int 0])), (tb, .inl (E.2.1.1, 64, .inl tx))]) mrX4_clear_4 tyX4 tyX4_ok nmX4 0 rfl rfl 1 (by decide) mmX4_clear_f15 rfl rfl rfl rfl (Nat.le_of_ble_eq_true rfl) rfl dX4_clear_2 ?_
  have e9 : fX4_clear = 0 := hid_eq _
  rw [e9]
  exact hg_vret C dX4_clear_5 rfl rfl
theorem mmX4_byteAt_f15 : (Cond.fieldLink RX4 15 "HatRound$Text" "length" "I") ∈ wsX4_byteAt := (List.mem_cons_of_mem _ (List.mem_append_left _ (List.mem_of_getElem? (i := 0) rfl)))
theorem mrX4_byteAt_4 : ∀ w ∈ u_ws RX4 TX4 2, w ∈ wsX4_byteAt := fun _ h => (List.mem_cons_of_mem _ (List.mem_append_right _ h))
theorem mmX4_byteAt_f9 : (Cond.fieldLink RX4 9 "HatRound$Text" "bytes" "[I") ∈ wsX4_byteAt := (List.mem_cons_of_mem _ (List.mem_append_left _ (List.mem_of_getElem? (i := 1) rfl)))
abbrev rmX4_byteAt : Room := { frames := 0, cells := 0, slots := 0, locals := 0 }
theorem hfX4_byteAt : hCF yX4_byteAt wsX4_byteAt rmX4_byteAt cX4_byteAt 2 (some .int) 1 := ⟨⟨_, rfl⟩, by decide +kernel, rfl, rfl⟩
noncomputable def fX4_byteAt (tl : Int32) (tx : Nat → Int32) (a : Int32) : Int32 := hid (if a < 0 then ((-9) : Int32) else (if tl ≤ a then ((-9) : Int32) else (if (64 : Int32) ≤ a then ((-9) : Int32) else (tx a.toNatClampNeg))))
set_option maxHeartbeats 4000000 in
set_option maxRecDepth 100000 in
theorem kX4_byteAt (l : Launch) (E : hE) (ta : Nat) (tb : Nat) (tl : Int32) (tx : Nat → Int32) (a : Int32) : hC l yX4_byteAt wsX4_byteAt rmX4_byteAt E [.ref ta, .int a] [(ta, .inr (4, [.ref tb, .int tl])), (tb, .inl (E.2.1.1, 64, .inl tx))] (some (.int (fX4_byteAt tl tx a))) [(ta, .inr (4, [.ref tb, .int tl])), (tb, .inl (E.2.1.1, 64, .inl tx))] := by
  refine hC_intro (cc := cX4_byteAt) (maxL := 2) (ret := (some .int)) (lv0 := [(0, .ref ta), (1, .int a)]) (by decide) rfl (Nat.le_of_ble_eq_true rfl) rfl ?_
  intro p e s m below meth c A C
  refine hg_iload_n C dX4_byteAt_0 rfl 1 rfl ?_
  refine hg_join (J := 32) (v := if a < 0 then ((-9) : Int32) else (if tl ≤ a then ((-9) : Int32) else (if (64 : Int32) ≤ a then ((-9) : Int32) else (tx a.toNatClampNeg)))) (st1 := []) (fun jj => ?_) ?_
  · refine hg_if_lt C (tgt := 30) dX4_byteAt_1 (by decide) (fun c1 => ?_) (fun c1 => ?_)
    · refine hg_bipush C (v := (-9)) dX4_byteAt_30 (by decide) ?_
      exact hg_top (v := if a < 0 then ((-9) : Int32) else (if tl ≤ a then ((-9) : Int32) else (if (64 : Int32) ≤ a then ((-9) : Int32) else (tx a.toNatClampNeg)))) (v' := (-9)) ((if_pos c1).trans rfl) jj
    · refine hg_iload_n C dX4_byteAt_4 rfl 1 rfl ?_
      refine hg_aload_n C dX4_byteAt_5 rfl 0 rfl ?_
      refine hg_get C (Cn := RX4) (T := TX4) (N := 2) (v := .int tl) mrX4_byteAt_4 0 rfl rfl 1 (by decide) mmX4_byteAt_f15 rfl dX4_byteAt_6 ?_
      refine hg_join (J := 32) (v := if tl ≤ a then ((-9) : Int32) else (if (64 : Int32) ≤ a then ((-9) : Int32) else (tx a.toNatClampNeg))) (st1 := []) (fun jj => ?_) ?_
      · refine hg_icmp_ge C (tgt := 30) dX4_byteAt_9 (by decide) (fun c2 => ?_) (fun c2 => ?_)
        · refine hg_bipush C (v := (-9)) dX4_byteAt_30 (by decide) ?_
          exact hg_top (v := if tl ≤ a then ((-9) : Int32) else (if (64 : Int32) ≤ a then ((-9) : Int32) else (tx a.toNatClampNeg))) (v' := (-9)) ((if_pos c2).trans rfl) jj
        · refine hg_iload_n C dX4_byteAt_12 rfl 1 rfl ?_
          refine hg_aload_n C dX4_byteAt_13 rfl 0 rfl ?_
          refine hg_get C (Cn := RX4) (T := TX4) (N := 2) (v := .ref tb) mrX4_byteAt_4 0 rfl rfl 0 (by decide) mmX4_byteAt_f9 rfl dX4_byteAt_14 ?_
          refine hg_alen C (v := 64) 1 rfl rfl dX4_byteAt_17 ?_
          refine hg_join (J := 32) (v := if (64 : Int32) ≤ a then ((-9) : Int32) else (tx a.toNatClampNeg)) (st1 := []) (fun jj => ?_) ?_
          · refine hg_icmp_ge C (tgt := 30) dX4_byteAt_18 (by decide) (fun c3 => ?_) (fun c3 => ?_)
            · refine hg_bipush C (v := (-9)) dX4_byteAt_30 (by decide) ?_
              exact hg_top (v := if (64 : Int32) ≤ a then ((-9) : Int32) else (tx a.toNatClampNeg)) (v' := (-9)) ((if_pos c3).trans rfl) jj
            · refine hg_aload_n C dX4_byteAt_21 rfl 0 rfl ?_
              refine hg_get C (Cn := RX4) (T := TX4) (N := 2) (v := .ref tb) mrX4_byteAt_4 0 rfl rfl 0 (by decide) mmX4_byteAt_f9 rfl dX4_byteAt_22 ?_
              refine hg_iload_n C dX4_byteAt_25 rfl 1 rfl ?_
              refine hg_iald C 1 rfl (vp_of (N := 64) (n := 64) rfl (by decide) (by assumption) (by assumption)) dX4_byteAt_26 ?_
              refine hg_goto C (tgt := 32) dX4_byteAt_27 (by decide) ?_
              exact hg_top (v := if (64 : Int32) ≤ a then ((-9) : Int32) else (tx a.toNatClampNeg)) (v' := tx a.toNatClampNeg) ((if_neg c3).trans rfl) jj
          exact hg_top (v := if tl ≤ a then ((-9) : Int32) else (if (64 : Int32) ≤ a then ((-9) : Int32) else (tx a.toNatClampNeg))) (v' := if (64 : Int32) ≤ a then ((-9) : Int32) else (tx a.toNatClampNeg)) ((if_neg c2).trans rfl) jj
      exact hg_top (v := if a < 0 then ((-9) : Int32) else (if tl ≤ a then ((-9) : Int32) else (if (64 : Int32) ≤ a then ((-9) : Int32) else (tx a.toNatClampNeg)))) (v' := if tl ≤ a then ((-9) : Int32) else (if (64 : Int32) ≤ a then ((-9) : Int32) else (tx a.toNatClampNeg))) ((if_neg c1).trans rfl) jj
  have e9 : (fX4_byteAt tl tx a) = if a < 0 then ((-9) : Int32) else (if tl ≤ a then ((-9) : Int32) else (if (64 : Int32) ≤ a then ((-9) : Int32) else (tx a.toNatClampNeg))) := hid_eq _
  rw [e9]
  exact hg_iret C dX4_byteAt_32 rfl rfl
theorem mmX4_firstWrongFigure_f15 : (Cond.fieldLink RX4 15 "HatRound$Text" "length" "I") ∈ wsX4_firstWrongFigure := (List.mem_cons_of_mem _ (List.mem_append_left _ (List.mem_of_getElem? (i := 0) rfl)))
theorem mrX4_firstWrongFigure_4 : ∀ w ∈ u_ws RX4 TX4 2, w ∈ wsX4_firstWrongFigure := fun _ h => (List.mem_cons_of_mem _ (List.mem_append_right _ h))
theorem nmX4_39 : (RX4, 39, yX5_isWithin, RX5) ∈ hNM := by decide +kernel
theorem mmX4_firstWrongFigure_wi5 : (Cond.initialized RX5) ∈ wsX4_firstWrongFigure := (List.mem_cons_of_mem _ (List.mem_append_left _ (List.mem_of_getElem? (i := 8) rfl)))
theorem mmX4_firstWrongFigure_wsX5_isWithin : (Cond.static yX5_isWithin) ∈ wsX4_firstWrongFigure := (List.mem_cons_of_mem _ (List.mem_append_left _ (List.mem_of_getElem? (i := 7) rfl)))
abbrev rmX4_firstWrongFigure : Room := { frames := 1, cells := 0, slots := 0, locals := 22 }
theorem hfX4_firstWrongFigure : hCF yX4_firstWrongFigure wsX4_firstWrongFigure rmX4_firstWrongFigure cX4_firstWrongFigure 5 (some .int) 3 := ⟨⟨_, rfl⟩, by decide +kernel, rfl, rfl⟩
noncomputable def frpX4_firstWrongFigure_3 (tl : Int32) (tx : Nat → Int32) (a : Int32) : Nat → Nat → Unit → Int32
  | 0, _, σ => 0
  | n + 1, i, σ => hid (if (6 : Int32) ≤ (nI i) then (-9) else if (6 : Int32) ≤ (nI i) then (-9) else if (a + (nI i)) < tl then (if (fX5_isWithin ((fX4_byteAt tl tx (a + (nI i))) - 48) (tPL (nI i).toNatClampNeg) (tPM (nI i).toNatClampNeg)) = 0 then a + (nI i) else (frpX4_firstWrongFigure_3 tl tx a) n (i + 1) ()) else tl)
set_option maxHeartbeats 4000000 in
set_option maxRecDepth 100000 in
theorem lppX4_firstWrongFigure_3 {p : Program} {l : Launch} {e : Env} {s : State} {m : MethodId} {args : Array Value} {below : List Frame} {meth : Method} {c : Code} {E : hE} {A : Nat → Prop} (C : hX p s m args meth c E A cX4_firstWrongFigure 5 RX4 wsX4_firstWrongFigure (some .int)) (ta : Nat) (tb : Nat) (tl : Int32) (tx : Nat → Int32) (a : Int32) : ∀ (n i : Nat) (σ : Unit), i + n = 6 + 1 → i ≤ 6 → hG p l e rmX4_firstWrongFigure s m args below meth c E A 5 (hQ E A below args s (some (.int ((frpX4_firstWrongFigure_3 tl tx a) n i σ))) [(ta, .inr (4, [.ref tb, .int tl])), (tb, .inl (E.2.1.1, 64, .inl tx))]) 0 0 3 [(0, .ref ta), (1, .int a), (2, .ref E.2.2.1), (3, .ref E.2.2.2.1), (4, .int (nI i))] [] [(ta, .inr (4, [.ref tb, .int tl])), (tb, .inl (E.2.1.1, 64, .inl tx))] := by
  intro n
  induction n with
  | zero =>
    intro i σ hi hiN
    exact absurd hi (by omega)
  | succ n ih =>
    intro i σ hi hiN
    refine hg_iload C dX4_firstWrongFigure_3 4 rfl ?_
    refine hg_aload_n C dX4_firstWrongFigure_5 rfl 2 rfl ?_
    refine hg_tlen C (v := 6) C.2.2.2.2.2.2.2.1.2.1 rfl dX4_firstWrongFigure_6 ?_
    refine hg_icmp_ge C (tgt := 69) dX4_firstWrongFigure_7 (by decide) (fun c5 => ?_) (fun c5 => ?_)
    · refine hg_bipush C (v := (-9)) dX4_firstWrongFigure_69 (by decide) ?_
      have e9 : (frpX4_firstWrongFigure_3 tl tx a) (n + 1) i σ = (-9) := (hid_eq _).trans ((if_pos c5).trans rfl)
      rw [e9]
      exact hg_iret C dX4_firstWrongFigure_71 rfl rfl
    · refine hg_iload C dX4_firstWrongFigure_10 4 rfl ?_
      refine hg_aload_n C dX4_firstWrongFigure_12 rfl 3 rfl ?_
      refine hg_tlen C (v := 6) C.2.2.2.2.2.2.2.1.2.2.1 rfl dX4_firstWrongFigure_13 ?_
      refine hg_icmp_ge C (tgt := 69) dX4_firstWrongFigure_14 (by decide) (fun c6 => ?_) (fun c6 => ?_)
      · refine hg_bipush C (v := (-9)) dX4_firstWrongFigure_69 (by decide) ?_
        have e9 : (frpX4_firstWrongFigure_3 tl tx a) (n + 1) i σ = (-9) := (hid_eq _).trans ((if_neg c5).trans ((if_pos c6).trans rfl))
        rw [e9]
        exact hg_iret C dX4_firstWrongFigure_71 rfl rfl
      · refine hg_iload_n C dX4_firstWrongFigure_17 rfl 1 rfl ?_
        refine hg_iload C dX4_firstWrongFigure_18 4 rfl ?_
        refine hg_iadd C dX4_firstWrongFigure_20 ?_
        refine hg_aload_n C dX4_firstWrongFigure_21 rfl 0 rfl ?_
        refine hg_get C (Cn := RX4) (T := TX4) (N := 2) (v := .int tl) mrX4_firstWrongFigure_4 0 rfl rfl 1 (by decide) mmX4_firstWrongFigure_f15 rfl dX4_firstWrongFigure_22 ?_
        refine hg_icmp_lt C (tgt := 33) dX4_firstWrongFigure_25 (by decide) (fun c7 => ?_) (fun c7 => ?_)
        · refine hg_aload_n C dX4_firstWrongFigure_33 rfl 0 rfl ?_
          refine hg_iload_n C dX4_firstWrongFigure_34 rfl 1 rfl ?_
          refine hg_iload C dX4_firstWrongFigure_35 4 rfl ?_
          refine hg_iadd C dX4_firstWrongFigure_37 ?_
          refine hg_callV C (ws' := [(ta, .inr (4, [.ref tb, .int tl])), (tb, .inl (E.2.1.1, 64, .inl tx))]) (rest := []) (kX4_byteAt l E ta tb tl tx (a + (nI i))) hfX4_byteAt gX4_firstWrongFigure_X4_byteAt ⟨Nat.le_of_ble_eq_true rfl, Nat.le_of_ble_eq_true rfl⟩ ⟨Nat.zero_le _, Nat.zero_le _⟩ [0, 1] rfl (by decide) [ta, tb] rfl rfl rfl 0 rfl rfl rfl rfl (Nat.le_of_ble_eq_true rfl) dX4_firstWrongFigure_38 ?_
          refine hg_bipush C (v := 48) dX4_firstWrongFigure_41 (by decide) ?_
          refine hg_isub C dX4_firstWrongFigure_43 ?_
          refine hg_aload_n C dX4_firstWrongFigure_44 rfl 2 rfl ?_
          refine hg_iload C dX4_firstWrongFigure_45 4 rfl ?_
          refine hg_ti C (f := tPL) C.2.2.2.2.2.2.2.1.2.1 (vp_in_nI (lt_nI (by omega) (by assumption)) (by decide)) dX4_firstWrongFigure_47 ?_
          refine hg_aload_n C dX4_firstWrongFigure_48 rfl 3 rfl ?_
          refine hg_iload C dX4_firstWrongFigure_49 4 rfl ?_
          refine hg_ti C (f := tPM) C.2.2.2.2.2.2.2.1.2.2.1 (vp_in_nI (lt_nI (by omega) (by assumption)) (by decide)) dX4_firstWrongFigure_51 ?_
          refine hg_callN C (ws' := [(ta, .inr (4, [.ref tb, .int tl])), (tb, .inl (E.2.1.1, 64, .inl tx))]) (rest := []) (kX5_isWithin l E ((fX4_byteAt tl tx (a + (nI i))) - 48) (tPL (nI i).toNatClampNeg) (tPM (nI i).toNatClampNeg)) hfX5_isWithin gX4_firstWrongFigure_X5_isWithin_n39 nmX4_39 mmX4_firstWrongFigure_wi5 mmX4_firstWrongFigure_wsX5_isWithin ⟨Nat.le_of_ble_eq_true rfl, Nat.le_of_ble_eq_true rfl⟩ ⟨Nat.zero_le _, Nat.zero_le _⟩ [] rfl (by decide) [] rfl rfl rfl rfl (Nat.le_of_ble_eq_true rfl) dX4_firstWrongFigure_52 ?_
          refine hg_if_ne C (tgt := 63) dX4_firstWrongFigure_55 (by decide) (fun c8 => ?_) (fun c8 => ?_)
          · refine hg_iinc C (v := nI (i + 1)) (lv' := [(4, .int (nI (i + 1))), (0, .ref ta), (1, .int a), (2, .ref E.2.2.1), (3, .ref E.2.2.2.1)]) dX4_firstWrongFigure_63 4 rfl (nI_inc _) (by decide) rfl ?_
            refine hg_goto C (tgt := 3) dX4_firstWrongFigure_66 (by decide) ?_
            have hlt : i < 6 := (lt_nI (by omega) (by assumption))
            have e9 : (frpX4_firstWrongFigure_3 tl tx a) (n + 1) i σ = (frpX4_firstWrongFigure_3 tl tx a) n (i + 1) () := (hid_eq _).trans ((if_neg c5).trans ((if_neg c6).trans ((if_pos c7).trans ((if_neg c8).trans rfl))))
            rw [e9]
            exact hg_sub [1, 2, 3, 4, 0] rfl (ih (i + 1) () (by omega) (by omega))
          · refine hg_iload_n C dX4_firstWrongFigure_58 rfl 1 rfl ?_
            refine hg_iload C dX4_firstWrongFigure_59 4 rfl ?_
            refine hg_iadd C dX4_firstWrongFigure_61 ?_
            have e9 : (frpX4_firstWrongFigure_3 tl tx a) (n + 1) i σ = a + (nI i) := (hid_eq _).trans ((if_neg c5).trans ((if_neg c6).trans ((if_pos c7).trans ((if_pos c8).trans rfl))))
            rw [e9]
            exact hg_iret C dX4_firstWrongFigure_62 rfl rfl
        · refine hg_aload_n C dX4_firstWrongFigure_28 rfl 0 rfl ?_
          refine hg_get C (Cn := RX4) (T := TX4) (N := 2) (v := .int tl) mrX4_firstWrongFigure_4 0 rfl rfl 1 (by decide) mmX4_firstWrongFigure_f15 rfl dX4_firstWrongFigure_29 ?_
          have e9 : (frpX4_firstWrongFigure_3 tl tx a) (n + 1) i σ = tl := (hid_eq _).trans ((if_neg c5).trans ((if_neg c6).trans ((if_neg c7).trans rfl)))
          rw [e9]
          exact hg_iret C dX4_firstWrongFigure_32 rfl rfl
noncomputable def fpX4_firstWrongFigure (tl : Int32) (tx : Nat → Int32) (a : Int32) : Int32 := hid ((frpX4_firstWrongFigure_3 tl tx a) (6 + 1) 0 ())
set_option maxHeartbeats 4000000 in
set_option maxRecDepth 100000 in
theorem kpX4_firstWrongFigure (l : Launch) (E : hE) (ta : Nat) (tb : Nat) (tl : Int32) (tx : Nat → Int32) (a : Int32) : hC l yX4_firstWrongFigure wsX4_firstWrongFigure rmX4_firstWrongFigure E [.ref ta, .int a, .ref E.2.2.1, .ref E.2.2.2.1] [(ta, .inr (4, [.ref tb, .int tl])), (tb, .inl (E.2.1.1, 64, .inl tx))] (some (.int (fpX4_firstWrongFigure tl tx a))) [(ta, .inr (4, [.ref tb, .int tl])), (tb, .inl (E.2.1.1, 64, .inl tx))] := by
  refine hC_intro (cc := cX4_firstWrongFigure) (maxL := 5) (ret := (some .int)) (lv0 := [(0, .ref ta), (1, .int a), (2, .ref E.2.2.1), (3, .ref E.2.2.2.1)]) (by decide) rfl (Nat.le_of_ble_eq_true rfl) rfl ?_
  intro p e s m below meth c A C
  refine hg_iconst C (v := 0) dX4_firstWrongFigure_0 (by decide) ?_
  refine hg_istore C (lv' := [(4, .int 0), (0, .ref ta), (1, .int a), (2, .ref E.2.2.1), (3, .ref E.2.2.2.1)]) dX4_firstWrongFigure_1 (by decide) rfl ?_
  have e9 : (fpX4_firstWrongFigure tl tx a) = (frpX4_firstWrongFigure_3 tl tx a) (6 + 1) 0 () := hid_eq _
  rw [e9]
  refine hg_sub [1, 2, 3, 4, 0] rfl ?_
  exact lppX4_firstWrongFigure_3 C ta tb tl tx a (6 + 1) 0 () (by omega) (by omega)
noncomputable def frtX4_firstWrongFigure_3 (tl : Int32) (tx : Nat → Int32) (a : Int32) : Nat → Nat → Unit → Int32
  | 0, _, σ => 0
  | n + 1, i, σ => hid (if (3 : Int32) ≤ (nI i) then (-9) else if (3 : Int32) ≤ (nI i) then (-9) else if (a + (nI i)) < tl then (if (fX5_isWithin ((fX4_byteAt tl tx (a + (nI i))) - 48) (tTL (nI i).toNatClampNeg) (tTM (nI i).toNatClampNeg)) = 0 then a + (nI i) else (frtX4_firstWrongFigure_3 tl tx a) n (i + 1) ()) else tl)
set_option maxHeartbeats 4000000 in
set_option maxRecDepth 100000 in
theorem lptX4_firstWrongFigure_3 {p : Program} {l : Launch} {e : Env} {s : State} {m : MethodId} {args : Array Value} {below : List Frame} {meth : Method} {c : Code} {E : hE} {A : Nat → Prop} (C : hX p s m args meth c E A cX4_firstWrongFigure 5 RX4 wsX4_firstWrongFigure (some .int)) (ta : Nat) (tb : Nat) (tl : Int32) (tx : Nat → Int32) (a : Int32) : ∀ (n i : Nat) (σ : Unit), i + n = 3 + 1 → i ≤ 3 → hG p l e rmX4_firstWrongFigure s m args below meth c E A 5 (hQ E A below args s (some (.int ((frtX4_firstWrongFigure_3 tl tx a) n i σ))) [(ta, .inr (4, [.ref tb, .int tl])), (tb, .inl (E.2.1.1, 64, .inl tx))]) 0 0 3 [(0, .ref ta), (1, .int a), (2, .ref E.2.2.2.2.1), (3, .ref E.2.2.2.2.2), (4, .int (nI i))] [] [(ta, .inr (4, [.ref tb, .int tl])), (tb, .inl (E.2.1.1, 64, .inl tx))] := by
  intro n
  induction n with
  | zero =>
    intro i σ hi hiN
    exact absurd hi (by omega)
  | succ n ih =>
    intro i σ hi hiN
    refine hg_iload C dX4_firstWrongFigure_3 4 rfl ?_
    refine hg_aload_n C dX4_firstWrongFigure_5 rfl 2 rfl ?_
    refine hg_tlen C (v := 3) C.2.2.2.2.2.2.2.1.2.2.2.1 rfl dX4_firstWrongFigure_6 ?_
    refine hg_icmp_ge C (tgt := 69) dX4_firstWrongFigure_7 (by decide) (fun c5 => ?_) (fun c5 => ?_)
    · refine hg_bipush C (v := (-9)) dX4_firstWrongFigure_69 (by decide) ?_
      have e9 : (frtX4_firstWrongFigure_3 tl tx a) (n + 1) i σ = (-9) := (hid_eq _).trans ((if_pos c5).trans rfl)
      rw [e9]
      exact hg_iret C dX4_firstWrongFigure_71 rfl rfl
    · refine hg_iload C dX4_firstWrongFigure_10 4 rfl ?_
      refine hg_aload_n C dX4_firstWrongFigure_12 rfl 3 rfl ?_
      refine hg_tlen C (v := 3) C.2.2.2.2.2.2.2.1.2.2.2.2 rfl dX4_firstWrongFigure_13 ?_
      refine hg_icmp_ge C (tgt := 69) dX4_firstWrongFigure_14 (by decide) (fun c6 => ?_) (fun c6 => ?_)
      · refine hg_bipush C (v := (-9)) dX4_firstWrongFigure_69 (by decide) ?_
        have e9 : (frtX4_firstWrongFigure_3 tl tx a) (n + 1) i σ = (-9) := (hid_eq _).trans ((if_neg c5).trans ((if_pos c6).trans rfl))
        rw [e9]
        exact hg_iret C dX4_firstWrongFigure_71 rfl rfl
      · refine hg_iload_n C dX4_firstWrongFigure_17 rfl 1 rfl ?_
        refine hg_iload C dX4_firstWrongFigure_18 4 rfl ?_
        refine hg_iadd C dX4_firstWrongFigure_20 ?_
        refine hg_aload_n C dX4_firstWrongFigure_21 rfl 0 rfl ?_
        refine hg_get C (Cn := RX4) (T := TX4) (N := 2) (v := .int tl) mrX4_firstWrongFigure_4 0 rfl rfl 1 (by decide) mmX4_firstWrongFigure_f15 rfl dX4_firstWrongFigure_22 ?_
        refine hg_icmp_lt C (tgt := 33) dX4_firstWrongFigure_25 (by decide) (fun c7 => ?_) (fun c7 => ?_)
        · refine hg_aload_n C dX4_firstWrongFigure_33 rfl 0 rfl ?_
          refine hg_iload_n C dX4_firstWrongFigure_34 rfl 1 rfl ?_
          refine hg_iload C dX4_firstWrongFigure_35 4 rfl ?_
          refine hg_iadd C dX4_firstWrongFigure_37 ?_
          refine hg_callV C (ws' := [(ta, .inr (4, [.ref tb, .int tl])), (tb, .inl (E.2.1.1, 64, .inl tx))]) (rest := []) (kX4_byteAt l E ta tb tl tx (a + (nI i))) hfX4_byteAt gX4_firstWrongFigure_X4_byteAt ⟨Nat.le_of_ble_eq_true rfl, Nat.le_of_ble_eq_true rfl⟩ ⟨Nat.zero_le _, Nat.zero_le _⟩ [0, 1] rfl (by decide) [ta, tb] rfl rfl rfl 0 rfl rfl rfl rfl (Nat.le_of_ble_eq_true rfl) dX4_firstWrongFigure_38 ?_
          refine hg_bipush C (v := 48) dX4_firstWrongFigure_41 (by decide) ?_
          refine hg_isub C dX4_firstWrongFigure_43 ?_
          refine hg_aload_n C dX4_firstWrongFigure_44 rfl 2 rfl ?_
          refine hg_iload C dX4_firstWrongFigure_45 4 rfl ?_
          refine hg_ti C (f := tTL) C.2.2.2.2.2.2.2.1.2.2.2.1 (vp_in_nI (lt_nI (by omega) (by assumption)) (by decide)) dX4_firstWrongFigure_47 ?_
          refine hg_aload_n C dX4_firstWrongFigure_48 rfl 3 rfl ?_
          refine hg_iload C dX4_firstWrongFigure_49 4 rfl ?_
          refine hg_ti C (f := tTM) C.2.2.2.2.2.2.2.1.2.2.2.2 (vp_in_nI (lt_nI (by omega) (by assumption)) (by decide)) dX4_firstWrongFigure_51 ?_
          refine hg_callN C (ws' := [(ta, .inr (4, [.ref tb, .int tl])), (tb, .inl (E.2.1.1, 64, .inl tx))]) (rest := []) (kX5_isWithin l E ((fX4_byteAt tl tx (a + (nI i))) - 48) (tTL (nI i).toNatClampNeg) (tTM (nI i).toNatClampNeg)) hfX5_isWithin gX4_firstWrongFigure_X5_isWithin_n39 nmX4_39 mmX4_firstWrongFigure_wi5 mmX4_firstWrongFigure_wsX5_isWithin ⟨Nat.le_of_ble_eq_true rfl, Nat.le_of_ble_eq_true rfl⟩ ⟨Nat.zero_le _, Nat.zero_le _⟩ [] rfl (by decide) [] rfl rfl rfl rfl (Nat.le_of_ble_eq_true rfl) dX4_firstWrongFigure_52 ?_
          refine hg_if_ne C (tgt := 63) dX4_firstWrongFigure_55 (by decide) (fun c8 => ?_) (fun c8 => ?_)
          · refine hg_iinc C (v := nI (i + 1)) (lv' := [(4, .int (nI (i + 1))), (0, .ref ta), (1, .int a), (2, .ref E.2.2.2.2.1), (3, .ref E.2.2.2.2.2)]) dX4_firstWrongFigure_63 4 rfl (nI_inc _) (by decide) rfl ?_
            refine hg_goto C (tgt := 3) dX4_firstWrongFigure_66 (by decide) ?_
            have hlt : i < 3 := (lt_nI (by omega) (by assumption))
            have e9 : (frtX4_firstWrongFigure_3 tl tx a) (n + 1) i σ = (frtX4_firstWrongFigure_3 tl tx a) n (i + 1) () := (hid_eq _).trans ((if_neg c5).trans ((if_neg c6).trans ((if_pos c7).trans ((if_neg c8).trans rfl))))
            rw [e9]
            exact hg_sub [1, 2, 3, 4, 0] rfl (ih (i + 1) () (by omega) (by omega))
          · refine hg_iload_n C dX4_firstWrongFigure_58 rfl 1 rfl ?_
            refine hg_iload C dX4_firstWrongFigure_59 4 rfl ?_
            refine hg_iadd C dX4_firstWrongFigure_61 ?_
            have e9 : (frtX4_firstWrongFigure_3 tl tx a) (n + 1) i σ = a + (nI i) := (hid_eq _).trans ((if_neg c5).trans ((if_neg c6).trans ((if_pos c7).trans ((if_pos c8).trans rfl))))
            rw [e9]
            exact hg_iret C dX4_firstWrongFigure_62 rfl rfl
        · refine hg_aload_n C dX4_firstWrongFigure_28 rfl 0 rfl ?_
          refine hg_get C (Cn := RX4) (T := TX4) (N := 2) (v := .int tl) mrX4_firstWrongFigure_4 0 rfl rfl 1 (by decide) mmX4_firstWrongFigure_f15 rfl dX4_firstWrongFigure_29 ?_
          have e9 : (frtX4_firstWrongFigure_3 tl tx a) (n + 1) i σ = tl := (hid_eq _).trans ((if_neg c5).trans ((if_neg c6).trans ((if_neg c7).trans rfl)))
          rw [e9]
          exact hg_iret C dX4_firstWrongFigure_32 rfl rfl
noncomputable def ftX4_firstWrongFigure (tl : Int32) (tx : Nat → Int32) (a : Int32) : Int32 := hid ((frtX4_firstWrongFigure_3 tl tx a) (3 + 1) 0 ())
set_option maxHeartbeats 4000000 in
set_option maxRecDepth 100000 in
theorem ktX4_firstWrongFigure (l : Launch) (E : hE) (ta : Nat) (tb : Nat) (tl : Int32) (tx : Nat → Int32) (a : Int32) : hC l yX4_firstWrongFigure wsX4_firstWrongFigure rmX4_firstWrongFigure E [.ref ta, .int a, .ref E.2.2.2.2.1, .ref E.2.2.2.2.2] [(ta, .inr (4, [.ref tb, .int tl])), (tb, .inl (E.2.1.1, 64, .inl tx))] (some (.int (ftX4_firstWrongFigure tl tx a))) [(ta, .inr (4, [.ref tb, .int tl])), (tb, .inl (E.2.1.1, 64, .inl tx))] := by
  refine hC_intro (cc := cX4_firstWrongFigure) (maxL := 5) (ret := (some .int)) (lv0 := [(0, .ref ta), (1, .int a), (2, .ref E.2.2.2.2.1), (3, .ref E.2.2.2.2.2)]) (by decide) rfl (Nat.le_of_ble_eq_true rfl) rfl ?_
  intro p e s m below meth c A C
  refine hg_iconst C (v := 0) dX4_firstWrongFigure_0 (by decide) ?_
  refine hg_istore C (lv' := [(4, .int 0), (0, .ref ta), (1, .int a), (2, .ref E.2.2.2.2.1), (3, .ref E.2.2.2.2.2)]) dX4_firstWrongFigure_1 (by decide) rfl ?_
  have e9 : (ftX4_firstWrongFigure tl tx a) = (frtX4_firstWrongFigure_3 tl tx a) (3 + 1) 0 () := hid_eq _
  rw [e9]
  refine hg_sub [1, 2, 3, 4, 0] rfl ?_
  exact lptX4_firstWrongFigure_3 C ta tb tl tx a (3 + 1) 0 () (by omega) (by omega)
theorem mmX4_firstFault_f15 : (Cond.fieldLink RX4 15 "HatRound$Text" "length" "I") ∈ wsX4_firstFault := (List.mem_cons_of_mem _ (List.mem_append_left _ (List.mem_of_getElem? (i := 0) rfl)))
theorem mrX4_firstFault_4 : ∀ w ∈ u_ws RX4 TX4 2, w ∈ wsX4_firstFault := fun _ h => (List.mem_cons_of_mem _ (List.mem_append_right _ h))
abbrev rmX4_firstFault : Room := { frames := 2, cells := 0, slots := 0, locals := 46 }
theorem hfX4_firstFault : hCF yX4_firstFault wsX4_firstFault rmX4_firstFault cX4_firstFault 6 (some .int) 0 := ⟨⟨_, rfl⟩, by decide +kernel, rfl, rfl⟩
noncomputable def frX4_firstFault_21 (tl : Int32) (tx : Nat → Int32) : Nat → Nat → (Int32 × Int32 × Int32 × Int32) → Int32
  | 0, _, σ => 0
  | n + 1, i, σ => hid (if tl ≤ σ.2.2.2 then (-9) else if (fX4_byteAt tl tx σ.2.2.2) = 80 then (if (6 : Int32) ≤ σ.1 then (if (fX4_byteAt tl tx σ.2.2.2) = 84 then (if (4 : Int32) ≤ σ.2.1 then (if σ.2.2.2 = (-9) then (frX4_firstFault_21 tl tx) n (i + 1) (σ.1, σ.2.1, σ.2.2.1, σ.2.2.2 + σ.2.2.1) else σ.2.2.2) else if (ftX4_firstWrongFigure tl tx (σ.2.2.2 + 1)) = (-9) then (frX4_firstFault_21 tl tx) n (i + 1) (σ.1, σ.2.1 + 1, 4, σ.2.2.2 + 4) else ftX4_firstWrongFigure tl tx (σ.2.2.2 + 1)) else if σ.2.2.2 = (-9) then (frX4_firstFault_21 tl tx) n (i + 1) (σ.1, σ.2.1, σ.2.2.1, σ.2.2.2 + σ.2.2.1) else σ.2.2.2) else if (fpX4_firstWrongFigure tl tx (σ.2.2.2 + 1)) = (-9) then (frX4_firstFault_21 tl tx) n (i + 1) (σ.1 + 1, σ.2.1, 7, σ.2.2.2 + 7) else fpX4_firstWrongFigure tl tx (σ.2.2.2 + 1)) else if (fX4_byteAt tl tx σ.2.2.2) = 84 then (if (4 : Int32) ≤ σ.2.1 then (if σ.2.2.2 = (-9) then (frX4_firstFault_21 tl tx) n (i + 1) (σ.1, σ.2.1, σ.2.2.1, σ.2.2.2 + σ.2.2.1) else σ.2.2.2) else if (ftX4_firstWrongFigure tl tx (σ.2.2.2 + 1)) = (-9) then (frX4_firstFault_21 tl tx) n (i + 1) (σ.1, σ.2.1 + 1, 4, σ.2.2.2 + 4) else ftX4_firstWrongFigure tl tx (σ.2.2.2 + 1)) else if σ.2.2.2 = (-9) then (frX4_firstFault_21 tl tx) n (i + 1) (σ.1, σ.2.1, σ.2.2.1, σ.2.2.2 + σ.2.2.1) else σ.2.2.2)
set_option maxHeartbeats 4000000 in
set_option maxRecDepth 100000 in
theorem lpX4_firstFault_21 {p : Program} {l : Launch} {e : Env} {s : State} {m : MethodId} {args : Array Value} {below : List Frame} {meth : Method} {c : Code} {E : hE} {A : Nat → Prop} (C : hX p s m args meth c E A cX4_firstFault 6 RX4 wsX4_firstFault (some .int)) (ta : Nat) (tb : Nat) (tl : Int32) (tx : Nat → Int32) (htl : tl.toNatClampNeg ≤ 64) : ∀ (n i : Nat) (σ : Int32 × Int32 × Int32 × Int32), i + n = 64 + 1 → i ≤ 64 → ffI i σ.2.2.2 → hG p l e rmX4_firstFault s m args below meth c E A 6 (hQ E A below args s (some (.int ((frX4_firstFault_21 tl tx) n i σ))) [(ta, .inr (4, [.ref tb, .int tl])), (tb, .inl (E.2.1.1, 64, .inl tx))]) 0 0 21 [(0, .ref ta), (1, .int σ.1), (2, .int σ.2.1), (3, .int σ.2.2.1), (4, .int σ.2.2.2)] [] [(ta, .inr (4, [.ref tb, .int tl])), (tb, .inl (E.2.1.1, 64, .inl tx))] := by
  intro n
  induction n with
  | zero =>
    intro i σ hi hiN hv
    exact absurd hi (by omega)
  | succ n ih =>
    intro i σ hi hiN hv
    refine hg_iload C dX4_firstFault_21 4 rfl ?_
    refine hg_aload_n C dX4_firstFault_23 rfl 0 rfl ?_
    refine hg_get C (Cn := RX4) (T := TX4) (N := 2) (v := .int tl) mrX4_firstFault_4 0 rfl rfl 1 (by decide) mmX4_firstFault_f15 rfl dX4_firstFault_24 ?_
    refine hg_icmp_ge C (tgt := 132) dX4_firstFault_27 (by decide) (fun c16 => ?_) (fun c16 => ?_)
    · refine hg_bipush C (v := (-9)) dX4_firstFault_132 (by decide) ?_
      have e9 : (frX4_firstFault_21 tl tx) (n + 1) i σ = (-9) := (hid_eq _).trans ((if_pos c16).trans rfl)
      rw [e9]
      exact hg_iret C dX4_firstFault_134 rfl rfl
    · refine hg_iload C dX4_firstFault_30 4 rfl ?_
      refine hg_istore C (lv' := [(5, .int σ.2.2.2), (0, .ref ta), (1, .int σ.1), (2, .int σ.2.1), (3, .int σ.2.2.1), (4, .int σ.2.2.2)]) dX4_firstFault_32 (by decide) rfl ?_
      refine hg_aload_n C dX4_firstFault_34 rfl 1 rfl ?_
      refine hg_iload C dX4_firstFault_35 5 rfl ?_
      refine hg_callV C (ws' := [(ta, .inr (4, [.ref tb, .int tl])), (tb, .inl (E.2.1.1, 64, .inl tx))]) (rest := []) (kX4_byteAt l E ta tb tl tx σ.2.2.2) hfX4_byteAt gX4_firstFault_X4_byteAt ⟨Nat.le_of_ble_eq_true rfl, Nat.le_of_ble_eq_true rfl⟩ ⟨Nat.zero_le _, Nat.zero_le _⟩ [0, 1] rfl (by decide) [ta, tb] rfl rfl rfl 0 rfl rfl rfl rfl (Nat.le_of_ble_eq_true rfl) dX4_firstFault_37 ?_
      refine hg_bipush C (v := 80) dX4_firstFault_40 (by decide) ?_
      refine hg_icmp_ne C (tgt := 76) dX4_firstFault_42 (by decide) (fun c17 => ?_) (fun c17 => ?_)
      · refine hg_aload_n C dX4_firstFault_76 rfl 1 rfl ?_
        refine hg_iload C dX4_firstFault_77 5 rfl ?_
        refine hg_callV C (ws' := [(ta, .inr (4, [.ref tb, .int tl])), (tb, .inl (E.2.1.1, 64, .inl tx))]) (rest := []) (kX4_byteAt l E ta tb tl tx σ.2.2.2) hfX4_byteAt gX4_firstFault_X4_byteAt ⟨Nat.le_of_ble_eq_true rfl, Nat.le_of_ble_eq_true rfl⟩ ⟨Nat.zero_le _, Nat.zero_le _⟩ [0, 1] rfl (by decide) [ta, tb] rfl rfl rfl 0 rfl rfl rfl rfl (Nat.le_of_ble_eq_true rfl) dX4_firstFault_79 ?_
        refine hg_bipush C (v := 84) dX4_firstFault_82 (by decide) ?_
        refine hg_icmp_ne C (tgt := 113) dX4_firstFault_84 (by decide) (fun c18 => ?_) (fun c18 => ?_)
        · refine hg_iload C dX4_firstFault_113 0 rfl ?_
          refine hg_bipush C (v := (-9)) dX4_firstFault_115 (by decide) ?_
          refine hg_icmp_eq C (tgt := 123) dX4_firstFault_117 (by decide) (fun c19 => ?_) (fun c19 => ?_)
          · refine hg_iload C dX4_firstFault_123 5 rfl ?_
            refine hg_iload_n C dX4_firstFault_125 rfl 4 rfl ?_
            refine hg_iadd C dX4_firstFault_126 ?_
            refine hg_istore C (lv' := [(4, .int (σ.2.2.2 + σ.2.2.1)), (5, .int σ.2.2.2), (0, .ref ta), (1, .int σ.1), (2, .int σ.2.1), (3, .int σ.2.2.1)]) dX4_firstFault_127 (by decide) rfl ?_
            refine hg_goto C (tgt := 21) dX4_firstFault_129 (by decide) ?_
            have hlt : i < 64 := (ff_lt hv htl (by assumption))
            have e9 : (frX4_firstFault_21 tl tx) (n + 1) i σ = (frX4_firstFault_21 tl tx) n (i + 1) (σ.1, σ.2.1, σ.2.2.1, σ.2.2.2 + σ.2.2.1) := (hid_eq _).trans ((if_neg c16).trans ((if_neg c17).trans ((if_neg c18).trans ((if_pos c19).trans rfl))))
            rw [e9]
            exact hg_sub [2, 3, 4, 5, 0] rfl (ih (i + 1) (σ.1, σ.2.1, σ.2.2.1, σ.2.2.2 + σ.2.2.1) (by omega) (by omega) (by first | exact ff_7 hv htl (by assumption) | exact ff_4 hv htl (by assumption) | exact ff_abs hv (by assumption)))
          · refine hg_iload C dX4_firstFault_120 0 rfl ?_
            have e9 : (frX4_firstFault_21 tl tx) (n + 1) i σ = σ.2.2.2 := (hid_eq _).trans ((if_neg c16).trans ((if_neg c17).trans ((if_neg c18).trans ((if_neg c19).trans rfl))))
            rw [e9]
            exact hg_iret C dX4_firstFault_122 rfl rfl
        · refine hg_iload_n C dX4_firstFault_87 rfl 3 rfl ?_
          refine hg_iconst C (v := 4) dX4_firstFault_88 (by decide) ?_
          refine hg_icmp_ge C (tgt := 113) dX4_firstFault_89 (by decide) (fun c20 => ?_) (fun c20 => ?_)
          · refine hg_iload C dX4_firstFault_113 0 rfl ?_
            refine hg_bipush C (v := (-9)) dX4_firstFault_115 (by decide) ?_
            refine hg_icmp_eq C (tgt := 123) dX4_firstFault_117 (by decide) (fun c21 => ?_) (fun c21 => ?_)
            · refine hg_iload C dX4_firstFault_123 5 rfl ?_
              refine hg_iload_n C dX4_firstFault_125 rfl 4 rfl ?_
              refine hg_iadd C dX4_firstFault_126 ?_
              refine hg_istore C (lv' := [(4, .int (σ.2.2.2 + σ.2.2.1)), (5, .int σ.2.2.2), (0, .ref ta), (1, .int σ.1), (2, .int σ.2.1), (3, .int σ.2.2.1)]) dX4_firstFault_127 (by decide) rfl ?_
              refine hg_goto C (tgt := 21) dX4_firstFault_129 (by decide) ?_
              have hlt : i < 64 := (ff_lt hv htl (by assumption))
              have e9 : (frX4_firstFault_21 tl tx) (n + 1) i σ = (frX4_firstFault_21 tl tx) n (i + 1) (σ.1, σ.2.1, σ.2.2.1, σ.2.2.2 + σ.2.2.1) := (hid_eq _).trans ((if_neg c16).trans ((if_neg c17).trans ((if_pos c18).trans ((if_pos c20).trans ((if_pos c21).trans rfl)))))
              rw [e9]
              exact hg_sub [2, 3, 4, 5, 0] rfl (ih (i + 1) (σ.1, σ.2.1, σ.2.2.1, σ.2.2.2 + σ.2.2.1) (by omega) (by omega) (by first | exact ff_7 hv htl (by assumption) | exact ff_4 hv htl (by assumption) | exact ff_abs hv (by assumption)))
            · refine hg_iload C dX4_firstFault_120 0 rfl ?_
              have e9 : (frX4_firstFault_21 tl tx) (n + 1) i σ = σ.2.2.2 := (hid_eq _).trans ((if_neg c16).trans ((if_neg c17).trans ((if_pos c18).trans ((if_pos c20).trans ((if_neg c21).trans rfl)))))
              rw [e9]
              exact hg_iret C dX4_firstFault_122 rfl rfl
          · refine hg_iinc C (v := σ.2.1 + 1) (lv' := [(2, .int (σ.2.1 + 1)), (5, .int σ.2.2.2), (0, .ref ta), (1, .int σ.1), (3, .int σ.2.2.1), (4, .int σ.2.2.2)]) dX4_firstFault_92 3 rfl rfl (by decide) rfl ?_
            refine hg_aload_n C dX4_firstFault_95 rfl 2 rfl ?_
            refine hg_iload C dX4_firstFault_96 5 rfl ?_
            refine hg_iconst C (v := 1) dX4_firstFault_98 (by decide) ?_
            refine hg_iadd C dX4_firstFault_99 ?_
            refine hg_getsN C (host := RX5) C.2.2.2.2.2.2.2.1.1.2.2.1 (by decide +kernel) dX4_firstFault_100 ?_
            refine hg_getsN C (host := RX5) C.2.2.2.2.2.2.2.1.1.2.2.2 (by decide +kernel) dX4_firstFault_103 ?_
            refine hg_callV C (ws' := [(ta, .inr (4, [.ref tb, .int tl])), (tb, .inl (E.2.1.1, 64, .inl tx))]) (rest := []) (ktX4_firstWrongFigure l E ta tb tl tx (σ.2.2.2 + 1)) hfX4_firstWrongFigure gX4_firstFault_X4_firstWrongFigure ⟨Nat.le_of_ble_eq_true rfl, Nat.le_of_ble_eq_true rfl⟩ ⟨Nat.zero_le _, Nat.zero_le _⟩ [0, 1] rfl (by decide) [ta, tb] rfl rfl rfl 0 rfl rfl rfl rfl (Nat.le_of_ble_eq_true rfl) dX4_firstFault_106 ?_
            refine hg_istore C (lv' := [(5, .int (ftX4_firstWrongFigure tl tx (σ.2.2.2 + 1))), (2, .int (σ.2.1 + 1)), (0, .ref ta), (1, .int σ.1), (3, .int σ.2.2.1), (4, .int σ.2.2.2)]) dX4_firstFault_109 (by decide) rfl ?_
            refine hg_iconst C (v := 4) dX4_firstFault_111 (by decide) ?_
            refine hg_istore_n C (lv' := [(3, .int 4), (5, .int (ftX4_firstWrongFigure tl tx (σ.2.2.2 + 1))), (2, .int (σ.2.1 + 1)), (0, .ref ta), (1, .int σ.1), (4, .int σ.2.2.2)]) dX4_firstFault_112 rfl (by decide) rfl ?_
            refine hg_iload C dX4_firstFault_113 1 rfl ?_
            refine hg_bipush C (v := (-9)) dX4_firstFault_115 (by decide) ?_
            refine hg_icmp_eq C (tgt := 123) dX4_firstFault_117 (by decide) (fun c22 => ?_) (fun c22 => ?_)
            · refine hg_iload C dX4_firstFault_123 5 rfl ?_
              refine hg_iload_n C dX4_firstFault_125 rfl 0 rfl ?_
              refine hg_iadd C dX4_firstFault_126 ?_
              refine hg_istore C (lv' := [(4, .int (σ.2.2.2 + 4)), (3, .int 4), (5, .int (ftX4_firstWrongFigure tl tx (σ.2.2.2 + 1))), (2, .int (σ.2.1 + 1)), (0, .ref ta), (1, .int σ.1)]) dX4_firstFault_127 (by decide) rfl ?_
              refine hg_goto C (tgt := 21) dX4_firstFault_129 (by decide) ?_
              have hlt : i < 64 := (ff_lt hv htl (by assumption))
              have e9 : (frX4_firstFault_21 tl tx) (n + 1) i σ = (frX4_firstFault_21 tl tx) n (i + 1) (σ.1, σ.2.1 + 1, 4, σ.2.2.2 + 4) := (hid_eq _).trans ((if_neg c16).trans ((if_neg c17).trans ((if_pos c18).trans ((if_neg c20).trans ((if_pos c22).trans rfl)))))
              rw [e9]
              exact hg_sub [4, 5, 3, 1, 0] rfl (ih (i + 1) (σ.1, σ.2.1 + 1, 4, σ.2.2.2 + 4) (by omega) (by omega) (by first | exact ff_7 hv htl (by assumption) | exact ff_4 hv htl (by assumption) | exact ff_abs hv (by assumption)))
            · refine hg_iload C dX4_firstFault_120 1 rfl ?_
              have e9 : (frX4_firstFault_21 tl tx) (n + 1) i σ = ftX4_firstWrongFigure tl tx (σ.2.2.2 + 1) := (hid_eq _).trans ((if_neg c16).trans ((if_neg c17).trans ((if_pos c18).trans ((if_neg c20).trans ((if_neg c22).trans rfl)))))
              rw [e9]
              exact hg_iret C dX4_firstFault_122 rfl rfl
      · refine hg_iload_n C dX4_firstFault_45 rfl 2 rfl ?_
        refine hg_bipush C (v := 6) dX4_firstFault_46 (by decide) ?_
        refine hg_icmp_ge C (tgt := 76) dX4_firstFault_48 (by decide) (fun c23 => ?_) (fun c23 => ?_)
        · refine hg_aload_n C dX4_firstFault_76 rfl 1 rfl ?_
          refine hg_iload C dX4_firstFault_77 5 rfl ?_
          refine hg_callV C (ws' := [(ta, .inr (4, [.ref tb, .int tl])), (tb, .inl (E.2.1.1, 64, .inl tx))]) (rest := []) (kX4_byteAt l E ta tb tl tx σ.2.2.2) hfX4_byteAt gX4_firstFault_X4_byteAt ⟨Nat.le_of_ble_eq_true rfl, Nat.le_of_ble_eq_true rfl⟩ ⟨Nat.zero_le _, Nat.zero_le _⟩ [0, 1] rfl (by decide) [ta, tb] rfl rfl rfl 0 rfl rfl rfl rfl (Nat.le_of_ble_eq_true rfl) dX4_firstFault_79 ?_
          refine hg_bipush C (v := 84) dX4_firstFault_82 (by decide) ?_
          refine hg_icmp_ne C (tgt := 113) dX4_firstFault_84 (by decide) (fun c24 => ?_) (fun c24 => ?_)
          · refine hg_iload C dX4_firstFault_113 0 rfl ?_
            refine hg_bipush C (v := (-9)) dX4_firstFault_115 (by decide) ?_
            refine hg_icmp_eq C (tgt := 123) dX4_firstFault_117 (by decide) (fun c25 => ?_) (fun c25 => ?_)
            · refine hg_iload C dX4_firstFault_123 5 rfl ?_
              refine hg_iload_n C dX4_firstFault_125 rfl 4 rfl ?_
              refine hg_iadd C dX4_firstFault_126 ?_
              refine hg_istore C (lv' := [(4, .int (σ.2.2.2 + σ.2.2.1)), (5, .int σ.2.2.2), (0, .ref ta), (1, .int σ.1), (2, .int σ.2.1), (3, .int σ.2.2.1)]) dX4_firstFault_127 (by decide) rfl ?_
              refine hg_goto C (tgt := 21) dX4_firstFault_129 (by decide) ?_
              have hlt : i < 64 := (ff_lt hv htl (by assumption))
              have e9 : (frX4_firstFault_21 tl tx) (n + 1) i σ = (frX4_firstFault_21 tl tx) n (i + 1) (σ.1, σ.2.1, σ.2.2.1, σ.2.2.2 + σ.2.2.1) := (hid_eq _).trans ((if_neg c16).trans ((if_pos c17).trans ((if_pos c23).trans ((if_neg c24).trans ((if_pos c25).trans rfl)))))
              rw [e9]
              exact hg_sub [2, 3, 4, 5, 0] rfl (ih (i + 1) (σ.1, σ.2.1, σ.2.2.1, σ.2.2.2 + σ.2.2.1) (by omega) (by omega) (by first | exact ff_7 hv htl (by assumption) | exact ff_4 hv htl (by assumption) | exact ff_abs hv (by assumption)))
            · refine hg_iload C dX4_firstFault_120 0 rfl ?_
              have e9 : (frX4_firstFault_21 tl tx) (n + 1) i σ = σ.2.2.2 := (hid_eq _).trans ((if_neg c16).trans ((if_pos c17).trans ((if_pos c23).trans ((if_neg c24).trans ((if_neg c25).trans rfl)))))
              rw [e9]
              exact hg_iret C dX4_firstFault_122 rfl rfl
          · refine hg_iload_n C dX4_firstFault_87 rfl 3 rfl ?_
            refine hg_iconst C (v := 4) dX4_firstFault_88 (by decide) ?_
            refine hg_icmp_ge C (tgt := 113) dX4_firstFault_89 (by decide) (fun c26 => ?_) (fun c26 => ?_)
            · refine hg_iload C dX4_firstFault_113 0 rfl ?_
              refine hg_bipush C (v := (-9)) dX4_firstFault_115 (by decide) ?_
              refine hg_icmp_eq C (tgt := 123) dX4_firstFault_117 (by decide) (fun c27 => ?_) (fun c27 => ?_)
              · refine hg_iload C dX4_firstFault_123 5 rfl ?_
                refine hg_iload_n C dX4_firstFault_125 rfl 4 rfl ?_
                refine hg_iadd C dX4_firstFault_126 ?_
                refine hg_istore C (lv' := [(4, .int (σ.2.2.2 + σ.2.2.1)), (5, .int σ.2.2.2), (0, .ref ta), (1, .int σ.1), (2, .int σ.2.1), (3, .int σ.2.2.1)]) dX4_firstFault_127 (by decide) rfl ?_
                refine hg_goto C (tgt := 21) dX4_firstFault_129 (by decide) ?_
                have hlt : i < 64 := (ff_lt hv htl (by assumption))
                have e9 : (frX4_firstFault_21 tl tx) (n + 1) i σ = (frX4_firstFault_21 tl tx) n (i + 1) (σ.1, σ.2.1, σ.2.2.1, σ.2.2.2 + σ.2.2.1) := (hid_eq _).trans ((if_neg c16).trans ((if_pos c17).trans ((if_pos c23).trans ((if_pos c24).trans ((if_pos c26).trans ((if_pos c27).trans rfl))))))
                rw [e9]
                exact hg_sub [2, 3, 4, 5, 0] rfl (ih (i + 1) (σ.1, σ.2.1, σ.2.2.1, σ.2.2.2 + σ.2.2.1) (by omega) (by omega) (by first | exact ff_7 hv htl (by assumption) | exact ff_4 hv htl (by assumption) | exact ff_abs hv (by assumption)))
              · refine hg_iload C dX4_firstFault_120 0 rfl ?_
                have e9 : (frX4_firstFault_21 tl tx) (n + 1) i σ = σ.2.2.2 := (hid_eq _).trans ((if_neg c16).trans ((if_pos c17).trans ((if_pos c23).trans ((if_pos c24).trans ((if_pos c26).trans ((if_neg c27).trans rfl))))))
                rw [e9]
                exact hg_iret C dX4_firstFault_122 rfl rfl
            · refine hg_iinc C (v := σ.2.1 + 1) (lv' := [(2, .int (σ.2.1 + 1)), (5, .int σ.2.2.2), (0, .ref ta), (1, .int σ.1), (3, .int σ.2.2.1), (4, .int σ.2.2.2)]) dX4_firstFault_92 3 rfl rfl (by decide) rfl ?_
              refine hg_aload_n C dX4_firstFault_95 rfl 2 rfl ?_
              refine hg_iload C dX4_firstFault_96 5 rfl ?_
              refine hg_iconst C (v := 1) dX4_firstFault_98 (by decide) ?_
              refine hg_iadd C dX4_firstFault_99 ?_
              refine hg_getsN C (host := RX5) C.2.2.2.2.2.2.2.1.1.2.2.1 (by decide +kernel) dX4_firstFault_100 ?_
              refine hg_getsN C (host := RX5) C.2.2.2.2.2.2.2.1.1.2.2.2 (by decide +kernel) dX4_firstFault_103 ?_
              refine hg_callV C (ws' := [(ta, .inr (4, [.ref tb, .int tl])), (tb, .inl (E.2.1.1, 64, .inl tx))]) (rest := []) (ktX4_firstWrongFigure l E ta tb tl tx (σ.2.2.2 + 1)) hfX4_firstWrongFigure gX4_firstFault_X4_firstWrongFigure ⟨Nat.le_of_ble_eq_true rfl, Nat.le_of_ble_eq_true rfl⟩ ⟨Nat.zero_le _, Nat.zero_le _⟩ [0, 1] rfl (by decide) [ta, tb] rfl rfl rfl 0 rfl rfl rfl rfl (Nat.le_of_ble_eq_true rfl) dX4_firstFault_106 ?_
              refine hg_istore C (lv' := [(5, .int (ftX4_firstWrongFigure tl tx (σ.2.2.2 + 1))), (2, .int (σ.2.1 + 1)), (0, .ref ta), (1, .int σ.1), (3, .int σ.2.2.1), (4, .int σ.2.2.2)]) dX4_firstFault_109 (by decide) rfl ?_
              refine hg_iconst C (v := 4) dX4_firstFault_111 (by decide) ?_
              refine hg_istore_n C (lv' := [(3, .int 4), (5, .int (ftX4_firstWrongFigure tl tx (σ.2.2.2 + 1))), (2, .int (σ.2.1 + 1)), (0, .ref ta), (1, .int σ.1), (4, .int σ.2.2.2)]) dX4_firstFault_112 rfl (by decide) rfl ?_
              refine hg_iload C dX4_firstFault_113 1 rfl ?_
              refine hg_bipush C (v := (-9)) dX4_firstFault_115 (by decide) ?_
              refine hg_icmp_eq C (tgt := 123) dX4_firstFault_117 (by decide) (fun c28 => ?_) (fun c28 => ?_)
              · refine hg_iload C dX4_firstFault_123 5 rfl ?_
                refine hg_iload_n C dX4_firstFault_125 rfl 0 rfl ?_
                refine hg_iadd C dX4_firstFault_126 ?_
                refine hg_istore C (lv' := [(4, .int (σ.2.2.2 + 4)), (3, .int 4), (5, .int (ftX4_firstWrongFigure tl tx (σ.2.2.2 + 1))), (2, .int (σ.2.1 + 1)), (0, .ref ta), (1, .int σ.1)]) dX4_firstFault_127 (by decide) rfl ?_
                refine hg_goto C (tgt := 21) dX4_firstFault_129 (by decide) ?_
                have hlt : i < 64 := (ff_lt hv htl (by assumption))
                have e9 : (frX4_firstFault_21 tl tx) (n + 1) i σ = (frX4_firstFault_21 tl tx) n (i + 1) (σ.1, σ.2.1 + 1, 4, σ.2.2.2 + 4) := (hid_eq _).trans ((if_neg c16).trans ((if_pos c17).trans ((if_pos c23).trans ((if_pos c24).trans ((if_neg c26).trans ((if_pos c28).trans rfl))))))
                rw [e9]
                exact hg_sub [4, 5, 3, 1, 0] rfl (ih (i + 1) (σ.1, σ.2.1 + 1, 4, σ.2.2.2 + 4) (by omega) (by omega) (by first | exact ff_7 hv htl (by assumption) | exact ff_4 hv htl (by assumption) | exact ff_abs hv (by assumption)))
              · refine hg_iload C dX4_firstFault_120 1 rfl ?_
                have e9 : (frX4_firstFault_21 tl tx) (n + 1) i σ = ftX4_firstWrongFigure tl tx (σ.2.2.2 + 1) := (hid_eq _).trans ((if_neg c16).trans ((if_pos c17).trans ((if_pos c23).trans ((if_pos c24).trans ((if_neg c26).trans ((if_neg c28).trans rfl))))))
                rw [e9]
                exact hg_iret C dX4_firstFault_122 rfl rfl
        · refine hg_iinc C (v := σ.1 + 1) (lv' := [(1, .int (σ.1 + 1)), (5, .int σ.2.2.2), (0, .ref ta), (2, .int σ.2.1), (3, .int σ.2.2.1), (4, .int σ.2.2.2)]) dX4_firstFault_51 2 rfl rfl (by decide) rfl ?_
          refine hg_aload_n C dX4_firstFault_54 rfl 2 rfl ?_
          refine hg_iload C dX4_firstFault_55 5 rfl ?_
          refine hg_iconst C (v := 1) dX4_firstFault_57 (by decide) ?_
          refine hg_iadd C dX4_firstFault_58 ?_
          refine hg_getsN C (host := RX5) C.2.2.2.2.2.2.2.1.1.1 (by decide +kernel) dX4_firstFault_59 ?_
          refine hg_getsN C (host := RX5) C.2.2.2.2.2.2.2.1.1.2.1 (by decide +kernel) dX4_firstFault_62 ?_
          refine hg_callV C (ws' := [(ta, .inr (4, [.ref tb, .int tl])), (tb, .inl (E.2.1.1, 64, .inl tx))]) (rest := []) (kpX4_firstWrongFigure l E ta tb tl tx (σ.2.2.2 + 1)) hfX4_firstWrongFigure gX4_firstFault_X4_firstWrongFigure ⟨Nat.le_of_ble_eq_true rfl, Nat.le_of_ble_eq_true rfl⟩ ⟨Nat.zero_le _, Nat.zero_le _⟩ [0, 1] rfl (by decide) [ta, tb] rfl rfl rfl 0 rfl rfl rfl rfl (Nat.le_of_ble_eq_true rfl) dX4_firstFault_65 ?_
          refine hg_istore C (lv' := [(5, .int (fpX4_firstWrongFigure tl tx (σ.2.2.2 + 1))), (1, .int (σ.1 + 1)), (0, .ref ta), (2, .int σ.2.1), (3, .int σ.2.2.1), (4, .int σ.2.2.2)]) dX4_firstFault_68 (by decide) rfl ?_
          refine hg_bipush C (v := 7) dX4_firstFault_70 (by decide) ?_
          refine hg_istore_n C (lv' := [(3, .int 7), (5, .int (fpX4_firstWrongFigure tl tx (σ.2.2.2 + 1))), (1, .int (σ.1 + 1)), (0, .ref ta), (2, .int σ.2.1), (4, .int σ.2.2.2)]) dX4_firstFault_72 rfl (by decide) rfl ?_
          refine hg_goto C (tgt := 113) dX4_firstFault_73 (by decide) ?_
          refine hg_iload C dX4_firstFault_113 1 rfl ?_
          refine hg_bipush C (v := (-9)) dX4_firstFault_115 (by decide) ?_
          refine hg_icmp_eq C (tgt := 123) dX4_firstFault_117 (by decide) (fun c29 => ?_) (fun c29 => ?_)
          · refine hg_iload C dX4_firstFault_123 5 rfl ?_
            refine hg_iload_n C dX4_firstFault_125 rfl 0 rfl ?_
            refine hg_iadd C dX4_firstFault_126 ?_
            refine hg_istore C (lv' := [(4, .int (σ.2.2.2 + 7)), (3, .int 7), (5, .int (fpX4_firstWrongFigure tl tx (σ.2.2.2 + 1))), (1, .int (σ.1 + 1)), (0, .ref ta), (2, .int σ.2.1)]) dX4_firstFault_127 (by decide) rfl ?_
            refine hg_goto C (tgt := 21) dX4_firstFault_129 (by decide) ?_
            have hlt : i < 64 := (ff_lt hv htl (by assumption))
            have e9 : (frX4_firstFault_21 tl tx) (n + 1) i σ = (frX4_firstFault_21 tl tx) n (i + 1) (σ.1 + 1, σ.2.1, 7, σ.2.2.2 + 7) := (hid_eq _).trans ((if_neg c16).trans ((if_pos c17).trans ((if_neg c23).trans ((if_pos c29).trans rfl))))
            rw [e9]
            exact hg_sub [4, 3, 5, 1, 0] rfl (ih (i + 1) (σ.1 + 1, σ.2.1, 7, σ.2.2.2 + 7) (by omega) (by omega) (by first | exact ff_7 hv htl (by assumption) | exact ff_4 hv htl (by assumption) | exact ff_abs hv (by assumption)))
          · refine hg_iload C dX4_firstFault_120 1 rfl ?_
            have e9 : (frX4_firstFault_21 tl tx) (n + 1) i σ = fpX4_firstWrongFigure tl tx (σ.2.2.2 + 1) := (hid_eq _).trans ((if_neg c16).trans ((if_pos c17).trans ((if_neg c23).trans ((if_neg c29).trans rfl))))
            rw [e9]
            exact hg_iret C dX4_firstFault_122 rfl rfl
noncomputable def fX4_firstFault (tl : Int32) (tx : Nat → Int32) : Int32 := hid (if (fX4_byteAt tl tx 0) = 72 then (frX4_firstFault_21 tl tx) (64 + 1) 0 (0, 0, 0, 1) else 0)
set_option maxHeartbeats 4000000 in
set_option maxRecDepth 100000 in
theorem kX4_firstFault (l : Launch) (E : hE) (ta : Nat) (tb : Nat) (tl : Int32) (tx : Nat → Int32) (htl : tl.toNatClampNeg ≤ 64) : hC l yX4_firstFault wsX4_firstFault rmX4_firstFault E [.ref ta] [(ta, .inr (4, [.ref tb, .int tl])), (tb, .inl (E.2.1.1, 64, .inl tx))] (some (.int (fX4_firstFault tl tx))) [(ta, .inr (4, [.ref tb, .int tl])), (tb, .inl (E.2.1.1, 64, .inl tx))] := by
  refine hC_intro (cc := cX4_firstFault) (maxL := 6) (ret := (some .int)) (lv0 := [(0, .ref ta)]) (by decide) rfl (Nat.le_of_ble_eq_true rfl) rfl ?_
  intro p e s m below meth c A C
  refine hg_aload_n C dX4_firstFault_0 rfl 0 rfl ?_
  refine hg_iconst C (v := 0) dX4_firstFault_1 (by decide) ?_
  refine hg_callV C (ws' := [(ta, .inr (4, [.ref tb, .int tl])), (tb, .inl (E.2.1.1, 64, .inl tx))]) (rest := []) (kX4_byteAt l E ta tb tl tx 0) hfX4_byteAt gX4_firstFault_X4_byteAt ⟨Nat.le_of_ble_eq_true rfl, Nat.le_of_ble_eq_true rfl⟩ ⟨Nat.zero_le _, Nat.zero_le _⟩ [0, 1] rfl (by decide) [ta, tb] rfl rfl rfl 0 rfl rfl rfl rfl (Nat.le_of_ble_eq_true rfl) dX4_firstFault_2 ?_
  refine hg_bipush C (v := 72) dX4_firstFault_5 (by decide) ?_
  refine hg_icmp_eq C (tgt := 12) dX4_firstFault_7 (by decide) (fun c1 => ?_) (fun c1 => ?_)
  · refine hg_iconst C (v := 0) dX4_firstFault_12 (by decide) ?_
    refine hg_istore_n C (lv' := [(1, .int 0), (0, .ref ta)]) dX4_firstFault_13 rfl (by decide) rfl ?_
    refine hg_iconst C (v := 0) dX4_firstFault_14 (by decide) ?_
    refine hg_istore_n C (lv' := [(2, .int 0), (1, .int 0), (0, .ref ta)]) dX4_firstFault_15 rfl (by decide) rfl ?_
    refine hg_iconst C (v := 0) dX4_firstFault_16 (by decide) ?_
    refine hg_istore_n C (lv' := [(3, .int 0), (2, .int 0), (1, .int 0), (0, .ref ta)]) dX4_firstFault_17 rfl (by decide) rfl ?_
    refine hg_iconst C (v := 1) dX4_firstFault_18 (by decide) ?_
    refine hg_istore C (lv' := [(4, .int 1), (3, .int 0), (2, .int 0), (1, .int 0), (0, .ref ta)]) dX4_firstFault_19 (by decide) rfl ?_
    have e9 : (fX4_firstFault tl tx) = (frX4_firstFault_21 tl tx) (64 + 1) 0 (0, 0, 0, 1) := (hid_eq _).trans ((if_pos c1).trans rfl)
    rw [e9]
    refine hg_sub [4, 3, 2, 1, 0] rfl ?_
    exact lpX4_firstFault_21 C ta tb tl tx htl (64 + 1) 0 (0, 0, 0, 1) (by omega) (by omega) ⟨1, rfl, by decide, by decide⟩
  · refine hg_iconst C (v := 0) dX4_firstFault_10 (by decide) ?_
    have e9 : (fX4_firstFault tl tx) = 0 := (hid_eq _).trans ((if_neg c1).trans rfl)
    rw [e9]
    exact hg_iret C dX4_firstFault_11 rfl rfl
abbrev rmX2_copyFigures : Room := { frames := 1, cells := 0, slots := 0, locals := 21 }
theorem hfX2_copyFigures : hCF yX2_copyFigures wsX2_copyFigures rmX2_copyFigures cX2_copyFigures 6 none 5 := ⟨⟨_, rfl⟩, by decide +kernel, rfl, rfl⟩
noncomputable def frpX2_copyFigures_3 (tl : Int32) (tx : Nat → Int32) (a : Int32) (q : Int32) : Nat → Nat → (Nat → Int32) → (Nat → Int32)
  | 0, _, σ => σ
  | n + 1, i, σ => hid (if (6 : Int32) ≤ (nI i) then σ else if (36 : Int32) ≤ (q + (nI i)) then σ else (frpX2_copyFigures_3 tl tx a q) n (i + 1) (upd σ (q + (nI i)).toNatClampNeg ((fX4_byteAt tl tx (a + (nI i))) - 48)))
set_option maxHeartbeats 4000000 in
set_option maxRecDepth 100000 in
theorem lppX2_copyFigures_3 {p : Program} {l : Launch} {e : Env} {s : State} {m : MethodId} {args : Array Value} {below : List Frame} {meth : Method} {c : Code} {E : hE} {A : Nat → Prop} (C : hX p s m args meth c E A cX2_copyFigures 6 RX2 wsX2_copyFigures none) (ta : Nat) (tb : Nat) (tl : Int32) (tx : Nat → Int32) (fb : Nat) (pf : Nat → Int32) (a : Int32) (q : Int32) (hq : vp_in q 1000) : ∀ (n i : Nat) (σ : (Nat → Int32)), i + n = 6 + 1 → i ≤ 6 → hG p l e rmX2_copyFigures s m args below meth c E A 6 (hQ E A below args s none [(ta, .inr (4, [.ref tb, .int tl])), (tb, .inl (E.2.1.1, 64, .inl tx)), (fb, .inl (E.2.1.1, 36, .inl ((frpX2_copyFigures_3 tl tx a q) n i σ)))]) 0 0 3 [(0, .ref ta), (1, .int a), (2, .ref fb), (3, .int q), (4, .int 6), (5, .int (nI i))] [] [(ta, .inr (4, [.ref tb, .int tl])), (tb, .inl (E.2.1.1, 64, .inl tx)), (fb, .inl (E.2.1.1, 36, .inl σ))] := by
  intro n
  induction n with
  | zero =>
    intro i σ hi hiN
    exact absurd hi (by omega)
  | succ n ih =>
    intro i σ hi hiN
    refine hg_iload C dX2_copyFigures_3 5 rfl ?_
    refine hg_iload C dX2_copyFigures_5 4 rfl ?_
    refine hg_icmp_ge C (tgt := 42) dX2_copyFigures_7 (by decide) (fun c3 => ?_) (fun c3 => ?_)
    · have e9 : (frpX2_copyFigures_3 tl tx a q) (n + 1) i σ = σ := (hid_eq _).trans ((if_pos c3).trans rfl)
      rw [e9]
      exact hg_vret C dX2_copyFigures_42 rfl rfl
    · refine hg_iload_n C dX2_copyFigures_10 rfl 3 rfl ?_
      refine hg_iload C dX2_copyFigures_11 5 rfl ?_
      refine hg_iadd C dX2_copyFigures_13 ?_
      refine hg_aload_n C dX2_copyFigures_14 rfl 2 rfl ?_
      refine hg_alen C (v := 36) 2 rfl rfl dX2_copyFigures_15 ?_
      refine hg_icmp_ge C (tgt := 42) dX2_copyFigures_16 (by decide) (fun c4 => ?_) (fun c4 => ?_)
      · have e9 : (frpX2_copyFigures_3 tl tx a q) (n + 1) i σ = σ := (hid_eq _).trans ((if_neg c3).trans ((if_pos c4).trans rfl))
        rw [e9]
        exact hg_vret C dX2_copyFigures_42 rfl rfl
      · refine hg_aload_n C dX2_copyFigures_19 rfl 2 rfl ?_
        refine hg_iload_n C dX2_copyFigures_20 rfl 3 rfl ?_
        refine hg_iload C dX2_copyFigures_21 5 rfl ?_
        refine hg_iadd C dX2_copyFigures_23 ?_
        refine hg_aload_n C dX2_copyFigures_24 rfl 0 rfl ?_
        refine hg_iload_n C dX2_copyFigures_25 rfl 1 rfl ?_
        refine hg_iload C dX2_copyFigures_26 5 rfl ?_
        refine hg_iadd C dX2_copyFigures_28 ?_
        refine hg_callV C (ws' := [(ta, .inr (4, [.ref tb, .int tl])), (tb, .inl (E.2.1.1, 64, .inl tx)), (fb, .inl (E.2.1.1, 36, .inl σ))]) (rest := [.int (q + (nI i)), .ref fb]) (kX4_byteAt l E ta tb tl tx (a + (nI i))) hfX4_byteAt gX2_copyFigures_X4_byteAt ⟨Nat.le_of_ble_eq_true rfl, Nat.le_of_ble_eq_true rfl⟩ ⟨Nat.zero_le _, Nat.zero_le _⟩ [0, 1] rfl (by decide) [ta, tb] rfl rfl rfl 0 rfl rfl rfl rfl (Nat.le_of_ble_eq_true rfl) dX2_copyFigures_29 ?_
        refine hg_bipush C (v := 48) dX2_copyFigures_32 (by decide) ?_
        refine hg_isub C dX2_copyFigures_34 ?_
        refine hg_iast C (ws' := [(ta, .inr (4, [.ref tb, .int tl])), (tb, .inl (E.2.1.1, 64, .inl tx)), (fb, .inl (E.2.1.1, 36, .inl (upd σ (q + (nI i)).toNatClampNeg ((fX4_byteAt tl tx (a + (nI i))) - 48))))]) 2 rfl (cf_in hq (by omega) (by decide) (by assumption)) rfl dX2_copyFigures_35 ?_
        refine hg_iinc C (v := nI (i + 1)) (lv' := [(5, .int (nI (i + 1))), (0, .ref ta), (1, .int a), (2, .ref fb), (3, .int q), (4, .int 6)]) dX2_copyFigures_36 5 rfl (nI_inc _) (by decide) rfl ?_
        refine hg_goto C (tgt := 3) dX2_copyFigures_39 (by decide) ?_
        have hlt : i < 6 := (lt_nI (by omega) (by assumption))
        have e9 : (frpX2_copyFigures_3 tl tx a q) (n + 1) i σ = (frpX2_copyFigures_3 tl tx a q) n (i + 1) (upd σ (q + (nI i)).toNatClampNeg ((fX4_byteAt tl tx (a + (nI i))) - 48)) := (hid_eq _).trans ((if_neg c3).trans ((if_neg c4).trans rfl))
        rw [e9]
        exact hg_sub [1, 2, 3, 4, 5, 0] rfl (ih (i + 1) (upd σ (q + (nI i)).toNatClampNeg ((fX4_byteAt tl tx (a + (nI i))) - 48)) (by omega) (by omega))
noncomputable def fpX2_copyFigures (tl : Int32) (tx : Nat → Int32) (pf : Nat → Int32) (a : Int32) (q : Int32) : (Nat → Int32) := hid ((frpX2_copyFigures_3 tl tx a q) (6 + 1) 0 pf)
set_option maxHeartbeats 4000000 in
set_option maxRecDepth 100000 in
theorem kpX2_copyFigures (l : Launch) (E : hE) (ta : Nat) (tb : Nat) (tl : Int32) (tx : Nat → Int32) (fb : Nat) (pf : Nat → Int32) (a : Int32) (q : Int32) (hq : vp_in q 1000) : hC l yX2_copyFigures wsX2_copyFigures rmX2_copyFigures E [.ref ta, .int a, .ref fb, .int q, .int 6] [(ta, .inr (4, [.ref tb, .int tl])), (tb, .inl (E.2.1.1, 64, .inl tx)), (fb, .inl (E.2.1.1, 36, .inl pf))] none [(ta, .inr (4, [.ref tb, .int tl])), (tb, .inl (E.2.1.1, 64, .inl tx)), (fb, .inl (E.2.1.1, 36, .inl (fpX2_copyFigures tl tx pf a q)))] := by
  refine hC_intro (cc := cX2_copyFigures) (maxL := 6) (ret := none) (lv0 := [(0, .ref ta), (1, .int a), (2, .ref fb), (3, .int q), (4, .int 6)]) (by decide) rfl (Nat.le_of_ble_eq_true rfl) rfl ?_
  intro p e s m below meth c A C
  refine hg_iconst C (v := 0) dX2_copyFigures_0 (by decide) ?_
  refine hg_istore C (lv' := [(5, .int 0), (0, .ref ta), (1, .int a), (2, .ref fb), (3, .int q), (4, .int 6)]) dX2_copyFigures_1 (by decide) rfl ?_
  have e9 : (fpX2_copyFigures tl tx pf a q) = (frpX2_copyFigures_3 tl tx a q) (6 + 1) 0 pf := hid_eq _
  rw [e9]
  refine hg_sub [1, 2, 3, 4, 5, 0] rfl ?_
  exact lppX2_copyFigures_3 C ta tb tl tx fb pf a q hq (6 + 1) 0 pf (by omega) (by omega)
noncomputable def frtX2_copyFigures_3 (tl : Int32) (tx : Nat → Int32) (a : Int32) (q : Int32) : Nat → Nat → (Nat → Int32) → (Nat → Int32)
  | 0, _, σ => σ
  | n + 1, i, σ => hid (if (3 : Int32) ≤ (nI i) then σ else if (12 : Int32) ≤ (q + (nI i)) then σ else (frtX2_copyFigures_3 tl tx a q) n (i + 1) (upd σ (q + (nI i)).toNatClampNeg ((fX4_byteAt tl tx (a + (nI i))) - 48)))
set_option maxHeartbeats 4000000 in
set_option maxRecDepth 100000 in
theorem lptX2_copyFigures_3 {p : Program} {l : Launch} {e : Env} {s : State} {m : MethodId} {args : Array Value} {below : List Frame} {meth : Method} {c : Code} {E : hE} {A : Nat → Prop} (C : hX p s m args meth c E A cX2_copyFigures 6 RX2 wsX2_copyFigures none) (ta : Nat) (tb : Nat) (tl : Int32) (tx : Nat → Int32) (fc : Nat) (tf : Nat → Int32) (a : Int32) (q : Int32) (hq : vp_in q 1000) : ∀ (n i : Nat) (σ : (Nat → Int32)), i + n = 3 + 1 → i ≤ 3 → hG p l e rmX2_copyFigures s m args below meth c E A 6 (hQ E A below args s none [(ta, .inr (4, [.ref tb, .int tl])), (tb, .inl (E.2.1.1, 64, .inl tx)), (fc, .inl (E.2.1.1, 12, .inl ((frtX2_copyFigures_3 tl tx a q) n i σ)))]) 0 0 3 [(0, .ref ta), (1, .int a), (2, .ref fc), (3, .int q), (4, .int 3), (5, .int (nI i))] [] [(ta, .inr (4, [.ref tb, .int tl])), (tb, .inl (E.2.1.1, 64, .inl tx)), (fc, .inl (E.2.1.1, 12, .inl σ))] := by
  intro n
  induction n with
  | zero =>
    intro i σ hi hiN
    exact absurd hi (by omega)
  | succ n ih =>
    intro i σ hi hiN
    refine hg_iload C dX2_copyFigures_3 5 rfl ?_
    refine hg_iload C dX2_copyFigures_5 4 rfl ?_
    refine hg_icmp_ge C (tgt := 42) dX2_copyFigures_7 (by decide) (fun c3 => ?_) (fun c3 => ?_)
    · have e9 : (frtX2_copyFigures_3 tl tx a q) (n + 1) i σ = σ := (hid_eq _).trans ((if_pos c3).trans rfl)
      rw [e9]
      exact hg_vret C dX2_copyFigures_42 rfl rfl
    · refine hg_iload_n C dX2_copyFigures_10 rfl 3 rfl ?_
      refine hg_iload C dX2_copyFigures_11 5 rfl ?_
      refine hg_iadd C dX2_copyFigures_13 ?_
      refine hg_aload_n C dX2_copyFigures_14 rfl 2 rfl ?_
      refine hg_alen C (v := 12) 2 rfl rfl dX2_copyFigures_15 ?_
      refine hg_icmp_ge C (tgt := 42) dX2_copyFigures_16 (by decide) (fun c4 => ?_) (fun c4 => ?_)
      · have e9 : (frtX2_copyFigures_3 tl tx a q) (n + 1) i σ = σ := (hid_eq _).trans ((if_neg c3).trans ((if_pos c4).trans rfl))
        rw [e9]
        exact hg_vret C dX2_copyFigures_42 rfl rfl
      · refine hg_aload_n C dX2_copyFigures_19 rfl 2 rfl ?_
        refine hg_iload_n C dX2_copyFigures_20 rfl 3 rfl ?_
        refine hg_iload C dX2_copyFigures_21 5 rfl ?_
        refine hg_iadd C dX2_copyFigures_23 ?_
        refine hg_aload_n C dX2_copyFigures_24 rfl 0 rfl ?_
        refine hg_iload_n C dX2_copyFigures_25 rfl 1 rfl ?_
        refine hg_iload C dX2_copyFigures_26 5 rfl ?_
        refine hg_iadd C dX2_copyFigures_28 ?_
        refine hg_callV C (ws' := [(ta, .inr (4, [.ref tb, .int tl])), (tb, .inl (E.2.1.1, 64, .inl tx)), (fc, .inl (E.2.1.1, 12, .inl σ))]) (rest := [.int (q + (nI i)), .ref fc]) (kX4_byteAt l E ta tb tl tx (a + (nI i))) hfX4_byteAt gX2_copyFigures_X4_byteAt ⟨Nat.le_of_ble_eq_true rfl, Nat.le_of_ble_eq_true rfl⟩ ⟨Nat.zero_le _, Nat.zero_le _⟩ [0, 1] rfl (by decide) [ta, tb] rfl rfl rfl 0 rfl rfl rfl rfl (Nat.le_of_ble_eq_true rfl) dX2_copyFigures_29 ?_
        refine hg_bipush C (v := 48) dX2_copyFigures_32 (by decide) ?_
        refine hg_isub C dX2_copyFigures_34 ?_
        refine hg_iast C (ws' := [(ta, .inr (4, [.ref tb, .int tl])), (tb, .inl (E.2.1.1, 64, .inl tx)), (fc, .inl (E.2.1.1, 12, .inl (upd σ (q + (nI i)).toNatClampNeg ((fX4_byteAt tl tx (a + (nI i))) - 48))))]) 2 rfl (cf_in hq (by omega) (by decide) (by assumption)) rfl dX2_copyFigures_35 ?_
        refine hg_iinc C (v := nI (i + 1)) (lv' := [(5, .int (nI (i + 1))), (0, .ref ta), (1, .int a), (2, .ref fc), (3, .int q), (4, .int 3)]) dX2_copyFigures_36 5 rfl (nI_inc _) (by decide) rfl ?_
        refine hg_goto C (tgt := 3) dX2_copyFigures_39 (by decide) ?_
        have hlt : i < 3 := (lt_nI (by omega) (by assumption))
        have e9 : (frtX2_copyFigures_3 tl tx a q) (n + 1) i σ = (frtX2_copyFigures_3 tl tx a q) n (i + 1) (upd σ (q + (nI i)).toNatClampNeg ((fX4_byteAt tl tx (a + (nI i))) - 48)) := (hid_eq _).trans ((if_neg c3).trans ((if_neg c4).trans rfl))
        rw [e9]
        exact hg_sub [1, 2, 3, 4, 5, 0] rfl (ih (i + 1) (upd σ (q + (nI i)).toNatClampNeg ((fX4_byteAt tl tx (a + (nI i))) - 48)) (by omega) (by omega))
noncomputable def ftX2_copyFigures (tl : Int32) (tx : Nat → Int32) (tf : Nat → Int32) (a : Int32) (q : Int32) : (Nat → Int32) := hid ((frtX2_copyFigures_3 tl tx a q) (3 + 1) 0 tf)
set_option maxHeartbeats 4000000 in
set_option maxRecDepth 100000 in
theorem ktX2_copyFigures (l : Launch) (E : hE) (ta : Nat) (tb : Nat) (tl : Int32) (tx : Nat → Int32) (fc : Nat) (tf : Nat → Int32) (a : Int32) (q : Int32) (hq : vp_in q 1000) : hC l yX2_copyFigures wsX2_copyFigures rmX2_copyFigures E [.ref ta, .int a, .ref fc, .int q, .int 3] [(ta, .inr (4, [.ref tb, .int tl])), (tb, .inl (E.2.1.1, 64, .inl tx)), (fc, .inl (E.2.1.1, 12, .inl tf))] none [(ta, .inr (4, [.ref tb, .int tl])), (tb, .inl (E.2.1.1, 64, .inl tx)), (fc, .inl (E.2.1.1, 12, .inl (ftX2_copyFigures tl tx tf a q)))] := by
  refine hC_intro (cc := cX2_copyFigures) (maxL := 6) (ret := none) (lv0 := [(0, .ref ta), (1, .int a), (2, .ref fc), (3, .int q), (4, .int 3)]) (by decide) rfl (Nat.le_of_ble_eq_true rfl) rfl ?_
  intro p e s m below meth c A C
  refine hg_iconst C (v := 0) dX2_copyFigures_0 (by decide) ?_
  refine hg_istore C (lv' := [(5, .int 0), (0, .ref ta), (1, .int a), (2, .ref fc), (3, .int q), (4, .int 3)]) dX2_copyFigures_1 (by decide) rfl ?_
  have e9 : (ftX2_copyFigures tl tx tf a q) = (frtX2_copyFigures_3 tl tx a q) (3 + 1) 0 tf := hid_eq _
  rw [e9]
  refine hg_sub [1, 2, 3, 4, 5, 0] rfl ?_
  exact lptX2_copyFigures_3 C ta tb tl tx fc tf a q hq (3 + 1) 0 tf (by omega) (by omega)
theorem mmX2_learn_f9 : (Cond.fieldLink RX2 9 "HatRound$Facts" "people" "I") ∈ wsX2_learn := (List.mem_cons_of_mem _ (List.mem_append_left _ (List.mem_append_left _ (List.mem_of_getElem? (i := 0) rfl))))
theorem mrX2_learn_2 : ∀ w ∈ u_ws RX2 TX2 4, w ∈ wsX2_learn := fun _ h => (List.mem_cons_of_mem _ (List.mem_append_left _ (List.mem_append_right _ h)))
theorem mmX2_learn_f15 : (Cond.fieldLink RX2 15 "HatRound$Facts" "tunes" "I") ∈ wsX2_learn := (List.mem_cons_of_mem _ (List.mem_append_left _ (List.mem_append_left _ (List.mem_of_getElem? (i := 1) rfl))))
theorem mrX2_learn_4 : ∀ w ∈ u_ws RX4 TX4 2, w ∈ wsX2_learn := fun _ h => (List.mem_cons_of_mem _ (List.mem_append_right _ h))
theorem nfX2_25 : (RX2, 25, (TX4 1).1, (TX4 1).2.1, (TX4 1).2.2.1, RX5) ∈ hNF := by decide +kernel
theorem mmX2_learn_f22 : (Cond.fieldLink RX2 22 "HatRound$Facts" "tuneFigures" "[I") ∈ wsX2_learn := (List.mem_cons_of_mem _ (List.mem_append_left _ (List.mem_append_left _ (List.mem_of_getElem? (i := 3) rfl))))
theorem mmX2_learn_f18 : (Cond.fieldLink RX2 18 "HatRound$Facts" "personFigures" "[I") ∈ wsX2_learn := (List.mem_cons_of_mem _ (List.mem_append_left _ (List.mem_append_left _ (List.mem_of_getElem? (i := 2) rfl))))
abbrev rmX2_learn : Room := { frames := 2, cells := 0, slots := 0, locals := 46 }
theorem hfX2_learn : hCF yX2_learn wsX2_learn rmX2_learn cX2_learn 4 none 1 := ⟨⟨_, rfl⟩, by decide +kernel, rfl, rfl⟩
noncomputable def frX2_learn_14 (tl : Int32) (tx : Nat → Int32) : Nat → Nat → (Int32 × Int32 × Int32 × (Nat → Int32) × (Nat → Int32)) → Int32 × Int32 × (Nat → Int32) × (Nat → Int32)
  | 0, _, σ => (σ.2.1, σ.2.2.1, σ.2.2.2.1, σ.2.2.2.2)
  | n + 1, i, σ => hid (if tl ≤ σ.1 then (σ.2.1, σ.2.2.1, σ.2.2.2.1, σ.2.2.2.2) else if (fX4_byteAt tl tx σ.1) = 80 then (frX2_learn_14 tl tx) n (i + 1) (σ.1 + 7, σ.2.1 + 1, σ.2.2.1, fpX2_copyFigures tl tx σ.2.2.2.1 (σ.1 + 1) (σ.2.1 * 6), σ.2.2.2.2) else (frX2_learn_14 tl tx) n (i + 1) (σ.1 + 4, σ.2.1, σ.2.2.1 + 1, σ.2.2.2.1, ftX2_copyFigures tl tx σ.2.2.2.2 (σ.1 + 1) (σ.2.2.1 * 3)))
set_option maxHeartbeats 4000000 in
set_option maxRecDepth 100000 in
theorem lpX2_learn_14 {p : Program} {l : Launch} {e : Env} {s : State} {m : MethodId} {args : Array Value} {below : List Frame} {meth : Method} {c : Code} {E : hE} {A : Nat → Prop} (C : hX p s m args meth c E A cX2_learn 4 RX2 wsX2_learn none) (fa : Nat) (fb : Nat) (fc : Nat) (pe : Int32) (tu : Int32) (pf : Nat → Int32) (tf : Nat → Int32) (ta : Nat) (tb : Nat) (tl : Int32) (tx : Nat → Int32) (htl : tl.toNatClampNeg ≤ 64) : ∀ (n i : Nat) (σ : Int32 × Int32 × Int32 × (Nat → Int32) × (Nat → Int32)), i + n = 64 + 1 → i ≤ 64 → (ffI i σ.1 ∧ lnI i σ.2.1 ∧ lnI i σ.2.2.1) → hG p l e rmX2_learn s m args below meth c E A 4 (hQ E A below args s none [(fa, .inr (2, [.int (((frX2_learn_14 tl tx) n i σ).1), .int (((frX2_learn_14 tl tx) n i σ).2.1), .ref fb, .ref fc])), (fb, .inl (E.2.1.1, 36, .inl (((frX2_learn_14 tl tx) n i σ).2.2.1))), (fc, .inl (E.2.1.1, 12, .inl (((frX2_learn_14 tl tx) n i σ).2.2.2))), (ta, .inr (4, [.ref tb, .int tl])), (tb, .inl (E.2.1.1, 64, .inl tx))]) 0 0 14 [(0, .ref fa), (1, .ref ta), (3, .int σ.1)] [] [(fa, .inr (2, [.int σ.2.1, .int σ.2.2.1, .ref fb, .ref fc])), (fb, .inl (E.2.1.1, 36, .inl σ.2.2.2.1)), (fc, .inl (E.2.1.1, 12, .inl σ.2.2.2.2)), (ta, .inr (4, [.ref tb, .int tl])), (tb, .inl (E.2.1.1, 64, .inl tx))] := by
  intro n
  induction n with
  | zero =>
    intro i σ hi hiN hv
    exact absurd hi (by omega)
  | succ n ih =>
    intro i σ hi hiN hv
    refine hg_iload_n C dX2_learn_14 rfl 2 rfl ?_
    refine hg_aload_n C dX2_learn_15 rfl 1 rfl ?_
    refine hg_getN C (Cn := RX4) (T := TX4) (N := 2) (v := .int tl) mrX2_learn_4 3 rfl rfl 1 (by decide) nfX2_25 rfl dX2_learn_16 ?_
    refine hg_icmp_ge C (tgt := 105) dX2_learn_19 (by decide) (fun c3 => ?_) (fun c3 => ?_)
    · have e9 : (frX2_learn_14 tl tx) (n + 1) i σ = (σ.2.1, σ.2.2.1, σ.2.2.2.1, σ.2.2.2.2) := (hid_eq _).trans ((if_pos c3).trans rfl)
      rw [e9]
      exact hg_vret C dX2_learn_105 rfl rfl
    · refine hg_aload_n C dX2_learn_22 rfl 1 rfl ?_
      refine hg_iload_n C dX2_learn_23 rfl 2 rfl ?_
      refine hg_callV C (ws' := [(fa, .inr (2, [.int σ.2.1, .int σ.2.2.1, .ref fb, .ref fc])), (fb, .inl (E.2.1.1, 36, .inl σ.2.2.2.1)), (fc, .inl (E.2.1.1, 12, .inl σ.2.2.2.2)), (ta, .inr (4, [.ref tb, .int tl])), (tb, .inl (E.2.1.1, 64, .inl tx))]) (rest := []) (kX4_byteAt l E ta tb tl tx σ.1) hfX4_byteAt gX2_learn_X4_byteAt ⟨Nat.le_of_ble_eq_true rfl, Nat.le_of_ble_eq_true rfl⟩ ⟨Nat.zero_le _, Nat.zero_le _⟩ [3, 4] rfl (by decide) [ta, tb] rfl rfl rfl 3 rfl rfl rfl rfl (Nat.le_of_ble_eq_true rfl) dX2_learn_24 ?_
      refine hg_bipush C (v := 80) dX2_learn_27 (by decide) ?_
      refine hg_icmp_ne C (tgt := 68) dX2_learn_29 (by decide) (fun c4 => ?_) (fun c4 => ?_)
      · refine hg_aload_n C dX2_learn_68 rfl 1 rfl ?_
        refine hg_iload_n C dX2_learn_69 rfl 2 rfl ?_
        refine hg_iconst C (v := 1) dX2_learn_70 (by decide) ?_
        refine hg_iadd C dX2_learn_71 ?_
        refine hg_aload_n C dX2_learn_72 rfl 0 rfl ?_
        refine hg_get C (Cn := RX2) (T := TX2) (N := 4) (v := .ref fc) mrX2_learn_2 0 rfl rfl 3 (by decide) mmX2_learn_f22 rfl dX2_learn_73 ?_
        refine hg_aload_n C dX2_learn_76 rfl 0 rfl ?_
        refine hg_get C (Cn := RX2) (T := TX2) (N := 4) (v := .int σ.2.2.1) mrX2_learn_2 0 rfl rfl 1 (by decide) mmX2_learn_f15 rfl dX2_learn_77 ?_
        refine hg_iconst C (v := 3) dX2_learn_80 (by decide) ?_
        refine hg_imul C dX2_learn_81 ?_
        refine hg_iconst C (v := 3) dX2_learn_82 (by decide) ?_
        refine hg_callS C (ws' := [(fa, .inr (2, [.int σ.2.1, .int σ.2.2.1, .ref fb, .ref fc])), (fb, .inl (E.2.1.1, 36, .inl σ.2.2.2.1)), (fc, .inl (E.2.1.1, 12, .inl (ftX2_copyFigures tl tx σ.2.2.2.2 (σ.1 + 1) (σ.2.2.1 * 3)))), (ta, .inr (4, [.ref tb, .int tl])), (tb, .inl (E.2.1.1, 64, .inl tx))]) (rest := []) (ktX2_copyFigures l E ta tb tl tx fc σ.2.2.2.2 (σ.1 + 1) (σ.2.2.1 * 3) (ln_3 hv.2.2 hiN)) hfX2_copyFigures gX2_learn_X2_copyFigures ⟨Nat.le_of_ble_eq_true rfl, Nat.le_of_ble_eq_true rfl⟩ ⟨Nat.zero_le _, Nat.zero_le _⟩ [3, 4, 2] rfl (by decide) [ta, tb, fc] rfl rfl rfl rfl (Nat.le_of_ble_eq_true rfl) dX2_learn_83 ?_
        refine hg_aload_n C dX2_learn_86 rfl 0 rfl ?_
        refine hg_dup C dX2_learn_87 rfl ?_
        refine hg_get C (Cn := RX2) (T := TX2) (N := 4) (v := .int σ.2.2.1) mrX2_learn_2 0 rfl rfl 1 (by decide) mmX2_learn_f15 rfl dX2_learn_88 ?_
        refine hg_iconst C (v := 1) dX2_learn_91 (by decide) ?_
        refine hg_iadd C dX2_learn_92 ?_
        refine hg_put C (Cn := RX2) (T := TX2) (N := 4) (ws' := [(fa, .inr (2, [.int σ.2.1, .int (σ.2.2.1 + 1), .ref fb, .ref fc])), (fb, .inl (E.2.1.1, 36, .inl σ.2.2.2.1)), (fc, .inl (E.2.1.1, 12, .inl (ftX2_copyFigures tl tx σ.2.2.2.2 (σ.1 + 1) (σ.2.2.1 * 3)))), (ta, .inr (4, [.ref tb, .int tl])), (tb, .inl (E.2.1.1, 64, .inl tx))]) mrX2_learn_2 tyX2 tyX2_ok nmX2 0 rfl rfl 1 (by decide) mmX2_learn_f15 rfl rfl rfl rfl (Nat.le_of_ble_eq_true rfl) rfl dX2_learn_93 ?_
        refine hg_iconst C (v := 4) dX2_learn_96 (by decide) ?_
        refine hg_istore_n C (lv' := [(2, .int 4), (0, .ref fa), (1, .ref ta), (3, .int σ.1)]) dX2_learn_97 rfl (by decide) rfl ?_
        refine hg_iload_n C dX2_learn_98 rfl 3 rfl ?_
        refine hg_iload_n C dX2_learn_99 rfl 0 rfl ?_
        refine hg_iadd C dX2_learn_100 ?_
        refine hg_istore_n C (lv' := [(3, .int (σ.1 + 4)), (2, .int 4), (0, .ref fa), (1, .ref ta)]) dX2_learn_101 rfl (by decide) rfl ?_
        refine hg_goto C (tgt := 14) dX2_learn_102 (by decide) ?_
        have hlt : i < 64 := (ff_lt hv.1 htl (by assumption))
        have e9 : (frX2_learn_14 tl tx) (n + 1) i σ = (frX2_learn_14 tl tx) n (i + 1) (σ.1 + 4, σ.2.1, σ.2.2.1 + 1, σ.2.2.2.1, ftX2_copyFigures tl tx σ.2.2.2.2 (σ.1 + 1) (σ.2.2.1 * 3)) := (hid_eq _).trans ((if_neg c3).trans ((if_neg c4).trans rfl))
        rw [e9]
        exact hg_sub [2, 3, 0] rfl (ih (i + 1) (σ.1 + 4, σ.2.1, σ.2.2.1 + 1, σ.2.2.2.1, ftX2_copyFigures tl tx σ.2.2.2.2 (σ.1 + 1) (σ.2.2.1 * 3)) (by omega) (by omega) (by first | exact ⟨ff_7 hv.1 htl (by assumption), ln_1 hv.2.1, ln_0 hv.2.2⟩ | exact ⟨ff_4 hv.1 htl (by assumption), ln_0 hv.2.1, ln_1 hv.2.2⟩))
      · refine hg_aload_n C dX2_learn_32 rfl 1 rfl ?_
        refine hg_iload_n C dX2_learn_33 rfl 2 rfl ?_
        refine hg_iconst C (v := 1) dX2_learn_34 (by decide) ?_
        refine hg_iadd C dX2_learn_35 ?_
        refine hg_aload_n C dX2_learn_36 rfl 0 rfl ?_
        refine hg_get C (Cn := RX2) (T := TX2) (N := 4) (v := .ref fb) mrX2_learn_2 0 rfl rfl 2 (by decide) mmX2_learn_f18 rfl dX2_learn_37 ?_
        refine hg_aload_n C dX2_learn_40 rfl 0 rfl ?_
        refine hg_get C (Cn := RX2) (T := TX2) (N := 4) (v := .int σ.2.1) mrX2_learn_2 0 rfl rfl 0 (by decide) mmX2_learn_f9 rfl dX2_learn_41 ?_
        refine hg_bipush C (v := 6) dX2_learn_44 (by decide) ?_
        refine hg_imul C dX2_learn_46 ?_
        refine hg_bipush C (v := 6) dX2_learn_47 (by decide) ?_
        refine hg_callS C (ws' := [(fa, .inr (2, [.int σ.2.1, .int σ.2.2.1, .ref fb, .ref fc])), (fb, .inl (E.2.1.1, 36, .inl (fpX2_copyFigures tl tx σ.2.2.2.1 (σ.1 + 1) (σ.2.1 * 6)))), (fc, .inl (E.2.1.1, 12, .inl σ.2.2.2.2)), (ta, .inr (4, [.ref tb, .int tl])), (tb, .inl (E.2.1.1, 64, .inl tx))]) (rest := []) (kpX2_copyFigures l E ta tb tl tx fb σ.2.2.2.1 (σ.1 + 1) (σ.2.1 * 6) (ln_6 hv.2.1 hiN)) hfX2_copyFigures gX2_learn_X2_copyFigures ⟨Nat.le_of_ble_eq_true rfl, Nat.le_of_ble_eq_true rfl⟩ ⟨Nat.zero_le _, Nat.zero_le _⟩ [3, 4, 1] rfl (by decide) [ta, tb, fb] rfl rfl rfl rfl (Nat.le_of_ble_eq_true rfl) dX2_learn_49 ?_
        refine hg_aload_n C dX2_learn_52 rfl 0 rfl ?_
        refine hg_dup C dX2_learn_53 rfl ?_
        refine hg_get C (Cn := RX2) (T := TX2) (N := 4) (v := .int σ.2.1) mrX2_learn_2 0 rfl rfl 0 (by decide) mmX2_learn_f9 rfl dX2_learn_54 ?_
        refine hg_iconst C (v := 1) dX2_learn_57 (by decide) ?_
        refine hg_iadd C dX2_learn_58 ?_
        refine hg_put C (Cn := RX2) (T := TX2) (N := 4) (ws' := [(fa, .inr (2, [.int (σ.2.1 + 1), .int σ.2.2.1, .ref fb, .ref fc])), (fb, .inl (E.2.1.1, 36, .inl (fpX2_copyFigures tl tx σ.2.2.2.1 (σ.1 + 1) (σ.2.1 * 6)))), (fc, .inl (E.2.1.1, 12, .inl σ.2.2.2.2)), (ta, .inr (4, [.ref tb, .int tl])), (tb, .inl (E.2.1.1, 64, .inl tx))]) mrX2_learn_2 tyX2 tyX2_ok nmX2 0 rfl rfl 0 (by decide) mmX2_learn_f9 rfl rfl rfl rfl (Nat.le_of_ble_eq_true rfl) rfl dX2_learn_59 ?_
        refine hg_bipush C (v := 7) dX2_learn_62 (by decide) ?_
        refine hg_istore_n C (lv' := [(2, .int 7), (0, .ref fa), (1, .ref ta), (3, .int σ.1)]) dX2_learn_64 rfl (by decide) rfl ?_
        refine hg_goto C (tgt := 98) dX2_learn_65 (by decide) ?_
        refine hg_iload_n C dX2_learn_98 rfl 3 rfl ?_
        refine hg_iload_n C dX2_learn_99 rfl 0 rfl ?_
        refine hg_iadd C dX2_learn_100 ?_
        refine hg_istore_n C (lv' := [(3, .int (σ.1 + 7)), (2, .int 7), (0, .ref fa), (1, .ref ta)]) dX2_learn_101 rfl (by decide) rfl ?_
        refine hg_goto C (tgt := 14) dX2_learn_102 (by decide) ?_
        have hlt : i < 64 := (ff_lt hv.1 htl (by assumption))
        have e9 : (frX2_learn_14 tl tx) (n + 1) i σ = (frX2_learn_14 tl tx) n (i + 1) (σ.1 + 7, σ.2.1 + 1, σ.2.2.1, fpX2_copyFigures tl tx σ.2.2.2.1 (σ.1 + 1) (σ.2.1 * 6), σ.2.2.2.2) := (hid_eq _).trans ((if_neg c3).trans ((if_pos c4).trans rfl))
        rw [e9]
        exact hg_sub [2, 3, 0] rfl (ih (i + 1) (σ.1 + 7, σ.2.1 + 1, σ.2.2.1, fpX2_copyFigures tl tx σ.2.2.2.1 (σ.1 + 1) (σ.2.1 * 6), σ.2.2.2.2) (by omega) (by omega) (by first | exact ⟨ff_7 hv.1 htl (by assumption), ln_1 hv.2.1, ln_0 hv.2.2⟩ | exact ⟨ff_4 hv.1 htl (by assumption), ln_0 hv.2.1, ln_1 hv.2.2⟩))
noncomputable def fX2_learn (pf : Nat → Int32) (tf : Nat → Int32) (tl : Int32) (tx : Nat → Int32) : Int32 × Int32 × (Nat → Int32) × (Nat → Int32) := hid ((frX2_learn_14 tl tx) (64 + 1) 0 (1, 0, 0, pf, tf))
set_option maxHeartbeats 4000000 in
set_option maxRecDepth 100000 in
theorem kX2_learn (l : Launch) (E : hE) (fa : Nat) (fb : Nat) (fc : Nat) (pe : Int32) (tu : Int32) (pf : Nat → Int32) (tf : Nat → Int32) (ta : Nat) (tb : Nat) (tl : Int32) (tx : Nat → Int32) (htl : tl.toNatClampNeg ≤ 64) : hC l yX2_learn wsX2_learn rmX2_learn E [.ref fa, .ref ta] [(fa, .inr (2, [.int pe, .int tu, .ref fb, .ref fc])), (fb, .inl (E.2.1.1, 36, .inl pf)), (fc, .inl (E.2.1.1, 12, .inl tf)), (ta, .inr (4, [.ref tb, .int tl])), (tb, .inl (E.2.1.1, 64, .inl tx))] none [(fa, .inr (2, [.int ((fX2_learn pf tf tl tx).1), .int ((fX2_learn pf tf tl tx).2.1), .ref fb, .ref fc])), (fb, .inl (E.2.1.1, 36, .inl ((fX2_learn pf tf tl tx).2.2.1))), (fc, .inl (E.2.1.1, 12, .inl ((fX2_learn pf tf tl tx).2.2.2))), (ta, .inr (4, [.ref tb, .int tl])), (tb, .inl (E.2.1.1, 64, .inl tx))] := by
  refine hC_intro (cc := cX2_learn) (maxL := 4) (ret := none) (lv0 := [(0, .ref fa), (1, .ref ta)]) (by decide) rfl (Nat.le_of_ble_eq_true rfl) rfl ?_
  intro p e s m below meth c A C
  refine hg_aload_n C dX2_learn_0 rfl 0 rfl ?_
  refine hg_iconst C (v := 0) dX2_learn_1 (by decide) ?_
  refine hg_put C (Cn := RX2) (T := TX2) (N := 4) (ws' := [(fa, .inr (2, [.int 0, .int tu, .ref fb, .ref fc])), (fb, .inl (E.2.1.1, 36, .inl pf)), (fc, .inl (E.2.1.1, 12, .inl tf)), (ta, .inr (4, [.ref tb, .int tl])), (tb, .inl (E.2.1.1, 64, .inl tx))]) mrX2_learn_2 tyX2 tyX2_ok nmX2 0 rfl rfl 0 (by decide) mmX2_learn_f9 rfl rfl rfl rfl (Nat.le_of_ble_eq_true rfl) rfl dX2_learn_2 ?_
  refine hg_aload_n C dX2_learn_5 rfl 0 rfl ?_
  refine hg_iconst C (v := 0) dX2_learn_6 (by decide) ?_
  refine hg_put C (Cn := RX2) (T := TX2) (N := 4) (ws' := [(fa, .inr (2, [.int 0, .int 0, .ref fb, .ref fc])), (fb, .inl (E.2.1.1, 36, .inl pf)), (fc, .inl (E.2.1.1, 12, .inl tf)), (ta, .inr (4, [.ref tb, .int tl])), (tb, .inl (E.2.1.1, 64, .inl tx))]) mrX2_learn_2 tyX2 tyX2_ok nmX2 0 rfl rfl 1 (by decide) mmX2_learn_f15 rfl rfl rfl rfl (Nat.le_of_ble_eq_true rfl) rfl dX2_learn_7 ?_
  refine hg_iconst C (v := 0) dX2_learn_10 (by decide) ?_
  refine hg_istore_n C (lv' := [(2, .int 0), (0, .ref fa), (1, .ref ta)]) dX2_learn_11 rfl (by decide) rfl ?_
  refine hg_iconst C (v := 1) dX2_learn_12 (by decide) ?_
  refine hg_istore_n C (lv' := [(3, .int 1), (2, .int 0), (0, .ref fa), (1, .ref ta)]) dX2_learn_13 rfl (by decide) rfl ?_
  have e9 : (fX2_learn pf tf tl tx) = (frX2_learn_14 tl tx) (64 + 1) 0 (1, 0, 0, pf, tf) := hid_eq _
  rw [e9]
  refine hg_sub [2, 3, 0] rfl ?_
  exact lpX2_learn_14 C fa fb fc pe tu pf tf ta tb tl tx htl (64 + 1) 0 (1, 0, 0, pf, tf) (by omega) (by omega) ⟨⟨1, rfl, by decide, by decide⟩, ⟨0, rfl, by decide⟩, ⟨0, rfl, by decide⟩⟩
theorem mmX1_clear_f7 : (Cond.fieldLink RX1 7 "HatRound$Best" "most" "I") ∈ wsX1_clear := (List.mem_cons_of_mem _ (List.mem_append_left _ (List.mem_of_getElem? (i := 0) rfl)))
theorem mrX1_clear_1 : ∀ w ∈ u_ws RX1 TX1 2, w ∈ wsX1_clear := fun _ h => (List.mem_cons_of_mem _ (List.mem_append_right _ h))
theorem mmX1_clear_f13 : (Cond.fieldLink RX1 13 "HatRound$Best" "choice" "I") ∈ wsX1_clear := (List.mem_cons_of_mem _ (List.mem_append_left _ (List.mem_of_getElem? (i := 1) rfl)))
abbrev rmX1_clear : Room := { frames := 0, cells := 0, slots := 0, locals := 0 }
theorem hfX1_clear : hCF yX1_clear wsX1_clear rmX1_clear cX1_clear 1 none 0 := ⟨⟨_, rfl⟩, by decide +kernel, rfl, rfl⟩
noncomputable def fX1_clear  : Int32 × Int32 := hid (((-1), 0))
set_option maxHeartbeats 4000000 in
set_option maxRecDepth 100000 in
theorem kX1_clear (l : Launch) (E : hE) (be : Nat) (mx : Int32) (ch : Int32) : hC l yX1_clear wsX1_clear rmX1_clear E [.ref be] [(be, .inr (1, [.int mx, .int ch]))] none [(be, .inr (1, [.int fX1_clear.1, .int fX1_clear.2]))] := by
  refine hC_intro (cc := cX1_clear) (maxL := 1) (ret := none) (lv0 := [(0, .ref be)]) (by decide) rfl (Nat.le_of_ble_eq_true rfl) rfl ?_
  intro p e s m below meth c A C
  refine hg_aload_n C dX1_clear_0 rfl 0 rfl ?_
  refine hg_iconst C (v := (-1)) dX1_clear_1 (by decide) ?_
  refine hg_put C (Cn := RX1) (T := TX1) (N := 2) (ws' := [(be, .inr (1, [.int (-1), .int ch]))]) mrX1_clear_1 tyX1 tyX1_ok nmX1 0 rfl rfl 0 (by decide) mmX1_clear_f7 rfl rfl rfl rfl (Nat.le_of_ble_eq_true rfl) rfl dX1_clear_2 ?_
  refine hg_aload_n C dX1_clear_5 rfl 0 rfl ?_
  refine hg_iconst C (v := 0) dX1_clear_6 (by decide) ?_
  refine hg_put C (Cn := RX1) (T := TX1) (N := 2) (ws' := [(be, .inr (1, [.int (-1), .int 0]))]) mrX1_clear_1 tyX1 tyX1_ok nmX1 0 rfl rfl 1 (by decide) mmX1_clear_f13 rfl rfl rfl rfl (Nat.le_of_ble_eq_true rfl) rfl dX1_clear_7 ?_
  have e9 : fX1_clear = ((-1), 0) := hid_eq _
  rw [e9]
  exact hg_vret C dX1_clear_10 rfl rfl
theorem mmX1_offer_f7 : (Cond.fieldLink RX1 7 "HatRound$Best" "most" "I") ∈ wsX1_offer := (List.mem_cons_of_mem _ (List.mem_append_left _ (List.mem_of_getElem? (i := 0) rfl)))
theorem mrX1_offer_1 : ∀ w ∈ u_ws RX1 TX1 2, w ∈ wsX1_offer := fun _ h => (List.mem_cons_of_mem _ (List.mem_append_right _ h))
theorem mmX1_offer_f13 : (Cond.fieldLink RX1 13 "HatRound$Best" "choice" "I") ∈ wsX1_offer := (List.mem_cons_of_mem _ (List.mem_append_left _ (List.mem_of_getElem? (i := 1) rfl)))
abbrev rmX1_offer : Room := { frames := 0, cells := 0, slots := 0, locals := 0 }
theorem hfX1_offer : hCF yX1_offer wsX1_offer rmX1_offer cX1_offer 3 none 2 := ⟨⟨_, rfl⟩, by decide +kernel, rfl, rfl⟩
noncomputable def fX1_offer (mx : Int32) (ch : Int32) (a : Int32) (b : Int32) : Int32 × Int32 := hid (if a ≤ mx then (mx, ch) else (a, b))
set_option maxHeartbeats 4000000 in
set_option maxRecDepth 100000 in
theorem kX1_offer (l : Launch) (E : hE) (be : Nat) (mx : Int32) (ch : Int32) (a : Int32) (b : Int32) : hC l yX1_offer wsX1_offer rmX1_offer E [.ref be, .int a, .int b] [(be, .inr (1, [.int mx, .int ch]))] none [(be, .inr (1, [.int ((fX1_offer mx ch a b).1), .int ((fX1_offer mx ch a b).2)]))] := by
  refine hC_intro (cc := cX1_offer) (maxL := 3) (ret := none) (lv0 := [(0, .ref be), (1, .int a), (2, .int b)]) (by decide) rfl (Nat.le_of_ble_eq_true rfl) rfl ?_
  intro p e s m below meth c A C
  refine hg_iload_n C dX1_offer_0 rfl 1 rfl ?_
  refine hg_aload_n C dX1_offer_1 rfl 0 rfl ?_
  refine hg_get C (Cn := RX1) (T := TX1) (N := 2) (v := .int mx) mrX1_offer_1 0 rfl rfl 0 (by decide) mmX1_offer_f7 rfl dX1_offer_2 ?_
  refine hg_icmp_le C (tgt := 18) dX1_offer_5 (by decide) (fun c1 => ?_) (fun c1 => ?_)
  · have e9 : (fX1_offer mx ch a b) = (mx, ch) := (hid_eq _).trans ((if_pos c1).trans rfl)
    rw [e9]
    exact hg_vret C dX1_offer_18 rfl rfl
  · refine hg_aload_n C dX1_offer_8 rfl 0 rfl ?_
    refine hg_iload_n C dX1_offer_9 rfl 1 rfl ?_
    refine hg_put C (Cn := RX1) (T := TX1) (N := 2) (ws' := [(be, .inr (1, [.int a, .int ch]))]) mrX1_offer_1 tyX1 tyX1_ok nmX1 0 rfl rfl 0 (by decide) mmX1_offer_f7 rfl rfl rfl rfl (Nat.le_of_ble_eq_true rfl) rfl dX1_offer_10 ?_
    refine hg_aload_n C dX1_offer_13 rfl 0 rfl ?_
    refine hg_iload_n C dX1_offer_14 rfl 2 rfl ?_
    refine hg_put C (Cn := RX1) (T := TX1) (N := 2) (ws' := [(be, .inr (1, [.int a, .int b]))]) mrX1_offer_1 tyX1 tyX1_ok nmX1 0 rfl rfl 1 (by decide) mmX1_offer_f13 rfl rfl rfl rfl (Nat.le_of_ble_eq_true rfl) rfl dX1_offer_15 ?_
    have e9 : (fX1_offer mx ch a b) = (a, b) := (hid_eq _).trans ((if_neg c1).trans rfl)
    rw [e9]
    exact hg_vret C dX1_offer_18 rfl rfl
