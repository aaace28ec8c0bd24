abbrev rmX5_isWithin : Room := { frames := 0, cells := 0, slots := 0, locals := 0 }
theorem hfX5_isWithin : hCF yX5_isWithin wsX5_isWithin rmX5_isWithin cX5_isWithin 3 (some .boolean) 3 := ⟨⟨_, rfl⟩, by decide +kernel, rfl, rfl⟩
noncomputable def fX5_isWithin (a : Int32) (b : Int32) (q : Int32) : Int32 := hid (if a < b then 0 else if q < a then 0 else 1)
set_option maxHeartbeats 4000000 in
set_option maxRecDepth 100000 in
theorem kX5_isWithin (l : Launch) (E : hE) (a : Int32) (b : Int32) (q : Int32) : hC l yX5_isWithin wsX5_isWithin rmX5_isWithin E [.int a, .int b, .int q] [] (some (.int (fX5_isWithin a b q))) [] := by
  refine hC_intro (cc := cX5_isWithin) (maxL := 3) (ret := (some .boolean)) (lv0 := [(0, .int a), (1, .int b), (2, .int q)]) (by decide) rfl (Nat.le_of_ble_eq_true rfl) rfl ?_
  intro p e s m below meth c A C
  refine hg_iload_n C dX5_isWithin_0 rfl 0 rfl ?_
  refine hg_iload_n C dX5_isWithin_1 rfl 1 rfl ?_
  refine hg_icmp_lt C (tgt := 14) dX5_isWithin_2 (by decide) (fun c1 => ?_) (fun c1 => ?_)
  · refine hg_iconst C (v := 0) dX5_isWithin_14 (by decide) ?_
    have e9 : (fX5_isWithin a b q) = 0 := (hid_eq _).trans ((if_pos c1).trans rfl)
    rw [e9]
    exact hg_zret C dX5_isWithin_15 rfl rfl rfl
  · refine hg_iload_n C dX5_isWithin_5 rfl 0 rfl ?_
    refine hg_iload_n C dX5_isWithin_6 rfl 2 rfl ?_
    refine hg_icmp_gt C (tgt := 14) dX5_isWithin_7 (by decide) (fun c2 => ?_) (fun c2 => ?_)
    · refine hg_iconst C (v := 0) dX5_isWithin_14 (by decide) ?_
      have e9 : (fX5_isWithin a b q) = 0 := (hid_eq _).trans ((if_neg c1).trans ((if_pos c2).trans rfl))
      rw [e9]
      exact hg_zret C dX5_isWithin_15 rfl rfl rfl
    · refine hg_iconst C (v := 1) dX5_isWithin_10 (by decide) ?_
      refine hg_goto C (tgt := 15) dX5_isWithin_11 (by decide) ?_
      have e9 : (fX5_isWithin a b q) = 1 := (hid_eq _).trans ((if_neg c1).trans ((if_neg c2).trans rfl))
      rw [e9]
      exact hg_zret C dX5_isWithin_15 rfl rfl rfl
theorem bbX5_isWithin (a : Int32) (b : Int32) (q : Int32) : (fX5_isWithin a b q) = 0 ∨ (fX5_isWithin a b q) = 1 := by
  unfold fX5_isWithin
  rw [hid_eq]
  (repeat' split) <;> first | exact Or.inl rfl | exact Or.inr rfl
abbrev rmX5_isSide : Room := { frames := 1, cells := 0, slots := 0, locals := 22 }
theorem hfX5_isSide : hCF yX5_isSide wsX5_isSide rmX5_isSide cX5_isSide 1 (some .boolean) 1 := ⟨⟨_, rfl⟩, by decide +kernel, rfl, rfl⟩
noncomputable def fX5_isSide (a : Int32) : Int32 := hid (fX5_isWithin a 0 1)
set_option maxHeartbeats 4000000 in
set_option maxRecDepth 100000 in
theorem kX5_isSide (l : Launch) (E : hE) (a : Int32) : hC l yX5_isSide wsX5_isSide rmX5_isSide E [.int a] [] (some (.int (fX5_isSide a))) [] := by
  refine hC_intro (cc := cX5_isSide) (maxL := 1) (ret := (some .boolean)) (lv0 := [(0, .int a)]) (by decide) rfl (Nat.le_of_ble_eq_true rfl) rfl ?_
  intro p e s m below meth c A C
  refine hg_iload_n C dX5_isSide_0 rfl 0 rfl ?_
  refine hg_iconst C (v := 0) dX5_isSide_1 (by decide) ?_
  refine hg_iconst C (v := 1) dX5_isSide_2 (by decide) ?_
  refine hg_callS C (ws' := []) (rest := []) (kX5_isWithin l E a 0 1) hfX5_isWithin gX5_isSide_X5_isWithin ⟨Nat.le_of_ble_eq_true rfl, Nat.le_of_ble_eq_true rfl⟩ ⟨Nat.zero_le _, Nat.zero_le _⟩ [] rfl (by decide) [] rfl rfl rfl rfl (Nat.le_of_ble_eq_true rfl) dX5_isSide_3 ?_
  have e9 : (fX5_isSide a) = fX5_isWithin a 0 1 := hid_eq _
  rw [e9]
  exact hg_zret C dX5_isSide_6 (nar01 (bbX5_isWithin _ _ _)) rfl rfl
theorem bbX5_isSide (a : Int32) : (fX5_isSide a) = 0 ∨ (fX5_isSide a) = 1 := by
  unfold fX5_isSide
  rw [hid_eq]
  (repeat' split) <;> first | exact Or.inl rfl | exact Or.inr rfl | exact bbX5_isWithin _ _ _
abbrev rmX5_isSlot : Room := { frames := 1, cells := 0, slots := 0, locals := 22 }
theorem hfX5_isSlot : hCF yX5_isSlot wsX5_isSlot rmX5_isSlot cX5_isSlot 1 (some .boolean) 1 := ⟨⟨_, rfl⟩, by decide +kernel, rfl, rfl⟩
noncomputable def fX5_isSlot (a : Int32) : Int32 := hid (fX5_isWithin a 0 1)
set_option maxHeartbeats 4000000 in
set_option maxRecDepth 100000 in
theorem kX5_isSlot (l : Launch) (E : hE) (a : Int32) : hC l yX5_isSlot wsX5_isSlot rmX5_isSlot E [.int a] [] (some (.int (fX5_isSlot a))) [] := by
  refine hC_intro (cc := cX5_isSlot) (maxL := 1) (ret := (some .boolean)) (lv0 := [(0, .int a)]) (by decide) rfl (Nat.le_of_ble_eq_true rfl) rfl ?_
  intro p e s m below meth c A C
  refine hg_iload_n C dX5_isSlot_0 rfl 0 rfl ?_
  refine hg_iconst C (v := 0) dX5_isSlot_1 (by decide) ?_
  refine hg_iconst C (v := 1) dX5_isSlot_2 (by decide) ?_
  refine hg_callS C (ws' := []) (rest := []) (kX5_isWithin l E a 0 1) hfX5_isWithin gX5_isSlot_X5_isWithin ⟨Nat.le_of_ble_eq_true rfl, Nat.le_of_ble_eq_true rfl⟩ ⟨Nat.zero_le _, Nat.zero_le _⟩ [] rfl (by decide) [] rfl rfl rfl rfl (Nat.le_of_ble_eq_true rfl) dX5_isSlot_3 ?_
  have e9 : (fX5_isSlot a) = fX5_isWithin a 0 1 := hid_eq _
  rw [e9]
  exact hg_zret C dX5_isSlot_6 (nar01 (bbX5_isWithin _ _ _)) rfl rfl
theorem bbX5_isSlot (a : Int32) : (fX5_isSlot a) = 0 ∨ (fX5_isSlot a) = 1 := by
  unfold fX5_isSlot
  rw [hid_eq]
  (repeat' split) <;> first | exact Or.inl rfl | exact Or.inr rfl | exact bbX5_isWithin _ _ _
abbrev rmX5_isCoins : Room := { frames := 1, cells := 0, slots := 0, locals := 22 }
theorem hfX5_isCoins : hCF yX5_isCoins wsX5_isCoins rmX5_isCoins cX5_isCoins 1 (some .boolean) 1 := ⟨⟨_, rfl⟩, by decide +kernel, rfl, rfl⟩
noncomputable def fX5_isCoins (a : Int32) : Int32 := hid (fX5_isWithin a 0 99)
set_option maxHeartbeats 4000000 in
set_option maxRecDepth 100000 in
theorem kX5_isCoins (l : Launch) (E : hE) (a : Int32) : hC l yX5_isCoins wsX5_isCoins rmX5_isCoins E [.int a] [] (some (.int (fX5_isCoins a))) [] := by
  refine hC_intro (cc := cX5_isCoins) (maxL := 1) (ret := (some .boolean)) (lv0 := [(0, .int a)]) (by decide) rfl (Nat.le_of_ble_eq_true rfl) rfl ?_
  intro p e s m below meth c A C
  refine hg_iload_n C dX5_isCoins_0 rfl 0 rfl ?_
  refine hg_iconst C (v := 0) dX5_isCoins_1 (by decide) ?_
  refine hg_bipush C (v := 99) dX5_isCoins_2 (by decide) ?_
  refine hg_callS C (ws' := []) (rest := []) (kX5_isWithin l E a 0 99) hfX5_isWithin gX5_isCoins_X5_isWithin ⟨Nat.le_of_ble_eq_true rfl, Nat.le_of_ble_eq_true rfl⟩ ⟨Nat.zero_le _, Nat.zero_le _⟩ [] rfl (by decide) [] rfl rfl rfl rfl (Nat.le_of_ble_eq_true rfl) dX5_isCoins_4 ?_
  have e9 : (fX5_isCoins a) = fX5_isWithin a 0 99 := hid_eq _
  rw [e9]
  exact hg_zret C dX5_isCoins_7 (nar01 (bbX5_isWithin _ _ _)) rfl rfl
theorem bbX5_isCoins (a : Int32) : (fX5_isCoins a) = 0 ∨ (fX5_isCoins a) = 1 := by
  unfold fX5_isCoins
  rw [hid_eq]
  (repeat' split) <;> first | exact Or.inl rfl | exact Or.inr rfl | exact bbX5_isWithin _ _ _
abbrev rmX5_has : Room := { frames := 0, cells := 0, slots := 0, locals := 0 }
theorem hfX5_has : hCF yX5_has wsX5_has rmX5_has cX5_has 2 (some .boolean) 2 := ⟨⟨_, rfl⟩, by decide +kernel, rfl, rfl⟩
noncomputable def fX5_has (a : Int32) (b : Int32) : Int32 := hid (if ((a >>> (b &&& 31)) &&& 1) = 0 then 0 else 1)
set_option maxHeartbeats 4000000 in
set_option maxRecDepth 100000 in
theorem kX5_has (l : Launch) (E : hE) (a : Int32) (b : Int32) : hC l yX5_has wsX5_has rmX5_has E [.int a, .int b] [] (some (.int (fX5_has a b))) [] := by
  refine hC_intro (cc := cX5_has) (maxL := 2) (ret := (some .boolean)) (lv0 := [(0, .int a), (1, .int b)]) (by decide) rfl (Nat.le_of_ble_eq_true rfl) rfl ?_
  intro p e s m below meth c A C
  refine hg_iload_n C dX5_has_0 rfl 0 rfl ?_
  refine hg_iload_n C dX5_has_1 rfl 1 rfl ?_
  refine hg_ishr C dX5_has_2 ?_
  refine hg_iconst C (v := 1) dX5_has_3 (by decide) ?_
  refine hg_iand C dX5_has_4 ?_
  refine hg_if_eq C (tgt := 12) dX5_has_5 (by decide) (fun c1 => ?_) (fun c1 => ?_)
  · refine hg_iconst C (v := 0) dX5_has_12 (by decide) ?_
    have e9 : (fX5_has a b) = 0 := (hid_eq _).trans ((if_pos c1).trans rfl)
    rw [e9]
    exact hg_zret C dX5_has_13 rfl rfl rfl
  · refine hg_iconst C (v := 1) dX5_has_8 (by decide) ?_
    refine hg_goto C (tgt := 13) dX5_has_9 (by decide) ?_
    have e9 : (fX5_has a b) = 1 := (hid_eq _).trans ((if_neg c1).trans rfl)
    rw [e9]
    exact hg_zret C dX5_has_13 rfl rfl rfl
theorem bbX5_has (a : Int32) (b : Int32) : (fX5_has a b) = 0 ∨ (fX5_has a b) = 1 := by
  unfold fX5_has
  rw [hid_eq]
  (repeat' split) <;> first | exact Or.inl rfl | exact Or.inr rfl
abbrev rmX5_power : Room := { frames := 0, cells := 0, slots := 0, locals := 0 }
theorem hfX5_power : hCF yX5_power wsX5_power rmX5_power cX5_power 4 (some .int) 2 := ⟨⟨_, rfl⟩, by decide +kernel, rfl, rfl⟩
noncomputable def stX5_power_4 (a : Int32) (i : Nat) (σ : Int32) : Int32 := hid (σ * a)
set_option maxHeartbeats 4000000 in
set_option maxRecDepth 100000 in
theorem lpX5_power_4 {p : Program} {l : Launch} {e : Env} {s : State} {m : MethodId} {args : Array Value} {below : List Frame} {meth : Method} {c : Code} {E : hE} {A : Nat → Prop} {Q : State → Prop} (C : hX p s m args meth c E A cX5_power 4 RX5 wsX5_power (some .int)) (a : Int32) (b : Int32) (σ0 : Int32) (k : hG p l e rmX5_power s m args below meth c E A 4 Q 0 0 19 [(2, .int (itN (stX5_power_4 a) b.toNatClampNeg σ0))] [] []) : ∀ (n i : Nat) (σ : Int32), i + n = b.toNatClampNeg → σ = itN (stX5_power_4 a) i σ0 → hG p l e rmX5_power s m args below meth c E A 4 Q 0 0 4 [(0, .int a), (1, .int b), (2, .int σ), (3, .int (nI i))] [] [] := by
  intro n
  induction n with
  | zero =>
    intro i σ hi hσ
    have hi : i = b.toNatClampNeg := by omega
    rw [hi] at hσ
    rw [hi]
    subst hσ
    refine hg_iload_n C dX5_power_4 rfl 3 rfl ?_
    refine hg_iload_n C dX5_power_5 rfl 1 rfl ?_
    refine hg_icmp_ge C (tgt := 19) dX5_power_6 (by decide) (fun _ => ?_) (fun h => absurd (cl_done _) h)
    exact hg_sub [2] rfl k
  | succ n ih =>
    intro i σ hi hσ
    have hlt : i < b.toNatClampNeg := by omega
    refine hg_iload_n C dX5_power_4 rfl 3 rfl ?_
    refine hg_iload_n C dX5_power_5 rfl 1 rfl ?_
    refine hg_icmp_ge C (tgt := 19) dX5_power_6 (by decide) (fun h => absurd h (cl_cont hlt)) (fun _ => ?_)
    refine hg_iload_n C dX5_power_9 rfl 2 rfl ?_
    refine hg_iload_n C dX5_power_10 rfl 0 rfl ?_
    refine hg_imul C dX5_power_11 ?_
    refine hg_istore_n C (lv' := [(2, .int (σ * a)), (0, .int a), (1, .int b), (3, .int (nI i))]) dX5_power_12 rfl (by decide) rfl ?_
    refine hg_iinc C (v := nI (i + 1)) (lv' := [(3, .int (nI (i + 1))), (2, .int (σ * a)), (0, .int a), (1, .int b)]) dX5_power_13 3 rfl (nI_inc _) (by decide) rfl ?_
    refine hg_goto C (tgt := 4) dX5_power_16 (by decide) ?_
    have e9 : (stX5_power_4 a) i σ = σ * a := hid_eq _
    have h9 := ih (i + 1) (σ * a) (by omega) (e9.symm.trans (congrArg ((stX5_power_4 a) i) hσ))
    exact hg_sub [2, 3, 1, 0] rfl h9
noncomputable def fX5_power (a : Int32) (b : Int32) : Int32 := hid ((itN (stX5_power_4 a) b.toNatClampNeg 1))
set_option maxHeartbeats 4000000 in
set_option maxRecDepth 100000 in
theorem kX5_power (l : Launch) (E : hE) (a : Int32) (b : Int32) : hC l yX5_power wsX5_power rmX5_power E [.int a, .int b] [] (some (.int (fX5_power a b))) [] := by
  refine hC_intro (cc := cX5_power) (maxL := 4) (ret := (some .int)) (lv0 := [(0, .int a), (1, .int b)]) (by decide) rfl (Nat.le_of_ble_eq_true rfl) rfl ?_
  intro p e s m below meth c A C
  refine hg_iconst C (v := 1) dX5_power_0 (by decide) ?_
  refine hg_istore_n C (lv' := [(2, .int 1), (0, .int a), (1, .int b)]) dX5_power_1 rfl (by decide) rfl ?_
  refine hg_iconst C (v := 0) dX5_power_2 (by decide) ?_
  refine hg_istore_n C (lv' := [(3, .int 0), (2, .int 1), (0, .int a), (1, .int b)]) dX5_power_3 rfl (by decide) rfl ?_
  refine hg_sub [2, 3, 1, 0] rfl ?_
  refine lpX5_power_4 C a b 1 ?_ b.toNatClampNeg 0 1 (by omega) rfl
  refine hg_iload_n C dX5_power_19 rfl 0 rfl ?_
  have e9 : (fX5_power a b) = (itN (stX5_power_4 a) b.toNatClampNeg 1) := hid_eq _
  rw [e9]
  exact hg_iret C dX5_power_20 rfl rfl
abbrev rmX5_isRow : Room := { frames := 1, cells := 0, slots := 0, locals := 23 }
theorem hfX5_isRow : hCF yX5_isRow wsX5_isRow rmX5_isRow cX5_isRow 2 (some .boolean) 2 := ⟨⟨_, rfl⟩, by decide +kernel, rfl, rfl⟩
noncomputable def fX5_isRow (a : Int32) (b : Int32) : Int32 := hid (if b < 0 then 0 else if (fX5_power 10 a) ≤ b then 0 else 1)
set_option maxHeartbeats 4000000 in
set_option maxRecDepth 100000 in
theorem kX5_isRow (l : Launch) (E : hE) (a : Int32) (b : Int32) : hC l yX5_isRow wsX5_isRow rmX5_isRow E [.int a, .int b] [] (some (.int (fX5_isRow a b))) [] := by
  refine hC_intro (cc := cX5_isRow) (maxL := 2) (ret := (some .boolean)) (lv0 := [(0, .int a), (1, .int b)]) (by decide) rfl (Nat.le_of_ble_eq_true rfl) rfl ?_
  intro p e s m below meth c A C
  refine hg_iload_n C dX5_isRow_0 rfl 1 rfl ?_
  refine hg_if_lt C (tgt := 18) dX5_isRow_1 (by decide) (fun c1 => ?_) (fun c1 => ?_)
  · refine hg_iconst C (v := 0) dX5_isRow_18 (by decide) ?_
    have e9 : (fX5_isRow a b) = 0 := (hid_eq _).trans ((if_pos c1).trans rfl)
    rw [e9]
    exact hg_zret C dX5_isRow_19 rfl rfl rfl
  · refine hg_iload_n C dX5_isRow_4 rfl 1 rfl ?_
    refine hg_bipush C (v := 10) dX5_isRow_5 (by decide) ?_
    refine hg_iload_n C dX5_isRow_7 rfl 0 rfl ?_
    refine hg_callS C (ws' := []) (rest := [.int b]) (kX5_power l E 10 a) hfX5_power gX5_isRow_X5_power ⟨Nat.le_of_ble_eq_true rfl, Nat.le_of_ble_eq_true rfl⟩ ⟨Nat.zero_le _, Nat.zero_le _⟩ [] rfl (by decide) [] rfl rfl rfl rfl (Nat.le_of_ble_eq_true rfl) dX5_isRow_8 ?_
    refine hg_icmp_ge C (tgt := 18) dX5_isRow_11 (by decide) (fun c2 => ?_) (fun c2 => ?_)
    · refine hg_iconst C (v := 0) dX5_isRow_18 (by decide) ?_
      have e9 : (fX5_isRow a b) = 0 := (hid_eq _).trans ((if_neg c1).trans ((if_pos c2).trans rfl))
      rw [e9]
      exact hg_zret C dX5_isRow_19 rfl rfl rfl
    · refine hg_iconst C (v := 1) dX5_isRow_14 (by decide) ?_
      refine hg_goto C (tgt := 19) dX5_isRow_15 (by decide) ?_
      have e9 : (fX5_isRow a b) = 1 := (hid_eq _).trans ((if_neg c1).trans ((if_neg c2).trans rfl))
      rw [e9]
      exact hg_zret C dX5_isRow_19 rfl rfl rfl
theorem bbX5_isRow (a : Int32) (b : Int32) : (fX5_isRow a b) = 0 ∨ (fX5_isRow a b) = 1 := by
  unfold fX5_isRow
  rw [hid_eq]
  (repeat' split) <;> first | exact Or.inl rfl | exact Or.inr rfl
abbrev rmX5_figureAt : Room := { frames := 0, cells := 0, slots := 0, locals := 0 }
theorem hfX5_figureAt : hCF yX5_figureAt wsX5_figureAt rmX5_figureAt cX5_figureAt 5 (some .int) 3 := ⟨⟨_, rfl⟩, by decide +kernel, rfl, rfl⟩
noncomputable def stX5_figureAt_7  (i : Nat) (σ : Int32) : Int32 := hid (σ / 10)
set_option maxHeartbeats 4000000 in
set_option maxRecDepth 100000 in
theorem lpX5_figureAt_7 {p : Program} {l : Launch} {e : Env} {s : State} {m : MethodId} {args : Array Value} {below : List Frame} {meth : Method} {c : Code} {E : hE} {A : Nat → Prop} {Q : State → Prop} (C : hX p s m args meth c E A cX5_figureAt 5 RX5 wsX5_figureAt (some .int)) (a : Int32) (b : Int32) (q : Int32) (hn : vp_in a 10) (hq : ¬ q < 0) (hp : ¬ a ≤ q) (σ0 : Int32) (k : hG p l e rmX5_figureAt s m args below meth c E A 5 Q 0 0 24 [(3, .int (itN stX5_figureAt_7 (a.toNatClampNeg - 1 - q.toNatClampNeg) σ0))] [] []) : ∀ (n i : Nat) (σ : Int32), i + n = (a.toNatClampNeg - 1 - q.toNatClampNeg) → σ = itN stX5_figureAt_7 i σ0 → hG p l e rmX5_figureAt s m args below meth c E A 5 Q 0 0 7 [(2, .int q), (3, .int σ), (4, .int (dcr (a - 1) i))] [] [] := by
  intro n
  induction n with
  | zero =>
    intro i σ hi hσ
    have hi : i = (a.toNatClampNeg - 1 - q.toNatClampNeg) := by omega
    rw [hi] at hσ
    rw [hi]
    subst hσ
    refine hg_iload C dX5_figureAt_7 2 rfl ?_
    refine hg_iload_n C dX5_figureAt_9 rfl 0 rfl ?_
    refine hg_icmp_le C (tgt := 24) dX5_figureAt_10 (by decide) (fun _ => ?_) (fun h => absurd (fa_done hn hq hp) h)
    exact hg_sub [1] rfl k
  | succ n ih =>
    intro i σ hi hσ
    have hlt : i < (a.toNatClampNeg - 1 - q.toNatClampNeg) := by omega
    refine hg_iload C dX5_figureAt_7 2 rfl ?_
    refine hg_iload_n C dX5_figureAt_9 rfl 0 rfl ?_
    refine hg_icmp_le C (tgt := 24) dX5_figureAt_10 (by decide) (fun h => absurd h (fa_cont hn hq hp hlt)) (fun _ => ?_)
    refine hg_iload_n C dX5_figureAt_13 rfl 1 rfl ?_
    refine hg_bipush C (v := 10) dX5_figureAt_14 (by decide) ?_
    refine hg_idiv C dX5_figureAt_16 (by decide) ?_
    refine hg_istore_n C (lv' := [(3, .int (σ / 10)), (2, .int q), (4, .int (dcr (a - 1) i))]) dX5_figureAt_17 rfl (by decide) rfl ?_
    refine hg_iinc C (v := dcr (a - 1) (i + 1)) (lv' := [(4, .int (dcr (a - 1) (i + 1))), (3, .int (σ / 10)), (2, .int q)]) dX5_figureAt_18 2 rfl rfl (by decide) rfl ?_
    refine hg_goto C (tgt := 7) dX5_figureAt_21 (by decide) ?_
    have e9 : stX5_figureAt_7 i σ = σ / 10 := hid_eq _
    have h9 := ih (i + 1) (σ / 10) (by omega) (e9.symm.trans (congrArg (stX5_figureAt_7 i) hσ))
    exact hg_sub [2, 1, 0] rfl h9
noncomputable def fX5_figureAt (a : Int32) (b : Int32) (q : Int32) : Int32 := hid ((itN stX5_figureAt_7 (a.toNatClampNeg - 1 - q.toNatClampNeg) b) - (itN stX5_figureAt_7 (a.toNatClampNeg - 1 - q.toNatClampNeg) b) / 10 * 10)
set_option maxHeartbeats 4000000 in
set_option maxRecDepth 100000 in
theorem kX5_figureAt (l : Launch) (E : hE) (a : Int32) (b : Int32) (q : Int32) (hn : vp_in a 10) (hq : ¬ q < 0) (hp : ¬ a ≤ q) : hC l yX5_figureAt wsX5_figureAt rmX5_figureAt E [.int a, .int b, .int q] [] (some (.int (fX5_figureAt a b q))) [] := by
  refine hC_intro (cc := cX5_figureAt) (maxL := 5) (ret := (some .int)) (lv0 := [(0, .int a), (1, .int b), (2, .int q)]) (by decide) rfl (Nat.le_of_ble_eq_true rfl) rfl ?_
  intro p e s m below meth c A C
  refine hg_iload_n C dX5_figureAt_0 rfl 1 rfl ?_
  refine hg_istore_n C (lv' := [(3, .int b), (0, .int a), (1, .int b), (2, .int q)]) dX5_figureAt_1 rfl (by decide) rfl ?_
  refine hg_iload_n C dX5_figureAt_2 rfl 1 rfl ?_
  refine hg_iconst C (v := 1) dX5_figureAt_3 (by decide) ?_
  refine hg_isub C dX5_figureAt_4 ?_
  refine hg_istore C (lv' := [(4, .int (a - 1)), (3, .int b), (0, .int a), (1, .int b), (2, .int q)]) dX5_figureAt_5 (by decide) rfl ?_
  refine hg_sub [4, 1, 0] rfl ?_
  refine lpX5_figureAt_7 C a b q hn hq hp b ?_ (a.toNatClampNeg - 1 - q.toNatClampNeg) 0 b (by omega) rfl
  refine hg_iload_n C dX5_figureAt_24 rfl 0 rfl ?_
  refine hg_bipush C (v := 10) dX5_figureAt_25 (by decide) ?_
  refine hg_irem C dX5_figureAt_27 (by decide) ?_
  have e9 : (fX5_figureAt a b q) = (itN stX5_figureAt_7 (a.toNatClampNeg - 1 - q.toNatClampNeg) b) - (itN stX5_figureAt_7 (a.toNatClampNeg - 1 - q.toNatClampNeg) b) / 10 * 10 := hid_eq _
  rw [e9]
  exact hg_iret C dX5_figureAt_28 rfl rfl
abbrev rmX5_gainOf : Room := { frames := 0, cells := 0, slots := 0, locals := 0 }
theorem hfX5_gainOf : hCF yX5_gainOf wsX5_gainOf rmX5_gainOf cX5_gainOf 4 (some .int) 3 := ⟨⟨_, rfl⟩, by decide +kernel, rfl, rfl⟩
noncomputable def fX5_gainOf (a : Int32) (b : Int32) (q : Int32) : Int32 := hid ((if b ≤ q then (if b = q then a else (0 : Int32)) else (2 * a)) - (b * b))
set_option maxHeartbeats 4000000 in
set_option maxRecDepth 100000 in
theorem kX5_gainOf (l : Launch) (E : hE) (a : Int32) (b : Int32) (q : Int32) : hC l yX5_gainOf wsX5_gainOf rmX5_gainOf E [.int a, .int b, .int q] [] (some (.int (fX5_gainOf a b q))) [] := by
  refine hC_intro (cc := cX5_gainOf) (maxL := 4) (ret := (some .int)) (lv0 := [(0, .int a), (1, .int b), (2, .int q)]) (by decide) rfl (Nat.le_of_ble_eq_true rfl) rfl ?_
  intro p e s m below meth c A C
  refine hg_iload_n C dX5_gainOf_0 rfl 1 rfl ?_
  refine hg_iload_n C dX5_gainOf_1 rfl 2 rfl ?_
  refine hg_join (J := 21) (v := if b ≤ q then (if b = q then a else (0 : Int32)) else (2 * a)) (st1 := []) (fun jj => ?_) ?_
  · refine hg_icmp_le C (tgt := 11) dX5_gainOf_2 (by decide) (fun c1 => ?_) (fun c1 => ?_)
    · refine hg_iload_n C dX5_gainOf_11 rfl 1 rfl ?_
      refine hg_iload_n C dX5_gainOf_12 rfl 2 rfl ?_
      refine hg_join (J := 21) (v := if b = q then a else (0 : Int32)) (st1 := []) (fun jj => ?_) ?_
      · refine hg_icmp_ne C (tgt := 20) dX5_gainOf_13 (by decide) (fun c2 => ?_) (fun c2 => ?_)
        · refine hg_iconst C (v := 0) dX5_gainOf_20 (by decide) ?_
          exact hg_top (v := if b = q then a else (0 : Int32)) (v' := 0) ((if_neg c2).trans rfl) jj
        · refine hg_iload_n C dX5_gainOf_16 rfl 0 rfl ?_
          refine hg_goto C (tgt := 21) dX5_gainOf_17 (by decide) ?_
          exact hg_top (v := if b = q then a else (0 : Int32)) (v' := a) ((if_pos c2).trans rfl) jj
      exact hg_top (v := if b ≤ q then (if b = q then a else (0 : Int32)) else (2 * a)) (v' := if b = q then a else (0 : Int32)) ((if_pos c1).trans rfl) jj
    · refine hg_iconst C (v := 2) dX5_gainOf_5 (by decide) ?_
      refine hg_iload_n C dX5_gainOf_6 rfl 0 rfl ?_
      refine hg_imul C dX5_gainOf_7 ?_
      refine hg_goto C (tgt := 21) dX5_gainOf_8 (by decide) ?_
      exact hg_top (v := if b ≤ q then (if b = q then a else (0 : Int32)) else (2 * a)) (v' := 2 * a) ((if_neg c1).trans rfl) jj
  refine hg_istore_n C (lv' := [(3, .int (if b ≤ q then (if b = q then a else (0 : Int32)) else (2 * a))), (0, .int a), (1, .int b), (2, .int q)]) dX5_gainOf_21 rfl (by decide) rfl ?_
  refine hg_iload_n C dX5_gainOf_22 rfl 0 rfl ?_
  refine hg_iload_n C dX5_gainOf_23 rfl 2 rfl ?_
  refine hg_iload_n C dX5_gainOf_24 rfl 2 rfl ?_
  refine hg_imul C dX5_gainOf_25 ?_
  refine hg_isub C dX5_gainOf_26 ?_
  have e9 : (fX5_gainOf a b q) = (if b ≤ q then (if b = q then a else (0 : Int32)) else (2 * a)) - (b * b) := hid_eq _
  rw [e9]
  exact hg_iret C dX5_gainOf_27 rfl rfl
abbrev rmX5_isContent : Room := { frames := 1, cells := 0, slots := 0, locals := 23 }
theorem hfX5_isContent : hCF yX5_isContent wsX5_isContent rmX5_isContent cX5_isContent 4 (some .boolean) 3 := ⟨⟨_, rfl⟩, by decide +kernel, rfl, rfl⟩
noncomputable def frX5_isContent_2 (a : Int32) (b : Int32) (q : Int32) : Nat → Nat → Unit → Int32
  | 0, _, σ => 0
  | n + 1, i, σ => hid (if (5 : Int32) < (nI i) then 1 else if (fX5_gainOf a (nI i) q) ≤ (fX5_gainOf a b q) then (frX5_isContent_2 a b q) n (i + 1) () else 0)
set_option maxHeartbeats 4000000 in
set_option maxRecDepth 100000 in
theorem lpX5_isContent_2 {p : Program} {l : Launch} {e : Env} {s : State} {m : MethodId} {args : Array Value} {below : List Frame} {meth : Method} {c : Code} {E : hE} {A : Nat → Prop} (C : hX p s m args meth c E A cX5_isContent 4 RX5 wsX5_isContent (some .boolean)) (a : Int32) (b : Int32) (q : Int32) : ∀ (n i : Nat) (σ : Unit), i + n = 6 + 1 → i ≤ 6 → hG p l e rmX5_isContent s m args below meth c E A 4 (hQ E A below args s (some (.int ((frX5_isContent_2 a b q) n i σ))) []) 0 0 2 [(0, .int a), (1, .int b), (2, .int q), (3, .int (nI i))] [] [] := by
  intro n
  induction n with
  | zero =>
    intro i σ hi hiN
    exact absurd hi (by omega)
  | succ n ih =>
    intro i σ hi hiN
    refine hg_iload_n C dX5_isContent_2 rfl 3 rfl ?_
    refine hg_iconst C (v := 5) dX5_isContent_3 (by decide) ?_
    refine hg_icmp_gt C (tgt := 30) dX5_isContent_4 (by decide) (fun c3 => ?_) (fun c3 => ?_)
    · refine hg_iconst C (v := 1) dX5_isContent_30 (by decide) ?_
      have e9 : (frX5_isContent_2 a b q) (n + 1) i σ = 1 := (hid_eq _).trans ((if_pos c3).trans rfl)
      rw [e9]
      exact hg_zret C dX5_isContent_31 rfl rfl rfl
    · refine hg_iload_n C dX5_isContent_7 rfl 0 rfl ?_
      refine hg_iload_n C dX5_isContent_8 rfl 3 rfl ?_
      refine hg_iload_n C dX5_isContent_9 rfl 2 rfl ?_
      refine hg_callS C (ws' := []) (rest := []) (kX5_gainOf l E a (nI i) q) hfX5_gainOf gX5_isContent_X5_gainOf ⟨Nat.le_of_ble_eq_true rfl, Nat.le_of_ble_eq_true rfl⟩ ⟨Nat.zero_le _, Nat.zero_le _⟩ [] rfl (by decide) [] rfl rfl rfl rfl (Nat.le_of_ble_eq_true rfl) dX5_isContent_10 ?_
      refine hg_iload_n C dX5_isContent_13 rfl 0 rfl ?_
      refine hg_iload_n C dX5_isContent_14 rfl 1 rfl ?_
      refine hg_iload_n C dX5_isContent_15 rfl 2 rfl ?_
      refine hg_callS C (ws' := []) (rest := [.int (fX5_gainOf a (nI i) q)]) (kX5_gainOf l E a b q) hfX5_gainOf gX5_isContent_X5_gainOf ⟨Nat.le_of_ble_eq_true rfl, Nat.le_of_ble_eq_true rfl⟩ ⟨Nat.zero_le _, Nat.zero_le _⟩ [] rfl (by decide) [] rfl rfl rfl rfl (Nat.le_of_ble_eq_true rfl) dX5_isContent_16 ?_
      refine hg_icmp_le C (tgt := 24) dX5_isContent_19 (by decide) (fun c4 => ?_) (fun c4 => ?_)
      · refine hg_iinc C (v := nI (i + 1)) (lv' := [(3, .int (nI (i + 1))), (0, .int a), (1, .int b), (2, .int q)]) dX5_isContent_24 3 rfl (nI_inc _) (by decide) rfl ?_
        refine hg_goto C (tgt := 2) dX5_isContent_27 (by decide) ?_
        have hlt : i < 6 := (lt_nI2 (N := 5) (by omega) (by assumption))
        have e9 : (frX5_isContent_2 a b q) (n + 1) i σ = (frX5_isContent_2 a b q) n (i + 1) () := (hid_eq _).trans ((if_neg c3).trans ((if_pos c4).trans rfl))
        rw [e9]
        exact hg_sub [1, 2, 3, 0] rfl (ih (i + 1) () (by omega) (by omega))
      · refine hg_iconst C (v := 0) dX5_isContent_22 (by decide) ?_
        have e9 : (frX5_isContent_2 a b q) (n + 1) i σ = 0 := (hid_eq _).trans ((if_neg c3).trans ((if_neg c4).trans rfl))
        rw [e9]
        exact hg_zret C dX5_isContent_23 rfl rfl rfl
noncomputable def fX5_isContent (a : Int32) (b : Int32) (q : Int32) : Int32 := hid ((frX5_isContent_2 a b q) (6 + 1) 0 ())
set_option maxHeartbeats 4000000 in
set_option maxRecDepth 100000 in
theorem kX5_isContent (l : Launch) (E : hE) (a : Int32) (b : Int32) (q : Int32) : hC l yX5_isContent wsX5_isContent rmX5_isContent E [.int a, .int b, .int q] [] (some (.int (fX5_isContent a b q))) [] := by
  refine hC_intro (cc := cX5_isContent) (maxL := 4) (ret := (some .boolean)) (lv0 := [(0, .int a), (1, .int b), (2, .int q)]) (by decide) rfl (Nat.le_of_ble_eq_true rfl) rfl ?_
  intro p e s m below meth c A C
  refine hg_iconst C (v := 0) dX5_isContent_0 (by decide) ?_
  refine hg_istore_n C (lv' := [(3, .int 0), (0, .int a), (1, .int b), (2, .int q)]) dX5_isContent_1 rfl (by decide) rfl ?_
  have e9 : (fX5_isContent a b q) = (frX5_isContent_2 a b q) (6 + 1) 0 () := hid_eq _
  rw [e9]
  refine hg_sub [1, 2, 3, 0] rfl ?_
  exact lpX5_isContent_2 C a b q (6 + 1) 0 () (by omega) (by omega)
abbrev rmX5_commonDivisor : Room := { frames := 0, cells := 0, slots := 0, locals := 0 }
theorem hfX5_commonDivisor : hCF yX5_commonDivisor wsX5_commonDivisor rmX5_commonDivisor cX5_commonDivisor 6 (some .int) 2 := ⟨⟨_, rfl⟩, by decide +kernel, rfl, rfl⟩
noncomputable def frX5_commonDivisor_7  : Nat → Nat → (Int32 × Int32) → Int32
  | 0, _, σ => 0
  | n + 1, i, σ => hid (if (64 : Int32) ≤ (nI i) then σ.1 else if σ.2 = 0 then σ.1 else frX5_commonDivisor_7 n (i + 1) (σ.2, σ.1 - σ.1 / σ.2 * σ.2))
set_option maxHeartbeats 4000000 in
set_option maxRecDepth 100000 in
theorem lpX5_commonDivisor_7 {p : Program} {l : Launch} {e : Env} {s : State} {m : MethodId} {args : Array Value} {below : List Frame} {meth : Method} {c : Code} {E : hE} {A : Nat → Prop} (C : hX p s m args meth c E A cX5_commonDivisor 6 RX5 wsX5_commonDivisor (some .int)) (a : Int32) (b : Int32) : ∀ (n i : Nat) (σ : Int32 × Int32), i + n = 64 + 1 → i ≤ 64 → hG p l e rmX5_commonDivisor s m args below meth c E A 6 (hQ E A below args s (some (.int (frX5_commonDivisor_7 n i σ))) []) 0 0 7 [(2, .int σ.1), (3, .int σ.2), (4, .int (nI i))] [] [] := by
  intro n
  induction n with
  | zero =>
    intro i σ hi hiN
    exact absurd hi (by omega)
  | succ n ih =>
    intro i σ hi hiN
    refine hg_iload C dX5_commonDivisor_7 2 rfl ?_
    refine hg_bipush C (v := 64) dX5_commonDivisor_9 (by decide) ?_
    refine hg_icmp_ge C (tgt := 34) dX5_commonDivisor_11 (by decide) (fun c3 => ?_) (fun c3 => ?_)
    · refine hg_iload_n C dX5_commonDivisor_34 rfl 0 rfl ?_
      have e9 : frX5_commonDivisor_7 (n + 1) i σ = σ.1 := (hid_eq _).trans ((if_pos c3).trans rfl)
      rw [e9]
      exact hg_iret C dX5_commonDivisor_35 rfl rfl
    · refine hg_iload_n C dX5_commonDivisor_14 rfl 1 rfl ?_
      refine hg_if_eq C (tgt := 34) dX5_commonDivisor_15 (by decide) (fun c4 => ?_) (fun c4 => ?_)
      · refine hg_iload_n C dX5_commonDivisor_34 rfl 0 rfl ?_
        have e9 : frX5_commonDivisor_7 (n + 1) i σ = σ.1 := (hid_eq _).trans ((if_neg c3).trans ((if_pos c4).trans rfl))
        rw [e9]
        exact hg_iret C dX5_commonDivisor_35 rfl rfl
      · refine hg_iload_n C dX5_commonDivisor_18 rfl 0 rfl ?_
        refine hg_iload_n C dX5_commonDivisor_19 rfl 1 rfl ?_
        refine hg_irem C dX5_commonDivisor_20 (by assumption) ?_
        refine hg_istore C (lv' := [(5, .int (σ.1 - σ.1 / σ.2 * σ.2)), (2, .int σ.1), (3, .int σ.2), (4, .int (nI i))]) dX5_commonDivisor_21 (by decide) rfl ?_
        refine hg_iload_n C dX5_commonDivisor_23 rfl 2 rfl ?_
        refine hg_istore_n C (lv' := [(2, .int σ.2), (5, .int (σ.1 - σ.1 / σ.2 * σ.2)), (3, .int σ.2), (4, .int (nI i))]) dX5_commonDivisor_24 rfl (by decide) rfl ?_
        refine hg_iload C dX5_commonDivisor_25 1 rfl ?_
        refine hg_istore_n C (lv' := [(3, .int (σ.1 - σ.1 / σ.2 * σ.2)), (2, .int σ.2), (5, .int (σ.1 - σ.1 / σ.2 * σ.2)), (4, .int (nI i))]) dX5_commonDivisor_27 rfl (by decide) rfl ?_
        refine hg_iinc C (v := nI (i + 1)) (lv' := [(4, .int (nI (i + 1))), (3, .int (σ.1 - σ.1 / σ.2 * σ.2)), (2, .int σ.2), (5, .int (σ.1 - σ.1 / σ.2 * σ.2))]) dX5_commonDivisor_28 3 rfl (nI_inc _) (by decide) rfl ?_
        refine hg_goto C (tgt := 7) dX5_commonDivisor_31 (by decide) ?_
        have hlt : i < 64 := (lt_nI (by omega) (by assumption))
        have e9 : frX5_commonDivisor_7 (n + 1) i σ = frX5_commonDivisor_7 n (i + 1) (σ.2, σ.1 - σ.1 / σ.2 * σ.2) := (hid_eq _).trans ((if_neg c3).trans ((if_neg c4).trans rfl))
        rw [e9]
        exact hg_sub [2, 1, 0] rfl (ih (i + 1) (σ.2, σ.1 - σ.1 / σ.2 * σ.2) (by omega) (by omega))
noncomputable def fX5_commonDivisor (a : Int32) (b : Int32) : Int32 := hid (frX5_commonDivisor_7 (64 + 1) 0 (a, b))
set_option maxHeartbeats 4000000 in
set_option maxRecDepth 100000 in
theorem kX5_commonDivisor (l : Launch) (E : hE) (a : Int32) (b : Int32) : hC l yX5_commonDivisor wsX5_commonDivisor rmX5_commonDivisor E [.int a, .int b] [] (some (.int (fX5_commonDivisor a b))) [] := by
  refine hC_intro (cc := cX5_commonDivisor) (maxL := 6) (ret := (some .int)) (lv0 := [(0, .int a), (1, .int b)]) (by decide) rfl (Nat.le_of_ble_eq_true rfl) rfl ?_
  intro p e s m below meth c A C
  refine hg_iload_n C dX5_commonDivisor_0 rfl 0 rfl ?_
  refine hg_istore_n C (lv' := [(2, .int a), (0, .int a), (1, .int b)]) dX5_commonDivisor_1 rfl (by decide) rfl ?_
  refine hg_iload_n C dX5_commonDivisor_2 rfl 2 rfl ?_
  refine hg_istore_n C (lv' := [(3, .int b), (2, .int a), (0, .int a), (1, .int b)]) dX5_commonDivisor_3 rfl (by decide) rfl ?_
  refine hg_iconst C (v := 0) dX5_commonDivisor_4 (by decide) ?_
  refine hg_istore C (lv' := [(4, .int 0), (3, .int b), (2, .int a), (0, .int a), (1, .int b)]) dX5_commonDivisor_5 (by decide) rfl ?_
  have e9 : (fX5_commonDivisor a b) = frX5_commonDivisor_7 (64 + 1) 0 (a, b) := hid_eq _
  rw [e9]
  refine hg_sub [2, 1, 0] rfl ?_
  exact lpX5_commonDivisor_7 C a b (64 + 1) 0 (a, b) (by omega) (by omega)
theorem mmJ6_bitCount_0f7a4_k265 : (Cond.constant RJ6 265 (1431655765)) ∈ wsJ6_bitCount_0f7a4 := (List.mem_cons_of_mem _ (List.mem_of_getElem? (i := 0) rfl))
theorem mmJ6_bitCount_0f7a4_k266 : (Cond.constant RJ6 266 (858993459)) ∈ wsJ6_bitCount_0f7a4 := (List.mem_cons_of_mem _ (List.mem_of_getElem? (i := 1) rfl))
theorem mmJ6_bitCount_0f7a4_k267 : (Cond.constant RJ6 267 (252645135)) ∈ wsJ6_bitCount_0f7a4 := (List.mem_cons_of_mem _ (List.mem_of_getElem? (i := 2) rfl))
abbrev rmJ6_bitCount_0f7a4 : Room := { frames := 0, cells := 0, slots := 0, locals := 0 }
theorem hfJ6_bitCount_0f7a4 : hCF yJ6_bitCount_0f7a4 wsJ6_bitCount_0f7a4 rmJ6_bitCount_0f7a4 cJ6_bitCount_0f7a4 1 (some .int) 1 := ⟨⟨_, rfl⟩, by decide +kernel, rfl, rfl⟩
noncomputable def fJ6_bitCount_0f7a4 (a : Int32) : Int32 := hid ((((((((a - (((a.toUInt32 >>> ((1 : Int32).toUInt32 &&& Int32.toUInt32 31)).toInt32) &&& 1431655765)) &&& 858993459) + ((((a - (((a.toUInt32 >>> ((1 : Int32).toUInt32 &&& Int32.toUInt32 31)).toInt32) &&& 1431655765)).toUInt32 >>> ((2 : Int32).toUInt32 &&& Int32.toUInt32 31)).toInt32) &&& 858993459)) + (((((a - (((a.toUInt32 >>> ((1 : Int32).toUInt32 &&& Int32.toUInt32 31)).toInt32) &&& 1431655765)) &&& 858993459) + ((((a - (((a.toUInt32 >>> ((1 : Int32).toUInt32 &&& Int32.toUInt32 31)).toInt32) &&& 1431655765)).toUInt32 >>> ((2 : Int32).toUInt32 &&& Int32.toUInt32 31)).toInt32) &&& 858993459)).toUInt32 >>> ((4 : Int32).toUInt32 &&& Int32.toUInt32 31)).toInt32)) &&& 252645135) + (((((((a - (((a.toUInt32 >>> ((1 : Int32).toUInt32 &&& Int32.toUInt32 31)).toInt32) &&& 1431655765)) &&& 858993459) + ((((a - (((a.toUInt32 >>> ((1 : Int32).toUInt32 &&& Int32.toUInt32 31)).toInt32) &&& 1431655765)).toUInt32 >>> ((2 : Int32).toUInt32 &&& Int32.toUInt32 31)).toInt32) &&& 858993459)) + (((((a - (((a.toUInt32 >>> ((1 : Int32).toUInt32 &&& Int32.toUInt32 31)).toInt32) &&& 1431655765)) &&& 858993459) + ((((a - (((a.toUInt32 >>> ((1 : Int32).toUInt32 &&& Int32.toUInt32 31)).toInt32) &&& 1431655765)).toUInt32 >>> ((2 : Int32).toUInt32 &&& Int32.toUInt32 31)).toInt32) &&& 858993459)).toUInt32 >>> ((4 : Int32).toUInt32 &&& Int32.toUInt32 31)).toInt32)) &&& 252645135).toUInt32 >>> ((8 : Int32).toUInt32 &&& Int32.toUInt32 31)).toInt32)) + ((((((((a - (((a.toUInt32 >>> ((1 : Int32).toUInt32 &&& Int32.toUInt32 31)).toInt32) &&& 1431655765)) &&& 858993459) + ((((a - (((a.toUInt32 >>> ((1 : Int32).toUInt32 &&& Int32.toUInt32 31)).toInt32) &&& 1431655765)).toUInt32 >>> ((2 : Int32).toUInt32 &&& Int32.toUInt32 31)).toInt32) &&& 858993459)) + (((((a - (((a.toUInt32 >>> ((1 : Int32).toUInt32 &&& Int32.toUInt32 31)).toInt32) &&& 1431655765)) &&& 858993459) + ((((a - (((a.toUInt32 >>> ((1 : Int32).toUInt32 &&& Int32.toUInt32 31)).toInt32) &&& 1431655765)).toUInt32 >>> ((2 : Int32).toUInt32 &&& Int32.toUInt32 31)).toInt32) &&& 858993459)).toUInt32 >>> ((4 : Int32).toUInt32 &&& Int32.toUInt32 31)).toInt32)) &&& 252645135) + (((((((a - (((a.toUInt32 >>> ((1 : Int32).toUInt32 &&& Int32.toUInt32 31)).toInt32) &&& 1431655765)) &&& 858993459) + ((((a - (((a.toUInt32 >>> ((1 : Int32).toUInt32 &&& Int32.toUInt32 31)).toInt32) &&& 1431655765)).toUInt32 >>> ((2 : Int32).toUInt32 &&& Int32.toUInt32 31)).toInt32) &&& 858993459)) + (((((a - (((a.toUInt32 >>> ((1 : Int32).toUInt32 &&& Int32.toUInt32 31)).toInt32) &&& 1431655765)) &&& 858993459) + ((((a - (((a.toUInt32 >>> ((1 : Int32).toUInt32 &&& Int32.toUInt32 31)).toInt32) &&& 1431655765)).toUInt32 >>> ((2 : Int32).toUInt32 &&& Int32.toUInt32 31)).toInt32) &&& 858993459)).toUInt32 >>> ((4 : Int32).toUInt32 &&& Int32.toUInt32 31)).toInt32)) &&& 252645135).toUInt32 >>> ((8 : Int32).toUInt32 &&& Int32.toUInt32 31)).toInt32)).toUInt32 >>> ((16 : Int32).toUInt32 &&& Int32.toUInt32 31)).toInt32)) &&& 63)
set_option maxHeartbeats 4000000 in
set_option maxRecDepth 100000 in
theorem kJ6_bitCount_0f7a4 (l : Launch) (E : hE) (a : Int32) : hC l yJ6_bitCount_0f7a4 wsJ6_bitCount_0f7a4 rmJ6_bitCount_0f7a4 E [.int a] [] (some (.int (fJ6_bitCount_0f7a4 a))) [] := by
  refine hC_intro (cc := cJ6_bitCount_0f7a4) (maxL := 1) (ret := (some .int)) (lv0 := [(0, .int a)]) (by decide) rfl (Nat.le_of_ble_eq_true rfl) rfl ?_
  intro p e s m below meth c A C
  refine hg_iload_n C dJ6_bitCount_0f7a4_0 rfl 0 rfl ?_
  refine hg_iload_n C dJ6_bitCount_0f7a4_1 rfl 0 rfl ?_
  refine hg_iconst C (v := 1) dJ6_bitCount_0f7a4_2 (by decide) ?_
  refine hg_iushr C dJ6_bitCount_0f7a4_3 ?_
  refine hg_ldcw C mmJ6_bitCount_0f7a4_k265 dJ6_bitCount_0f7a4_4 ?_
  refine hg_iand C dJ6_bitCount_0f7a4_7 ?_
  refine hg_isub C dJ6_bitCount_0f7a4_8 ?_
  refine hg_istore_n C (lv' := [(0, .int (a - (((a.toUInt32 >>> ((1 : Int32).toUInt32 &&& Int32.toUInt32 31)).toInt32) &&& 1431655765)))]) dJ6_bitCount_0f7a4_9 rfl (by decide) rfl ?_
  refine hg_iload_n C dJ6_bitCount_0f7a4_10 rfl 0 rfl ?_
  refine hg_ldcw C mmJ6_bitCount_0f7a4_k266 dJ6_bitCount_0f7a4_11 ?_
  refine hg_iand C dJ6_bitCount_0f7a4_14 ?_
  refine hg_iload_n C dJ6_bitCount_0f7a4_15 rfl 0 rfl ?_
  refine hg_iconst C (v := 2) dJ6_bitCount_0f7a4_16 (by decide) ?_
  refine hg_iushr C dJ6_bitCount_0f7a4_17 ?_
  refine hg_ldcw C mmJ6_bitCount_0f7a4_k266 dJ6_bitCount_0f7a4_18 ?_
  refine hg_iand C dJ6_bitCount_0f7a4_21 ?_
  refine hg_iadd C dJ6_bitCount_0f7a4_22 ?_
  refine hg_istore_n C (lv' := [(0, .int (((a - (((a.toUInt32 >>> ((1 : Int32).toUInt32 &&& Int32.toUInt32 31)).toInt32) &&& 1431655765)) &&& 858993459) + ((((a - (((a.toUInt32 >>> ((1 : Int32).toUInt32 &&& Int32.toUInt32 31)).toInt32) &&& 1431655765)).toUInt32 >>> ((2 : Int32).toUInt32 &&& Int32.toUInt32 31)).toInt32) &&& 858993459)))]) dJ6_bitCount_0f7a4_23 rfl (by decide) rfl ?_
  refine hg_iload_n C dJ6_bitCount_0f7a4_24 rfl 0 rfl ?_
  refine hg_iload_n C dJ6_bitCount_0f7a4_25 rfl 0 rfl ?_
  refine hg_iconst C (v := 4) dJ6_bitCount_0f7a4_26 (by decide) ?_
  refine hg_iushr C dJ6_bitCount_0f7a4_27 ?_
  refine hg_iadd C dJ6_bitCount_0f7a4_28 ?_
  refine hg_ldcw C mmJ6_bitCount_0f7a4_k267 dJ6_bitCount_0f7a4_29 ?_
  refine hg_iand C dJ6_bitCount_0f7a4_32 ?_
  refine hg_istore_n C (lv' := [(0, .int (((((a - (((a.toUInt32 >>> ((1 : Int32).toUInt32 &&& Int32.toUInt32 31)).toInt32) &&& 1431655765)) &&& 858993459) + ((((a - (((a.toUInt32 >>> ((1 : Int32).toUInt32 &&& Int32.toUInt32 31)).toInt32) &&& 1431655765)).toUInt32 >>> ((2 : Int32).toUInt32 &&& Int32.toUInt32 31)).toInt32) &&& 858993459)) + (((((a - (((a.toUInt32 >>> ((1 : Int32).toUInt32 &&& Int32.toUInt32 31)).toInt32) &&& 1431655765)) &&& 858993459) + ((((a - (((a.toUInt32 >>> ((1 : Int32).toUInt32 &&& Int32.toUInt32 31)).toInt32) &&& 1431655765)).toUInt32 >>> ((2 : Int32).toUInt32 &&& Int32.toUInt32 31)).toInt32) &&& 858993459)).toUInt32 >>> ((4 : Int32).toUInt32 &&& Int32.toUInt32 31)).toInt32)) &&& 252645135))]) dJ6_bitCount_0f7a4_33 rfl (by decide) rfl ?_
  refine hg_iload_n C dJ6_bitCount_0f7a4_34 rfl 0 rfl ?_
  refine hg_iload_n C dJ6_bitCount_0f7a4_35 rfl 0 rfl ?_
  refine hg_bipush C (v := 8) dJ6_bitCount_0f7a4_36 (by decide) ?_
  refine hg_iushr C dJ6_bitCount_0f7a4_38 ?_
  refine hg_iadd C dJ6_bitCount_0f7a4_39 ?_
  refine hg_istore_n C (lv' := [(0, .int ((((((a - (((a.toUInt32 >>> ((1 : Int32).toUInt32 &&& Int32.toUInt32 31)).toInt32) &&& 1431655765)) &&& 858993459) + ((((a - (((a.toUInt32 >>> ((1 : Int32).toUInt32 &&& Int32.toUInt32 31)).toInt32) &&& 1431655765)).toUInt32 >>> ((2 : Int32).toUInt32 &&& Int32.toUInt32 31)).toInt32) &&& 858993459)) + (((((a - (((a.toUInt32 >>> ((1 : Int32).toUInt32 &&& Int32.toUInt32 31)).toInt32) &&& 1431655765)) &&& 858993459) + ((((a - (((a.toUInt32 >>> ((1 : Int32).toUInt32 &&& Int32.toUInt32 31)).toInt32) &&& 1431655765)).toUInt32 >>> ((2 : Int32).toUInt32 &&& Int32.toUInt32 31)).toInt32) &&& 858993459)).toUInt32 >>> ((4 : Int32).toUInt32 &&& Int32.toUInt32 31)).toInt32)) &&& 252645135) + (((((((a - (((a.toUInt32 >>> ((1 : Int32).toUInt32 &&& Int32.toUInt32 31)).toInt32) &&& 1431655765)) &&& 858993459) + ((((a - (((a.toUInt32 >>> ((1 : Int32).toUInt32 &&& Int32.toUInt32 31)).toInt32) &&& 1431655765)).toUInt32 >>> ((2 : Int32).toUInt32 &&& Int32.toUInt32 31)).toInt32) &&& 858993459)) + (((((a - (((a.toUInt32 >>> ((1 : Int32).toUInt32 &&& Int32.toUInt32 31)).toInt32) &&& 1431655765)) &&& 858993459) + ((((a - (((a.toUInt32 >>> ((1 : Int32).toUInt32 &&& Int32.toUInt32 31)).toInt32) &&& 1431655765)).toUInt32 >>> ((2 : Int32).toUInt32 &&& Int32.toUInt32 31)).toInt32) &&& 858993459)).toUInt32 >>> ((4 : Int32).toUInt32 &&& Int32.toUInt32 31)).toInt32)) &&& 252645135).toUInt32 >>> ((8 : Int32).toUInt32 &&& Int32.toUInt32 31)).toInt32)))]) dJ6_bitCount_0f7a4_40 rfl (by decide) rfl ?_
  refine hg_iload_n C dJ6_bitCount_0f7a4_41 rfl 0 rfl ?_
  refine hg_iload_n C dJ6_bitCount_0f7a4_42 rfl 0 rfl ?_
  refine hg_bipush C (v := 16) dJ6_bitCount_0f7a4_43 (by decide) ?_
  refine hg_iushr C dJ6_bitCount_0f7a4_45 ?_
  refine hg_iadd C dJ6_bitCount_0f7a4_46 ?_
  refine hg_istore_n C (lv' := [(0, .int (((((((a - (((a.toUInt32 >>> ((1 : Int32).toUInt32 &&& Int32.toUInt32 31)).toInt32) &&& 1431655765)) &&& 858993459) + ((((a - (((a.toUInt32 >>> ((1 : Int32).toUInt32 &&& Int32.toUInt32 31)).toInt32) &&& 1431655765)).toUInt32 >>> ((2 : Int32).toUInt32 &&& Int32.toUInt32 31)).toInt32) &&& 858993459)) + (((((a - (((a.toUInt32 >>> ((1 : Int32).toUInt32 &&& Int32.toUInt32 31)).toInt32) &&& 1431655765)) &&& 858993459) + ((((a - (((a.toUInt32 >>> ((1 : Int32).toUInt32 &&& Int32.toUInt32 31)).toInt32) &&& 1431655765)).toUInt32 >>> ((2 : Int32).toUInt32 &&& Int32.toUInt32 31)).toInt32) &&& 858993459)).toUInt32 >>> ((4 : Int32).toUInt32 &&& Int32.toUInt32 31)).toInt32)) &&& 252645135) + (((((((a - (((a.toUInt32 >>> ((1 : Int32).toUInt32 &&& Int32.toUInt32 31)).toInt32) &&& 1431655765)) &&& 858993459) + ((((a - (((a.toUInt32 >>> ((1 : Int32).toUInt32 &&& Int32.toUInt32 31)).toInt32) &&& 1431655765)).toUInt32 >>> ((2 : Int32).toUInt32 &&& Int32.toUInt32 31)).toInt32) &&& 858993459)) + (((((a - (((a.toUInt32 >>> ((1 : Int32).toUInt32 &&& Int32.toUInt32 31)).toInt32) &&& 1431655765)) &&& 858993459) + ((((a - (((a.toUInt32 >>> ((1 : Int32).toUInt32 &&& Int32.toUInt32 31)).toInt32) &&& 1431655765)).toUInt32 >>> ((2 : Int32).toUInt32 &&& Int32.toUInt32 31)).toInt32) &&& 858993459)).toUInt32 >>> ((4 : Int32).toUInt32 &&& Int32.toUInt32 31)).toInt32)) &&& 252645135).toUInt32 >>> ((8 : Int32).toUInt32 &&& Int32.toUInt32 31)).toInt32)) + ((((((((a - (((a.toUInt32 >>> ((1 : Int32).toUInt32 &&& Int32.toUInt32 31)).toInt32) &&& 1431655765)) &&& 858993459) + ((((a - (((a.toUInt32 >>> ((1 : Int32).toUInt32 &&& Int32.toUInt32 31)).toInt32) &&& 1431655765)).toUInt32 >>> ((2 : Int32).toUInt32 &&& Int32.toUInt32 31)).toInt32) &&& 858993459)) + (((((a - (((a.toUInt32 >>> ((1 : Int32).toUInt32 &&& Int32.toUInt32 31)).toInt32) &&& 1431655765)) &&& 858993459) + ((((a - (((a.toUInt32 >>> ((1 : Int32).toUInt32 &&& Int32.toUInt32 31)).toInt32) &&& 1431655765)).toUInt32 >>> ((2 : Int32).toUInt32 &&& Int32.toUInt32 31)).toInt32) &&& 858993459)).toUInt32 >>> ((4 : Int32).toUInt32 &&& Int32.toUInt32 31)).toInt32)) &&& 252645135) + (((((((a - (((a.toUInt32 >>> ((1 : Int32).toUInt32 &&& Int32.toUInt32 31)).toInt32) &&& 1431655765)) &&& 858993459) + ((((a - (((a.toUInt32 >>> ((1 : Int32).toUInt32 &&& Int32.toUInt32 31)).toInt32) &&& 1431655765)).toUInt32 >>> ((2 : Int32).toUInt32 &&& Int32.toUInt32 31)).toInt32) &&& 858993459)) + (((((a - (((a.toUInt32 >>> ((1 : Int32).toUInt32 &&& Int32.toUInt32 31)).toInt32) &&& 1431655765)) &&& 858993459) + ((((a - (((a.toUInt32 >>> ((1 : Int32).toUInt32 &&& Int32.toUInt32 31)).toInt32) &&& 1431655765)).toUInt32 >>> ((2 : Int32).toUInt32 &&& Int32.toUInt32 31)).toInt32) &&& 858993459)).toUInt32 >>> ((4 : Int32).toUInt32 &&& Int32.toUInt32 31)).toInt32)) &&& 252645135).toUInt32 >>> ((8 : Int32).toUInt32 &&& Int32.toUInt32 31)).toInt32)).toUInt32 >>> ((16 : Int32).toUInt32 &&& Int32.toUInt32 31)).toInt32)))]) dJ6_bitCount_0f7a4_47 rfl (by decide) rfl ?_
  refine hg_iload_n C dJ6_bitCount_0f7a4_48 rfl 0 rfl ?_
  refine hg_bipush C (v := 63) dJ6_bitCount_0f7a4_49 (by decide) ?_
  refine hg_iand C dJ6_bitCount_0f7a4_51 ?_
  have e9 : (fJ6_bitCount_0f7a4 a) = (((((((a - (((a.toUInt32 >>> ((1 : Int32).toUInt32 &&& Int32.toUInt32 31)).toInt32) &&& 1431655765)) &&& 858993459) + ((((a - (((a.toUInt32 >>> ((1 : Int32).toUInt32 &&& Int32.toUInt32 31)).toInt32) &&& 1431655765)).toUInt32 >>> ((2 : Int32).toUInt32 &&& Int32.toUInt32 31)).toInt32) &&& 858993459)) + (((((a - (((a.toUInt32 >>> ((1 : Int32).toUInt32 &&& Int32.toUInt32 31)).toInt32) &&& 1431655765)) &&& 858993459) + ((((a - (((a.toUInt32 >>> ((1 : Int32).toUInt32 &&& Int32.toUInt32 31)).toInt32) &&& 1431655765)).toUInt32 >>> ((2 : Int32).toUInt32 &&& Int32.toUInt32 31)).toInt32) &&& 858993459)).toUInt32 >>> ((4 : Int32).toUInt32 &&& Int32.toUInt32 31)).toInt32)) &&& 252645135) + (((((((a - (((a.toUInt32 >>> ((1 : Int32).toUInt32 &&& Int32.toUInt32 31)).toInt32) &&& 1431655765)) &&& 858993459) + ((((a - (((a.toUInt32 >>> ((1 : Int32).toUInt32 &&& Int32.toUInt32 31)).toInt32) &&& 1431655765)).toUInt32 >>> ((2 : Int32).toUInt32 &&& Int32.toUInt32 31)).toInt32) &&& 858993459)) + (((((a - (((a.toUInt32 >>> ((1 : Int32).toUInt32 &&& Int32.toUInt32 31)).toInt32) &&& 1431655765)) &&& 858993459) + ((((a - (((a.toUInt32 >>> ((1 : Int32).toUInt32 &&& Int32.toUInt32 31)).toInt32) &&& 1431655765)).toUInt32 >>> ((2 : Int32).toUInt32 &&& Int32.toUInt32 31)).toInt32) &&& 858993459)).toUInt32 >>> ((4 : Int32).toUInt32 &&& Int32.toUInt32 31)).toInt32)) &&& 252645135).toUInt32 >>> ((8 : Int32).toUInt32 &&& Int32.toUInt32 31)).toInt32)) + ((((((((a - (((a.toUInt32 >>> ((1 : Int32).toUInt32 &&& Int32.toUInt32 31)).toInt32) &&& 1431655765)) &&& 858993459) + ((((a - (((a.toUInt32 >>> ((1 : Int32).toUInt32 &&& Int32.toUInt32 31)).toInt32) &&& 1431655765)).toUInt32 >>> ((2 : Int32).toUInt32 &&& Int32.toUInt32 31)).toInt32) &&& 858993459)) + (((((a - (((a.toUInt32 >>> ((1 : Int32).toUInt32 &&& Int32.toUInt32 31)).toInt32) &&& 1431655765)) &&& 858993459) + ((((a - (((a.toUInt32 >>> ((1 : Int32).toUInt32 &&& Int32.toUInt32 31)).toInt32) &&& 1431655765)).toUInt32 >>> ((2 : Int32).toUInt32 &&& Int32.toUInt32 31)).toInt32) &&& 858993459)).toUInt32 >>> ((4 : Int32).toUInt32 &&& Int32.toUInt32 31)).toInt32)) &&& 252645135) + (((((((a - (((a.toUInt32 >>> ((1 : Int32).toUInt32 &&& Int32.toUInt32 31)).toInt32) &&& 1431655765)) &&& 858993459) + ((((a - (((a.toUInt32 >>> ((1 : Int32).toUInt32 &&& Int32.toUInt32 31)).toInt32) &&& 1431655765)).toUInt32 >>> ((2 : Int32).toUInt32 &&& Int32.toUInt32 31)).toInt32) &&& 858993459)) + (((((a - (((a.toUInt32 >>> ((1 : Int32).toUInt32 &&& Int32.toUInt32 31)).toInt32) &&& 1431655765)) &&& 858993459) + ((((a - (((a.toUInt32 >>> ((1 : Int32).toUInt32 &&& Int32.toUInt32 31)).toInt32) &&& 1431655765)).toUInt32 >>> ((2 : Int32).toUInt32 &&& Int32.toUInt32 31)).toInt32) &&& 858993459)).toUInt32 >>> ((4 : Int32).toUInt32 &&& Int32.toUInt32 31)).toInt32)) &&& 252645135).toUInt32 >>> ((8 : Int32).toUInt32 &&& Int32.toUInt32 31)).toInt32)).toUInt32 >>> ((16 : Int32).toUInt32 &&& Int32.toUInt32 31)).toInt32)) &&& 63 := hid_eq _
  rw [e9]
  exact hg_iret C dJ6_bitCount_0f7a4_52 rfl rfl
abbrev rmJ7_fill_53178 : Room := { frames := 0, cells := 0, slots := 0, locals := 0 }
theorem hfJ7_fill_53178 : hCF yJ7_fill_53178 wsJ7_fill_53178 rmJ7_fill_53178 cJ7_fill_53178 4 none 2 := ⟨⟨_, rfl⟩, by decide +kernel, rfl, rfl⟩
noncomputable def stJ7_fill_53178_5 (a : Int32) (i : Nat) (σ : (Nat → Int32)) : (Nat → Int32) := hid (upd σ (nI i).toNatClampNeg a)
set_option maxHeartbeats 4000000 in
set_option maxRecDepth 100000 in
theorem lpJ7_fill_53178_5 {p : Program} {l : Launch} {e : Env} {s : State} {m : MethodId} {args : Array Value} {below : List Frame} {meth : Method} {c : Code} {E : hE} {A : Nat → Prop} {Q : State → Prop} (C : hX p s m args meth c E A cJ7_fill_53178 4 RJ7 wsJ7_fill_53178 none) (se : Nat) (pl : Nat → Int32) (a : Int32) (σ0 : (Nat → Int32)) (k : hG p l e rmJ7_fill_53178 s m args below meth c E A 4 Q 0 0 20 [] [] [(se, .inl (E.2.1.1, 4, .inl (itN (stJ7_fill_53178_5 a) 4 σ0)))]) : ∀ (n i : Nat) (σ : (Nat → Int32)), i + n = 4 → σ = itN (stJ7_fill_53178_5 a) i σ0 → hG p l e rmJ7_fill_53178 s m args below meth c E A 4 Q 0 0 5 [(0, .ref se), (1, .int a), (2, .int (nI i)), (3, .int 4)] [] [(se, .inl (E.2.1.1, 4, .inl σ))] := by
  intro n
  induction n with
  | zero =>
    intro i σ hi hσ
    have hi : i = 4 := by omega
    rw [hi] at hσ
    rw [hi]
    subst hσ
    refine hg_iload_n C dJ7_fill_53178_5 rfl 2 rfl ?_
    refine hg_iload_n C dJ7_fill_53178_6 rfl 3 rfl ?_
    refine hg_icmp_ge C (tgt := 20) dJ7_fill_53178_7 (by decide) (fun _ => ?_) (fun h => absurd (by decide) h)
    exact hg_sub [] rfl k
  | succ n ih =>
    intro i σ hi hσ
    have hlt : i < 4 := by omega
    refine hg_iload_n C dJ7_fill_53178_5 rfl 2 rfl ?_
    refine hg_iload_n C dJ7_fill_53178_6 rfl 3 rfl ?_
    refine hg_icmp_ge C (tgt := 20) dJ7_fill_53178_7 (by decide) (fun h => absurd h (nI_ge hlt (by decide))) (fun _ => ?_)
    refine hg_aload_n C dJ7_fill_53178_10 rfl 0 rfl ?_
    refine hg_iload_n C dJ7_fill_53178_11 rfl 2 rfl ?_
    refine hg_iload_n C dJ7_fill_53178_12 rfl 1 rfl ?_
    refine hg_iast C (ws' := [(se, .inl (E.2.1.1, 4, .inl (upd σ (nI i).toNatClampNeg a)))]) 0 rfl (vp_in_nI (by omega) (by decide)) rfl dJ7_fill_53178_13 ?_
    refine hg_iinc C (v := nI (i + 1)) (lv' := [(2, .int (nI (i + 1))), (0, .ref se), (1, .int a), (3, .int 4)]) dJ7_fill_53178_14 2 rfl (nI_inc _) (by decide) rfl ?_
    refine hg_goto C (tgt := 5) dJ7_fill_53178_17 (by decide) ?_
    have e9 : (stJ7_fill_53178_5 a) i σ = upd σ (nI i).toNatClampNeg a := hid_eq _
    have h9 := ih (i + 1) (upd σ (nI i).toNatClampNeg a) (by omega) (e9.symm.trans (congrArg ((stJ7_fill_53178_5 a) i) hσ))
    exact hg_sub [1, 2, 0, 3] rfl h9
noncomputable def fJ7_fill_53178 (pl : Nat → Int32) (a : Int32) : (Nat → Int32) := hid ((itN (stJ7_fill_53178_5 a) 4 pl))
set_option maxHeartbeats 4000000 in
set_option maxRecDepth 100000 in
theorem kJ7_fill_53178 (l : Launch) (E : hE) (se : Nat) (pl : Nat → Int32) (a : Int32) : hC l yJ7_fill_53178 wsJ7_fill_53178 rmJ7_fill_53178 E [.ref se, .int a] [(se, .inl (E.2.1.1, 4, .inl pl))] none [(se, .inl (E.2.1.1, 4, .inl (fJ7_fill_53178 pl a)))] := by
  refine hC_intro (cc := cJ7_fill_53178) (maxL := 4) (ret := none) (lv0 := [(0, .ref se), (1, .int a)]) (by decide) rfl (Nat.le_of_ble_eq_true rfl) rfl ?_
  intro p e s m below meth c A C
  refine hg_iconst C (v := 0) dJ7_fill_53178_0 (by decide) ?_
  refine hg_istore_n C (lv' := [(2, .int 0), (0, .ref se), (1, .int a)]) dJ7_fill_53178_1 rfl (by decide) rfl ?_
  refine hg_aload_n C dJ7_fill_53178_2 rfl 1 rfl ?_
  refine hg_alen C (v := 4) 0 rfl rfl dJ7_fill_53178_3 ?_
  refine hg_istore_n C (lv' := [(3, .int 4), (2, .int 0), (0, .ref se), (1, .int a)]) dJ7_fill_53178_4 rfl (by decide) rfl ?_
  refine hg_sub [2, 3, 1, 0] rfl ?_
  refine lpJ7_fill_53178_5 C se pl a pl ?_ 4 0 pl (by omega) rfl
  have e9 : (fJ7_fill_53178 pl a) = (itN (stJ7_fill_53178_5 a) 4 pl) := hid_eq _
  rw [e9]
  exact hg_vret C dJ7_fill_53178_20 rfl rfl
abbrev rmX2_figureOf : Room := { frames := 0, cells := 0, slots := 0, locals := 0 }
theorem hfX2_figureOf : hCF yX2_figureOf wsX2_figureOf rmX2_figureOf cX2_figureOf 5 (some .int) 4 := ⟨⟨_, rfl⟩, by decide +kernel, rfl, rfl⟩
noncomputable def fpX2_figureOf (a : Int32) (b : Int32) (q : Int32) (pf : Nat → Int32) : Int32 := hid (if ((a * b) + q) < 0 then (0 : Int32) else (if (36 : Int32) ≤ ((a * b) + q) then (0 : Int32) else (pf ((a * b) + q).toNatClampNeg)))
set_option maxHeartbeats 4000000 in
set_option maxRecDepth 100000 in
theorem kpX2_figureOf (l : Launch) (E : hE) (fb : Nat) (a : Int32) (b : Int32) (q : Int32) (pf : Nat → Int32) : hC l yX2_figureOf wsX2_figureOf rmX2_figureOf E [.ref fb, .int a, .int b, .int q] [(fb, .inl (E.2.1.1, 36, .inl pf))] (some (.int (fpX2_figureOf a b q pf))) [(fb, .inl (E.2.1.1, 36, .inl pf))] := by
  refine hC_intro (cc := cX2_figureOf) (maxL := 5) (ret := (some .int)) (lv0 := [(0, .ref fb), (1, .int a), (2, .int b), (3, .int q)]) (by decide) rfl (Nat.le_of_ble_eq_true rfl) rfl ?_
  intro p e s m below meth c A C
  refine hg_iload_n C dX2_figureOf_0 rfl 1 rfl ?_
  refine hg_iload_n C dX2_figureOf_1 rfl 2 rfl ?_
  refine hg_imul C dX2_figureOf_2 ?_
  refine hg_iload_n C dX2_figureOf_3 rfl 3 rfl ?_
  refine hg_iadd C dX2_figureOf_4 ?_
  refine hg_istore C (lv' := [(4, .int ((a * b) + q)), (0, .ref fb), (1, .int a), (2, .int b), (3, .int q)]) dX2_figureOf_5 (by decide) rfl ?_
  refine hg_iload C dX2_figureOf_7 0 rfl ?_
  refine hg_join (J := 27) (v := if ((a * b) + q) < 0 then (0 : Int32) else (if (36 : Int32) ≤ ((a * b) + q) then (0 : Int32) else (pf ((a * b) + q).toNatClampNeg))) (st1 := []) (fun jj => ?_) ?_
  · refine hg_if_lt C (tgt := 26) dX2_figureOf_9 (by decide) (fun c1 => ?_) (fun c1 => ?_)
    · refine hg_iconst C (v := 0) dX2_figureOf_26 (by decide) ?_
      exact hg_top (v := if ((a * b) + q) < 0 then (0 : Int32) else (if (36 : Int32) ≤ ((a * b) + q) then (0 : Int32) else (pf ((a * b) + q).toNatClampNeg))) (v' := 0) ((if_pos c1).trans rfl) jj
    · refine hg_iload C dX2_figureOf_12 0 rfl ?_
      refine hg_aload_n C dX2_figureOf_14 rfl 1 rfl ?_
      refine hg_alen C (v := 36) 0 rfl rfl dX2_figureOf_15 ?_
      refine hg_join (J := 27) (v := if (36 : Int32) ≤ ((a * b) + q) then (0 : Int32) else (pf ((a * b) + q).toNatClampNeg)) (st1 := []) (fun jj => ?_) ?_
      · refine hg_icmp_ge C (tgt := 26) dX2_figureOf_16 (by decide) (fun c2 => ?_) (fun c2 => ?_)
        · refine hg_iconst C (v := 0) dX2_figureOf_26 (by decide) ?_
          exact hg_top (v := if (36 : Int32) ≤ ((a * b) + q) then (0 : Int32) else (pf ((a * b) + q).toNatClampNeg)) (v' := 0) ((if_pos c2).trans rfl) jj
        · refine hg_aload_n C dX2_figureOf_19 rfl 1 rfl ?_
          refine hg_iload C dX2_figureOf_20 0 rfl ?_
          refine hg_iald C 0 rfl (vp_of (N := 36) (n := 36) rfl (by decide) (by assumption) (by assumption)) dX2_figureOf_22 ?_
          refine hg_goto C (tgt := 27) dX2_figureOf_23 (by decide) ?_
          exact hg_top (v := if (36 : Int32) ≤ ((a * b) + q) then (0 : Int32) else (pf ((a * b) + q).toNatClampNeg)) (v' := pf ((a * b) + q).toNatClampNeg) ((if_neg c2).trans rfl) jj
      exact hg_top (v := if ((a * b) + q) < 0 then (0 : Int32) else (if (36 : Int32) ≤ ((a * b) + q) then (0 : Int32) else (pf ((a * b) + q).toNatClampNeg))) (v' := if (36 : Int32) ≤ ((a * b) + q) then (0 : Int32) else (pf ((a * b) + q).toNatClampNeg)) ((if_neg c1).trans rfl) jj
  have e9 : (fpX2_figureOf a b q pf) = if ((a * b) + q) < 0 then (0 : Int32) else (if (36 : Int32) ≤ ((a * b) + q) then (0 : Int32) else (pf ((a * b) + q).toNatClampNeg)) := hid_eq _
  rw [e9]
  exact hg_iret C dX2_figureOf_27 rfl rfl
noncomputable def ftX2_figureOf (a : Int32) (b : Int32) (q : Int32) (tf : Nat → Int32) : Int32 := hid (if ((a * b) + q) < 0 then (0 : Int32) else (if (12 : Int32) ≤ ((a * b) + q) then (0 : Int32) else (tf ((a * b) + q).toNatClampNeg)))
set_option maxHeartbeats 4000000 in
set_option maxRecDepth 100000 in
theorem ktX2_figureOf (l : Launch) (E : hE) (fc : Nat) (a : Int32) (b : Int32) (q : Int32) (tf : Nat → Int32) : hC l yX2_figureOf wsX2_figureOf rmX2_figureOf E [.ref fc, .int a, .int b, .int q] [(fc, .inl (E.2.1.1, 12, .inl tf))] (some (.int (ftX2_figureOf a b q tf))) [(fc, .inl (E.2.1.1, 12, .inl tf))] := by
  refine hC_intro (cc := cX2_figureOf) (maxL := 5) (ret := (some .int)) (lv0 := [(0, .ref fc), (1, .int a), (2, .int b), (3, .int q)]) (by decide) rfl (Nat.le_of_ble_eq_true rfl) rfl ?_
  intro p e s m below meth c A C
  refine hg_iload_n C dX2_figureOf_0 rfl 1 rfl ?_
  refine hg_iload_n C dX2_figureOf_1 rfl 2 rfl ?_
  refine hg_imul C dX2_figureOf_2 ?_
  refine hg_iload_n C dX2_figureOf_3 rfl 3 rfl ?_
  refine hg_iadd C dX2_figureOf_4 ?_
  refine hg_istore C (lv' := [(4, .int ((a * b) + q)), (0, .ref fc), (1, .int a), (2, .int b), (3, .int q)]) dX2_figureOf_5 (by decide) rfl ?_
  refine hg_iload C dX2_figureOf_7 0 rfl ?_
  refine hg_join (J := 27) (v := if ((a * b) + q) < 0 then (0 : Int32) else (if (12 : Int32) ≤ ((a * b) + q) then (0 : Int32) else (tf ((a * b) + q).toNatClampNeg))) (st1 := []) (fun jj => ?_) ?_
  · refine hg_if_lt C (tgt := 26) dX2_figureOf_9 (by decide) (fun c1 => ?_) (fun c1 => ?_)
    · refine hg_iconst C (v := 0) dX2_figureOf_26 (by decide) ?_
      exact hg_top (v := if ((a * b) + q) < 0 then (0 : Int32) else (if (12 : Int32) ≤ ((a * b) + q) then (0 : Int32) else (tf ((a * b) + q).toNatClampNeg))) (v' := 0) ((if_pos c1).trans rfl) jj
    · refine hg_iload C dX2_figureOf_12 0 rfl ?_
      refine hg_aload_n C dX2_figureOf_14 rfl 1 rfl ?_
      refine hg_alen C (v := 12) 0 rfl rfl dX2_figureOf_15 ?_
      refine hg_join (J := 27) (v := if (12 : Int32) ≤ ((a * b) + q) then (0 : Int32) else (tf ((a * b) + q).toNatClampNeg)) (st1 := []) (fun jj => ?_) ?_
      · refine hg_icmp_ge C (tgt := 26) dX2_figureOf_16 (by decide) (fun c2 => ?_) (fun c2 => ?_)
        · refine hg_iconst C (v := 0) dX2_figureOf_26 (by decide) ?_
          exact hg_top (v := if (12 : Int32) ≤ ((a * b) + q) then (0 : Int32) else (tf ((a * b) + q).toNatClampNeg)) (v' := 0) ((if_pos c2).trans rfl) jj
        · refine hg_aload_n C dX2_figureOf_19 rfl 1 rfl ?_
          refine hg_iload C dX2_figureOf_20 0 rfl ?_
          refine hg_iald C 0 rfl (vp_of (N := 12) (n := 12) rfl (by decide) (by assumption) (by assumption)) dX2_figureOf_22 ?_
          refine hg_goto C (tgt := 27) dX2_figureOf_23 (by decide) ?_
          exact hg_top (v := if (12 : Int32) ≤ ((a * b) + q) then (0 : Int32) else (tf ((a * b) + q).toNatClampNeg)) (v' := tf ((a * b) + q).toNatClampNeg) ((if_neg c2).trans rfl) jj
      exact hg_top (v := if ((a * b) + q) < 0 then (0 : Int32) else (if (12 : Int32) ≤ ((a * b) + q) then (0 : Int32) else (tf ((a * b) + q).toNatClampNeg))) (v' := if (12 : Int32) ≤ ((a * b) + q) then (0 : Int32) else (tf ((a * b) + q).toNatClampNeg)) ((if_neg c1).trans rfl) jj
  have e9 : (ftX2_figureOf a b q tf) = if ((a * b) + q) < 0 then (0 : Int32) else (if (12 : Int32) ≤ ((a * b) + q) then (0 : Int32) else (tf ((a * b) + q).toNatClampNeg)) := hid_eq _
  rw [e9]
  exact hg_iret C dX2_figureOf_27 rfl rfl
theorem mmX2_hasPerson_f9 : (Cond.fieldLink RX2 9 "HatRound$Facts" "people" "I") ∈ wsX2_hasPerson := (List.mem_cons_of_mem _ (List.mem_append_left _ (List.mem_of_getElem? (i := 0) rfl)))
theorem mrX2_hasPerson_2 : ∀ w ∈ u_ws RX2 TX2 4, w ∈ wsX2_hasPerson := fun _ h => (List.mem_cons_of_mem _ (List.mem_append_right _ h))
theorem nmX2_38 : (RX2, 38, yX5_isWithin, RX5) ∈ hNM := by decide +kernel
theorem mmX2_hasPerson_wi5 : (Cond.initialized RX5) ∈ wsX2_hasPerson := (List.mem_cons_of_mem _ (List.mem_append_left _ (List.mem_of_getElem? (i := 2) rfl)))
theorem mmX2_hasPerson_wsX5_isWithin : (Cond.static yX5_isWithin) ∈ wsX2_hasPerson := (List.mem_cons_of_mem _ (List.mem_append_left _ (List.mem_of_getElem? (i := 1) rfl)))
abbrev rmX2_hasPerson : Room := { frames := 1, cells := 0, slots := 0, locals := 22 }
theorem hfX2_hasPerson : hCF yX2_hasPerson wsX2_hasPerson rmX2_hasPerson cX2_hasPerson 2 (some .boolean) 1 := ⟨⟨_, rfl⟩, by decide +kernel, rfl, rfl⟩
noncomputable def fX2_hasPerson (pe : Int32) (a : Int32) : Int32 := hid (fX5_isWithin a 0 (pe - 1))
set_option maxHeartbeats 4000000 in
set_option maxRecDepth 100000 in
theorem kX2_hasPerson (l : Launch) (E : hE) (fa : Nat) (fb : Nat) (fc : Nat) (pe : Int32) (tu : Int32) (pf : Nat → Int32) (tf : Nat → Int32) (a : Int32) : hC l yX2_hasPerson wsX2_hasPerson rmX2_hasPerson E [.ref fa, .int a] [(fa, .inr (2, [.int pe, .int tu, .ref fb, .ref fc])), (fb, .inl (E.2.1.1, 36, .inl pf)), (fc, .inl (E.2.1.1, 12, .inl tf))] (some (.int (fX2_hasPerson pe a))) [(fa, .inr (2, [.int pe, .int tu, .ref fb, .ref fc])), (fb, .inl (E.2.1.1, 36, .inl pf)), (fc, .inl (E.2.1.1, 12, .inl tf))] := by
  refine hC_intro (cc := cX2_hasPerson) (maxL := 2) (ret := (some .boolean)) (lv0 := [(0, .ref fa), (1, .int a)]) (by decide) rfl (Nat.le_of_ble_eq_true rfl) rfl ?_
  intro p e s m below meth c A C
  refine hg_iload_n C dX2_hasPerson_0 rfl 1 rfl ?_
  refine hg_iconst C (v := 0) dX2_hasPerson_1 (by decide) ?_
  refine hg_aload_n C dX2_hasPerson_2 rfl 0 rfl ?_
  refine hg_get C (Cn := RX2) (T := TX2) (N := 4) (v := .int pe) mrX2_hasPerson_2 0 rfl rfl 0 (by decide) mmX2_hasPerson_f9 rfl dX2_hasPerson_3 ?_
  refine hg_iconst C (v := 1) dX2_hasPerson_6 (by decide) ?_
  refine hg_isub C dX2_hasPerson_7 ?_
  refine hg_callN C (ws' := [(fa, .inr (2, [.int pe, .int tu, .ref fb, .ref fc])), (fb, .inl (E.2.1.1, 36, .inl pf)), (fc, .inl (E.2.1.1, 12, .inl tf))]) (rest := []) (kX5_isWithin l E a 0 (pe - 1)) hfX5_isWithin gX2_hasPerson_X5_isWithin_n38 nmX2_38 mmX2_hasPerson_wi5 mmX2_hasPerson_wsX5_isWithin ⟨Nat.le_of_ble_eq_true rfl, Nat.le_of_ble_eq_true rfl⟩ ⟨Nat.zero_le _, Nat.zero_le _⟩ [] rfl (by decide) [] rfl rfl rfl rfl (Nat.le_of_ble_eq_true rfl) dX2_hasPerson_8 ?_
  have e9 : (fX2_hasPerson pe a) = fX5_isWithin a 0 (pe - 1) := hid_eq _
  rw [e9]
  exact hg_zret C dX2_hasPerson_11 (nar01 (bbX5_isWithin _ _ _)) rfl rfl
theorem bbX2_hasPerson (pe : Int32) (a : Int32) : (fX2_hasPerson pe a) = 0 ∨ (fX2_hasPerson pe a) = 1 := by
  unfold fX2_hasPerson
  rw [hid_eq]
  (repeat' split) <;> first | exact Or.inl rfl | exact Or.inr rfl | exact bbX5_isWithin _ _ _
theorem mmX2_hasTune_f15 : (Cond.fieldLink RX2 15 "HatRound$Facts" "tunes" "I") ∈ wsX2_hasTune := (List.mem_cons_of_mem _ (List.mem_append_left _ (List.mem_of_getElem? (i := 0) rfl)))
theorem mrX2_hasTune_2 : ∀ w ∈ u_ws RX2 TX2 4, w ∈ wsX2_hasTune := fun _ h => (List.mem_cons_of_mem _ (List.mem_append_right _ h))
theorem mmX2_hasTune_wi5 : (Cond.initialized RX5) ∈ wsX2_hasTune := (List.mem_cons_of_mem _ (List.mem_append_left _ (List.mem_of_getElem? (i := 2) rfl)))
theorem mmX2_hasTune_wsX5_isWithin : (Cond.static yX5_isWithin) ∈ wsX2_hasTune := (List.mem_cons_of_mem _ (List.mem_append_left _ (List.mem_of_getElem? (i := 1) rfl)))
abbrev rmX2_hasTune : Room := { frames := 1, cells := 0, slots := 0, locals := 22 }
theorem hfX2_hasTune : hCF yX2_hasTune wsX2_hasTune rmX2_hasTune cX2_hasTune 2 (some .boolean) 1 := ⟨⟨_, rfl⟩, by decide +kernel, rfl, rfl⟩
noncomputable def fX2_hasTune (tu : Int32) (a : Int32) : Int32 := hid (fX5_isWithin a 0 (tu - 1))
set_option maxHeartbeats 4000000 in
set_option maxRecDepth 100000 in
theorem kX2_hasTune (l : Launch) (E : hE) (fa : Nat) (fb : Nat) (fc : Nat) (pe : Int32) (tu : Int32) (pf : Nat → Int32) (tf : Nat → Int32) (a : Int32) : hC l yX2_hasTune wsX2_hasTune rmX2_hasTune E [.ref fa, .int a] [(fa, .inr (2, [.int pe, .int tu, .ref fb, .ref fc])), (fb, .inl (E.2.1.1, 36, .inl pf)), (fc, .inl (E.2.1.1, 12, .inl tf))] (some (.int (fX2_hasTune tu a))) [(fa, .inr (2, [.int pe, .int tu, .ref fb, .ref fc])), (fb, .inl (E.2.1.1, 36, .inl pf)), (fc, .inl (E.2.1.1, 12, .inl tf))] := by
  refine hC_intro (cc := cX2_hasTune) (maxL := 2) (ret := (some .boolean)) (lv0 := [(0, .ref fa), (1, .int a)]) (by decide) rfl (Nat.le_of_ble_eq_true rfl) rfl ?_
  intro p e s m below meth c A C
  refine hg_iload_n C dX2_hasTune_0 rfl 1 rfl ?_
  refine hg_iconst C (v := 0) dX2_hasTune_1 (by decide) ?_
  refine hg_aload_n C dX2_hasTune_2 rfl 0 rfl ?_
  refine hg_get C (Cn := RX2) (T := TX2) (N := 4) (v := .int tu) mrX2_hasTune_2 0 rfl rfl 1 (by decide) mmX2_hasTune_f15 rfl dX2_hasTune_3 ?_
  refine hg_iconst C (v := 1) dX2_hasTune_6 (by decide) ?_
  refine hg_isub C dX2_hasTune_7 ?_
  refine hg_callN C (ws' := [(fa, .inr (2, [.int pe, .int tu, .ref fb, .ref fc])), (fb, .inl (E.2.1.1, 36, .inl pf)), (fc, .inl (E.2.1.1, 12, .inl tf))]) (rest := []) (kX5_isWithin l E a 0 (tu - 1)) hfX5_isWithin gX2_hasTune_X5_isWithin_n38 nmX2_38 mmX2_hasTune_wi5 mmX2_hasTune_wsX5_isWithin ⟨Nat.le_of_ble_eq_true rfl, Nat.le_of_ble_eq_true rfl⟩ ⟨Nat.zero_le _, Nat.zero_le _⟩ [] rfl (by decide) [] rfl rfl rfl rfl (Nat.le_of_ble_eq_true rfl) dX2_hasTune_8 ?_
  have e9 : (fX2_hasTune tu a) = fX5_isWithin a 0 (tu - 1) := hid_eq _
  rw [e9]
  exact hg_zret C dX2_hasTune_11 (nar01 (bbX5_isWithin _ _ _)) rfl rfl
theorem bbX2_hasTune (tu : Int32) (a : Int32) : (fX2_hasTune tu a) = 0 ∨ (fX2_hasTune tu a) = 1 := by
  unfold fX2_hasTune
  rw [hid_eq]
  (repeat' split) <;> first | exact Or.inl rfl | exact Or.inr rfl | exact bbX5_isWithin _ _ _
theorem mmX2_ofPerson_f18 : (Cond.fieldLink RX2 18 "HatRound$Facts" "personFigures" "[I") ∈ wsX2_ofPerson := (List.mem_cons_of_mem _ (List.mem_append_left _ (List.mem_of_getElem? (i := 0) rfl)))
theorem mrX2_ofPerson_2 : ∀ w ∈ u_ws RX2 TX2 4, w ∈ wsX2_ofPerson := fun _ h => (List.mem_cons_of_mem _ (List.mem_append_right _ h))
abbrev rmX2_ofPerson : Room := { frames := 1, cells := 0, slots := 0, locals := 24 }
theorem hfX2_ofPerson : hCF yX2_ofPerson wsX2_ofPerson rmX2_ofPerson cX2_ofPerson 3 (some .int) 2 := ⟨⟨_, rfl⟩, by decide +kernel, rfl, rfl⟩
noncomputable def fX2_ofPerson (pf : Nat → Int32) (a : Int32) (b : Int32) : Int32 := hid (fpX2_figureOf a 6 b pf)
set_option maxHeartbeats 4000000 in
set_option maxRecDepth 100000 in
theorem kX2_ofPerson (l : Launch) (E : hE) (fa : Nat) (fb : Nat) (fc : Nat) (pe : Int32) (tu : Int32) (pf : Nat → Int32) (tf : Nat → Int32) (a : Int32) (b : Int32) : hC l yX2_ofPerson wsX2_ofPerson rmX2_ofPerson E [.ref fa, .int a, .int b] [(fa, .inr (2, [.int pe, .int tu, .ref fb, .ref fc])), (fb, .inl (E.2.1.1, 36, .inl pf)), (fc, .inl (E.2.1.1, 12, .inl tf))] (some (.int (fX2_ofPerson pf a b))) [(fa, .inr (2, [.int pe, .int tu, .ref fb, .ref fc])), (fb, .inl (E.2.1.1, 36, .inl pf)), (fc, .inl (E.2.1.1, 12, .inl tf))] := by
  refine hC_intro (cc := cX2_ofPerson) (maxL := 3) (ret := (some .int)) (lv0 := [(0, .ref fa), (1, .int a), (2, .int b)]) (by decide) rfl (Nat.le_of_ble_eq_true rfl) rfl ?_
  intro p e s m below meth c A C
  refine hg_aload_n C dX2_ofPerson_0 rfl 0 rfl ?_
  refine hg_get C (Cn := RX2) (T := TX2) (N := 4) (v := .ref fb) mrX2_ofPerson_2 0 rfl rfl 2 (by decide) mmX2_ofPerson_f18 rfl dX2_ofPerson_1 ?_
  refine hg_iload_n C dX2_ofPerson_4 rfl 1 rfl ?_
  refine hg_bipush C (v := 6) dX2_ofPerson_5 (by decide) ?_
  refine hg_iload_n C dX2_ofPerson_7 rfl 2 rfl ?_
  refine hg_callS C (ws' := [(fa, .inr (2, [.int pe, .int tu, .ref fb, .ref fc])), (fb, .inl (E.2.1.1, 36, .inl pf)), (fc, .inl (E.2.1.1, 12, .inl tf))]) (rest := []) (kpX2_figureOf l E fb a 6 b pf) hfX2_figureOf gX2_ofPerson_X2_figureOf ⟨Nat.le_of_ble_eq_true rfl, Nat.le_of_ble_eq_true rfl⟩ ⟨Nat.zero_le _, Nat.zero_le _⟩ [1] rfl (by decide) [fb] rfl rfl rfl rfl (Nat.le_of_ble_eq_true rfl) dX2_ofPerson_8 ?_
  have e9 : (fX2_ofPerson pf a b) = fpX2_figureOf a 6 b pf := hid_eq _
  rw [e9]
  exact hg_iret C dX2_ofPerson_11 rfl rfl
theorem mmX2_ofTune_f22 : (Cond.fieldLink RX2 22 "HatRound$Facts" "tuneFigures" "[I") ∈ wsX2_ofTune := (List.mem_cons_of_mem _ (List.mem_append_left _ (List.mem_of_getElem? (i := 0) rfl)))
theorem mrX2_ofTune_2 : ∀ w ∈ u_ws RX2 TX2 4, w ∈ wsX2_ofTune := fun _ h => (List.mem_cons_of_mem _ (List.mem_append_right _ h))
abbrev rmX2_ofTune : Room := { frames := 1, cells := 0, slots := 0, locals := 24 }
theorem hfX2_ofTune : hCF yX2_ofTune wsX2_ofTune rmX2_ofTune cX2_ofTune 3 (some .int) 2 := ⟨⟨_, rfl⟩, by decide +kernel, rfl, rfl⟩
noncomputable def fX2_ofTune (tf : Nat → Int32) (a : Int32) (b : Int32) : Int32 := hid (ftX2_figureOf a 3 b tf)
set_option maxHeartbeats 4000000 in
set_option maxRecDepth 100000 in
theorem kX2_ofTune (l : Launch) (E : hE) (fa : Nat) (fb : Nat) (fc : Nat) (pe : Int32) (tu : Int32) (pf : Nat → Int32) (tf : Nat → Int32) (a : Int32) (b : Int32) : hC l yX2_ofTune wsX2_ofTune rmX2_ofTune E [.ref fa, .int a, .int b] [(fa, .inr (2, [.int pe, .int tu, .ref fb, .ref fc])), (fb, .inl (E.2.1.1, 36, .inl pf)), (fc, .inl (E.2.1.1, 12, .inl tf))] (some (.int (fX2_ofTune tf a b))) [(fa, .inr (2, [.int pe, .int tu, .ref fb, .ref fc])), (fb, .inl (E.2.1.1, 36, .inl pf)), (fc, .inl (E.2.1.1, 12, .inl tf))] := by
  refine hC_intro (cc := cX2_ofTune) (maxL := 3) (ret := (some .int)) (lv0 := [(0, .ref fa), (1, .int a), (2, .int b)]) (by decide) rfl (Nat.le_of_ble_eq_true rfl) rfl ?_
  intro p e s m below meth c A C
  refine hg_aload_n C dX2_ofTune_0 rfl 0 rfl ?_
  refine hg_get C (Cn := RX2) (T := TX2) (N := 4) (v := .ref fc) mrX2_ofTune_2 0 rfl rfl 3 (by decide) mmX2_ofTune_f22 rfl dX2_ofTune_1 ?_
  refine hg_iload_n C dX2_ofTune_4 rfl 1 rfl ?_
  refine hg_iconst C (v := 3) dX2_ofTune_5 (by decide) ?_
  refine hg_iload_n C dX2_ofTune_6 rfl 2 rfl ?_
  refine hg_callS C (ws' := [(fa, .inr (2, [.int pe, .int tu, .ref fb, .ref fc])), (fb, .inl (E.2.1.1, 36, .inl pf)), (fc, .inl (E.2.1.1, 12, .inl tf))]) (rest := []) (ktX2_figureOf l E fc a 3 b tf) hfX2_figureOf gX2_ofTune_X2_figureOf ⟨Nat.le_of_ble_eq_true rfl, Nat.le_of_ble_eq_true rfl⟩ ⟨Nat.zero_le _, Nat.zero_le _⟩ [2] rfl (by decide) [fc] rfl rfl rfl rfl (Nat.le_of_ble_eq_true rfl) dX2_ofTune_7 ?_
  have e9 : (fX2_ofTune tf a b) = ftX2_figureOf a 3 b tf := hid_eq _
  rw [e9]
  exact hg_iret C dX2_ofTune_10 rfl rfl
