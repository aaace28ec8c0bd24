theorem nwX0 : ∀ j, j < 3 → defaultValue (tyX0 j) = vp_V [.null, .int 0, .int 0] j := fun j hj => by
  match j, hj with
  | 0, _ => rfl
  | 1, _ => rfl
  | 2, _ => rfl
  | j + 3, hj => exact absurd hj (by omega)
theorem nwX1 : ∀ j, j < 2 → defaultValue (tyX1 j) = vp_V [.int 0, .int 0] j := fun j hj => by
  match j, hj with
  | 0, _ => rfl
  | 1, _ => rfl
  | j + 2, hj => exact absurd hj (by omega)
theorem nwX2 : ∀ j, j < 4 → defaultValue (tyX2 j) = vp_V [.int 0, .int 0, .null, .null] j := fun j hj => by
  match j, hj with
  | 0, _ => rfl
  | 1, _ => rfl
  | 2, _ => rfl
  | 3, _ => rfl
  | j + 4, hj => exact absurd hj (by omega)
theorem nwX3 : ∀ j, j < 9 → defaultValue (tyX3 j) = vp_V [.null, .int 0, .int 0, .int 0, .int 0, .int 0, .null, .null, .null] j := fun j hj => by
  match j, hj with
  | 0, _ => rfl
  | 1, _ => rfl
  | 2, _ => rfl
  | 3, _ => rfl
  | 4, _ => rfl
  | 5, _ => rfl
  | 6, _ => rfl
  | 7, _ => rfl
  | 8, _ => rfl
  | j + 9, hj => exact absurd hj (by omega)
theorem nwX4 : ∀ j, j < 2 → defaultValue (tyX4 j) = vp_V [.null, .int 0] j := fun j hj => by
  match j, hj with
  | 0, _ => rfl
  | 1, _ => rfl
  | j + 2, hj => exact absurd hj (by omega)
theorem nwX5 : ∀ j, j < 13 → defaultValue (tyX5 j) = vp_V [.null, .null, .null, .null, .null, .null, .null, .null, .int 0, .long 0, .null, .null, .null] j := fun j hj => by
  match j, hj with
  | 0, _ => rfl
  | 1, _ => rfl
  | 2, _ => rfl
  | 3, _ => rfl
  | 4, _ => rfl
  | 5, _ => rfl
  | 6, _ => rfl
  | 7, _ => rfl
  | 8, _ => rfl
  | 9, _ => rfl
  | 10, _ => rfl
  | 11, _ => rfl
  | 12, _ => rfl
  | j + 13, hj => exact absurd hj (by omega)
theorem nwX6 : ∀ j, j < 23 → defaultValue (tyX6 j) = vp_V [.int 0, .null, .int 0, .int 0, .int 0, .int 0, .null, .null, .int 0, .int 0, .null, .null, .null, .null, .null, .int 0, .null, .null, .int 0, .null, .null, .long 0, .int 0] j := fun j hj => by
  match j, hj with
  | 0, _ => rfl
  | 1, _ => rfl
  | 2, _ => rfl
  | 3, _ => rfl
  | 4, _ => rfl
  | 5, _ => rfl
  | 6, _ => rfl
  | 7, _ => rfl
  | 8, _ => rfl
  | 9, _ => rfl
  | 10, _ => rfl
  | 11, _ => rfl
  | 12, _ => rfl
  | 13, _ => rfl
  | 14, _ => rfl
  | 15, _ => rfl
  | 16, _ => rfl
  | 17, _ => rfl
  | 18, _ => rfl
  | 19, _ => rfl
  | 20, _ => rfl
  | 21, _ => rfl
  | 22, _ => rfl
  | j + 23, hj => exact absurd hj (by omega)
theorem mmX4_init_ol3 : (Cond.methodLink RX4 3 objectInit) ∈ wsX4_init := (List.mem_cons_of_mem _ (List.mem_append_left _ (List.mem_of_getElem? (i := 0) rfl)))
theorem mmX4_init_oi : (Cond.instanceMethod objectInit) ∈ wsX4_init := (List.mem_cons_of_mem _ (List.mem_append_left _ (List.mem_of_getElem? (i := 1) rfl)))
theorem mmX4_init_oc : (Cond.code objectInit ⟨#[0xb1]⟩ 1 none) ∈ wsX4_init := (List.mem_cons_of_mem _ (List.mem_append_left _ (List.mem_of_getElem? (i := 2) rfl)))
theorem mmX4_init_acint : (Cond.arrayClass .int) ∈ wsX4_init := (List.mem_cons_of_mem _ (List.mem_append_left _ (List.mem_of_getElem? (i := 3) rfl)))
theorem mmX4_init_f9 : (Cond.fieldLink RX4 9 "HatRound$Text" "bytes" "[I") ∈ wsX4_init := (List.mem_cons_of_mem _ (List.mem_append_left _ (List.mem_of_getElem? (i := 4) rfl)))
theorem mrX4_init_4 : ∀ w ∈ u_ws RX4 TX4 2, w ∈ wsX4_init := fun _ h => (List.mem_cons_of_mem _ (List.mem_append_right _ h))
theorem mmX4_init_f15 : (Cond.fieldLink RX4 15 "HatRound$Text" "length" "I") ∈ wsX4_init := (List.mem_cons_of_mem _ (List.mem_append_left _ (List.mem_of_getElem? (i := 5) rfl)))
abbrev rmX4_init : Room := { frames := 1, cells := 1, slots := 64, locals := 12 }
theorem nfX4_init : hNF_ yX4_init wsX4_init rmX4_init cX4_init 1 0 1 64 := ⟨⟨_, rfl⟩, by decide +kernel, rfl, rfl, rfl⟩
set_option maxHeartbeats 4000000 in
set_option maxRecDepth 100000 in
theorem knX4_init (l : Launch) (E : hE) (ta : Nat) : hN l yX4_init wsX4_init rmX4_init E [.ref ta] [(ta, .inr (4, [.null, .int 0]))] (fun w => ∃ (tb : Nat), w = [(ta, .inr (4, [.ref tb, .int 0])), (tb, .inl (E.2.1.1, 64, .inl (fun _ => 0)))]) 1 64 := by
  refine hN_intro (cc := cX4_init) (maxL := 1) (ret := none) (lv0 := [(0, .ref ta)]) (by decide) rfl (Nat.le_of_ble_eq_true rfl) rfl ?_
  intro p e s m below meth c A C O hi
  have hi : meth.name = "<init>" := hi
  refine hg_aload_n C dX4_init_0 rfl 0 rfl ?_
  refine hg_obj C mmX4_init_ol3 mmX4_init_oi mmX4_init_oc (Nat.le_of_ble_eq_true rfl) (Nat.le_of_ble_eq_true rfl) dX4_init_1 ?_
  refine hg_aload_n C dX4_init_4 rfl 0 rfl ?_
  refine hg_bipush C (v := 64) dX4_init_5 (by decide) ?_
  refine hg_newi C 64 mmX4_init_acint (by decide) (by decide) (Nat.le_of_ble_eq_true rfl) (Nat.le_of_ble_eq_true rfl) (Nat.le_of_ble_eq_true rfl) dX4_init_7 (fun q1 => ?_)
  refine hg_eq rfl rfl (show _ = [(ta, .inr (4, [.null, .int 0])), (q1, .inl (E.2.1.1, 64, .inl (fun _ => 0)))] from rfl) ?_
  refine hg_putF C (T := TX4) (N := 2) (ws' := [(ta, .inr (4, [.ref q1, .int 0])), (q1, .inl (E.2.1.1, 64, .inl (fun _ => 0)))]) mrX4_init_4 tyX4 tyX4_ok nmX4 0 rfl rfl 0 (by decide) mmX4_init_f9 rfl hi rfl rfl rfl rfl (Nat.le_of_ble_eq_true rfl) rfl dX4_init_9 ?_
  refine hg_aload_n C dX4_init_12 rfl 0 rfl ?_
  refine hg_iconst C (v := 0) dX4_init_13 (by decide) ?_
  refine hg_put C (Cn := RX4) (T := TX4) (N := 2) (ws' := [(ta, .inr (4, [.ref q1, .int 0])), (q1, .inl (E.2.1.1, 64, .inl (fun _ => 0)))]) mrX4_init_4 tyX4 tyX4_ok nmX4 0 rfl rfl 1 (by decide) mmX4_init_f15 rfl rfl rfl rfl (Nat.le_of_ble_eq_true rfl) rfl dX4_init_14 ?_
  exact hg_vretN C dX4_init_17 ⟨q1, rfl⟩
theorem mmX2_init_ol3 : (Cond.methodLink RX2 3 objectInit) ∈ wsX2_init := (List.mem_cons_of_mem _ (List.mem_append_left _ (List.mem_of_getElem? (i := 0) rfl)))
theorem mmX2_init_oi : (Cond.instanceMethod objectInit) ∈ wsX2_init := (List.mem_cons_of_mem _ (List.mem_append_left _ (List.mem_of_getElem? (i := 1) rfl)))
theorem mmX2_init_oc : (Cond.code objectInit ⟨#[0xb1]⟩ 1 none) ∈ wsX2_init := (List.mem_cons_of_mem _ (List.mem_append_left _ (List.mem_of_getElem? (i := 2) rfl)))
theorem mmX2_init_f9 : (Cond.fieldLink RX2 9 "HatRound$Facts" "people" "I") ∈ wsX2_init := (List.mem_cons_of_mem _ (List.mem_append_left _ (List.mem_of_getElem? (i := 3) rfl)))
theorem mrX2_init_2 : ∀ w ∈ u_ws RX2 TX2 4, w ∈ wsX2_init := fun _ h => (List.mem_cons_of_mem _ (List.mem_append_right _ h))
theorem mmX2_init_f15 : (Cond.fieldLink RX2 15 "HatRound$Facts" "tunes" "I") ∈ wsX2_init := (List.mem_cons_of_mem _ (List.mem_append_left _ (List.mem_of_getElem? (i := 4) rfl)))
theorem mmX2_init_acint : (Cond.arrayClass .int) ∈ wsX2_init := (List.mem_cons_of_mem _ (List.mem_append_left _ (List.mem_of_getElem? (i := 5) rfl)))
theorem mmX2_init_f18 : (Cond.fieldLink RX2 18 "HatRound$Facts" "personFigures" "[I") ∈ wsX2_init := (List.mem_cons_of_mem _ (List.mem_append_left _ (List.mem_of_getElem? (i := 6) rfl)))
theorem mmX2_init_f22 : (Cond.fieldLink RX2 22 "HatRound$Facts" "tuneFigures" "[I") ∈ wsX2_init := (List.mem_cons_of_mem _ (List.mem_append_left _ (List.mem_of_getElem? (i := 7) rfl)))
abbrev rmX2_init : Room := { frames := 1, cells := 2, slots := 48, locals := 12 }
theorem nfX2_init : hNF_ yX2_init wsX2_init rmX2_init cX2_init 1 0 2 48 := ⟨⟨_, rfl⟩, by decide +kernel, rfl, rfl, rfl⟩
set_option maxHeartbeats 4000000 in
set_option maxRecDepth 100000 in
theorem knX2_init (l : Launch) (E : hE) (fa : Nat) : hN l yX2_init wsX2_init rmX2_init E [.ref fa] [(fa, .inr (2, [.int 0, .int 0, .null, .null]))] (fun w => ∃ (fb : Nat) (fc : Nat), w = [(fa, .inr (2, [.int 0, .int 0, .ref fb, .ref fc])), (fb, .inl (E.2.1.1, 36, .inl (fun _ => 0))), (fc, .inl (E.2.1.1, 12, .inl (fun _ => 0)))]) 2 48 := by
  refine hN_intro (cc := cX2_init) (maxL := 1) (ret := none) (lv0 := [(0, .ref fa)]) (by decide) rfl (Nat.le_of_ble_eq_true rfl) rfl ?_
  intro p e s m below meth c A C O hi
  have hi : meth.name = "<init>" := hi
  refine hg_aload_n C dX2_init_0 rfl 0 rfl ?_
  refine hg_obj C mmX2_init_ol3 mmX2_init_oi mmX2_init_oc (Nat.le_of_ble_eq_true rfl) (Nat.le_of_ble_eq_true rfl) dX2_init_1 ?_
  refine hg_aload_n C dX2_init_4 rfl 0 rfl ?_
  refine hg_iconst C (v := 0) dX2_init_5 (by decide) ?_
  refine hg_put C (Cn := RX2) (T := TX2) (N := 4) (ws' := [(fa, .inr (2, [.int 0, .int 0, .null, .null]))]) mrX2_init_2 tyX2 tyX2_ok nmX2 0 rfl rfl 0 (by decide) mmX2_init_f9 rfl rfl rfl rfl (Nat.le_of_ble_eq_true rfl) rfl dX2_init_6 ?_
  refine hg_aload_n C dX2_init_9 rfl 0 rfl ?_
  refine hg_iconst C (v := 0) dX2_init_10 (by decide) ?_
  refine hg_put C (Cn := RX2) (T := TX2) (N := 4) (ws' := [(fa, .inr (2, [.int 0, .int 0, .null, .null]))]) mrX2_init_2 tyX2 tyX2_ok nmX2 0 rfl rfl 1 (by decide) mmX2_init_f15 rfl rfl rfl rfl (Nat.le_of_ble_eq_true rfl) rfl dX2_init_11 ?_
  refine hg_aload_n C dX2_init_14 rfl 0 rfl ?_
  refine hg_bipush C (v := 36) dX2_init_15 (by decide) ?_
  refine hg_newi C 36 mmX2_init_acint (by decide) (by decide) (Nat.le_of_ble_eq_true rfl) (Nat.le_of_ble_eq_true rfl) (Nat.le_of_ble_eq_true rfl) dX2_init_17 (fun q1 => ?_)
  refine hg_eq rfl rfl (show _ = [(fa, .inr (2, [.int 0, .int 0, .null, .null])), (q1, .inl (E.2.1.1, 36, .inl (fun _ => 0)))] from rfl) ?_
  refine hg_putF C (T := TX2) (N := 4) (ws' := [(fa, .inr (2, [.int 0, .int 0, .ref q1, .null])), (q1, .inl (E.2.1.1, 36, .inl (fun _ => 0)))]) mrX2_init_2 tyX2 tyX2_ok nmX2 0 rfl rfl 2 (by decide) mmX2_init_f18 rfl hi rfl rfl rfl rfl (Nat.le_of_ble_eq_true rfl) rfl dX2_init_19 ?_
  refine hg_aload_n C dX2_init_22 rfl 0 rfl ?_
  refine hg_bipush C (v := 12) dX2_init_23 (by decide) ?_
  refine hg_newi C 12 mmX2_init_acint (by decide) (by decide) (Nat.le_of_ble_eq_true rfl) (Nat.le_of_ble_eq_true rfl) (Nat.le_of_ble_eq_true rfl) dX2_init_25 (fun q2 => ?_)
  refine hg_eq rfl rfl (show _ = [(fa, .inr (2, [.int 0, .int 0, .ref q1, .null])), (q1, .inl (E.2.1.1, 36, .inl (fun _ => 0))), (q2, .inl (E.2.1.1, 12, .inl (fun _ => 0)))] from rfl) ?_
  refine hg_putF C (T := TX2) (N := 4) (ws' := [(fa, .inr (2, [.int 0, .int 0, .ref q1, .ref q2])), (q1, .inl (E.2.1.1, 36, .inl (fun _ => 0))), (q2, .inl (E.2.1.1, 12, .inl (fun _ => 0)))]) mrX2_init_2 tyX2 tyX2_ok nmX2 0 rfl rfl 3 (by decide) mmX2_init_f22 rfl hi rfl rfl rfl rfl (Nat.le_of_ble_eq_true rfl) rfl dX2_init_27 ?_
  exact hg_vretN C dX2_init_30 ⟨q1, q2, rfl⟩
theorem mmX3_init_ol3 : (Cond.methodLink RX3 3 objectInit) ∈ wsX3_init := (List.mem_cons_of_mem _ (List.mem_append_left _ (List.mem_of_getElem? (i := 0) rfl)))
theorem mmX3_init_oi : (Cond.instanceMethod objectInit) ∈ wsX3_init := (List.mem_cons_of_mem _ (List.mem_append_left _ (List.mem_of_getElem? (i := 1) rfl)))
theorem mmX3_init_oc : (Cond.code objectInit ⟨#[0xb1]⟩ 1 none) ∈ wsX3_init := (List.mem_cons_of_mem _ (List.mem_append_left _ (List.mem_of_getElem? (i := 2) rfl)))
theorem mmX3_init_f9 : (Cond.fieldLink RX3 9 "HatRound$Scene" "minute" "I") ∈ wsX3_init := (List.mem_cons_of_mem _ (List.mem_append_left _ (List.mem_of_getElem? (i := 3) rfl)))
theorem mrX3_init_3 : ∀ w ∈ u_ws RX3 TX3 9, w ∈ wsX3_init := fun _ h => (List.mem_cons_of_mem _ (List.mem_append_right _ h))
theorem mmX3_init_f15 : (Cond.fieldLink RX3 15 "HatRound$Scene" "hat" "I") ∈ wsX3_init := (List.mem_cons_of_mem _ (List.mem_append_left _ (List.mem_of_getElem? (i := 4) rfl)))
theorem mmX3_init_f18 : (Cond.fieldLink RX3 18 "HatRound$Scene" "bait" "I") ∈ wsX3_init := (List.mem_cons_of_mem _ (List.mem_append_left _ (List.mem_of_getElem? (i := 5) rfl)))
theorem mmX3_init_f21 : (Cond.fieldLink RX3 21 "HatRound$Scene" "standing" "I") ∈ wsX3_init := (List.mem_cons_of_mem _ (List.mem_append_left _ (List.mem_of_getElem? (i := 6) rfl)))
theorem mmX3_init_f24 : (Cond.fieldLink RX3 24 "HatRound$Scene" "waiting" "I") ∈ wsX3_init := (List.mem_cons_of_mem _ (List.mem_append_left _ (List.mem_of_getElem? (i := 7) rfl)))
theorem mmX3_init_acint : (Cond.arrayClass .int) ∈ wsX3_init := (List.mem_cons_of_mem _ (List.mem_append_left _ (List.mem_of_getElem? (i := 8) rfl)))
theorem mmX3_init_f27 : (Cond.fieldLink RX3 27 "HatRound$Scene" "mood" "[I") ∈ wsX3_init := (List.mem_cons_of_mem _ (List.mem_append_left _ (List.mem_of_getElem? (i := 9) rfl)))
theorem mmX3_init_f31 : (Cond.fieldLink RX3 31 "HatRound$Scene" "patience" "[I") ∈ wsX3_init := (List.mem_cons_of_mem _ (List.mem_append_left _ (List.mem_of_getElem? (i := 10) rfl)))
theorem mmX3_init_f34 : (Cond.fieldLink RX3 34 "HatRound$Scene" "played" "[I") ∈ wsX3_init := (List.mem_cons_of_mem _ (List.mem_append_left _ (List.mem_of_getElem? (i := 11) rfl)))
theorem mmX3_init_f37 : (Cond.fieldLink RX3 37 "HatRound$Scene" "facts" "LHatRound$Facts;") ∈ wsX3_init := (List.mem_cons_of_mem _ (List.mem_append_left _ (List.mem_of_getElem? (i := 12) rfl)))
abbrev rmX3_init : Room := { frames := 1, cells := 3, slots := 16, locals := 12 }
theorem nfX3_init : hNF_ yX3_init wsX3_init rmX3_init cX3_init 2 1 3 16 := ⟨⟨_, rfl⟩, by decide +kernel, rfl, rfl, rfl⟩
set_option maxHeartbeats 4000000 in
set_option maxRecDepth 100000 in
theorem knX3_init (l : Launch) (E : hE) (sa fa : Nat) : hN l yX3_init wsX3_init rmX3_init E [.ref sa, .ref fa] [(sa, .inr (3, [.null, .int 0, .int 0, .int 0, .int 0, .int 0, .null, .null, .null]))] (fun w => ∃ (sb : Nat) (sd : Nat) (se : Nat), w = [(sa, .inr (3, [.ref fa, .int 0, .int 0, .int 0, .int 0, .int 0, .ref sb, .ref sd, .ref se])), (sb, .inl (E.2.1.1, 6, .inl (fun _ => 0))), (sd, .inl (E.2.1.1, 6, .inl (fun _ => 0))), (se, .inl (E.2.1.1, 4, .inl (fun _ => 0)))]) 3 16 := by
  refine hN_intro (cc := cX3_init) (maxL := 2) (ret := none) (lv0 := [(0, .ref sa), (1, .ref fa)]) (by decide) rfl (Nat.le_of_ble_eq_true rfl) rfl ?_
  intro p e s m below meth c A C O hi
  have hi : meth.name = "<init>" := hi
  refine hg_aload_n C dX3_init_0 rfl 0 rfl ?_
  refine hg_obj C mmX3_init_ol3 mmX3_init_oi mmX3_init_oc (Nat.le_of_ble_eq_true rfl) (Nat.le_of_ble_eq_true rfl) dX3_init_1 ?_
  refine hg_aload_n C dX3_init_4 rfl 0 rfl ?_
  refine hg_iconst C (v := 0) dX3_init_5 (by decide) ?_
  refine hg_put C (Cn := RX3) (T := TX3) (N := 9) (ws' := [(sa, .inr (3, [.null, .int 0, .int 0, .int 0, .int 0, .int 0, .null, .null, .null]))]) mrX3_init_3 tyX3 tyX3_ok nmX3 0 rfl rfl 1 (by decide) mmX3_init_f9 rfl rfl rfl rfl (Nat.le_of_ble_eq_true rfl) rfl dX3_init_6 ?_
  refine hg_aload_n C dX3_init_9 rfl 0 rfl ?_
  refine hg_iconst C (v := 0) dX3_init_10 (by decide) ?_
  refine hg_put C (Cn := RX3) (T := TX3) (N := 9) (ws' := [(sa, .inr (3, [.null, .int 0, .int 0, .int 0, .int 0, .int 0, .null, .null, .null]))]) mrX3_init_3 tyX3 tyX3_ok nmX3 0 rfl rfl 2 (by decide) mmX3_init_f15 rfl rfl rfl rfl (Nat.le_of_ble_eq_true rfl) rfl dX3_init_11 ?_
  refine hg_aload_n C dX3_init_14 rfl 0 rfl ?_
  refine hg_iconst C (v := 0) dX3_init_15 (by decide) ?_
  refine hg_put C (Cn := RX3) (T := TX3) (N := 9) (ws' := [(sa, .inr (3, [.null, .int 0, .int 0, .int 0, .int 0, .int 0, .null, .null, .null]))]) mrX3_init_3 tyX3 tyX3_ok nmX3 0 rfl rfl 3 (by decide) mmX3_init_f18 rfl rfl rfl rfl (Nat.le_of_ble_eq_true rfl) rfl dX3_init_16 ?_
  refine hg_aload_n C dX3_init_19 rfl 0 rfl ?_
  refine hg_iconst C (v := 0) dX3_init_20 (by decide) ?_
  refine hg_put C (Cn := RX3) (T := TX3) (N := 9) (ws' := [(sa, .inr (3, [.null, .int 0, .int 0, .int 0, .int 0, .int 0, .null, .null, .null]))]) mrX3_init_3 tyX3 tyX3_ok nmX3 0 rfl rfl 4 (by decide) mmX3_init_f21 rfl rfl rfl rfl (Nat.le_of_ble_eq_true rfl) rfl dX3_init_21 ?_
  refine hg_aload_n C dX3_init_24 rfl 0 rfl ?_
  refine hg_iconst C (v := 0) dX3_init_25 (by decide) ?_
  refine hg_put C (Cn := RX3) (T := TX3) (N := 9) (ws' := [(sa, .inr (3, [.null, .int 0, .int 0, .int 0, .int 0, .int 0, .null, .null, .null]))]) mrX3_init_3 tyX3 tyX3_ok nmX3 0 rfl rfl 5 (by decide) mmX3_init_f24 rfl rfl rfl rfl (Nat.le_of_ble_eq_true rfl) rfl dX3_init_26 ?_
  refine hg_aload_n C dX3_init_29 rfl 0 rfl ?_
  refine hg_bipush C (v := 6) dX3_init_30 (by decide) ?_
  refine hg_newi C 6 mmX3_init_acint (by decide) (by decide) (Nat.le_of_ble_eq_true rfl) (Nat.le_of_ble_eq_true rfl) (Nat.le_of_ble_eq_true rfl) dX3_init_32 (fun q1 => ?_)
  refine hg_eq rfl rfl (show _ = [(sa, .inr (3, [.null, .int 0, .int 0, .int 0, .int 0, .int 0, .null, .null, .null])), (q1, .inl (E.2.1.1, 6, .inl (fun _ => 0)))] from rfl) ?_
  refine hg_putF C (T := TX3) (N := 9) (ws' := [(sa, .inr (3, [.null, .int 0, .int 0, .int 0, .int 0, .int 0, .ref q1, .null, .null])), (q1, .inl (E.2.1.1, 6, .inl (fun _ => 0)))]) mrX3_init_3 tyX3 tyX3_ok nmX3 0 rfl rfl 6 (by decide) mmX3_init_f27 rfl hi rfl rfl rfl rfl (Nat.le_of_ble_eq_true rfl) rfl dX3_init_34 ?_
  refine hg_aload_n C dX3_init_37 rfl 0 rfl ?_
  refine hg_bipush C (v := 6) dX3_init_38 (by decide) ?_
  refine hg_newi C 6 mmX3_init_acint (by decide) (by decide) (Nat.le_of_ble_eq_true rfl) (Nat.le_of_ble_eq_true rfl) (Nat.le_of_ble_eq_true rfl) dX3_init_40 (fun q2 => ?_)
  refine hg_eq rfl rfl (show _ = [(sa, .inr (3, [.null, .int 0, .int 0, .int 0, .int 0, .int 0, .ref q1, .null, .null])), (q1, .inl (E.2.1.1, 6, .inl (fun _ => 0))), (q2, .inl (E.2.1.1, 6, .inl (fun _ => 0)))] from rfl) ?_
  refine hg_putF C (T := TX3) (N := 9) (ws' := [(sa, .inr (3, [.null, .int 0, .int 0, .int 0, .int 0, .int 0, .ref q1, .ref q2, .null])), (q1, .inl (E.2.1.1, 6, .inl (fun _ => 0))), (q2, .inl (E.2.1.1, 6, .inl (fun _ => 0)))]) mrX3_init_3 tyX3 tyX3_ok nmX3 0 rfl rfl 7 (by decide) mmX3_init_f31 rfl hi rfl rfl rfl rfl (Nat.le_of_ble_eq_true rfl) rfl dX3_init_42 ?_
  refine hg_aload_n C dX3_init_45 rfl 0 rfl ?_
  refine hg_iconst C (v := 4) dX3_init_46 (by decide) ?_
  refine hg_newi C 4 mmX3_init_acint (by decide) (by decide) (Nat.le_of_ble_eq_true rfl) (Nat.le_of_ble_eq_true rfl) (Nat.le_of_ble_eq_true rfl) dX3_init_47 (fun q3 => ?_)
  refine hg_eq rfl rfl (show _ = [(sa, .inr (3, [.null, .int 0, .int 0, .int 0, .int 0, .int 0, .ref q1, .ref q2, .null])), (q1, .inl (E.2.1.1, 6, .inl (fun _ => 0))), (q2, .inl (E.2.1.1, 6, .inl (fun _ => 0))), (q3, .inl (E.2.1.1, 4, .inl (fun _ => 0)))] from rfl) ?_
  refine hg_putF C (T := TX3) (N := 9) (ws' := [(sa, .inr (3, [.null, .int 0, .int 0, .int 0, .int 0, .int 0, .ref q1, .ref q2, .ref q3])), (q1, .inl (E.2.1.1, 6, .inl (fun _ => 0))), (q2, .inl (E.2.1.1, 6, .inl (fun _ => 0))), (q3, .inl (E.2.1.1, 4, .inl (fun _ => 0)))]) mrX3_init_3 tyX3 tyX3_ok nmX3 0 rfl rfl 8 (by decide) mmX3_init_f34 rfl hi rfl rfl rfl rfl (Nat.le_of_ble_eq_true rfl) rfl dX3_init_49 ?_
  refine hg_aload_n C dX3_init_52 rfl 0 rfl ?_
  refine hg_aload_n C dX3_init_53 rfl 1 rfl ?_
  refine hg_putF C (T := TX3) (N := 9) (ws' := [(sa, .inr (3, [.ref fa, .int 0, .int 0, .int 0, .int 0, .int 0, .ref q1, .ref q2, .ref q3])), (q1, .inl (E.2.1.1, 6, .inl (fun _ => 0))), (q2, .inl (E.2.1.1, 6, .inl (fun _ => 0))), (q3, .inl (E.2.1.1, 4, .inl (fun _ => 0)))]) mrX3_init_3 tyX3 tyX3_ok nmX3 0 rfl rfl 0 (by decide) mmX3_init_f37 rfl hi rfl rfl rfl rfl (Nat.le_of_ble_eq_true rfl) rfl dX3_init_54 ?_
  exact hg_vretN C dX3_init_57 ⟨q1, q2, q3, rfl⟩
theorem mmX1_init_ol1 : (Cond.methodLink RX1 1 objectInit) ∈ wsX1_init := (List.mem_cons_of_mem _ (List.mem_append_left _ (List.mem_of_getElem? (i := 0) rfl)))
theorem mmX1_init_oi : (Cond.instanceMethod objectInit) ∈ wsX1_init := (List.mem_cons_of_mem _ (List.mem_append_left _ (List.mem_of_getElem? (i := 1) rfl)))
theorem mmX1_init_oc : (Cond.code objectInit ⟨#[0xb1]⟩ 1 none) ∈ wsX1_init := (List.mem_cons_of_mem _ (List.mem_append_left _ (List.mem_of_getElem? (i := 2) rfl)))
theorem mmX1_init_f7 : (Cond.fieldLink RX1 7 "HatRound$Best" "most" "I") ∈ wsX1_init := (List.mem_cons_of_mem _ (List.mem_append_left _ (List.mem_of_getElem? (i := 3) rfl)))
theorem mrX1_init_1 : ∀ w ∈ u_ws RX1 TX1 2, w ∈ wsX1_init := fun _ h => (List.mem_cons_of_mem _ (List.mem_append_right _ h))
theorem mmX1_init_f13 : (Cond.fieldLink RX1 13 "HatRound$Best" "choice" "I") ∈ wsX1_init := (List.mem_cons_of_mem _ (List.mem_append_left _ (List.mem_of_getElem? (i := 4) rfl)))
abbrev rmX1_init : Room := { frames := 1, cells := 0, slots := 0, locals := 12 }
theorem nfX1_init : hNF_ yX1_init wsX1_init rmX1_init cX1_init 1 0 0 0 := ⟨⟨_, rfl⟩, by decide +kernel, rfl, rfl, rfl⟩
set_option maxHeartbeats 4000000 in
set_option maxRecDepth 100000 in
theorem knX1_init (l : Launch) (E : hE) (be : Nat) : hN l yX1_init wsX1_init rmX1_init E [.ref be] [(be, .inr (1, [.int 0, .int 0]))] (fun w => w = [(be, .inr (1, [.int (-1), .int 0]))]) 0 0 := by
  refine hN_intro (cc := cX1_init) (maxL := 1) (ret := none) (lv0 := [(0, .ref be)]) (by decide) rfl (Nat.le_of_ble_eq_true rfl) rfl ?_
  intro p e s m below meth c A C O hi
  have hi : meth.name = "<init>" := hi
  refine hg_aload_n C dX1_init_0 rfl 0 rfl ?_
  refine hg_obj C mmX1_init_ol1 mmX1_init_oi mmX1_init_oc (Nat.le_of_ble_eq_true rfl) (Nat.le_of_ble_eq_true rfl) dX1_init_1 ?_
  refine hg_aload_n C dX1_init_4 rfl 0 rfl ?_
  refine hg_iconst C (v := (-1)) dX1_init_5 (by decide) ?_
  refine hg_put C (Cn := RX1) (T := TX1) (N := 2) (ws' := [(be, .inr (1, [.int (-1), .int 0]))]) mrX1_init_1 tyX1 tyX1_ok nmX1 0 rfl rfl 0 (by decide) mmX1_init_f7 rfl rfl rfl rfl (Nat.le_of_ble_eq_true rfl) rfl dX1_init_6 ?_
  refine hg_aload_n C dX1_init_9 rfl 0 rfl ?_
  refine hg_iconst C (v := 0) dX1_init_10 (by decide) ?_
  refine hg_put C (Cn := RX1) (T := TX1) (N := 2) (ws' := [(be, .inr (1, [.int (-1), .int 0]))]) mrX1_init_1 tyX1 tyX1_ok nmX1 0 rfl rfl 1 (by decide) mmX1_init_f13 rfl rfl rfl rfl (Nat.le_of_ble_eq_true rfl) rfl dX1_init_11 ?_
  exact hg_vretN C dX1_init_14 rfl
theorem mmX6_init_ol1 : (Cond.methodLink RX6 1 objectInit) ∈ wsX6_init := (List.mem_cons_of_mem _ (List.mem_append_left _ (List.mem_of_getElem? (i := 0) rfl)))
theorem mmX6_init_oi : (Cond.instanceMethod objectInit) ∈ wsX6_init := (List.mem_cons_of_mem _ (List.mem_append_left _ (List.mem_of_getElem? (i := 1) rfl)))
theorem mmX6_init_oc : (Cond.code objectInit ⟨#[0xb1]⟩ 1 none) ∈ wsX6_init := (List.mem_cons_of_mem _ (List.mem_append_left _ (List.mem_of_getElem? (i := 2) rfl)))
theorem mmX6_init_acint : (Cond.arrayClass .int) ∈ wsX6_init := (List.mem_cons_of_mem _ (List.mem_append_left _ (List.mem_of_getElem? (i := 3) rfl)))
theorem mmX6_init_f7 : (Cond.fieldLink RX6 7 "HatRoundModel" "text" "[I") ∈ wsX6_init := (List.mem_cons_of_mem _ (List.mem_append_left _ (List.mem_of_getElem? (i := 4) rfl)))
theorem mrX6_init_6 : ∀ w ∈ u_ws RX6 TX6 23, w ∈ wsX6_init := fun _ h => (List.mem_cons_of_mem _ (List.mem_append_right _ h))
theorem mmX6_init_f13 : (Cond.fieldLink RX6 13 "HatRoundModel" "told" "[I") ∈ wsX6_init := (List.mem_cons_of_mem _ (List.mem_append_left _ (List.mem_of_getElem? (i := 5) rfl)))
theorem mmX6_init_f16 : (Cond.fieldLink RX6 16 "HatRoundModel" "song" "[I") ∈ wsX6_init := (List.mem_cons_of_mem _ (List.mem_append_left _ (List.mem_of_getElem? (i := 6) rfl)))
theorem mmX6_init_f19 : (Cond.fieldLink RX6 19 "HatRoundModel" "readTold" "[I") ∈ wsX6_init := (List.mem_cons_of_mem _ (List.mem_append_left _ (List.mem_of_getElem? (i := 7) rfl)))
theorem mmX6_init_f22 : (Cond.fieldLink RX6 22 "HatRoundModel" "readSong" "[I") ∈ wsX6_init := (List.mem_cons_of_mem _ (List.mem_append_left _ (List.mem_of_getElem? (i := 8) rfl)))
theorem mmX6_init_f25 : (Cond.fieldLink RX6 25 "HatRoundModel" "page" "[I") ∈ wsX6_init := (List.mem_cons_of_mem _ (List.mem_append_left _ (List.mem_of_getElem? (i := 9) rfl)))
theorem mmX6_init_f28 : (Cond.fieldLink RX6 28 "HatRoundModel" "trial" "[I") ∈ wsX6_init := (List.mem_cons_of_mem _ (List.mem_append_left _ (List.mem_of_getElem? (i := 10) rfl)))
theorem mmX6_init_f31 : (Cond.fieldLink RX6 31 "HatRoundModel" "book" "[I") ∈ wsX6_init := (List.mem_cons_of_mem _ (List.mem_append_left _ (List.mem_of_getElem? (i := 11) rfl)))
theorem mmX6_init_f34 : (Cond.fieldLink RX6 34 "HatRoundModel" "kept" "[I") ∈ wsX6_init := (List.mem_cons_of_mem _ (List.mem_append_left _ (List.mem_of_getElem? (i := 12) rfl)))
theorem mmX6_init_acboolean : (Cond.arrayClass .boolean) ∈ wsX6_init := (List.mem_cons_of_mem _ (List.mem_append_left _ (List.mem_of_getElem? (i := 13) rfl)))
theorem mmX6_init_f37 : (Cond.fieldLink RX6 37 "HatRoundModel" "isKept" "[Z") ∈ wsX6_init := (List.mem_cons_of_mem _ (List.mem_append_left _ (List.mem_of_getElem? (i := 14) rfl)))
theorem mmX6_init_f41 : (Cond.fieldLink RX6 41 "HatRoundModel" "seenWho" "[I") ∈ wsX6_init := (List.mem_cons_of_mem _ (List.mem_append_left _ (List.mem_of_getElem? (i := 15) rfl)))
theorem mmX6_init_f44 : (Cond.fieldLink RX6 44 "HatRoundModel" "seenGives" "[Z") ∈ wsX6_init := (List.mem_cons_of_mem _ (List.mem_append_left _ (List.mem_of_getElem? (i := 16) rfl)))
abbrev rmX6_init : Room := { frames := 1, cells := 12, slots := 510, locals := 12 }
theorem nfX6_init : hNF_ yX6_init wsX6_init rmX6_init cX6_init 1 0 12 510 := ⟨⟨_, rfl⟩, by decide +kernel, rfl, rfl, rfl⟩
set_option maxHeartbeats 4000000 in
set_option maxRecDepth 100000 in
theorem knX6_init (l : Launch) (E : hE) (mm : Nat) : hN l yX6_init wsX6_init rmX6_init E [.ref mm] [(mm, .inr (6, [.int 0, .null, .int 0, .int 0, .int 0, .int 0, .null, .null, .int 0, .int 0, .null, .null, .null, .null, .null, .int 0, .null, .null, .int 0, .null, .null, .long 0, .int 0]))] (fun w => ∃ (m1 : Nat) (m6 : Nat) (m7 : Nat) (ma : Nat) (mb : Nat) (mc : Nat) (md : Nat) (me : Nat) (mg : Nat) (mh : Nat) (mj : Nat) (mk : Nat), w = [(mm, .inr (6, [.int 0, .ref m1, .int 0, .int 0, .int 0, .int 0, .ref m6, .ref m7, .int 0, .int 0, .ref ma, .ref mb, .ref mc, .ref md, .ref me, .int 0, .ref mg, .ref mh, .int 0, .ref mj, .ref mk, .long 0, .int 0])), (m1, .inl (E.2.1.1, 64, .inl (fun _ => 0))), (m6, .inl (E.2.1.1, 36, .inl (fun _ => 0))), (m7, .inl (E.2.1.1, 12, .inl (fun _ => 0))), (ma, .inl (E.2.1.1, 36, .inl (fun _ => 0))), (mb, .inl (E.2.1.1, 12, .inl (fun _ => 0))), (mc, .inl (E.2.1.1, 21, .inl (fun _ => 0))), (md, .inl (E.2.1.1, 21, .inl (fun _ => 0))), (me, .inl (E.2.1.1, 252, .inl (fun _ => 0))), (mg, .inl (E.2.1.1, 42, .inl (fun _ => 0))), (mh, .inl (E.2.1.2.1, 2, .inl (fun _ => 0))), (mj, .inl (E.2.1.1, 6, .inl (fun _ => 0))), (mk, .inl (E.2.1.2.1, 6, .inl (fun _ => 0)))]) 12 510 := by
  refine hN_intro (cc := cX6_init) (maxL := 1) (ret := none) (lv0 := [(0, .ref mm)]) (by decide) rfl (Nat.le_of_ble_eq_true rfl) rfl ?_
  intro p e s m below meth c A C O hi
  have hi : meth.name = "<init>" := hi
  refine hg_aload_n C dX6_init_0 rfl 0 rfl ?_
  refine hg_obj C mmX6_init_ol1 mmX6_init_oi mmX6_init_oc (Nat.le_of_ble_eq_true rfl) (Nat.le_of_ble_eq_true rfl) dX6_init_1 ?_
  refine hg_aload_n C dX6_init_4 rfl 0 rfl ?_
  refine hg_bipush C (v := 64) dX6_init_5 (by decide) ?_
  refine hg_newi C 64 mmX6_init_acint (by decide) (by decide) (Nat.le_of_ble_eq_true rfl) (Nat.le_of_ble_eq_true rfl) (Nat.le_of_ble_eq_true rfl) dX6_init_7 (fun q1 => ?_)
  refine hg_eq rfl rfl (show _ = [(mm, .inr (6, [.int 0, .null, .int 0, .int 0, .int 0, .int 0, .null, .null, .int 0, .int 0, .null, .null, .null, .null, .null, .int 0, .null, .null, .int 0, .null, .null, .long 0, .int 0])), (q1, .inl (E.2.1.1, 64, .inl (fun _ => 0)))] from rfl) ?_
  refine hg_putF C (T := TX6) (N := 23) (ws' := [(mm, .inr (6, [.int 0, .ref q1, .int 0, .int 0, .int 0, .int 0, .null, .null, .int 0, .int 0, .null, .null, .null, .null, .null, .int 0, .null, .null, .int 0, .null, .null, .long 0, .int 0])), (q1, .inl (E.2.1.1, 64, .inl (fun _ => 0)))]) mrX6_init_6 tyX6 tyX6_ok nmX6 0 rfl rfl 1 (by decide) mmX6_init_f7 rfl hi rfl rfl rfl rfl (Nat.le_of_ble_eq_true rfl) rfl dX6_init_9 ?_
  refine hg_aload_n C dX6_init_12 rfl 0 rfl ?_
  refine hg_bipush C (v := 36) dX6_init_13 (by decide) ?_
  refine hg_newi C 36 mmX6_init_acint (by decide) (by decide) (Nat.le_of_ble_eq_true rfl) (Nat.le_of_ble_eq_true rfl) (Nat.le_of_ble_eq_true rfl) dX6_init_15 (fun q2 => ?_)
  refine hg_eq rfl rfl (show _ = [(mm, .inr (6, [.int 0, .ref q1, .int 0, .int 0, .int 0, .int 0, .null, .null, .int 0, .int 0, .null, .null, .null, .null, .null, .int 0, .null, .null, .int 0, .null, .null, .long 0, .int 0])), (q1, .inl (E.2.1.1, 64, .inl (fun _ => 0))), (q2, .inl (E.2.1.1, 36, .inl (fun _ => 0)))] from rfl) ?_
  refine hg_putF C (T := TX6) (N := 23) (ws' := [(mm, .inr (6, [.int 0, .ref q1, .int 0, .int 0, .int 0, .int 0, .ref q2, .null, .int 0, .int 0, .null, .null, .null, .null, .null, .int 0, .null, .null, .int 0, .null, .null, .long 0, .int 0])), (q1, .inl (E.2.1.1, 64, .inl (fun _ => 0))), (q2, .inl (E.2.1.1, 36, .inl (fun _ => 0)))]) mrX6_init_6 tyX6 tyX6_ok nmX6 0 rfl rfl 6 (by decide) mmX6_init_f13 rfl hi rfl rfl rfl rfl (Nat.le_of_ble_eq_true rfl) rfl dX6_init_17 ?_
  refine hg_aload_n C dX6_init_20 rfl 0 rfl ?_
  refine hg_bipush C (v := 12) dX6_init_21 (by decide) ?_
  refine hg_newi C 12 mmX6_init_acint (by decide) (by decide) (Nat.le_of_ble_eq_true rfl) (Nat.le_of_ble_eq_true rfl) (Nat.le_of_ble_eq_true rfl) dX6_init_23 (fun q3 => ?_)
  refine hg_eq rfl rfl (show _ = [(mm, .inr (6, [.int 0, .ref q1, .int 0, .int 0, .int 0, .int 0, .ref q2, .null, .int 0, .int 0, .null, .null, .null, .null, .null, .int 0, .null, .null, .int 0, .null, .null, .long 0, .int 0])), (q1, .inl (E.2.1.1, 64, .inl (fun _ => 0))), (q2, .inl (E.2.1.1, 36, .inl (fun _ => 0))), (q3, .inl (E.2.1.1, 12, .inl (fun _ => 0)))] from rfl) ?_
  refine hg_putF C (T := TX6) (N := 23) (ws' := [(mm, .inr (6, [.int 0, .ref q1, .int 0, .int 0, .int 0, .int 0, .ref q2, .ref q3, .int 0, .int 0, .null, .null, .null, .null, .null, .int 0, .null, .null, .int 0, .null, .null, .long 0, .int 0])), (q1, .inl (E.2.1.1, 64, .inl (fun _ => 0))), (q2, .inl (E.2.1.1, 36, .inl (fun _ => 0))), (q3, .inl (E.2.1.1, 12, .inl (fun _ => 0)))]) mrX6_init_6 tyX6 tyX6_ok nmX6 0 rfl rfl 7 (by decide) mmX6_init_f16 rfl hi rfl rfl rfl rfl (Nat.le_of_ble_eq_true rfl) rfl dX6_init_25 ?_
  refine hg_aload_n C dX6_init_28 rfl 0 rfl ?_
  refine hg_bipush C (v := 36) dX6_init_29 (by decide) ?_
  refine hg_newi C 36 mmX6_init_acint (by decide) (by decide) (Nat.le_of_ble_eq_true rfl) (Nat.le_of_ble_eq_true rfl) (Nat.le_of_ble_eq_true rfl) dX6_init_31 (fun q4 => ?_)
  refine hg_eq rfl rfl (show _ = [(mm, .inr (6, [.int 0, .ref q1, .int 0, .int 0, .int 0, .int 0, .ref q2, .ref q3, .int 0, .int 0, .null, .null, .null, .null, .null, .int 0, .null, .null, .int 0, .null, .null, .long 0, .int 0])), (q1, .inl (E.2.1.1, 64, .inl (fun _ => 0))), (q2, .inl (E.2.1.1, 36, .inl (fun _ => 0))), (q3, .inl (E.2.1.1, 12, .inl (fun _ => 0))), (q4, .inl (E.2.1.1, 36, .inl (fun _ => 0)))] from rfl) ?_
  refine hg_putF C (T := TX6) (N := 23) (ws' := [(mm, .inr (6, [.int 0, .ref q1, .int 0, .int 0, .int 0, .int 0, .ref q2, .ref q3, .int 0, .int 0, .ref q4, .null, .null, .null, .null, .int 0, .null, .null, .int 0, .null, .null, .long 0, .int 0])), (q1, .inl (E.2.1.1, 64, .inl (fun _ => 0))), (q2, .inl (E.2.1.1, 36, .inl (fun _ => 0))), (q3, .inl (E.2.1.1, 12, .inl (fun _ => 0))), (q4, .inl (E.2.1.1, 36, .inl (fun _ => 0)))]) mrX6_init_6 tyX6 tyX6_ok nmX6 0 rfl rfl 10 (by decide) mmX6_init_f19 rfl hi rfl rfl rfl rfl (Nat.le_of_ble_eq_true rfl) rfl dX6_init_33 ?_
  refine hg_aload_n C dX6_init_36 rfl 0 rfl ?_
  refine hg_bipush C (v := 12) dX6_init_37 (by decide) ?_
  refine hg_newi C 12 mmX6_init_acint (by decide) (by decide) (Nat.le_of_ble_eq_true rfl) (Nat.le_of_ble_eq_true rfl) (Nat.le_of_ble_eq_true rfl) dX6_init_39 (fun q5 => ?_)
  refine hg_eq rfl rfl (show _ = [(mm, .inr (6, [.int 0, .ref q1, .int 0, .int 0, .int 0, .int 0, .ref q2, .ref q3, .int 0, .int 0, .ref q4, .null, .null, .null, .null, .int 0, .null, .null, .int 0, .null, .null, .long 0, .int 0])), (q1, .inl (E.2.1.1, 64, .inl (fun _ => 0))), (q2, .inl (E.2.1.1, 36, .inl (fun _ => 0))), (q3, .inl (E.2.1.1, 12, .inl (fun _ => 0))), (q4, .inl (E.2.1.1, 36, .inl (fun _ => 0))), (q5, .inl (E.2.1.1, 12, .inl (fun _ => 0)))] from rfl) ?_
  refine hg_putF C (T := TX6) (N := 23) (ws' := [(mm, .inr (6, [.int 0, .ref q1, .int 0, .int 0, .int 0, .int 0, .ref q2, .ref q3, .int 0, .int 0, .ref q4, .ref q5, .null, .null, .null, .int 0, .null, .null, .int 0, .null, .null, .long 0, .int 0])), (q1, .inl (E.2.1.1, 64, .inl (fun _ => 0))), (q2, .inl (E.2.1.1, 36, .inl (fun _ => 0))), (q3, .inl (E.2.1.1, 12, .inl (fun _ => 0))), (q4, .inl (E.2.1.1, 36, .inl (fun _ => 0))), (q5, .inl (E.2.1.1, 12, .inl (fun _ => 0)))]) mrX6_init_6 tyX6 tyX6_ok nmX6 0 rfl rfl 11 (by decide) mmX6_init_f22 rfl hi rfl rfl rfl rfl (Nat.le_of_ble_eq_true rfl) rfl dX6_init_41 ?_
  refine hg_aload_n C dX6_init_44 rfl 0 rfl ?_
  refine hg_bipush C (v := 21) dX6_init_45 (by decide) ?_
  refine hg_newi C 21 mmX6_init_acint (by decide) (by decide) (Nat.le_of_ble_eq_true rfl) (Nat.le_of_ble_eq_true rfl) (Nat.le_of_ble_eq_true rfl) dX6_init_47 (fun q6 => ?_)
  refine hg_eq rfl rfl (show _ = [(mm, .inr (6, [.int 0, .ref q1, .int 0, .int 0, .int 0, .int 0, .ref q2, .ref q3, .int 0, .int 0, .ref q4, .ref q5, .null, .null, .null, .int 0, .null, .null, .int 0, .null, .null, .long 0, .int 0])), (q1, .inl (E.2.1.1, 64, .inl (fun _ => 0))), (q2, .inl (E.2.1.1, 36, .inl (fun _ => 0))), (q3, .inl (E.2.1.1, 12, .inl (fun _ => 0))), (q4, .inl (E.2.1.1, 36, .inl (fun _ => 0))), (q5, .inl (E.2.1.1, 12, .inl (fun _ => 0))), (q6, .inl (E.2.1.1, 21, .inl (fun _ => 0)))] from rfl) ?_
  refine hg_putF C (T := TX6) (N := 23) (ws' := [(mm, .inr (6, [.int 0, .ref q1, .int 0, .int 0, .int 0, .int 0, .ref q2, .ref q3, .int 0, .int 0, .ref q4, .ref q5, .ref q6, .null, .null, .int 0, .null, .null, .int 0, .null, .null, .long 0, .int 0])), (q1, .inl (E.2.1.1, 64, .inl (fun _ => 0))), (q2, .inl (E.2.1.1, 36, .inl (fun _ => 0))), (q3, .inl (E.2.1.1, 12, .inl (fun _ => 0))), (q4, .inl (E.2.1.1, 36, .inl (fun _ => 0))), (q5, .inl (E.2.1.1, 12, .inl (fun _ => 0))), (q6, .inl (E.2.1.1, 21, .inl (fun _ => 0)))]) mrX6_init_6 tyX6 tyX6_ok nmX6 0 rfl rfl 12 (by decide) mmX6_init_f25 rfl hi rfl rfl rfl rfl (Nat.le_of_ble_eq_true rfl) rfl dX6_init_49 ?_
  refine hg_aload_n C dX6_init_52 rfl 0 rfl ?_
  refine hg_bipush C (v := 21) dX6_init_53 (by decide) ?_
  refine hg_newi C 21 mmX6_init_acint (by decide) (by decide) (Nat.le_of_ble_eq_true rfl) (Nat.le_of_ble_eq_true rfl) (Nat.le_of_ble_eq_true rfl) dX6_init_55 (fun q7 => ?_)
  refine hg_eq rfl rfl (show _ = [(mm, .inr (6, [.int 0, .ref q1, .int 0, .int 0, .int 0, .int 0, .ref q2, .ref q3, .int 0, .int 0, .ref q4, .ref q5, .ref q6, .null, .null, .int 0, .null, .null, .int 0, .null, .null, .long 0, .int 0])), (q1, .inl (E.2.1.1, 64, .inl (fun _ => 0))), (q2, .inl (E.2.1.1, 36, .inl (fun _ => 0))), (q3, .inl (E.2.1.1, 12, .inl (fun _ => 0))), (q4, .inl (E.2.1.1, 36, .inl (fun _ => 0))), (q5, .inl (E.2.1.1, 12, .inl (fun _ => 0))), (q6, .inl (E.2.1.1, 21, .inl (fun _ => 0))), (q7, .inl (E.2.1.1, 21, .inl (fun _ => 0)))] from rfl) ?_
  refine hg_putF C (T := TX6) (N := 23) (ws' := [(mm, .inr (6, [.int 0, .ref q1, .int 0, .int 0, .int 0, .int 0, .ref q2, .ref q3, .int 0, .int 0, .ref q4, .ref q5, .ref q6, .ref q7, .null, .int 0, .null, .null, .int 0, .null, .null, .long 0, .int 0])), (q1, .inl (E.2.1.1, 64, .inl (fun _ => 0))), (q2, .inl (E.2.1.1, 36, .inl (fun _ => 0))), (q3, .inl (E.2.1.1, 12, .inl (fun _ => 0))), (q4, .inl (E.2.1.1, 36, .inl (fun _ => 0))), (q5, .inl (E.2.1.1, 12, .inl (fun _ => 0))), (q6, .inl (E.2.1.1, 21, .inl (fun _ => 0))), (q7, .inl (E.2.1.1, 21, .inl (fun _ => 0)))]) mrX6_init_6 tyX6 tyX6_ok nmX6 0 rfl rfl 13 (by decide) mmX6_init_f28 rfl hi rfl rfl rfl rfl (Nat.le_of_ble_eq_true rfl) rfl dX6_init_57 ?_
  refine hg_aload_n C dX6_init_60 rfl 0 rfl ?_
  refine hg_sipush C (v := 252) dX6_init_61 (by decide) ?_
  refine hg_newi C 252 mmX6_init_acint (by decide) (by decide) (Nat.le_of_ble_eq_true rfl) (Nat.le_of_ble_eq_true rfl) (Nat.le_of_ble_eq_true rfl) dX6_init_64 (fun q8 => ?_)
  refine hg_eq rfl rfl (show _ = [(mm, .inr (6, [.int 0, .ref q1, .int 0, .int 0, .int 0, .int 0, .ref q2, .ref q3, .int 0, .int 0, .ref q4, .ref q5, .ref q6, .ref q7, .null, .int 0, .null, .null, .int 0, .null, .null, .long 0, .int 0])), (q1, .inl (E.2.1.1, 64, .inl (fun _ => 0))), (q2, .inl (E.2.1.1, 36, .inl (fun _ => 0))), (q3, .inl (E.2.1.1, 12, .inl (fun _ => 0))), (q4, .inl (E.2.1.1, 36, .inl (fun _ => 0))), (q5, .inl (E.2.1.1, 12, .inl (fun _ => 0))), (q6, .inl (E.2.1.1, 21, .inl (fun _ => 0))), (q7, .inl (E.2.1.1, 21, .inl (fun _ => 0))), (q8, .inl (E.2.1.1, 252, .inl (fun _ => 0)))] from rfl) ?_
  refine hg_putF C (T := TX6) (N := 23) (ws' := [(mm, .inr (6, [.int 0, .ref q1, .int 0, .int 0, .int 0, .int 0, .ref q2, .ref q3, .int 0, .int 0, .ref q4, .ref q5, .ref q6, .ref q7, .ref q8, .int 0, .null, .null, .int 0, .null, .null, .long 0, .int 0])), (q1, .inl (E.2.1.1, 64, .inl (fun _ => 0))), (q2, .inl (E.2.1.1, 36, .inl (fun _ => 0))), (q3, .inl (E.2.1.1, 12, .inl (fun _ => 0))), (q4, .inl (E.2.1.1, 36, .inl (fun _ => 0))), (q5, .inl (E.2.1.1, 12, .inl (fun _ => 0))), (q6, .inl (E.2.1.1, 21, .inl (fun _ => 0))), (q7, .inl (E.2.1.1, 21, .inl (fun _ => 0))), (q8, .inl (E.2.1.1, 252, .inl (fun _ => 0)))]) mrX6_init_6 tyX6 tyX6_ok nmX6 0 rfl rfl 14 (by decide) mmX6_init_f31 rfl hi rfl rfl rfl rfl (Nat.le_of_ble_eq_true rfl) rfl dX6_init_66 ?_
  refine hg_aload_n C dX6_init_69 rfl 0 rfl ?_
  refine hg_bipush C (v := 42) dX6_init_70 (by decide) ?_
  refine hg_newi C 42 mmX6_init_acint (by decide) (by decide) (Nat.le_of_ble_eq_true rfl) (Nat.le_of_ble_eq_true rfl) (Nat.le_of_ble_eq_true rfl) dX6_init_72 (fun q9 => ?_)
  refine hg_eq rfl rfl (show _ = [(mm, .inr (6, [.int 0, .ref q1, .int 0, .int 0, .int 0, .int 0, .ref q2, .ref q3, .int 0, .int 0, .ref q4, .ref q5, .ref q6, .ref q7, .ref q8, .int 0, .null, .null, .int 0, .null, .null, .long 0, .int 0])), (q1, .inl (E.2.1.1, 64, .inl (fun _ => 0))), (q2, .inl (E.2.1.1, 36, .inl (fun _ => 0))), (q3, .inl (E.2.1.1, 12, .inl (fun _ => 0))), (q4, .inl (E.2.1.1, 36, .inl (fun _ => 0))), (q5, .inl (E.2.1.1, 12, .inl (fun _ => 0))), (q6, .inl (E.2.1.1, 21, .inl (fun _ => 0))), (q7, .inl (E.2.1.1, 21, .inl (fun _ => 0))), (q8, .inl (E.2.1.1, 252, .inl (fun _ => 0))), (q9, .inl (E.2.1.1, 42, .inl (fun _ => 0)))] from rfl) ?_
  refine hg_putF C (T := TX6) (N := 23) (ws' := [(mm, .inr (6, [.int 0, .ref q1, .int 0, .int 0, .int 0, .int 0, .ref q2, .ref q3, .int 0, .int 0, .ref q4, .ref q5, .ref q6, .ref q7, .ref q8, .int 0, .ref q9, .null, .int 0, .null, .null, .long 0, .int 0])), (q1, .inl (E.2.1.1, 64, .inl (fun _ => 0))), (q2, .inl (E.2.1.1, 36, .inl (fun _ => 0))), (q3, .inl (E.2.1.1, 12, .inl (fun _ => 0))), (q4, .inl (E.2.1.1, 36, .inl (fun _ => 0))), (q5, .inl (E.2.1.1, 12, .inl (fun _ => 0))), (q6, .inl (E.2.1.1, 21, .inl (fun _ => 0))), (q7, .inl (E.2.1.1, 21, .inl (fun _ => 0))), (q8, .inl (E.2.1.1, 252, .inl (fun _ => 0))), (q9, .inl (E.2.1.1, 42, .inl (fun _ => 0)))]) mrX6_init_6 tyX6 tyX6_ok nmX6 0 rfl rfl 16 (by decide) mmX6_init_f34 rfl hi rfl rfl rfl rfl (Nat.le_of_ble_eq_true rfl) rfl dX6_init_74 ?_
  refine hg_aload_n C dX6_init_77 rfl 0 rfl ?_
  refine hg_iconst C (v := 2) dX6_init_78 (by decide) ?_
  refine hg_newz C 2 mmX6_init_acboolean (by decide) (by decide) (Nat.le_of_ble_eq_true rfl) (Nat.le_of_ble_eq_true rfl) (Nat.le_of_ble_eq_true rfl) dX6_init_79 (fun q10 => ?_)
  refine hg_eq rfl rfl (show _ = [(mm, .inr (6, [.int 0, .ref q1, .int 0, .int 0, .int 0, .int 0, .ref q2, .ref q3, .int 0, .int 0, .ref q4, .ref q5, .ref q6, .ref q7, .ref q8, .int 0, .ref q9, .null, .int 0, .null, .null, .long 0, .int 0])), (q1, .inl (E.2.1.1, 64, .inl (fun _ => 0))), (q2, .inl (E.2.1.1, 36, .inl (fun _ => 0))), (q3, .inl (E.2.1.1, 12, .inl (fun _ => 0))), (q4, .inl (E.2.1.1, 36, .inl (fun _ => 0))), (q5, .inl (E.2.1.1, 12, .inl (fun _ => 0))), (q6, .inl (E.2.1.1, 21, .inl (fun _ => 0))), (q7, .inl (E.2.1.1, 21, .inl (fun _ => 0))), (q8, .inl (E.2.1.1, 252, .inl (fun _ => 0))), (q9, .inl (E.2.1.1, 42, .inl (fun _ => 0))), (q10, .inl (E.2.1.2.1, 2, .inl (fun _ => 0)))] from rfl) ?_
  refine hg_putF C (T := TX6) (N := 23) (ws' := [(mm, .inr (6, [.int 0, .ref q1, .int 0, .int 0, .int 0, .int 0, .ref q2, .ref q3, .int 0, .int 0, .ref q4, .ref q5, .ref q6, .ref q7, .ref q8, .int 0, .ref q9, .ref q10, .int 0, .null, .null, .long 0, .int 0])), (q1, .inl (E.2.1.1, 64, .inl (fun _ => 0))), (q2, .inl (E.2.1.1, 36, .inl (fun _ => 0))), (q3, .inl (E.2.1.1, 12, .inl (fun _ => 0))), (q4, .inl (E.2.1.1, 36, .inl (fun _ => 0))), (q5, .inl (E.2.1.1, 12, .inl (fun _ => 0))), (q6, .inl (E.2.1.1, 21, .inl (fun _ => 0))), (q7, .inl (E.2.1.1, 21, .inl (fun _ => 0))), (q8, .inl (E.2.1.1, 252, .inl (fun _ => 0))), (q9, .inl (E.2.1.1, 42, .inl (fun _ => 0))), (q10, .inl (E.2.1.2.1, 2, .inl (fun _ => 0)))]) mrX6_init_6 tyX6 tyX6_ok nmX6 0 rfl rfl 17 (by decide) mmX6_init_f37 rfl hi rfl rfl rfl rfl (Nat.le_of_ble_eq_true rfl) rfl dX6_init_81 ?_
  refine hg_aload_n C dX6_init_84 rfl 0 rfl ?_
  refine hg_bipush C (v := 6) dX6_init_85 (by decide) ?_
  refine hg_newi C 6 mmX6_init_acint (by decide) (by decide) (Nat.le_of_ble_eq_true rfl) (Nat.le_of_ble_eq_true rfl) (Nat.le_of_ble_eq_true rfl) dX6_init_87 (fun q11 => ?_)
  refine hg_eq rfl rfl (show _ = [(mm, .inr (6, [.int 0, .ref q1, .int 0, .int 0, .int 0, .int 0, .ref q2, .ref q3, .int 0, .int 0, .ref q4, .ref q5, .ref q6, .ref q7, .ref q8, .int 0, .ref q9, .ref q10, .int 0, .null, .null, .long 0, .int 0])), (q1, .inl (E.2.1.1, 64, .inl (fun _ => 0))), (q2, .inl (E.2.1.1, 36, .inl (fun _ => 0))), (q3, .inl (E.2.1.1, 12, .inl (fun _ => 0))), (q4, .inl (E.2.1.1, 36, .inl (fun _ => 0))), (q5, .inl (E.2.1.1, 12, .inl (fun _ => 0))), (q6, .inl (E.2.1.1, 21, .inl (fun _ => 0))), (q7, .inl (E.2.1.1, 21, .inl (fun _ => 0))), (q8, .inl (E.2.1.1, 252, .inl (fun _ => 0))), (q9, .inl (E.2.1.1, 42, .inl (fun _ => 0))), (q10, .inl (E.2.1.2.1, 2, .inl (fun _ => 0))), (q11, .inl (E.2.1.1, 6, .inl (fun _ => 0)))] from rfl) ?_
  refine hg_putF C (T := TX6) (N := 23) (ws' := [(mm, .inr (6, [.int 0, .ref q1, .int 0, .int 0, .int 0, .int 0, .ref q2, .ref q3, .int 0, .int 0, .ref q4, .ref q5, .ref q6, .ref q7, .ref q8, .int 0, .ref q9, .ref q10, .int 0, .ref q11, .null, .long 0, .int 0])), (q1, .inl (E.2.1.1, 64, .inl (fun _ => 0))), (q2, .inl (E.2.1.1, 36, .inl (fun _ => 0))), (q3, .inl (E.2.1.1, 12, .inl (fun _ => 0))), (q4, .inl (E.2.1.1, 36, .inl (fun _ => 0))), (q5, .inl (E.2.1.1, 12, .inl (fun _ => 0))), (q6, .inl (E.2.1.1, 21, .inl (fun _ => 0))), (q7, .inl (E.2.1.1, 21, .inl (fun _ => 0))), (q8, .inl (E.2.1.1, 252, .inl (fun _ => 0))), (q9, .inl (E.2.1.1, 42, .inl (fun _ => 0))), (q10, .inl (E.2.1.2.1, 2, .inl (fun _ => 0))), (q11, .inl (E.2.1.1, 6, .inl (fun _ => 0)))]) mrX6_init_6 tyX6 tyX6_ok nmX6 0 rfl rfl 19 (by decide) mmX6_init_f41 rfl hi rfl rfl rfl rfl (Nat.le_of_ble_eq_true rfl) rfl dX6_init_89 ?_
  refine hg_aload_n C dX6_init_92 rfl 0 rfl ?_
  refine hg_bipush C (v := 6) dX6_init_93 (by decide) ?_
  refine hg_newz C 6 mmX6_init_acboolean (by decide) (by decide) (Nat.le_of_ble_eq_true rfl) (Nat.le_of_ble_eq_true rfl) (Nat.le_of_ble_eq_true rfl) dX6_init_95 (fun q12 => ?_)
  refine hg_eq rfl rfl (show _ = [(mm, .inr (6, [.int 0, .ref q1, .int 0, .int 0, .int 0, .int 0, .ref q2, .ref q3, .int 0, .int 0, .ref q4, .ref q5, .ref q6, .ref q7, .ref q8, .int 0, .ref q9, .ref q10, .int 0, .ref q11, .null, .long 0, .int 0])), (q1, .inl (E.2.1.1, 64, .inl (fun _ => 0))), (q2, .inl (E.2.1.1, 36, .inl (fun _ => 0))), (q3, .inl (E.2.1.1, 12, .inl (fun _ => 0))), (q4, .inl (E.2.1.1, 36, .inl (fun _ => 0))), (q5, .inl (E.2.1.1, 12, .inl (fun _ => 0))), (q6, .inl (E.2.1.1, 21, .inl (fun _ => 0))), (q7, .inl (E.2.1.1, 21, .inl (fun _ => 0))), (q8, .inl (E.2.1.1, 252, .inl (fun _ => 0))), (q9, .inl (E.2.1.1, 42, .inl (fun _ => 0))), (q10, .inl (E.2.1.2.1, 2, .inl (fun _ => 0))), (q11, .inl (E.2.1.1, 6, .inl (fun _ => 0))), (q12, .inl (E.2.1.2.1, 6, .inl (fun _ => 0)))] from rfl) ?_
  refine hg_putF C (T := TX6) (N := 23) (ws' := [(mm, .inr (6, [.int 0, .ref q1, .int 0, .int 0, .int 0, .int 0, .ref q2, .ref q3, .int 0, .int 0, .ref q4, .ref q5, .ref q6, .ref q7, .ref q8, .int 0, .ref q9, .ref q10, .int 0, .ref q11, .ref q12, .long 0, .int 0])), (q1, .inl (E.2.1.1, 64, .inl (fun _ => 0))), (q2, .inl (E.2.1.1, 36, .inl (fun _ => 0))), (q3, .inl (E.2.1.1, 12, .inl (fun _ => 0))), (q4, .inl (E.2.1.1, 36, .inl (fun _ => 0))), (q5, .inl (E.2.1.1, 12, .inl (fun _ => 0))), (q6, .inl (E.2.1.1, 21, .inl (fun _ => 0))), (q7, .inl (E.2.1.1, 21, .inl (fun _ => 0))), (q8, .inl (E.2.1.1, 252, .inl (fun _ => 0))), (q9, .inl (E.2.1.1, 42, .inl (fun _ => 0))), (q10, .inl (E.2.1.2.1, 2, .inl (fun _ => 0))), (q11, .inl (E.2.1.1, 6, .inl (fun _ => 0))), (q12, .inl (E.2.1.2.1, 6, .inl (fun _ => 0)))]) mrX6_init_6 tyX6 tyX6_ok nmX6 0 rfl rfl 20 (by decide) mmX6_init_f44 rfl hi rfl rfl rfl rfl (Nat.le_of_ble_eq_true rfl) rfl dX6_init_97 ?_
  exact hg_vretN C dX6_init_100 ⟨q1, q2, q3, q4, q5, q6, q7, q8, q9, q10, q11, q12, rfl⟩
