theorem mmX5_waysToStay_f28 : (Cond.fieldLink RX5 28 "HatRound" "now" "LHatRound$Scene;") ∈ wsX5_waysToStay := (List.mem_cons_of_mem _ (List.mem_append_left _ (List.mem_append_left _ (List.mem_of_getElem? (i := 0) rfl))))
theorem mrX5_waysToStay_5 : ∀ w ∈ u_ws RX5 TX5 13, w ∈ wsX5_waysToStay := fun _ h => (List.mem_cons_of_mem _ (List.mem_append_left _ (List.mem_append_right _ h)))
abbrev rmX5_waysToStay : Room := { frames := 2, cells := 0, slots := 0, locals := 40 }
theorem hfX5_waysToStay : hCF yX5_waysToStay wsX5_waysToStay rmX5_waysToStay cX5_waysToStay 3 (some .int) 2 := ⟨⟨_, rfl⟩, by decide +kernel, rfl, rfl⟩
noncomputable def fX5_waysToStay (S : Sc) (a : Int32) (b : Int32) : Int32 := hid ((fX5_power a b) * (fX5_power (10 - a) ((gX3_ringSize_s S) - b)))
set_option maxHeartbeats 4000000 in
set_option maxRecDepth 100000 in
theorem kX5_waysToStay (l : Launch) (E : hE) (hr : Nat) (ta : Nat) (fa : Nat) (n0 : Nat) (aa : Nat) (ka : Nat) (kb : Nat) (qa : Nat) (qb : Nat) (t0 : Nat) (u0 : Nat) (be : Nat) (sn : Int32) (sd : Int64) (n1 : Nat) (n2 : Nat) (n3 : Nat) (S : Sc) (a : Int32) (b : Int32) : hC l yX5_waysToStay wsX5_waysToStay rmX5_waysToStay E [.ref hr, .int a, .int b] [(hr, .inr (5, [.ref ta, .ref fa, .ref n0, .ref aa, .ref ka, .ref kb, .ref qa, .ref qb, .int sn, .long sd, .ref t0, .ref u0, .ref be])), (n0, .inr (3, [.ref fa, .int S.1, .int S.2.1, .int S.2.2.1, .int S.2.2.2.1, .int S.2.2.2.2.1, .ref n1, .ref n2, .ref n3])), (n1, .inl (E.2.1.1, 6, .inl S.2.2.2.2.2.1)), (n2, .inl (E.2.1.1, 6, .inl S.2.2.2.2.2.2.1)), (n3, .inl (E.2.1.1, 4, .inl S.2.2.2.2.2.2.2))] (some (.int (fX5_waysToStay S a b))) [(hr, .inr (5, [.ref ta, .ref fa, .ref n0, .ref aa, .ref ka, .ref kb, .ref qa, .ref qb, .int sn, .long sd, .ref t0, .ref u0, .ref be])), (n0, .inr (3, [.ref fa, .int S.1, .int S.2.1, .int S.2.2.1, .int S.2.2.2.1, .int S.2.2.2.2.1, .ref n1, .ref n2, .ref n3])), (n1, .inl (E.2.1.1, 6, .inl S.2.2.2.2.2.1)), (n2, .inl (E.2.1.1, 6, .inl S.2.2.2.2.2.2.1)), (n3, .inl (E.2.1.1, 4, .inl S.2.2.2.2.2.2.2))] := by
  refine hC_intro (cc := cX5_waysToStay) (maxL := 3) (ret := (some .int)) (lv0 := [(0, .ref hr), (1, .int a), (2, .int b)]) (by decide) rfl (Nat.le_of_ble_eq_true rfl) rfl ?_
  intro p e s m below meth c A C
  refine hg_iload_n C dX5_waysToStay_0 rfl 1 rfl ?_
  refine hg_iload_n C dX5_waysToStay_1 rfl 2 rfl ?_
  refine hg_callS C (ws' := [(hr, .inr (5, [.ref ta, .ref fa, .ref n0, .ref aa, .ref ka, .ref kb, .ref qa, .ref qb, .int sn, .long sd, .ref t0, .ref u0, .ref be])), (n0, .inr (3, [.ref fa, .int S.1, .int S.2.1, .int S.2.2.1, .int S.2.2.2.1, .int S.2.2.2.2.1, .ref n1, .ref n2, .ref n3])), (n1, .inl (E.2.1.1, 6, .inl S.2.2.2.2.2.1)), (n2, .inl (E.2.1.1, 6, .inl S.2.2.2.2.2.2.1)), (n3, .inl (E.2.1.1, 4, .inl S.2.2.2.2.2.2.2))]) (rest := []) (kX5_power l E a b) hfX5_power gX5_waysToStay_X5_power ⟨Nat.le_of_ble_eq_true rfl, Nat.le_of_ble_eq_true rfl⟩ ⟨Nat.zero_le _, Nat.zero_le _⟩ [] rfl (by decide) [] rfl rfl rfl rfl (Nat.le_of_ble_eq_true rfl) dX5_waysToStay_2 ?_
  refine hg_bipush C (v := 10) dX5_waysToStay_5 (by decide) ?_
  refine hg_iload_n C dX5_waysToStay_7 rfl 1 rfl ?_
  refine hg_isub C dX5_waysToStay_8 ?_
  refine hg_aload_n C dX5_waysToStay_9 rfl 0 rfl ?_
  refine hg_get C (Cn := RX5) (T := TX5) (N := 13) (v := .ref n0) mrX5_waysToStay_5 0 rfl rfl 2 (by decide) mmX5_waysToStay_f28 rfl dX5_waysToStay_10 ?_
  refine hg_callV C (ws' := [(hr, .inr (5, [.ref ta, .ref fa, .ref n0, .ref aa, .ref ka, .ref kb, .ref qa, .ref qb, .int sn, .long sd, .ref t0, .ref u0, .ref be])), (n0, .inr (3, [.ref fa, .int S.1, .int S.2.1, .int S.2.2.1, .int S.2.2.2.1, .int S.2.2.2.2.1, .ref n1, .ref n2, .ref n3])), (n1, .inl (E.2.1.1, 6, .inl S.2.2.2.2.2.1)), (n2, .inl (E.2.1.1, 6, .inl S.2.2.2.2.2.2.1)), (n3, .inl (E.2.1.1, 4, .inl S.2.2.2.2.2.2.2))]) (rest := [.int (10 - a), .int (fX5_power a b)]) (ksX3_ringSize l E fa n0 n1 n2 n3 S) hfX3_ringSize gX5_waysToStay_X3_ringSize ⟨Nat.le_of_ble_eq_true rfl, Nat.le_of_ble_eq_true rfl⟩ ⟨Nat.zero_le _, Nat.zero_le _⟩ [1, 2, 3, 4] rfl (by decide) [n0, n1, n2, n3] rfl rfl rfl 1 rfl rfl rfl rfl (Nat.le_of_ble_eq_true rfl) dX5_waysToStay_13 ?_
  refine hg_iload_n C dX5_waysToStay_16 rfl 2 rfl ?_
  refine hg_isub C dX5_waysToStay_17 ?_
  refine hg_callS C (ws' := [(hr, .inr (5, [.ref ta, .ref fa, .ref n0, .ref aa, .ref ka, .ref kb, .ref qa, .ref qb, .int sn, .long sd, .ref t0, .ref u0, .ref be])), (n0, .inr (3, [.ref fa, .int S.1, .int S.2.1, .int S.2.2.1, .int S.2.2.2.1, .int S.2.2.2.2.1, .ref n1, .ref n2, .ref n3])), (n1, .inl (E.2.1.1, 6, .inl S.2.2.2.2.2.1)), (n2, .inl (E.2.1.1, 6, .inl S.2.2.2.2.2.2.1)), (n3, .inl (E.2.1.1, 4, .inl S.2.2.2.2.2.2.2))]) (rest := [.int (fX5_power a b)]) (kX5_power l E (10 - a) ((gX3_ringSize_s S) - b)) hfX5_power gX5_waysToStay_X5_power ⟨Nat.le_of_ble_eq_true rfl, Nat.le_of_ble_eq_true rfl⟩ ⟨Nat.zero_le _, Nat.zero_le _⟩ [] rfl (by decide) [] rfl rfl rfl rfl (Nat.le_of_ble_eq_true rfl) dX5_waysToStay_18 ?_
  refine hg_imul C dX5_waysToStay_21 ?_
  have e9 : (fX5_waysToStay S a b) = (fX5_power a b) * (fX5_power (10 - a) ((gX3_ringSize_s S) - b)) := hid_eq _
  rw [e9]
  exact hg_iret C dX5_waysToStay_22 rfl rfl
theorem mmX5_luck_f28 : (Cond.fieldLink RX5 28 "HatRound" "now" "LHatRound$Scene;") ∈ wsX5_luck := (List.mem_cons_of_mem _ (List.mem_append_left _ (List.mem_append_left _ (List.mem_append_left _ (List.mem_of_getElem? (i := 0) rfl)))))
theorem mrX5_luck_5 : ∀ w ∈ u_ws RX5 TX5 13, w ∈ wsX5_luck := fun _ h => (List.mem_cons_of_mem _ (List.mem_append_left _ (List.mem_append_right _ h)))
abbrev rmX5_luck : Room := { frames := 3, cells := 0, slots := 0, locals := 65 }
theorem hfX5_luck : hCF yX5_luck wsX5_luck rmX5_luck cX5_luck 7 (some .int) 3 := ⟨⟨_, rfl⟩, by decide +kernel, rfl, rfl⟩
noncomputable def stX5_luck_26 (S : Sc) (a : Int32) (b : Int32) (i : Nat) (σ : Int32) : Int32 := hid (if (gX3_areStanding_s (nI i) S) = 0 then σ else if (gX3_giftsOf_s (nI i) S) < b then σ else σ + (fX5_waysToStay S a (fJ6_bitCount_0f7a4 (nI i))))
set_option maxHeartbeats 4000000 in
set_option maxRecDepth 100000 in
theorem lpX5_luck_26 {p : Program} {l : Launch} {e : Env} {s : State} {m : MethodId} {args : Array Value} {below : List Frame} {meth : Method} {c : Code} {E : hE} {A : Nat → Prop} {Q : State → Prop} (C : hX p s m args meth c E A cX5_luck 7 RX5 wsX5_luck (some .int)) (hr : Nat) (ta : Nat) (fa : Nat) (n0 : Nat) (aa : Nat) (ka : Nat) (kb : Nat) (qa : Nat) (qb : Nat) (t0 : Nat) (u0 : Nat) (be : Nat) (sn : Int32) (sd : Int64) (n1 : Nat) (n2 : Nat) (n3 : Nat) (S : Sc) (a : Int32) (b : Int32) (q : Int32) (σ0 : Int32) (k : hG p l e rmX5_luck s m args below meth c E A 7 Q 0 0 79 [(0, .ref hr), (3, .int q), (4, .int (itN (stX5_luck_26 S a b) 64 σ0))] [] [(hr, .inr (5, [.ref ta, .ref fa, .ref n0, .ref aa, .ref ka, .ref kb, .ref qa, .ref qb, .int sn, .long sd, .ref t0, .ref u0, .ref be])), (n0, .inr (3, [.ref fa, .int S.1, .int S.2.1, .int S.2.2.1, .int S.2.2.2.1, .int S.2.2.2.2.1, .ref n1, .ref n2, .ref n3])), (n1, .inl (E.2.1.1, 6, .inl S.2.2.2.2.2.1)), (n2, .inl (E.2.1.1, 6, .inl S.2.2.2.2.2.2.1)), (n3, .inl (E.2.1.1, 4, .inl S.2.2.2.2.2.2.2))]) : ∀ (n i : Nat) (σ : Int32), i + n = 64 → σ = itN (stX5_luck_26 S a b) i σ0 → hG p l e rmX5_luck s m args below meth c E A 7 Q 0 0 26 [(0, .ref hr), (1, .int a), (2, .int b), (3, .int q), (4, .int σ), (5, .int (nI i))] [] [(hr, .inr (5, [.ref ta, .ref fa, .ref n0, .ref aa, .ref ka, .ref kb, .ref qa, .ref qb, .int sn, .long sd, .ref t0, .ref u0, .ref be])), (n0, .inr (3, [.ref fa, .int S.1, .int S.2.1, .int S.2.2.1, .int S.2.2.2.1, .int S.2.2.2.2.1, .ref n1, .ref n2, .ref n3])), (n1, .inl (E.2.1.1, 6, .inl S.2.2.2.2.2.1)), (n2, .inl (E.2.1.1, 6, .inl S.2.2.2.2.2.2.1)), (n3, .inl (E.2.1.1, 4, .inl S.2.2.2.2.2.2.2))] := by
  intro n
  induction n with
  | zero =>
    intro i σ hi hσ
    have hi : i = 64 := by omega
    rw [hi] at hσ
    rw [hi]
    subst hσ
    refine hg_iload C dX5_luck_26 5 rfl ?_
    refine hg_bipush C (v := 64) dX5_luck_28 (by decide) ?_
    refine hg_icmp_ge C (tgt := 79) dX5_luck_30 (by decide) (fun _ => ?_) (fun h => absurd (by decide) h)
    exact hg_sub [0, 3, 4] rfl k
  | succ n ih =>
    intro i σ hi hσ
    have hlt : i < 64 := by omega
    refine hg_iload C dX5_luck_26 5 rfl ?_
    refine hg_bipush C (v := 64) dX5_luck_28 (by decide) ?_
    refine hg_icmp_ge C (tgt := 79) dX5_luck_30 (by decide) (fun h => absurd h (nI_ge hlt (by decide))) (fun _ => ?_)
    refine hg_aload_n C dX5_luck_33 rfl 0 rfl ?_
    refine hg_get C (Cn := RX5) (T := TX5) (N := 13) (v := .ref n0) mrX5_luck_5 0 rfl rfl 2 (by decide) mmX5_luck_f28 rfl dX5_luck_34 ?_
    refine hg_iload C dX5_luck_37 5 rfl ?_
    refine hg_callV C (ws' := [(hr, .inr (5, [.ref ta, .ref fa, .ref n0, .ref aa, .ref ka, .ref kb, .ref qa, .ref qb, .int sn, .long sd, .ref t0, .ref u0, .ref be])), (n0, .inr (3, [.ref fa, .int S.1, .int S.2.1, .int S.2.2.1, .int S.2.2.2.1, .int S.2.2.2.2.1, .ref n1, .ref n2, .ref n3])), (n1, .inl (E.2.1.1, 6, .inl S.2.2.2.2.2.1)), (n2, .inl (E.2.1.1, 6, .inl S.2.2.2.2.2.2.1)), (n3, .inl (E.2.1.1, 4, .inl S.2.2.2.2.2.2.2))]) (rest := []) (ksX3_areStanding l E fa n0 n1 n2 n3 (nI i) S) hfX3_areStanding gX5_luck_X3_areStanding ⟨Nat.le_of_ble_eq_true rfl, Nat.le_of_ble_eq_true rfl⟩ ⟨Nat.zero_le _, Nat.zero_le _⟩ [1, 2, 3, 4] rfl (by decide) [n0, n1, n2, n3] rfl rfl rfl 1 rfl rfl rfl rfl (Nat.le_of_ble_eq_true rfl) dX5_luck_39 ?_
    refine hg_if_eq C (tgt := 73) dX5_luck_42 (by decide) (fun c5 => ?_) (fun c5 => ?_)
    · refine hg_iinc C (v := nI (i + 1)) (lv' := [(5, .int (nI (i + 1))), (0, .ref hr), (1, .int a), (2, .int b), (3, .int q), (4, .int σ)]) dX5_luck_73 5 rfl (nI_inc _) (by decide) rfl ?_
      refine hg_goto C (tgt := 26) dX5_luck_76 (by decide) ?_
      have e9 : (stX5_luck_26 S a b) i σ = σ := (hid_eq _).trans ((if_pos c5).trans rfl)
      have h9 := ih (i + 1) σ (by omega) (e9.symm.trans (congrArg ((stX5_luck_26 S a b) i) hσ))
      exact hg_sub [1, 2, 3, 4, 5, 0] rfl h9
    · refine hg_aload_n C dX5_luck_45 rfl 0 rfl ?_
      refine hg_get C (Cn := RX5) (T := TX5) (N := 13) (v := .ref n0) mrX5_luck_5 0 rfl rfl 2 (by decide) mmX5_luck_f28 rfl dX5_luck_46 ?_
      refine hg_iload C dX5_luck_49 5 rfl ?_
      refine hg_callV C (ws' := [(hr, .inr (5, [.ref ta, .ref fa, .ref n0, .ref aa, .ref ka, .ref kb, .ref qa, .ref qb, .int sn, .long sd, .ref t0, .ref u0, .ref be])), (n0, .inr (3, [.ref fa, .int S.1, .int S.2.1, .int S.2.2.1, .int S.2.2.2.1, .int S.2.2.2.2.1, .ref n1, .ref n2, .ref n3])), (n1, .inl (E.2.1.1, 6, .inl S.2.2.2.2.2.1)), (n2, .inl (E.2.1.1, 6, .inl S.2.2.2.2.2.2.1)), (n3, .inl (E.2.1.1, 4, .inl S.2.2.2.2.2.2.2))]) (rest := []) (ksX3_giftsOf l E fa n0 n1 n2 n3 (nI i) S) hfX3_giftsOf gX5_luck_X3_giftsOf ⟨Nat.le_of_ble_eq_true rfl, Nat.le_of_ble_eq_true rfl⟩ ⟨Nat.zero_le _, Nat.zero_le _⟩ [1, 2, 3, 4] rfl (by decide) [n0, n1, n2, n3] rfl rfl rfl 1 rfl rfl rfl rfl (Nat.le_of_ble_eq_true rfl) dX5_luck_51 ?_
      refine hg_iload_n C dX5_luck_54 rfl 2 rfl ?_
      refine hg_icmp_lt C (tgt := 73) dX5_luck_55 (by decide) (fun c6 => ?_) (fun c6 => ?_)
      · refine hg_iinc C (v := nI (i + 1)) (lv' := [(5, .int (nI (i + 1))), (0, .ref hr), (1, .int a), (2, .int b), (3, .int q), (4, .int σ)]) dX5_luck_73 5 rfl (nI_inc _) (by decide) rfl ?_
        refine hg_goto C (tgt := 26) dX5_luck_76 (by decide) ?_
        have e9 : (stX5_luck_26 S a b) i σ = σ := (hid_eq _).trans ((if_neg c5).trans ((if_pos c6).trans rfl))
        have h9 := ih (i + 1) σ (by omega) (e9.symm.trans (congrArg ((stX5_luck_26 S a b) i) hσ))
        exact hg_sub [1, 2, 3, 4, 5, 0] rfl h9
      · refine hg_iload C dX5_luck_58 4 rfl ?_
        refine hg_aload_n C dX5_luck_60 rfl 0 rfl ?_
        refine hg_iload_n C dX5_luck_61 rfl 1 rfl ?_
        refine hg_iload C dX5_luck_62 5 rfl ?_
        refine hg_callS C (ws' := [(hr, .inr (5, [.ref ta, .ref fa, .ref n0, .ref aa, .ref ka, .ref kb, .ref qa, .ref qb, .int sn, .long sd, .ref t0, .ref u0, .ref be])), (n0, .inr (3, [.ref fa, .int S.1, .int S.2.1, .int S.2.2.1, .int S.2.2.2.1, .int S.2.2.2.2.1, .ref n1, .ref n2, .ref n3])), (n1, .inl (E.2.1.1, 6, .inl S.2.2.2.2.2.1)), (n2, .inl (E.2.1.1, 6, .inl S.2.2.2.2.2.2.1)), (n3, .inl (E.2.1.1, 4, .inl S.2.2.2.2.2.2.2))]) (rest := [.int a, .ref hr, .int σ]) (kJ6_bitCount_0f7a4 l E (nI i)) hfJ6_bitCount_0f7a4 gX5_luck_J6_bitCount_0f7a4 ⟨Nat.le_of_ble_eq_true rfl, Nat.le_of_ble_eq_true rfl⟩ ⟨Nat.zero_le _, Nat.zero_le _⟩ [] rfl (by decide) [] rfl rfl rfl rfl (Nat.le_of_ble_eq_true rfl) dX5_luck_64 ?_
        refine hg_callV C (ws' := [(hr, .inr (5, [.ref ta, .ref fa, .ref n0, .ref aa, .ref ka, .ref kb, .ref qa, .ref qb, .int sn, .long sd, .ref t0, .ref u0, .ref be])), (n0, .inr (3, [.ref fa, .int S.1, .int S.2.1, .int S.2.2.1, .int S.2.2.2.1, .int S.2.2.2.2.1, .ref n1, .ref n2, .ref n3])), (n1, .inl (E.2.1.1, 6, .inl S.2.2.2.2.2.1)), (n2, .inl (E.2.1.1, 6, .inl S.2.2.2.2.2.2.1)), (n3, .inl (E.2.1.1, 4, .inl S.2.2.2.2.2.2.2))]) (rest := [.int σ]) (kX5_waysToStay l E hr ta fa n0 aa ka kb qa qb t0 u0 be sn sd n1 n2 n3 S a (fJ6_bitCount_0f7a4 (nI i))) hfX5_waysToStay gX5_luck_X5_waysToStay ⟨Nat.le_of_ble_eq_true rfl, Nat.le_of_ble_eq_true rfl⟩ ⟨Nat.zero_le _, Nat.zero_le _⟩ [0, 1, 2, 3, 4] rfl (by decide) [hr, n0, n1, n2, n3] rfl rfl rfl 0 rfl rfl rfl rfl (Nat.le_of_ble_eq_true rfl) dX5_luck_67 ?_
        refine hg_iadd C dX5_luck_70 ?_
        refine hg_istore C (lv' := [(4, .int (σ + (fX5_waysToStay S a (fJ6_bitCount_0f7a4 (nI i))))), (0, .ref hr), (1, .int a), (2, .int b), (3, .int q), (5, .int (nI i))]) dX5_luck_71 (by decide) rfl ?_
        refine hg_iinc C (v := nI (i + 1)) (lv' := [(5, .int (nI (i + 1))), (4, .int (σ + (fX5_waysToStay S a (fJ6_bitCount_0f7a4 (nI i))))), (0, .ref hr), (1, .int a), (2, .int b), (3, .int q)]) dX5_luck_73 5 rfl (nI_inc _) (by decide) rfl ?_
        refine hg_goto C (tgt := 26) dX5_luck_76 (by decide) ?_
        have e9 : (stX5_luck_26 S a b) i σ = σ + (fX5_waysToStay S a (fJ6_bitCount_0f7a4 (nI i))) := (hid_eq _).trans ((if_neg c5).trans ((if_neg c6).trans rfl))
        have h9 := ih (i + 1) (σ + (fX5_waysToStay S a (fJ6_bitCount_0f7a4 (nI i)))) (by omega) (e9.symm.trans (congrArg ((stX5_luck_26 S a b) i) hσ))
        exact hg_sub [2, 3, 4, 5, 1, 0] rfl h9
noncomputable def fX5_luck (S : Sc) (a : Int32) (b : Int32) (q : Int32) : Int32 := hid (if (fX5_isWithin a 0 10) = 0 then (-2) else if (fX5_isCoins b) = 0 then (-2) else if (fX5_commonDivisor (itN (stX5_luck_26 S a b) 64 0) (fX5_power 10 (gX3_ringSize_s S))) = 0 then 0 else if q = 0 then ((fX5_power 10 (gX3_ringSize_s S)) / (fX5_commonDivisor (itN (stX5_luck_26 S a b) 64 0) (fX5_power 10 (gX3_ringSize_s S)))) else ((itN (stX5_luck_26 S a b) 64 0) / (fX5_commonDivisor (itN (stX5_luck_26 S a b) 64 0) (fX5_power 10 (gX3_ringSize_s S)))))
set_option maxHeartbeats 4000000 in
set_option maxRecDepth 100000 in
theorem kX5_luck (l : Launch) (E : hE) (hr : Nat) (ta : Nat) (fa : Nat) (n0 : Nat) (aa : Nat) (ka : Nat) (kb : Nat) (qa : Nat) (qb : Nat) (t0 : Nat) (u0 : Nat) (be : Nat) (sn : Int32) (sd : Int64) (n1 : Nat) (n2 : Nat) (n3 : Nat) (S : Sc) (a : Int32) (b : Int32) (q : Int32) : hC l yX5_luck wsX5_luck rmX5_luck E [.ref hr, .int a, .int b, .int q] [(hr, .inr (5, [.ref ta, .ref fa, .ref n0, .ref aa, .ref ka, .ref kb, .ref qa, .ref qb, .int sn, .long sd, .ref t0, .ref u0, .ref be])), (n0, .inr (3, [.ref fa, .int S.1, .int S.2.1, .int S.2.2.1, .int S.2.2.2.1, .int S.2.2.2.2.1, .ref n1, .ref n2, .ref n3])), (n1, .inl (E.2.1.1, 6, .inl S.2.2.2.2.2.1)), (n2, .inl (E.2.1.1, 6, .inl S.2.2.2.2.2.2.1)), (n3, .inl (E.2.1.1, 4, .inl S.2.2.2.2.2.2.2))] (some (.int (fX5_luck S a b q))) [(hr, .inr (5, [.ref ta, .ref fa, .ref n0, .ref aa, .ref ka, .ref kb, .ref qa, .ref qb, .int sn, .long sd, .ref t0, .ref u0, .ref be])), (n0, .inr (3, [.ref fa, .int S.1, .int S.2.1, .int S.2.2.1, .int S.2.2.2.1, .int S.2.2.2.2.1, .ref n1, .ref n2, .ref n3])), (n1, .inl (E.2.1.1, 6, .inl S.2.2.2.2.2.1)), (n2, .inl (E.2.1.1, 6, .inl S.2.2.2.2.2.2.1)), (n3, .inl (E.2.1.1, 4, .inl S.2.2.2.2.2.2.2))] := by
  refine hC_intro (cc := cX5_luck) (maxL := 7) (ret := (some .int)) (lv0 := [(0, .ref hr), (1, .int a), (2, .int b), (3, .int q)]) (by decide) rfl (Nat.le_of_ble_eq_true rfl) rfl ?_
  intro p e s m below meth c A C
  refine hg_iload_n C dX5_luck_0 rfl 1 rfl ?_
  refine hg_iconst C (v := 0) dX5_luck_1 (by decide) ?_
  refine hg_bipush C (v := 10) dX5_luck_2 (by decide) ?_
  refine hg_callS C (ws' := [(hr, .inr (5, [.ref ta, .ref fa, .ref n0, .ref aa, .ref ka, .ref kb, .ref qa, .ref qb, .int sn, .long sd, .ref t0, .ref u0, .ref be])), (n0, .inr (3, [.ref fa, .int S.1, .int S.2.1, .int S.2.2.1, .int S.2.2.2.1, .int S.2.2.2.2.1, .ref n1, .ref n2, .ref n3])), (n1, .inl (E.2.1.1, 6, .inl S.2.2.2.2.2.1)), (n2, .inl (E.2.1.1, 6, .inl S.2.2.2.2.2.2.1)), (n3, .inl (E.2.1.1, 4, .inl S.2.2.2.2.2.2.2))]) (rest := []) (kX5_isWithin l E a 0 10) hfX5_isWithin gX5_luck_X5_isWithin ⟨Nat.le_of_ble_eq_true rfl, Nat.le_of_ble_eq_true rfl⟩ ⟨Nat.zero_le _, Nat.zero_le _⟩ [] rfl (by decide) [] rfl rfl rfl rfl (Nat.le_of_ble_eq_true rfl) dX5_luck_4 ?_
  refine hg_if_eq C (tgt := 17) dX5_luck_7 (by decide) (fun c1 => ?_) (fun c1 => ?_)
  · refine hg_bipush C (v := (-2)) dX5_luck_17 (by decide) ?_
    have e9 : (fX5_luck S a b q) = (-2) := (hid_eq _).trans ((if_pos c1).trans rfl)
    rw [e9]
    exact hg_iret C dX5_luck_19 rfl rfl
  · refine hg_iload_n C dX5_luck_10 rfl 2 rfl ?_
    refine hg_callS C (ws' := [(hr, .inr (5, [.ref ta, .ref fa, .ref n0, .ref aa, .ref ka, .ref kb, .ref qa, .ref qb, .int sn, .long sd, .ref t0, .ref u0, .ref be])), (n0, .inr (3, [.ref fa, .int S.1, .int S.2.1, .int S.2.2.1, .int S.2.2.2.1, .int S.2.2.2.2.1, .ref n1, .ref n2, .ref n3])), (n1, .inl (E.2.1.1, 6, .inl S.2.2.2.2.2.1)), (n2, .inl (E.2.1.1, 6, .inl S.2.2.2.2.2.2.1)), (n3, .inl (E.2.1.1, 4, .inl S.2.2.2.2.2.2.2))]) (rest := []) (kX5_isCoins l E b) hfX5_isCoins gX5_luck_X5_isCoins ⟨Nat.le_of_ble_eq_true rfl, Nat.le_of_ble_eq_true rfl⟩ ⟨Nat.zero_le _, Nat.zero_le _⟩ [] rfl (by decide) [] rfl rfl rfl rfl (Nat.le_of_ble_eq_true rfl) dX5_luck_11 ?_
    refine hg_if_ne C (tgt := 20) dX5_luck_14 (by decide) (fun c2 => ?_) (fun c2 => ?_)
    · refine hg_iconst C (v := 0) dX5_luck_20 (by decide) ?_
      refine hg_istore C (lv' := [(4, .int 0), (0, .ref hr), (1, .int a), (2, .int b), (3, .int q)]) dX5_luck_21 (by decide) rfl ?_
      refine hg_iconst C (v := 0) dX5_luck_23 (by decide) ?_
      refine hg_istore C (lv' := [(5, .int 0), (4, .int 0), (0, .ref hr), (1, .int a), (2, .int b), (3, .int q)]) dX5_luck_24 (by decide) rfl ?_
      refine hg_sub [2, 3, 4, 5, 1, 0] rfl ?_
      refine lpX5_luck_26 C hr ta fa n0 aa ka kb qa qb t0 u0 be sn sd n1 n2 n3 S a b q 0 ?_ 64 0 0 (by omega) rfl
      refine hg_bipush C (v := 10) dX5_luck_79 (by decide) ?_
      refine hg_aload_n C dX5_luck_81 rfl 0 rfl ?_
      refine hg_get C (Cn := RX5) (T := TX5) (N := 13) (v := .ref n0) mrX5_luck_5 0 rfl rfl 2 (by decide) mmX5_luck_f28 rfl dX5_luck_82 ?_
      refine hg_callV C (ws' := [(hr, .inr (5, [.ref ta, .ref fa, .ref n0, .ref aa, .ref ka, .ref kb, .ref qa, .ref qb, .int sn, .long sd, .ref t0, .ref u0, .ref be])), (n0, .inr (3, [.ref fa, .int S.1, .int S.2.1, .int S.2.2.1, .int S.2.2.2.1, .int S.2.2.2.2.1, .ref n1, .ref n2, .ref n3])), (n1, .inl (E.2.1.1, 6, .inl S.2.2.2.2.2.1)), (n2, .inl (E.2.1.1, 6, .inl S.2.2.2.2.2.2.1)), (n3, .inl (E.2.1.1, 4, .inl S.2.2.2.2.2.2.2))]) (rest := [.int 10]) (ksX3_ringSize l E fa n0 n1 n2 n3 S) hfX3_ringSize gX5_luck_X3_ringSize ⟨Nat.le_of_ble_eq_true rfl, Nat.le_of_ble_eq_true rfl⟩ ⟨Nat.zero_le _, Nat.zero_le _⟩ [1, 2, 3, 4] rfl (by decide) [n0, n1, n2, n3] rfl rfl rfl 1 rfl rfl rfl rfl (Nat.le_of_ble_eq_true rfl) dX5_luck_85 ?_
      refine hg_callS C (ws' := [(hr, .inr (5, [.ref ta, .ref fa, .ref n0, .ref aa, .ref ka, .ref kb, .ref qa, .ref qb, .int sn, .long sd, .ref t0, .ref u0, .ref be])), (n0, .inr (3, [.ref fa, .int S.1, .int S.2.1, .int S.2.2.1, .int S.2.2.2.1, .int S.2.2.2.2.1, .ref n1, .ref n2, .ref n3])), (n1, .inl (E.2.1.1, 6, .inl S.2.2.2.2.2.1)), (n2, .inl (E.2.1.1, 6, .inl S.2.2.2.2.2.2.1)), (n3, .inl (E.2.1.1, 4, .inl S.2.2.2.2.2.2.2))]) (rest := []) (kX5_power l E 10 (gX3_ringSize_s S)) hfX5_power gX5_luck_X5_power ⟨Nat.le_of_ble_eq_true rfl, Nat.le_of_ble_eq_true rfl⟩ ⟨Nat.zero_le _, Nat.zero_le _⟩ [] rfl (by decide) [] rfl rfl rfl rfl (Nat.le_of_ble_eq_true rfl) dX5_luck_88 ?_
      refine hg_istore C (lv' := [(5, .int (fX5_power 10 (gX3_ringSize_s S))), (0, .ref hr), (3, .int q), (4, .int (itN (stX5_luck_26 S a b) 64 0))]) dX5_luck_91 (by decide) rfl ?_
      refine hg_iload C dX5_luck_93 3 rfl ?_
      refine hg_iload C dX5_luck_95 0 rfl ?_
      refine hg_callS C (ws' := [(hr, .inr (5, [.ref ta, .ref fa, .ref n0, .ref aa, .ref ka, .ref kb, .ref qa, .ref qb, .int sn, .long sd, .ref t0, .ref u0, .ref be])), (n0, .inr (3, [.ref fa, .int S.1, .int S.2.1, .int S.2.2.1, .int S.2.2.2.1, .int S.2.2.2.2.1, .ref n1, .ref n2, .ref n3])), (n1, .inl (E.2.1.1, 6, .inl S.2.2.2.2.2.1)), (n2, .inl (E.2.1.1, 6, .inl S.2.2.2.2.2.2.1)), (n3, .inl (E.2.1.1, 4, .inl S.2.2.2.2.2.2.2))]) (rest := []) (kX5_commonDivisor l E (itN (stX5_luck_26 S a b) 64 0) (fX5_power 10 (gX3_ringSize_s S))) hfX5_commonDivisor gX5_luck_X5_commonDivisor ⟨Nat.le_of_ble_eq_true rfl, Nat.le_of_ble_eq_true rfl⟩ ⟨Nat.zero_le _, Nat.zero_le _⟩ [] rfl (by decide) [] rfl rfl rfl rfl (Nat.le_of_ble_eq_true rfl) dX5_luck_97 ?_
      refine hg_istore C (lv' := [(6, .int (fX5_commonDivisor (itN (stX5_luck_26 S a b) 64 0) (fX5_power 10 (gX3_ringSize_s S)))), (5, .int (fX5_power 10 (gX3_ringSize_s S))), (0, .ref hr), (3, .int q), (4, .int (itN (stX5_luck_26 S a b) 64 0))]) dX5_luck_100 (by decide) rfl ?_
      refine hg_iload C dX5_luck_102 0 rfl ?_
      refine hg_if_ne C (tgt := 109) dX5_luck_104 (by decide) (fun c7 => ?_) (fun c7 => ?_)
      · refine hg_iload_n C dX5_luck_109 rfl 3 rfl ?_
        refine hg_join (J := 126) (v := if q = 0 then ((fX5_power 10 (gX3_ringSize_s S)) / (fX5_commonDivisor (itN (stX5_luck_26 S a b) 64 0) (fX5_power 10 (gX3_ringSize_s S)))) else ((itN (stX5_luck_26 S a b) 64 0) / (fX5_commonDivisor (itN (stX5_luck_26 S a b) 64 0) (fX5_power 10 (gX3_ringSize_s S))))) (st1 := []) (fun jj => ?_) ?_
        · refine hg_if_eq C (tgt := 121) dX5_luck_110 (by decide) (fun c8 => ?_) (fun c8 => ?_)
          · refine hg_iload C dX5_luck_121 1 rfl ?_
            refine hg_iload C dX5_luck_123 0 rfl ?_
            refine hg_idiv C dX5_luck_125 (by assumption) ?_
            exact hg_top (v := if q = 0 then ((fX5_power 10 (gX3_ringSize_s S)) / (fX5_commonDivisor (itN (stX5_luck_26 S a b) 64 0) (fX5_power 10 (gX3_ringSize_s S)))) else ((itN (stX5_luck_26 S a b) 64 0) / (fX5_commonDivisor (itN (stX5_luck_26 S a b) 64 0) (fX5_power 10 (gX3_ringSize_s S))))) (v' := (fX5_power 10 (gX3_ringSize_s S)) / (fX5_commonDivisor (itN (stX5_luck_26 S a b) 64 0) (fX5_power 10 (gX3_ringSize_s S)))) ((if_pos c8).trans rfl) jj
          · refine hg_iload C dX5_luck_113 4 rfl ?_
            refine hg_iload C dX5_luck_115 0 rfl ?_
            refine hg_idiv C dX5_luck_117 (by assumption) ?_
            refine hg_goto C (tgt := 126) dX5_luck_118 (by decide) ?_
            exact hg_top (v := if q = 0 then ((fX5_power 10 (gX3_ringSize_s S)) / (fX5_commonDivisor (itN (stX5_luck_26 S a b) 64 0) (fX5_power 10 (gX3_ringSize_s S)))) else ((itN (stX5_luck_26 S a b) 64 0) / (fX5_commonDivisor (itN (stX5_luck_26 S a b) 64 0) (fX5_power 10 (gX3_ringSize_s S))))) (v' := (itN (stX5_luck_26 S a b) 64 0) / (fX5_commonDivisor (itN (stX5_luck_26 S a b) 64 0) (fX5_power 10 (gX3_ringSize_s S)))) ((if_neg c8).trans rfl) jj
        have e9 : (fX5_luck S a b q) = if q = 0 then ((fX5_power 10 (gX3_ringSize_s S)) / (fX5_commonDivisor (itN (stX5_luck_26 S a b) 64 0) (fX5_power 10 (gX3_ringSize_s S)))) else ((itN (stX5_luck_26 S a b) 64 0) / (fX5_commonDivisor (itN (stX5_luck_26 S a b) 64 0) (fX5_power 10 (gX3_ringSize_s S)))) := (hid_eq _).trans ((if_neg c1).trans ((if_neg c2).trans ((if_neg c7).trans rfl)))
        rw [e9]
        exact hg_iret C dX5_luck_126 rfl rfl
      · refine hg_iconst C (v := 0) dX5_luck_107 (by decide) ?_
        have e9 : (fX5_luck S a b q) = 0 := (hid_eq _).trans ((if_neg c1).trans ((if_neg c2).trans ((if_pos c7).trans rfl)))
        rw [e9]
        exact hg_iret C dX5_luck_108 rfl rfl
    · refine hg_bipush C (v := (-2)) dX5_luck_17 (by decide) ?_
      have e9 : (fX5_luck S a b q) = (-2) := (hid_eq _).trans ((if_neg c1).trans ((if_pos c2).trans rfl))
      rw [e9]
      exact hg_iret C dX5_luck_19 rfl rfl
theorem mmX5_seed_f58 : (Cond.fieldLink RX5 58 "HatRound" "seedNow" "J") ∈ wsX5_seed := (List.mem_cons_of_mem _ (List.mem_append_left _ (List.mem_of_getElem? (i := 0) rfl)))
theorem mrX5_seed_5 : ∀ w ∈ u_ws RX5 TX5 13, w ∈ wsX5_seed := fun _ h => (List.mem_cons_of_mem _ (List.mem_append_right _ h))
abbrev rmX5_seed : Room := { frames := 0, cells := 0, slots := 0, locals := 0 }
theorem hfX5_seed : hCF yX5_seed wsX5_seed rmX5_seed cX5_seed 5 (some .long) 1 := ⟨⟨_, rfl⟩, by decide +kernel, rfl, rfl⟩
noncomputable def fX5_seed (sd : Int64) (v : Int64) : Int64 × Int64 := hid ((sd, v))
set_option maxHeartbeats 4000000 in
set_option maxRecDepth 100000 in
theorem kX5_seed (l : Launch) (E : hE) (hr : Nat) (ta : Nat) (fa : Nat) (n0 : Nat) (aa : Nat) (ka : Nat) (kb : Nat) (qa : Nat) (qb : Nat) (t0 : Nat) (u0 : Nat) (be : Nat) (sn : Int32) (sd : Int64) (v : Int64) : hC l yX5_seed wsX5_seed rmX5_seed E [.ref hr, .long v] [(hr, .inr (5, [.ref ta, .ref fa, .ref n0, .ref aa, .ref ka, .ref kb, .ref qa, .ref qb, .int sn, .long sd, .ref t0, .ref u0, .ref be]))] (some (.long ((fX5_seed sd v).1))) [(hr, .inr (5, [.ref ta, .ref fa, .ref n0, .ref aa, .ref ka, .ref kb, .ref qa, .ref qb, .int sn, .long ((fX5_seed sd v).2), .ref t0, .ref u0, .ref be]))] := by
  refine hC_intro (cc := cX5_seed) (maxL := 5) (ret := (some .long)) (lv0 := [(0, .ref hr), (1, .long v)]) (by decide) rfl (Nat.le_of_ble_eq_true rfl) rfl ?_
  intro p e s m below meth c A C
  refine hg_aload_n C dX5_seed_0 rfl 0 rfl ?_
  refine hg_get C (Cn := RX5) (T := TX5) (N := 13) (v := .long sd) mrX5_seed_5 0 rfl rfl 9 (by decide) mmX5_seed_f58 rfl dX5_seed_1 ?_
  refine hg_lstore_n C (lv' := [(3, .long sd), (0, .ref hr), (1, .long v)]) dX5_seed_4 rfl (by decide) rfl ?_
  refine hg_aload_n C dX5_seed_5 rfl 1 rfl ?_
  refine hg_lload_n C dX5_seed_6 rfl 2 rfl ?_
  refine hg_put C (Cn := RX5) (T := TX5) (N := 13) (ws' := [(hr, .inr (5, [.ref ta, .ref fa, .ref n0, .ref aa, .ref ka, .ref kb, .ref qa, .ref qb, .int sn, .long v, .ref t0, .ref u0, .ref be]))]) mrX5_seed_5 tyX5 tyX5_ok nmX5 0 rfl rfl 9 (by decide) mmX5_seed_f58 rfl rfl rfl rfl (Nat.le_of_ble_eq_true rfl) rfl dX5_seed_7 ?_
  refine hg_lload_n C dX5_seed_10 rfl 0 rfl ?_
  have e9 : (fX5_seed sd v) = (sd, v) := hid_eq _
  rw [e9]
  exact hg_lret C dX5_seed_11 rfl rfl
theorem mmX5_day_f62 : (Cond.fieldLink RX5 62 "HatRound" "trial" "LHatRound$Scene;") ∈ wsX5_day := (List.mem_cons_of_mem _ (List.mem_append_left _ (List.mem_append_left _ (List.mem_append_left _ (List.mem_append_left _ (List.mem_of_getElem? (i := 0) rfl))))))
theorem mrX5_day_5 : ∀ w ∈ u_ws RX5 TX5 13, w ∈ wsX5_day := fun _ h => (List.mem_cons_of_mem _ (List.mem_append_left _ (List.mem_append_left _ (List.mem_append_right _ h))))
theorem mmX5_day_f28 : (Cond.fieldLink RX5 28 "HatRound" "now" "LHatRound$Scene;") ∈ wsX5_day := (List.mem_cons_of_mem _ (List.mem_append_left _ (List.mem_append_left _ (List.mem_append_left _ (List.mem_append_left _ (List.mem_of_getElem? (i := 1) rfl))))))
theorem mmX5_day_f58 : (Cond.fieldLink RX5 58 "HatRound" "seedNow" "J") ∈ wsX5_day := (List.mem_cons_of_mem _ (List.mem_append_left _ (List.mem_append_left _ (List.mem_append_left _ (List.mem_append_left _ (List.mem_of_getElem? (i := 2) rfl))))))
theorem mmX5_day_k245 : (Cond.constantLong RX5 245 (6364136223846793005)) ∈ wsX5_day := (List.mem_cons_of_mem _ (List.mem_append_left _ (List.mem_append_left _ (List.mem_append_left _ (List.mem_append_left _ (List.mem_of_getElem? (i := 3) rfl))))))
theorem mmX5_day_k247 : (Cond.constantLong RX5 247 (1442695040888963407)) ∈ wsX5_day := (List.mem_cons_of_mem _ (List.mem_append_left _ (List.mem_append_left _ (List.mem_append_left _ (List.mem_append_left _ (List.mem_of_getElem? (i := 4) rfl))))))
theorem mmX5_day_k249 : (Cond.constantLong RX5 249 (6)) ∈ wsX5_day := (List.mem_cons_of_mem _ (List.mem_append_left _ (List.mem_append_left _ (List.mem_append_left _ (List.mem_append_left _ (List.mem_of_getElem? (i := 5) rfl))))))
theorem mrX5_day_3 : ∀ w ∈ u_ws RX3 TX3 9, w ∈ wsX5_day := fun _ h => (List.mem_cons_of_mem _ (List.mem_append_left _ (List.mem_append_right _ h)))
abbrev rmX5_day : Room := { frames := 5, cells := 0, slots := 0, locals := 117 }
theorem hfX5_day : hCF yX5_day wsX5_day rmX5_day cX5_day 3 (some .int) 1 := ⟨⟨_, rfl⟩, by decide +kernel, rfl, rfl⟩
noncomputable def stX5_day_26 (tu : Int32) (pf : Nat → Int32) (tf : Nat → Int32) (i : Nat) (σ : Int64 × Sc) : Int64 × Sc := hid (((σ.1 * 6364136223846793005) + 1442695040888963407, (fX5_enact tu pf tf σ.2 ((((((σ.1 * 6364136223846793005) + 1442695040888963407).toUInt64 >>> ((33 : Int32).toInt64.toUInt64 &&& Int64.toUInt64 63)).toInt64) - ((((σ.1 * 6364136223846793005) + 1442695040888963407).toUInt64 >>> ((33 : Int32).toInt64.toUInt64 &&& Int64.toUInt64 63)).toInt64) / 6 * 6).toInt32)).2))
set_option maxHeartbeats 4000000 in
set_option maxRecDepth 100000 in
theorem lpX5_day_26 {p : Program} {l : Launch} {e : Env} {s : State} {m : MethodId} {args : Array Value} {below : List Frame} {meth : Method} {c : Code} {E : hE} {A : Nat → Prop} {Q : State → Prop} (C : hX p s m args meth c E A cX5_day 3 RX5 wsX5_day (some .int)) (hr : Nat) (ta : Nat) (fa : Nat) (n0 : Nat) (aa : Nat) (ka : Nat) (kb : Nat) (qa : Nat) (qb : Nat) (t0 : Nat) (u0 : Nat) (be : Nat) (sn : Int32) (sd : Int64) (fb : Nat) (fc : Nat) (pe : Int32) (tu : Int32) (pf : Nat → Int32) (tf : Nat → Int32) (n1 : Nat) (n2 : Nat) (n3 : Nat) (S : Sc) (t1 : Nat) (t2 : Nat) (t3 : Nat) (T : Sc) (a : Int32) (σ0 : Int64 × Sc) (k : hG p l e rmX5_day s m args below meth c E A 3 Q 0 0 74 [(0, .ref hr)] [] [(hr, .inr (5, [.ref ta, .ref fa, .ref n0, .ref aa, .ref ka, .ref kb, .ref qa, .ref qb, .int sn, .long ((itN (stX5_day_26 tu pf tf) a.toNatClampNeg σ0).1), .ref t0, .ref u0, .ref be])), (fa, .inr (2, [.int pe, .int tu, .ref fb, .ref fc])), (fb, .inl (E.2.1.1, 36, .inl pf)), (fc, .inl (E.2.1.1, 12, .inl tf)), (n0, .inr (3, [.ref fa, .int S.1, .int S.2.1, .int S.2.2.1, .int S.2.2.2.1, .int S.2.2.2.2.1, .ref n1, .ref n2, .ref n3])), (n1, .inl (E.2.1.1, 6, .inl S.2.2.2.2.2.1)), (n2, .inl (E.2.1.1, 6, .inl S.2.2.2.2.2.2.1)), (n3, .inl (E.2.1.1, 4, .inl S.2.2.2.2.2.2.2)), (t0, .inr (3, [.ref fa, .int (((itN (stX5_day_26 tu pf tf) a.toNatClampNeg σ0).2).1), .int (((itN (stX5_day_26 tu pf tf) a.toNatClampNeg σ0).2).2.1), .int (((itN (stX5_day_26 tu pf tf) a.toNatClampNeg σ0).2).2.2.1), .int (((itN (stX5_day_26 tu pf tf) a.toNatClampNeg σ0).2).2.2.2.1), .int (((itN (stX5_day_26 tu pf tf) a.toNatClampNeg σ0).2).2.2.2.2.1), .ref t1, .ref t2, .ref t3])), (t1, .inl (E.2.1.1, 6, .inl (((itN (stX5_day_26 tu pf tf) a.toNatClampNeg σ0).2).2.2.2.2.2.1))), (t2, .inl (E.2.1.1, 6, .inl (((itN (stX5_day_26 tu pf tf) a.toNatClampNeg σ0).2).2.2.2.2.2.2.1))), (t3, .inl (E.2.1.1, 4, .inl (((itN (stX5_day_26 tu pf tf) a.toNatClampNeg σ0).2).2.2.2.2.2.2.2)))]) : ∀ (n i : Nat) (σ : Int64 × Sc), i + n = a.toNatClampNeg → σ = itN (stX5_day_26 tu pf tf) i σ0 → hG p l e rmX5_day s m args below meth c E A 3 Q 0 0 26 [(0, .ref hr), (1, .int a), (2, .int (nI i))] [] [(hr, .inr (5, [.ref ta, .ref fa, .ref n0, .ref aa, .ref ka, .ref kb, .ref qa, .ref qb, .int sn, .long σ.1, .ref t0, .ref u0, .ref be])), (fa, .inr (2, [.int pe, .int tu, .ref fb, .ref fc])), (fb, .inl (E.2.1.1, 36, .inl pf)), (fc, .inl (E.2.1.1, 12, .inl tf)), (n0, .inr (3, [.ref fa, .int S.1, .int S.2.1, .int S.2.2.1, .int S.2.2.2.1, .int S.2.2.2.2.1, .ref n1, .ref n2, .ref n3])), (n1, .inl (E.2.1.1, 6, .inl S.2.2.2.2.2.1)), (n2, .inl (E.2.1.1, 6, .inl S.2.2.2.2.2.2.1)), (n3, .inl (E.2.1.1, 4, .inl S.2.2.2.2.2.2.2)), (t0, .inr (3, [.ref fa, .int σ.2.1, .int σ.2.2.1, .int σ.2.2.2.1, .int σ.2.2.2.2.1, .int σ.2.2.2.2.2.1, .ref t1, .ref t2, .ref t3])), (t1, .inl (E.2.1.1, 6, .inl σ.2.2.2.2.2.2.1)), (t2, .inl (E.2.1.1, 6, .inl σ.2.2.2.2.2.2.2.1)), (t3, .inl (E.2.1.1, 4, .inl σ.2.2.2.2.2.2.2.2))] := by
  intro n
  induction n with
  | zero =>
    intro i σ hi hσ
    have hi : i = a.toNatClampNeg := by omega
    rw [hi] at hσ
    rw [hi]
    subst hσ
    refine hg_iload_n C dX5_day_26 rfl 2 rfl ?_
    refine hg_iload_n C dX5_day_27 rfl 1 rfl ?_
    refine hg_icmp_ge C (tgt := 74) dX5_day_28 (by decide) (fun _ => ?_) (fun h => absurd (cl_done _) h)
    exact hg_sub [0] rfl k
  | succ n ih =>
    intro i σ hi hσ
    have hlt : i < a.toNatClampNeg := by omega
    refine hg_iload_n C dX5_day_26 rfl 2 rfl ?_
    refine hg_iload_n C dX5_day_27 rfl 1 rfl ?_
    refine hg_icmp_ge C (tgt := 74) dX5_day_28 (by decide) (fun h => absurd h (cl_cont hlt)) (fun _ => ?_)
    refine hg_aload_n C dX5_day_31 rfl 0 rfl ?_
    refine hg_aload_n C dX5_day_32 rfl 0 rfl ?_
    refine hg_get C (Cn := RX5) (T := TX5) (N := 13) (v := .long σ.1) mrX5_day_5 0 rfl rfl 9 (by decide) mmX5_day_f58 rfl dX5_day_33 ?_
    refine hg_ldc2 C mmX5_day_k245 dX5_day_36 ?_
    refine hg_lmul C dX5_day_39 ?_
    refine hg_ldc2 C mmX5_day_k247 dX5_day_40 ?_
    refine hg_ladd C dX5_day_43 ?_
    refine hg_put C (Cn := RX5) (T := TX5) (N := 13) (ws' := [(hr, .inr (5, [.ref ta, .ref fa, .ref n0, .ref aa, .ref ka, .ref kb, .ref qa, .ref qb, .int sn, .long ((σ.1 * 6364136223846793005) + 1442695040888963407), .ref t0, .ref u0, .ref be])), (fa, .inr (2, [.int pe, .int tu, .ref fb, .ref fc])), (fb, .inl (E.2.1.1, 36, .inl pf)), (fc, .inl (E.2.1.1, 12, .inl tf)), (n0, .inr (3, [.ref fa, .int S.1, .int S.2.1, .int S.2.2.1, .int S.2.2.2.1, .int S.2.2.2.2.1, .ref n1, .ref n2, .ref n3])), (n1, .inl (E.2.1.1, 6, .inl S.2.2.2.2.2.1)), (n2, .inl (E.2.1.1, 6, .inl S.2.2.2.2.2.2.1)), (n3, .inl (E.2.1.1, 4, .inl S.2.2.2.2.2.2.2)), (t0, .inr (3, [.ref fa, .int σ.2.1, .int σ.2.2.1, .int σ.2.2.2.1, .int σ.2.2.2.2.1, .int σ.2.2.2.2.2.1, .ref t1, .ref t2, .ref t3])), (t1, .inl (E.2.1.1, 6, .inl σ.2.2.2.2.2.2.1)), (t2, .inl (E.2.1.1, 6, .inl σ.2.2.2.2.2.2.2.1)), (t3, .inl (E.2.1.1, 4, .inl σ.2.2.2.2.2.2.2.2))]) mrX5_day_5 tyX5 tyX5_ok nmX5 0 rfl rfl 9 (by decide) mmX5_day_f58 rfl rfl rfl rfl (Nat.le_of_ble_eq_true rfl) rfl dX5_day_44 ?_
    refine hg_aload_n C dX5_day_47 rfl 0 rfl ?_
    refine hg_aload_n C dX5_day_48 rfl 0 rfl ?_
    refine hg_get C (Cn := RX5) (T := TX5) (N := 13) (v := .ref t0) mrX5_day_5 0 rfl rfl 10 (by decide) mmX5_day_f62 rfl dX5_day_49 ?_
    refine hg_aload_n C dX5_day_52 rfl 0 rfl ?_
    refine hg_get C (Cn := RX5) (T := TX5) (N := 13) (v := .long ((σ.1 * 6364136223846793005) + 1442695040888963407)) mrX5_day_5 0 rfl rfl 9 (by decide) mmX5_day_f58 rfl dX5_day_53 ?_
    refine hg_bipush C (v := 33) dX5_day_56 (by decide) ?_
    refine hg_lushr C dX5_day_58 ?_
    refine hg_ldc2 C mmX5_day_k249 dX5_day_59 ?_
    refine hg_lrem C dX5_day_62 (by decide) ?_
    refine hg_l2i C dX5_day_63 ?_
    refine hg_callV C (ws' := [(hr, .inr (5, [.ref ta, .ref fa, .ref n0, .ref aa, .ref ka, .ref kb, .ref qa, .ref qb, .int sn, .long ((σ.1 * 6364136223846793005) + 1442695040888963407), .ref t0, .ref u0, .ref be])), (fa, .inr (2, [.int pe, .int tu, .ref fb, .ref fc])), (fb, .inl (E.2.1.1, 36, .inl pf)), (fc, .inl (E.2.1.1, 12, .inl tf)), (n0, .inr (3, [.ref fa, .int S.1, .int S.2.1, .int S.2.2.1, .int S.2.2.2.1, .int S.2.2.2.2.1, .ref n1, .ref n2, .ref n3])), (n1, .inl (E.2.1.1, 6, .inl S.2.2.2.2.2.1)), (n2, .inl (E.2.1.1, 6, .inl S.2.2.2.2.2.2.1)), (n3, .inl (E.2.1.1, 4, .inl S.2.2.2.2.2.2.2)), (t0, .inr (3, [.ref fa, .int (((fX5_enact tu pf tf σ.2 ((((((σ.1 * 6364136223846793005) + 1442695040888963407).toUInt64 >>> ((33 : Int32).toInt64.toUInt64 &&& Int64.toUInt64 63)).toInt64) - ((((σ.1 * 6364136223846793005) + 1442695040888963407).toUInt64 >>> ((33 : Int32).toInt64.toUInt64 &&& Int64.toUInt64 63)).toInt64) / 6 * 6).toInt32)).2).1), .int (((fX5_enact tu pf tf σ.2 ((((((σ.1 * 6364136223846793005) + 1442695040888963407).toUInt64 >>> ((33 : Int32).toInt64.toUInt64 &&& Int64.toUInt64 63)).toInt64) - ((((σ.1 * 6364136223846793005) + 1442695040888963407).toUInt64 >>> ((33 : Int32).toInt64.toUInt64 &&& Int64.toUInt64 63)).toInt64) / 6 * 6).toInt32)).2).2.1), .int (((fX5_enact tu pf tf σ.2 ((((((σ.1 * 6364136223846793005) + 1442695040888963407).toUInt64 >>> ((33 : Int32).toInt64.toUInt64 &&& Int64.toUInt64 63)).toInt64) - ((((σ.1 * 6364136223846793005) + 1442695040888963407).toUInt64 >>> ((33 : Int32).toInt64.toUInt64 &&& Int64.toUInt64 63)).toInt64) / 6 * 6).toInt32)).2).2.2.1), .int (((fX5_enact tu pf tf σ.2 ((((((σ.1 * 6364136223846793005) + 1442695040888963407).toUInt64 >>> ((33 : Int32).toInt64.toUInt64 &&& Int64.toUInt64 63)).toInt64) - ((((σ.1 * 6364136223846793005) + 1442695040888963407).toUInt64 >>> ((33 : Int32).toInt64.toUInt64 &&& Int64.toUInt64 63)).toInt64) / 6 * 6).toInt32)).2).2.2.2.1), .int (((fX5_enact tu pf tf σ.2 ((((((σ.1 * 6364136223846793005) + 1442695040888963407).toUInt64 >>> ((33 : Int32).toInt64.toUInt64 &&& Int64.toUInt64 63)).toInt64) - ((((σ.1 * 6364136223846793005) + 1442695040888963407).toUInt64 >>> ((33 : Int32).toInt64.toUInt64 &&& Int64.toUInt64 63)).toInt64) / 6 * 6).toInt32)).2).2.2.2.2.1), .ref t1, .ref t2, .ref t3])), (t1, .inl (E.2.1.1, 6, .inl (((fX5_enact tu pf tf σ.2 ((((((σ.1 * 6364136223846793005) + 1442695040888963407).toUInt64 >>> ((33 : Int32).toInt64.toUInt64 &&& Int64.toUInt64 63)).toInt64) - ((((σ.1 * 6364136223846793005) + 1442695040888963407).toUInt64 >>> ((33 : Int32).toInt64.toUInt64 &&& Int64.toUInt64 63)).toInt64) / 6 * 6).toInt32)).2).2.2.2.2.2.1))), (t2, .inl (E.2.1.1, 6, .inl (((fX5_enact tu pf tf σ.2 ((((((σ.1 * 6364136223846793005) + 1442695040888963407).toUInt64 >>> ((33 : Int32).toInt64.toUInt64 &&& Int64.toUInt64 63)).toInt64) - ((((σ.1 * 6364136223846793005) + 1442695040888963407).toUInt64 >>> ((33 : Int32).toInt64.toUInt64 &&& Int64.toUInt64 63)).toInt64) / 6 * 6).toInt32)).2).2.2.2.2.2.2.1))), (t3, .inl (E.2.1.1, 4, .inl (((fX5_enact tu pf tf σ.2 ((((((σ.1 * 6364136223846793005) + 1442695040888963407).toUInt64 >>> ((33 : Int32).toInt64.toUInt64 &&& Int64.toUInt64 63)).toInt64) - ((((σ.1 * 6364136223846793005) + 1442695040888963407).toUInt64 >>> ((33 : Int32).toInt64.toUInt64 &&& Int64.toUInt64 63)).toInt64) / 6 * 6).toInt32)).2).2.2.2.2.2.2.2)))]) (rest := []) (kX5_enact l E hr ta fa n0 aa ka kb qa qb t0 u0 be sn ((σ.1 * 6364136223846793005) + 1442695040888963407) fb fc pe tu pf tf t1 t2 t3 σ.2 ((((((σ.1 * 6364136223846793005) + 1442695040888963407).toUInt64 >>> ((33 : Int32).toInt64.toUInt64 &&& Int64.toUInt64 63)).toInt64) - ((((σ.1 * 6364136223846793005) + 1442695040888963407).toUInt64 >>> ((33 : Int32).toInt64.toUInt64 &&& Int64.toUInt64 63)).toInt64) / 6 * 6).toInt32)) hfX5_enact gX5_day_X5_enact ⟨Nat.le_of_ble_eq_true rfl, Nat.le_of_ble_eq_true rfl⟩ ⟨Nat.zero_le _, Nat.zero_le _⟩ [0, 1, 2, 3, 8, 9, 10, 11] rfl (by decide) [hr, fa, fb, fc, t0, t1, t2, t3] rfl rfl rfl 0 rfl rfl rfl rfl (Nat.le_of_ble_eq_true rfl) dX5_day_64 ?_
    refine hg_pop C dX5_day_67 rfl ?_
    refine hg_iinc C (v := nI (i + 1)) (lv' := [(2, .int (nI (i + 1))), (0, .ref hr), (1, .int a)]) dX5_day_68 2 rfl (nI_inc _) (by decide) rfl ?_
    refine hg_goto C (tgt := 26) dX5_day_71 (by decide) ?_
    have e9 : (stX5_day_26 tu pf tf) i σ = ((σ.1 * 6364136223846793005) + 1442695040888963407, (fX5_enact tu pf tf σ.2 ((((((σ.1 * 6364136223846793005) + 1442695040888963407).toUInt64 >>> ((33 : Int32).toInt64.toUInt64 &&& Int64.toUInt64 63)).toInt64) - ((((σ.1 * 6364136223846793005) + 1442695040888963407).toUInt64 >>> ((33 : Int32).toInt64.toUInt64 &&& Int64.toUInt64 63)).toInt64) / 6 * 6).toInt32)).2) := hid_eq _
    have h9 := ih (i + 1) ((σ.1 * 6364136223846793005) + 1442695040888963407, (fX5_enact tu pf tf σ.2 ((((((σ.1 * 6364136223846793005) + 1442695040888963407).toUInt64 >>> ((33 : Int32).toInt64.toUInt64 &&& Int64.toUInt64 63)).toInt64) - ((((σ.1 * 6364136223846793005) + 1442695040888963407).toUInt64 >>> ((33 : Int32).toInt64.toUInt64 &&& Int64.toUInt64 63)).toInt64) / 6 * 6).toInt32)).2) (by omega) (e9.symm.trans (congrArg ((stX5_day_26 tu pf tf) i) hσ))
    exact hg_sub [1, 2, 0] rfl h9
noncomputable def fX5_day (sd : Int64) (tu : Int32) (pf : Nat → Int32) (tf : Nat → Int32) (S : Sc) (T : Sc) (a : Int32) : Int32 × Int64 × Sc := hid (if (fX5_isWithin a 1 20) = 0 then ((-2), sd, T) else (((itN (stX5_day_26 tu pf tf) a.toNatClampNeg (sd, S)).2).2.1, (itN (stX5_day_26 tu pf tf) a.toNatClampNeg (sd, S)).1, (itN (stX5_day_26 tu pf tf) a.toNatClampNeg (sd, S)).2))
set_option maxHeartbeats 4000000 in
set_option maxRecDepth 100000 in
theorem kX5_day (l : Launch) (E : hE) (hr : Nat) (ta : Nat) (fa : Nat) (n0 : Nat) (aa : Nat) (ka : Nat) (kb : Nat) (qa : Nat) (qb : Nat) (t0 : Nat) (u0 : Nat) (be : Nat) (sn : Int32) (sd : Int64) (fb : Nat) (fc : Nat) (pe : Int32) (tu : Int32) (pf : Nat → Int32) (tf : Nat → Int32) (n1 : Nat) (n2 : Nat) (n3 : Nat) (S : Sc) (t1 : Nat) (t2 : Nat) (t3 : Nat) (T : Sc) (a : Int32) : hC l yX5_day wsX5_day rmX5_day E [.ref hr, .int a] [(hr, .inr (5, [.ref ta, .ref fa, .ref n0, .ref aa, .ref ka, .ref kb, .ref qa, .ref qb, .int sn, .long sd, .ref t0, .ref u0, .ref be])), (fa, .inr (2, [.int pe, .int tu, .ref fb, .ref fc])), (fb, .inl (E.2.1.1, 36, .inl pf)), (fc, .inl (E.2.1.1, 12, .inl tf)), (n0, .inr (3, [.ref fa, .int S.1, .int S.2.1, .int S.2.2.1, .int S.2.2.2.1, .int S.2.2.2.2.1, .ref n1, .ref n2, .ref n3])), (n1, .inl (E.2.1.1, 6, .inl S.2.2.2.2.2.1)), (n2, .inl (E.2.1.1, 6, .inl S.2.2.2.2.2.2.1)), (n3, .inl (E.2.1.1, 4, .inl S.2.2.2.2.2.2.2)), (t0, .inr (3, [.ref fa, .int T.1, .int T.2.1, .int T.2.2.1, .int T.2.2.2.1, .int T.2.2.2.2.1, .ref t1, .ref t2, .ref t3])), (t1, .inl (E.2.1.1, 6, .inl T.2.2.2.2.2.1)), (t2, .inl (E.2.1.1, 6, .inl T.2.2.2.2.2.2.1)), (t3, .inl (E.2.1.1, 4, .inl T.2.2.2.2.2.2.2))] (some (.int ((fX5_day sd tu pf tf S T a).1))) [(hr, .inr (5, [.ref ta, .ref fa, .ref n0, .ref aa, .ref ka, .ref kb, .ref qa, .ref qb, .int sn, .long ((fX5_day sd tu pf tf S T a).2.1), .ref t0, .ref u0, .ref be])), (fa, .inr (2, [.int pe, .int tu, .ref fb, .ref fc])), (fb, .inl (E.2.1.1, 36, .inl pf)), (fc, .inl (E.2.1.1, 12, .inl tf)), (n0, .inr (3, [.ref fa, .int S.1, .int S.2.1, .int S.2.2.1, .int S.2.2.2.1, .int S.2.2.2.2.1, .ref n1, .ref n2, .ref n3])), (n1, .inl (E.2.1.1, 6, .inl S.2.2.2.2.2.1)), (n2, .inl (E.2.1.1, 6, .inl S.2.2.2.2.2.2.1)), (n3, .inl (E.2.1.1, 4, .inl S.2.2.2.2.2.2.2)), (t0, .inr (3, [.ref fa, .int (((fX5_day sd tu pf tf S T a).2.2).1), .int (((fX5_day sd tu pf tf S T a).2.2).2.1), .int (((fX5_day sd tu pf tf S T a).2.2).2.2.1), .int (((fX5_day sd tu pf tf S T a).2.2).2.2.2.1), .int (((fX5_day sd tu pf tf S T a).2.2).2.2.2.2.1), .ref t1, .ref t2, .ref t3])), (t1, .inl (E.2.1.1, 6, .inl (((fX5_day sd tu pf tf S T a).2.2).2.2.2.2.2.1))), (t2, .inl (E.2.1.1, 6, .inl (((fX5_day sd tu pf tf S T a).2.2).2.2.2.2.2.2.1))), (t3, .inl (E.2.1.1, 4, .inl (((fX5_day sd tu pf tf S T a).2.2).2.2.2.2.2.2.2)))] := by
  refine hC_intro (cc := cX5_day) (maxL := 3) (ret := (some .int)) (lv0 := [(0, .ref hr), (1, .int a)]) (by decide) rfl (Nat.le_of_ble_eq_true rfl) rfl ?_
  intro p e s m below meth c A C
  refine hg_iload_n C dX5_day_0 rfl 1 rfl ?_
  refine hg_iconst C (v := 1) dX5_day_1 (by decide) ?_
  refine hg_bipush C (v := 20) dX5_day_2 (by decide) ?_
  refine hg_callS C (ws' := [(hr, .inr (5, [.ref ta, .ref fa, .ref n0, .ref aa, .ref ka, .ref kb, .ref qa, .ref qb, .int sn, .long sd, .ref t0, .ref u0, .ref be])), (fa, .inr (2, [.int pe, .int tu, .ref fb, .ref fc])), (fb, .inl (E.2.1.1, 36, .inl pf)), (fc, .inl (E.2.1.1, 12, .inl tf)), (n0, .inr (3, [.ref fa, .int S.1, .int S.2.1, .int S.2.2.1, .int S.2.2.2.1, .int S.2.2.2.2.1, .ref n1, .ref n2, .ref n3])), (n1, .inl (E.2.1.1, 6, .inl S.2.2.2.2.2.1)), (n2, .inl (E.2.1.1, 6, .inl S.2.2.2.2.2.2.1)), (n3, .inl (E.2.1.1, 4, .inl S.2.2.2.2.2.2.2)), (t0, .inr (3, [.ref fa, .int T.1, .int T.2.1, .int T.2.2.1, .int T.2.2.2.1, .int T.2.2.2.2.1, .ref t1, .ref t2, .ref t3])), (t1, .inl (E.2.1.1, 6, .inl T.2.2.2.2.2.1)), (t2, .inl (E.2.1.1, 6, .inl T.2.2.2.2.2.2.1)), (t3, .inl (E.2.1.1, 4, .inl T.2.2.2.2.2.2.2))]) (rest := []) (kX5_isWithin l E a 1 20) hfX5_isWithin gX5_day_X5_isWithin ⟨Nat.le_of_ble_eq_true rfl, Nat.le_of_ble_eq_true rfl⟩ ⟨Nat.zero_le _, Nat.zero_le _⟩ [] rfl (by decide) [] rfl rfl rfl rfl (Nat.le_of_ble_eq_true rfl) dX5_day_4 ?_
  refine hg_if_ne C (tgt := 13) dX5_day_7 (by decide) (fun c1 => ?_) (fun c1 => ?_)
  · refine hg_aload_n C dX5_day_13 rfl 0 rfl ?_
    refine hg_get C (Cn := RX5) (T := TX5) (N := 13) (v := .ref t0) mrX5_day_5 0 rfl rfl 10 (by decide) mmX5_day_f62 rfl dX5_day_14 ?_
    refine hg_aload_n C dX5_day_17 rfl 0 rfl ?_
    refine hg_get C (Cn := RX5) (T := TX5) (N := 13) (v := .ref n0) mrX5_day_5 0 rfl rfl 2 (by decide) mmX5_day_f28 rfl dX5_day_18 ?_
    refine hg_callV C (ws' := [(hr, .inr (5, [.ref ta, .ref fa, .ref n0, .ref aa, .ref ka, .ref kb, .ref qa, .ref qb, .int sn, .long sd, .ref t0, .ref u0, .ref be])), (fa, .inr (2, [.int pe, .int tu, .ref fb, .ref fc])), (fb, .inl (E.2.1.1, 36, .inl pf)), (fc, .inl (E.2.1.1, 12, .inl tf)), (n0, .inr (3, [.ref fa, .int S.1, .int S.2.1, .int S.2.2.1, .int S.2.2.2.1, .int S.2.2.2.2.1, .ref n1, .ref n2, .ref n3])), (n1, .inl (E.2.1.1, 6, .inl S.2.2.2.2.2.1)), (n2, .inl (E.2.1.1, 6, .inl S.2.2.2.2.2.2.1)), (n3, .inl (E.2.1.1, 4, .inl S.2.2.2.2.2.2.2)), (t0, .inr (3, [.ref fa, .int S.1, .int S.2.1, .int S.2.2.1, .int S.2.2.2.1, .int S.2.2.2.2.1, .ref t1, .ref t2, .ref t3])), (t1, .inl (E.2.1.1, 6, .inl S.2.2.2.2.2.1)), (t2, .inl (E.2.1.1, 6, .inl S.2.2.2.2.2.2.1)), (t3, .inl (E.2.1.1, 4, .inl S.2.2.2.2.2.2.2))]) (rest := []) (ksX3_copy l E fa t0 t1 t2 t3 n0 n1 n2 n3 T S) hfX3_copy gX5_day_X3_copy ⟨Nat.le_of_ble_eq_true rfl, Nat.le_of_ble_eq_true rfl⟩ ⟨Nat.zero_le _, Nat.zero_le _⟩ [8, 9, 10, 11, 4, 5, 6, 7] rfl (by decide) [t0, t1, t2, t3, n0, n1, n2, n3] rfl rfl rfl 8 rfl rfl rfl rfl (Nat.le_of_ble_eq_true rfl) dX5_day_21 ?_
    refine hg_iconst C (v := 0) dX5_day_24 (by decide) ?_
    refine hg_istore_n C (lv' := [(2, .int 0), (0, .ref hr), (1, .int a)]) dX5_day_25 rfl (by decide) rfl ?_
    refine hg_sub [1, 2, 0] rfl ?_
    refine lpX5_day_26 C hr ta fa n0 aa ka kb qa qb t0 u0 be sn sd fb fc pe tu pf tf n1 n2 n3 S t1 t2 t3 T a (sd, S) ?_ a.toNatClampNeg 0 (sd, S) (by omega) rfl
    refine hg_aload_n C dX5_day_74 rfl 0 rfl ?_
    refine hg_get C (Cn := RX5) (T := TX5) (N := 13) (v := .ref t0) mrX5_day_5 0 rfl rfl 10 (by decide) mmX5_day_f62 rfl dX5_day_75 ?_
    refine hg_getN C (Cn := RX3) (T := TX3) (N := 9) (v := .int (((itN (stX5_day_26 tu pf tf) a.toNatClampNeg (sd, S)).2).2.1)) mrX5_day_3 8 rfl rfl 2 (by decide) nfX5_112 rfl dX5_day_78 ?_
    have e9 : (fX5_day sd tu pf tf S T a) = (((itN (stX5_day_26 tu pf tf) a.toNatClampNeg (sd, S)).2).2.1, (itN (stX5_day_26 tu pf tf) a.toNatClampNeg (sd, S)).1, (itN (stX5_day_26 tu pf tf) a.toNatClampNeg (sd, S)).2) := (hid_eq _).trans ((if_neg c1).trans rfl)
    rw [e9]
    exact hg_iret C dX5_day_81 rfl rfl
  · refine hg_bipush C (v := (-2)) dX5_day_10 (by decide) ?_
    have e9 : (fX5_day sd tu pf tf S T a) = ((-2), sd, T) := (hid_eq _).trans ((if_pos c1).trans rfl)
    rw [e9]
    exact hg_iret C dX5_day_12 rfl rfl
