abbrev rmX5_louder : Room := { frames := 2, cells := 0, slots := 0, locals := 46 }
theorem hfX5_louder : hCF yX5_louder wsX5_louder rmX5_louder cX5_louder 7 (some .int) 2 := ⟨⟨_, rfl⟩, by decide +kernel, rfl, rfl⟩
noncomputable def stX5_louder_40 (a : Int32) (x5 : Int32) (i : Nat) (σ : Int32 × Int32) : Int32 × Int32 := hid (if (fX5_isContent a x5 (nI i)) = 0 then (σ.1, σ.2) else if (fX5_isContent a (nI i) x5) = 0 then (σ.1, σ.2) else (σ.1 + 1, if σ.1 = 0 then ((10 * x5) + (nI i)) else σ.2))
set_option maxHeartbeats 4000000 in
set_option maxRecDepth 100000 in
theorem lpX5_louder_40 {p : Program} {l : Launch} {e : Env} {s : State} {m : MethodId} {args : Array Value} {below : List Frame} {meth : Method} {c : Code} {E : hE} {A : Nat → Prop} {Q : State → Prop} (C : hX p s m args meth c E A cX5_louder 7 RX5 wsX5_louder (some .int)) (hr : Nat) (ta : Nat) (fa : Nat) (n0 : Nat) (aa : Nat) (ka : Nat) (kb : Nat) (qa : Nat) (qb : Nat) (t0 : Nat) (u0 : Nat) (be : Nat) (sn : Int32) (sd : Int64) (a : Int32) (b : Int32) (x5 : Int32) (σ0 : Int32 × Int32) (k : hG p l e rmX5_louder s m args below meth c E A 7 Q 0 0 96 [(1, .int a), (2, .int b), (3, .int ((itN (stX5_louder_40 a x5) 6 σ0).1)), (4, .int ((itN (stX5_louder_40 a x5) 6 σ0).2)), (5, .int x5)] [] [(hr, .inr (5, [.ref ta, .ref fa, .ref n0, .ref aa, .ref ka, .ref kb, .ref qa, .ref qb, .int sn, .long sd, .ref t0, .ref u0, .ref be]))]) : ∀ (n i : Nat) (σ : Int32 × Int32), i + n = 6 → σ = itN (stX5_louder_40 a x5) i σ0 → hG p l e rmX5_louder s m args below meth c E A 7 Q 0 0 40 [(1, .int a), (2, .int b), (3, .int σ.1), (4, .int σ.2), (5, .int x5), (6, .int (nI i))] [] [(hr, .inr (5, [.ref ta, .ref fa, .ref n0, .ref aa, .ref ka, .ref kb, .ref qa, .ref qb, .int sn, .long sd, .ref t0, .ref u0, .ref be]))] := by
  intro n
  induction n with
  | zero =>
    intro i σ hi hσ
    have hi : i = 6 := by omega
    rw [hi] at hσ
    rw [hi]
    subst hσ
    refine hg_iload C dX5_louder_40 5 rfl ?_
    refine hg_iconst C (v := 5) dX5_louder_42 (by decide) ?_
    refine hg_icmp_gt C (tgt := 96) dX5_louder_43 (by decide) (fun _ => ?_) (fun h => absurd (by decide) h)
    exact hg_sub [0, 1, 2, 3, 4] rfl k
  | succ n ih =>
    intro i σ hi hσ
    have hlt : i < 6 := by omega
    refine hg_iload C dX5_louder_40 5 rfl ?_
    refine hg_iconst C (v := 5) dX5_louder_42 (by decide) ?_
    refine hg_icmp_gt C (tgt := 96) dX5_louder_43 (by decide) (fun h => absurd h (nI_nlt (a := 5) (by omega) (by decide))) (fun _ => ?_)
    refine hg_iload_n C dX5_louder_46 rfl 0 rfl ?_
    refine hg_iload C dX5_louder_47 4 rfl ?_
    refine hg_iload C dX5_louder_49 5 rfl ?_
    refine hg_callS C (ws' := [(hr, .inr (5, [.ref ta, .ref fa, .ref n0, .ref aa, .ref ka, .ref kb, .ref qa, .ref qb, .int sn, .long sd, .ref t0, .ref u0, .ref be]))]) (rest := []) (kX5_isContent l E a x5 (nI i)) hfX5_isContent gX5_louder_X5_isContent ⟨Nat.le_of_ble_eq_true rfl, Nat.le_of_ble_eq_true rfl⟩ ⟨Nat.zero_le _, Nat.zero_le _⟩ [] rfl (by decide) [] rfl rfl rfl rfl (Nat.le_of_ble_eq_true rfl) dX5_louder_51 ?_
    refine hg_if_eq C (tgt := 90) dX5_louder_54 (by decide) (fun c5 => ?_) (fun c5 => ?_)
    · refine hg_iinc C (v := nI (i + 1)) (lv' := [(6, .int (nI (i + 1))), (1, .int a), (2, .int b), (3, .int σ.1), (4, .int σ.2), (5, .int x5)]) dX5_louder_90 5 rfl (nI_inc _) (by decide) rfl ?_
      refine hg_goto C (tgt := 40) dX5_louder_93 (by decide) ?_
      have e9 : (stX5_louder_40 a x5) i σ = (σ.1, σ.2) := (hid_eq _).trans ((if_pos c5).trans rfl)
      have h9 := ih (i + 1) (σ.1, σ.2) (by omega) (e9.symm.trans (congrArg ((stX5_louder_40 a x5) i) hσ))
      exact hg_sub [1, 2, 3, 4, 5, 0] rfl h9
    · refine hg_iload_n C dX5_louder_57 rfl 0 rfl ?_
      refine hg_iload C dX5_louder_58 5 rfl ?_
      refine hg_iload C dX5_louder_60 4 rfl ?_
      refine hg_callS C (ws' := [(hr, .inr (5, [.ref ta, .ref fa, .ref n0, .ref aa, .ref ka, .ref kb, .ref qa, .ref qb, .int sn, .long sd, .ref t0, .ref u0, .ref be]))]) (rest := []) (kX5_isContent l E a (nI i) x5) hfX5_isContent gX5_louder_X5_isContent ⟨Nat.le_of_ble_eq_true rfl, Nat.le_of_ble_eq_true rfl⟩ ⟨Nat.zero_le _, Nat.zero_le _⟩ [] rfl (by decide) [] rfl rfl rfl rfl (Nat.le_of_ble_eq_true rfl) dX5_louder_62 ?_
      refine hg_if_eq C (tgt := 90) dX5_louder_65 (by decide) (fun c6 => ?_) (fun c6 => ?_)
      · refine hg_iinc C (v := nI (i + 1)) (lv' := [(6, .int (nI (i + 1))), (1, .int a), (2, .int b), (3, .int σ.1), (4, .int σ.2), (5, .int x5)]) dX5_louder_90 5 rfl (nI_inc _) (by decide) rfl ?_
        refine hg_goto C (tgt := 40) dX5_louder_93 (by decide) ?_
        have e9 : (stX5_louder_40 a x5) i σ = (σ.1, σ.2) := (hid_eq _).trans ((if_neg c5).trans ((if_pos c6).trans rfl))
        have h9 := ih (i + 1) (σ.1, σ.2) (by omega) (e9.symm.trans (congrArg ((stX5_louder_40 a x5) i) hσ))
        exact hg_sub [1, 2, 3, 4, 5, 0] rfl h9
      · refine hg_iload_n C dX5_louder_68 rfl 2 rfl ?_
        refine hg_join (J := 85) (v := if σ.1 = 0 then ((10 * x5) + (nI i)) else σ.2) (st1 := []) (fun jj => ?_) ?_
        · refine hg_if_ne C (tgt := 83) dX5_louder_69 (by decide) (fun c7 => ?_) (fun c7 => ?_)
          · refine hg_iload C dX5_louder_83 3 rfl ?_
            exact hg_top (v := if σ.1 = 0 then ((10 * x5) + (nI i)) else σ.2) (v' := σ.2) ((if_neg c7).trans rfl) jj
          · refine hg_bipush C (v := 10) dX5_louder_72 (by decide) ?_
            refine hg_iload C dX5_louder_74 4 rfl ?_
            refine hg_imul C dX5_louder_76 ?_
            refine hg_iload C dX5_louder_77 5 rfl ?_
            refine hg_iadd C dX5_louder_79 ?_
            refine hg_goto C (tgt := 85) dX5_louder_80 (by decide) ?_
            exact hg_top (v := if σ.1 = 0 then ((10 * x5) + (nI i)) else σ.2) (v' := (10 * x5) + (nI i)) ((if_pos c7).trans rfl) jj
        refine hg_istore C (lv' := [(4, .int (if σ.1 = 0 then ((10 * x5) + (nI i)) else σ.2)), (1, .int a), (2, .int b), (3, .int σ.1), (5, .int x5), (6, .int (nI i))]) dX5_louder_85 (by decide) rfl ?_
        refine hg_iinc C (v := σ.1 + 1) (lv' := [(3, .int (σ.1 + 1)), (4, .int (if σ.1 = 0 then ((10 * x5) + (nI i)) else σ.2)), (1, .int a), (2, .int b), (5, .int x5), (6, .int (nI i))]) dX5_louder_87 3 rfl rfl (by decide) rfl ?_
        refine hg_iinc C (v := nI (i + 1)) (lv' := [(6, .int (nI (i + 1))), (3, .int (σ.1 + 1)), (4, .int (if σ.1 = 0 then ((10 * x5) + (nI i)) else σ.2)), (1, .int a), (2, .int b), (5, .int x5)]) dX5_louder_90 5 rfl (nI_inc _) (by decide) rfl ?_
        refine hg_goto C (tgt := 40) dX5_louder_93 (by decide) ?_
        have e9 : (stX5_louder_40 a x5) i σ = (σ.1 + 1, if σ.1 = 0 then ((10 * x5) + (nI i)) else σ.2) := (hid_eq _).trans ((if_neg c5).trans ((if_neg c6).trans rfl))
        have h9 := ih (i + 1) (σ.1 + 1, if σ.1 = 0 then ((10 * x5) + (nI i)) else σ.2) (by omega) (e9.symm.trans (congrArg ((stX5_louder_40 a x5) i) hσ))
        exact hg_sub [3, 4, 1, 2, 5, 0] rfl h9
noncomputable def stX5_louder_31 (a : Int32) (i : Nat) (σ : Int32 × Int32) : Int32 × Int32 := hid (((itN (stX5_louder_40 a (nI i)) 6 (σ.1, σ.2)).1, (itN (stX5_louder_40 a (nI i)) 6 (σ.1, σ.2)).2))
set_option maxHeartbeats 4000000 in
set_option maxRecDepth 100000 in
theorem lpX5_louder_31 {p : Program} {l : Launch} {e : Env} {s : State} {m : MethodId} {args : Array Value} {below : List Frame} {meth : Method} {c : Code} {E : hE} {A : Nat → Prop} {Q : State → Prop} (C : hX p s m args meth c E A cX5_louder 7 RX5 wsX5_louder (some .int)) (hr : Nat) (ta : Nat) (fa : Nat) (n0 : Nat) (aa : Nat) (ka : Nat) (kb : Nat) (qa : Nat) (qb : Nat) (t0 : Nat) (u0 : Nat) (be : Nat) (sn : Int32) (sd : Int64) (a : Int32) (b : Int32) (σ0 : Int32 × Int32) (k : hG p l e rmX5_louder s m args below meth c E A 7 Q 0 0 102 [(2, .int b), (3, .int ((itN (stX5_louder_31 a) 6 σ0).1)), (4, .int ((itN (stX5_louder_31 a) 6 σ0).2))] [] [(hr, .inr (5, [.ref ta, .ref fa, .ref n0, .ref aa, .ref ka, .ref kb, .ref qa, .ref qb, .int sn, .long sd, .ref t0, .ref u0, .ref be]))]) : ∀ (n i : Nat) (σ : Int32 × Int32), i + n = 6 → σ = itN (stX5_louder_31 a) i σ0 → hG p l e rmX5_louder s m args below meth c E A 7 Q 0 0 31 [(1, .int a), (2, .int b), (3, .int σ.1), (4, .int σ.2), (5, .int (nI i))] [] [(hr, .inr (5, [.ref ta, .ref fa, .ref n0, .ref aa, .ref ka, .ref kb, .ref qa, .ref qb, .int sn, .long sd, .ref t0, .ref u0, .ref be]))] := by
  intro n
  induction n with
  | zero =>
    intro i σ hi hσ
    have hi : i = 6 := by omega
    rw [hi] at hσ
    rw [hi]
    subst hσ
    refine hg_iload C dX5_louder_31 4 rfl ?_
    refine hg_iconst C (v := 5) dX5_louder_33 (by decide) ?_
    refine hg_icmp_gt C (tgt := 102) dX5_louder_34 (by decide) (fun _ => ?_) (fun h => absurd (by decide) h)
    exact hg_sub [1, 2, 3] rfl k
  | succ n ih =>
    intro i σ hi hσ
    have hlt : i < 6 := by omega
    refine hg_iload C dX5_louder_31 4 rfl ?_
    refine hg_iconst C (v := 5) dX5_louder_33 (by decide) ?_
    refine hg_icmp_gt C (tgt := 102) dX5_louder_34 (by decide) (fun h => absurd h (nI_nlt (a := 5) (by omega) (by decide))) (fun _ => ?_)
    refine hg_iconst C (v := 0) dX5_louder_37 (by decide) ?_
    refine hg_istore C (lv' := [(6, .int 0), (1, .int a), (2, .int b), (3, .int σ.1), (4, .int σ.2), (5, .int (nI i))]) dX5_louder_38 (by decide) rfl ?_
    refine hg_sub [1, 2, 3, 4, 5, 0] rfl ?_
    refine lpX5_louder_40 C hr ta fa n0 aa ka kb qa qb t0 u0 be sn sd a b (nI i) (σ.1, σ.2) ?_ 6 0 (σ.1, σ.2) (by omega) rfl
    refine hg_iinc C (v := nI (i + 1)) (lv' := [(5, .int (nI (i + 1))), (1, .int a), (2, .int b), (3, .int ((itN (stX5_louder_40 a (nI i)) 6 (σ.1, σ.2)).1)), (4, .int ((itN (stX5_louder_40 a (nI i)) 6 (σ.1, σ.2)).2))]) dX5_louder_96 4 rfl (nI_inc _) (by decide) rfl ?_
    refine hg_goto C (tgt := 31) dX5_louder_99 (by decide) ?_
    have e9 : (stX5_louder_31 a) i σ = ((itN (stX5_louder_40 a (nI i)) 6 (σ.1, σ.2)).1, (itN (stX5_louder_40 a (nI i)) 6 (σ.1, σ.2)).2) := hid_eq _
    have h9 := ih (i + 1) ((itN (stX5_louder_40 a (nI i)) 6 (σ.1, σ.2)).1, (itN (stX5_louder_40 a (nI i)) 6 (σ.1, σ.2)).2) (by omega) (e9.symm.trans (congrArg ((stX5_louder_31 a) i) hσ))
    exact hg_sub [1, 2, 3, 4, 0] rfl h9
noncomputable def fX5_louder (a : Int32) (b : Int32) : Int32 := hid (if (fX5_isWithin a 1 20) = 0 then (-2) else if (fX5_isWithin b 0 1) = 0 then (-2) else if b = 0 then ((itN (stX5_louder_31 a) 6 (0, (-9))).1) else ((itN (stX5_louder_31 a) 6 (0, (-9))).2))
set_option maxHeartbeats 4000000 in
set_option maxRecDepth 100000 in
theorem kX5_louder (l : Launch) (E : hE) (hr : Nat) (ta : Nat) (fa : Nat) (n0 : Nat) (aa : Nat) (ka : Nat) (kb : Nat) (qa : Nat) (qb : Nat) (t0 : Nat) (u0 : Nat) (be : Nat) (sn : Int32) (sd : Int64) (a : Int32) (b : Int32) : hC l yX5_louder wsX5_louder rmX5_louder E [.ref hr, .int a, .int b] [(hr, .inr (5, [.ref ta, .ref fa, .ref n0, .ref aa, .ref ka, .ref kb, .ref qa, .ref qb, .int sn, .long sd, .ref t0, .ref u0, .ref be]))] (some (.int (fX5_louder a b))) [(hr, .inr (5, [.ref ta, .ref fa, .ref n0, .ref aa, .ref ka, .ref kb, .ref qa, .ref qb, .int sn, .long sd, .ref t0, .ref u0, .ref be]))] := by
  refine hC_intro (cc := cX5_louder) (maxL := 7) (ret := (some .int)) (lv0 := [(0, .ref hr), (1, .int a), (2, .int b)]) (by decide) rfl (Nat.le_of_ble_eq_true rfl) rfl ?_
  intro p e s m below meth c A C
  refine hg_iload_n C dX5_louder_0 rfl 1 rfl ?_
  refine hg_iconst C (v := 1) dX5_louder_1 (by decide) ?_
  refine hg_bipush C (v := 20) dX5_louder_2 (by decide) ?_
  refine hg_callS C (ws' := [(hr, .inr (5, [.ref ta, .ref fa, .ref n0, .ref aa, .ref ka, .ref kb, .ref qa, .ref qb, .int sn, .long sd, .ref t0, .ref u0, .ref be]))]) (rest := []) (kX5_isWithin l E a 1 20) hfX5_isWithin gX5_louder_X5_isWithin ⟨Nat.le_of_ble_eq_true rfl, Nat.le_of_ble_eq_true rfl⟩ ⟨Nat.zero_le _, Nat.zero_le _⟩ [] rfl (by decide) [] rfl rfl rfl rfl (Nat.le_of_ble_eq_true rfl) dX5_louder_4 ?_
  refine hg_if_eq C (tgt := 19) dX5_louder_7 (by decide) (fun c1 => ?_) (fun c1 => ?_)
  · refine hg_bipush C (v := (-2)) dX5_louder_19 (by decide) ?_
    have e9 : (fX5_louder a b) = (-2) := (hid_eq _).trans ((if_pos c1).trans rfl)
    rw [e9]
    exact hg_iret C dX5_louder_21 rfl rfl
  · refine hg_iload_n C dX5_louder_10 rfl 2 rfl ?_
    refine hg_iconst C (v := 0) dX5_louder_11 (by decide) ?_
    refine hg_iconst C (v := 1) dX5_louder_12 (by decide) ?_
    refine hg_callS C (ws' := [(hr, .inr (5, [.ref ta, .ref fa, .ref n0, .ref aa, .ref ka, .ref kb, .ref qa, .ref qb, .int sn, .long sd, .ref t0, .ref u0, .ref be]))]) (rest := []) (kX5_isWithin l E b 0 1) hfX5_isWithin gX5_louder_X5_isWithin ⟨Nat.le_of_ble_eq_true rfl, Nat.le_of_ble_eq_true rfl⟩ ⟨Nat.zero_le _, Nat.zero_le _⟩ [] rfl (by decide) [] rfl rfl rfl rfl (Nat.le_of_ble_eq_true rfl) dX5_louder_13 ?_
    refine hg_if_ne C (tgt := 22) dX5_louder_16 (by decide) (fun c2 => ?_) (fun c2 => ?_)
    · refine hg_iconst C (v := 0) dX5_louder_22 (by decide) ?_
      refine hg_istore_n C (lv' := [(3, .int 0), (0, .ref hr), (1, .int a), (2, .int b)]) dX5_louder_23 rfl (by decide) rfl ?_
      refine hg_bipush C (v := (-9)) dX5_louder_24 (by decide) ?_
      refine hg_istore C (lv' := [(4, .int (-9)), (3, .int 0), (0, .ref hr), (1, .int a), (2, .int b)]) dX5_louder_26 (by decide) rfl ?_
      refine hg_iconst C (v := 0) dX5_louder_28 (by decide) ?_
      refine hg_istore C (lv' := [(5, .int 0), (4, .int (-9)), (3, .int 0), (0, .ref hr), (1, .int a), (2, .int b)]) dX5_louder_29 (by decide) rfl ?_
      refine hg_sub [4, 5, 2, 1, 0] rfl ?_
      refine lpX5_louder_31 C hr ta fa n0 aa ka kb qa qb t0 u0 be sn sd a b (0, (-9)) ?_ 6 0 (0, (-9)) (by omega) rfl
      refine hg_iload_n C dX5_louder_102 rfl 0 rfl ?_
      refine hg_join (J := 112) (v := if b = 0 then ((itN (stX5_louder_31 a) 6 (0, (-9))).1) else ((itN (stX5_louder_31 a) 6 (0, (-9))).2)) (st1 := []) (fun jj => ?_) ?_
      · refine hg_if_ne C (tgt := 110) dX5_louder_103 (by decide) (fun c8 => ?_) (fun c8 => ?_)
        · refine hg_iload C dX5_louder_110 2 rfl ?_
          exact hg_top (v := if b = 0 then ((itN (stX5_louder_31 a) 6 (0, (-9))).1) else ((itN (stX5_louder_31 a) 6 (0, (-9))).2)) (v' := (itN (stX5_louder_31 a) 6 (0, (-9))).2) ((if_neg c8).trans rfl) jj
        · refine hg_iload_n C dX5_louder_106 rfl 1 rfl ?_
          refine hg_goto C (tgt := 112) dX5_louder_107 (by decide) ?_
          exact hg_top (v := if b = 0 then ((itN (stX5_louder_31 a) 6 (0, (-9))).1) else ((itN (stX5_louder_31 a) 6 (0, (-9))).2)) (v' := (itN (stX5_louder_31 a) 6 (0, (-9))).1) ((if_pos c8).trans rfl) jj
      have e9 : (fX5_louder a b) = if b = 0 then ((itN (stX5_louder_31 a) 6 (0, (-9))).1) else ((itN (stX5_louder_31 a) 6 (0, (-9))).2) := (hid_eq _).trans ((if_neg c1).trans ((if_neg c2).trans rfl))
      rw [e9]
      exact hg_iret C dX5_louder_112 rfl rfl
    · refine hg_bipush C (v := (-2)) dX5_louder_19 (by decide) ?_
      have e9 : (fX5_louder a b) = (-2) := (hid_eq _).trans ((if_neg c1).trans ((if_pos c2).trans rfl))
      rw [e9]
      exact hg_iret C dX5_louder_21 rfl rfl
abbrev rmX5_shares : Room := { frames := 2, cells := 0, slots := 0, locals := 42 }
theorem hfX5_shares : hCF yX5_shares wsX5_shares rmX5_shares cX5_shares 6 (some .int) 3 := ⟨⟨_, rfl⟩, by decide +kernel, rfl, rfl⟩
noncomputable def frX5_shares_27 (a : Int32) (b : Int32) (q : Int32) : Nat → Nat → Unit → Int32
  | 0, _, σ => 0
  | n + 1, i, σ => hid (if (10 : Int32) < (nI i) then (-9) else if ((a * (nI i)) / 10) < b then (frX5_shares_27 a b q) n (i + 1) () else if ((a * (nI i)) / 10) < q then (frX5_shares_27 a b q) n (i + 1) () else nI i)
set_option maxHeartbeats 4000000 in
set_option maxRecDepth 100000 in
theorem lpX5_shares_27 {p : Program} {l : Launch} {e : Env} {s : State} {m : MethodId} {args : Array Value} {below : List Frame} {meth : Method} {c : Code} {E : hE} {A : Nat → Prop} (C : hX p s m args meth c E A cX5_shares 6 RX5 wsX5_shares (some .int)) (hr : Nat) (ta : Nat) (fa : Nat) (n0 : Nat) (aa : Nat) (ka : Nat) (kb : Nat) (qa : Nat) (qb : Nat) (t0 : Nat) (u0 : Nat) (be : Nat) (sn : Int32) (sd : Int64) (a : Int32) (b : Int32) (q : Int32) : ∀ (n i : Nat) (σ : Unit), i + n = 11 + 1 → i ≤ 11 → hG p l e rmX5_shares s m args below meth c E A 6 (hQ E A below args s (some (.int ((frX5_shares_27 a b q) n i σ))) [(hr, .inr (5, [.ref ta, .ref fa, .ref n0, .ref aa, .ref ka, .ref kb, .ref qa, .ref qb, .int sn, .long sd, .ref t0, .ref u0, .ref be]))]) 0 0 27 [(1, .int a), (2, .int b), (3, .int q), (4, .int (nI i))] [] [(hr, .inr (5, [.ref ta, .ref fa, .ref n0, .ref aa, .ref ka, .ref kb, .ref qa, .ref qb, .int sn, .long sd, .ref t0, .ref u0, .ref be]))] := by
  intro n
  induction n with
  | zero =>
    intro i σ hi hiN
    exact absurd hi (by omega)
  | succ n ih =>
    intro i σ hi hiN
    refine hg_iload C dX5_shares_27 3 rfl ?_
    refine hg_bipush C (v := 10) dX5_shares_29 (by decide) ?_
    refine hg_icmp_gt C (tgt := 64) dX5_shares_31 (by decide) (fun c7 => ?_) (fun c7 => ?_)
    · refine hg_bipush C (v := (-9)) dX5_shares_64 (by decide) ?_
      have e9 : (frX5_shares_27 a b q) (n + 1) i σ = (-9) := (hid_eq _).trans ((if_pos c7).trans rfl)
      rw [e9]
      exact hg_iret C dX5_shares_66 rfl rfl
    · refine hg_iload_n C dX5_shares_34 rfl 0 rfl ?_
      refine hg_iload C dX5_shares_35 3 rfl ?_
      refine hg_imul C dX5_shares_37 ?_
      refine hg_bipush C (v := 10) dX5_shares_38 (by decide) ?_
      refine hg_idiv C dX5_shares_40 (by decide) ?_
      refine hg_istore C (lv' := [(5, .int ((a * (nI i)) / 10)), (1, .int a), (2, .int b), (3, .int q), (4, .int (nI i))]) dX5_shares_41 (by decide) rfl ?_
      refine hg_iload C dX5_shares_43 0 rfl ?_
      refine hg_iload_n C dX5_shares_45 rfl 2 rfl ?_
      refine hg_icmp_lt C (tgt := 58) dX5_shares_46 (by decide) (fun c8 => ?_) (fun c8 => ?_)
      · refine hg_iinc C (v := nI (i + 1)) (lv' := [(4, .int (nI (i + 1))), (5, .int ((a * (nI i)) / 10)), (1, .int a), (2, .int b), (3, .int q)]) dX5_shares_58 4 rfl (nI_inc _) (by decide) rfl ?_
        refine hg_goto C (tgt := 27) dX5_shares_61 (by decide) ?_
        have hlt : i < 11 := (lt_nI2 (N := 10) (by omega) (by assumption))
        have e9 : (frX5_shares_27 a b q) (n + 1) i σ = (frX5_shares_27 a b q) n (i + 1) () := (hid_eq _).trans ((if_neg c7).trans ((if_pos c8).trans rfl))
        rw [e9]
        exact hg_sub [2, 3, 4, 0] rfl (ih (i + 1) () (by omega) (by omega))
      · refine hg_iload C dX5_shares_49 0 rfl ?_
        refine hg_iload_n C dX5_shares_51 rfl 3 rfl ?_
        refine hg_icmp_lt C (tgt := 58) dX5_shares_52 (by decide) (fun c9 => ?_) (fun c9 => ?_)
        · refine hg_iinc C (v := nI (i + 1)) (lv' := [(4, .int (nI (i + 1))), (5, .int ((a * (nI i)) / 10)), (1, .int a), (2, .int b), (3, .int q)]) dX5_shares_58 4 rfl (nI_inc _) (by decide) rfl ?_
          refine hg_goto C (tgt := 27) dX5_shares_61 (by decide) ?_
          have hlt : i < 11 := (lt_nI2 (N := 10) (by omega) (by assumption))
          have e9 : (frX5_shares_27 a b q) (n + 1) i σ = (frX5_shares_27 a b q) n (i + 1) () := (hid_eq _).trans ((if_neg c7).trans ((if_neg c8).trans ((if_pos c9).trans rfl)))
          rw [e9]
          exact hg_sub [2, 3, 4, 0] rfl (ih (i + 1) () (by omega) (by omega))
        · refine hg_iload C dX5_shares_55 4 rfl ?_
          have e9 : (frX5_shares_27 a b q) (n + 1) i σ = nI i := (hid_eq _).trans ((if_neg c7).trans ((if_neg c8).trans ((if_neg c9).trans rfl)))
          rw [e9]
          exact hg_iret C dX5_shares_57 rfl rfl
noncomputable def fX5_shares (a : Int32) (b : Int32) (q : Int32) : Int32 := hid (if (fX5_isCoins a) = 0 then (-2) else if (fX5_isCoins b) = 0 then (-2) else if (fX5_isCoins q) = 0 then (-2) else (frX5_shares_27 a b q) (11 + 1) 0 ())
set_option maxHeartbeats 4000000 in
set_option maxRecDepth 100000 in
theorem kX5_shares (l : Launch) (E : hE) (hr : Nat) (ta : Nat) (fa : Nat) (n0 : Nat) (aa : Nat) (ka : Nat) (kb : Nat) (qa : Nat) (qb : Nat) (t0 : Nat) (u0 : Nat) (be : Nat) (sn : Int32) (sd : Int64) (a : Int32) (b : Int32) (q : Int32) : hC l yX5_shares wsX5_shares rmX5_shares E [.ref hr, .int a, .int b, .int q] [(hr, .inr (5, [.ref ta, .ref fa, .ref n0, .ref aa, .ref ka, .ref kb, .ref qa, .ref qb, .int sn, .long sd, .ref t0, .ref u0, .ref be]))] (some (.int (fX5_shares a b q))) [(hr, .inr (5, [.ref ta, .ref fa, .ref n0, .ref aa, .ref ka, .ref kb, .ref qa, .ref qb, .int sn, .long sd, .ref t0, .ref u0, .ref be]))] := by
  refine hC_intro (cc := cX5_shares) (maxL := 6) (ret := (some .int)) (lv0 := [(0, .ref hr), (1, .int a), (2, .int b), (3, .int q)]) (by decide) rfl (Nat.le_of_ble_eq_true rfl) rfl ?_
  intro p e s m below meth c A C
  refine hg_iload_n C dX5_shares_0 rfl 1 rfl ?_
  refine hg_callS C (ws' := [(hr, .inr (5, [.ref ta, .ref fa, .ref n0, .ref aa, .ref ka, .ref kb, .ref qa, .ref qb, .int sn, .long sd, .ref t0, .ref u0, .ref be]))]) (rest := []) (kX5_isCoins l E a) hfX5_isCoins gX5_shares_X5_isCoins ⟨Nat.le_of_ble_eq_true rfl, Nat.le_of_ble_eq_true rfl⟩ ⟨Nat.zero_le _, Nat.zero_le _⟩ [] rfl (by decide) [] rfl rfl rfl rfl (Nat.le_of_ble_eq_true rfl) dX5_shares_1 ?_
  refine hg_if_eq C (tgt := 21) dX5_shares_4 (by decide) (fun c1 => ?_) (fun c1 => ?_)
  · refine hg_bipush C (v := (-2)) dX5_shares_21 (by decide) ?_
    have e9 : (fX5_shares a b q) = (-2) := (hid_eq _).trans ((if_pos c1).trans rfl)
    rw [e9]
    exact hg_iret C dX5_shares_23 rfl rfl
  · refine hg_iload_n C dX5_shares_7 rfl 2 rfl ?_
    refine hg_callS C (ws' := [(hr, .inr (5, [.ref ta, .ref fa, .ref n0, .ref aa, .ref ka, .ref kb, .ref qa, .ref qb, .int sn, .long sd, .ref t0, .ref u0, .ref be]))]) (rest := []) (kX5_isCoins l E b) hfX5_isCoins gX5_shares_X5_isCoins ⟨Nat.le_of_ble_eq_true rfl, Nat.le_of_ble_eq_true rfl⟩ ⟨Nat.zero_le _, Nat.zero_le _⟩ [] rfl (by decide) [] rfl rfl rfl rfl (Nat.le_of_ble_eq_true rfl) dX5_shares_8 ?_
    refine hg_if_eq C (tgt := 21) dX5_shares_11 (by decide) (fun c2 => ?_) (fun c2 => ?_)
    · refine hg_bipush C (v := (-2)) dX5_shares_21 (by decide) ?_
      have e9 : (fX5_shares a b q) = (-2) := (hid_eq _).trans ((if_neg c1).trans ((if_pos c2).trans rfl))
      rw [e9]
      exact hg_iret C dX5_shares_23 rfl rfl
    · refine hg_iload_n C dX5_shares_14 rfl 3 rfl ?_
      refine hg_callS C (ws' := [(hr, .inr (5, [.ref ta, .ref fa, .ref n0, .ref aa, .ref ka, .ref kb, .ref qa, .ref qb, .int sn, .long sd, .ref t0, .ref u0, .ref be]))]) (rest := []) (kX5_isCoins l E q) hfX5_isCoins gX5_shares_X5_isCoins ⟨Nat.le_of_ble_eq_true rfl, Nat.le_of_ble_eq_true rfl⟩ ⟨Nat.zero_le _, Nat.zero_le _⟩ [] rfl (by decide) [] rfl rfl rfl rfl (Nat.le_of_ble_eq_true rfl) dX5_shares_15 ?_
      refine hg_if_ne C (tgt := 24) dX5_shares_18 (by decide) (fun c3 => ?_) (fun c3 => ?_)
      · refine hg_iconst C (v := 0) dX5_shares_24 (by decide) ?_
        refine hg_istore C (lv' := [(4, .int 0), (0, .ref hr), (1, .int a), (2, .int b), (3, .int q)]) dX5_shares_25 (by decide) rfl ?_
        have e9 : (fX5_shares a b q) = (frX5_shares_27 a b q) (11 + 1) 0 () := (hid_eq _).trans ((if_neg c1).trans ((if_neg c2).trans ((if_neg c3).trans rfl)))
        rw [e9]
        refine hg_sub [2, 3, 4, 0] rfl ?_
        exact lpX5_shares_27 C hr ta fa n0 aa ka kb qa qb t0 u0 be sn sd a b q (11 + 1) 0 () (by omega) (by omega)
      · refine hg_bipush C (v := (-2)) dX5_shares_21 (by decide) ?_
        have e9 : (fX5_shares a b q) = (-2) := (hid_eq _).trans ((if_neg c1).trans ((if_neg c2).trans ((if_pos c3).trans rfl)))
        rw [e9]
        exact hg_iret C dX5_shares_23 rfl rfl
theorem mmX5_isAsSeen_f54 : (Cond.fieldLink RX5 54 "HatRound" "seenCount" "I") ∈ wsX5_isAsSeen := (List.mem_cons_of_mem _ (List.mem_append_left _ (List.mem_append_left _ (List.mem_of_getElem? (i := 0) rfl))))
theorem mrX5_isAsSeen_5 : ∀ w ∈ u_ws RX5 TX5 13, w ∈ wsX5_isAsSeen := fun _ h => (List.mem_cons_of_mem _ (List.mem_append_left _ (List.mem_append_right _ h)))
theorem mmX5_isAsSeen_f47 : (Cond.fieldLink RX5 47 "HatRound" "seenPeople" "[I") ∈ wsX5_isAsSeen := (List.mem_cons_of_mem _ (List.mem_append_left _ (List.mem_append_left _ (List.mem_of_getElem? (i := 1) rfl))))
theorem mmX5_isAsSeen_f19 : (Cond.fieldLink RX5 19 "HatRound" "facts" "LHatRound$Facts;") ∈ wsX5_isAsSeen := (List.mem_cons_of_mem _ (List.mem_append_left _ (List.mem_append_left _ (List.mem_of_getElem? (i := 2) rfl))))
theorem mmX5_isAsSeen_f51 : (Cond.fieldLink RX5 51 "HatRound" "seenGives" "[Z") ∈ wsX5_isAsSeen := (List.mem_cons_of_mem _ (List.mem_append_left _ (List.mem_append_left _ (List.mem_of_getElem? (i := 3) rfl))))
abbrev rmX5_isAsSeen : Room := { frames := 2, cells := 0, slots := 0, locals := 43 }
theorem hfX5_isAsSeen : hCF yX5_isAsSeen wsX5_isAsSeen rmX5_isAsSeen cX5_isAsSeen 4 (some .boolean) 1 := ⟨⟨_, rfl⟩, by decide +kernel, rfl, rfl⟩
noncomputable def frX5_isAsSeen_2 (sn : Int32) (pe : Int32) (qw : Nat → Int32) (qg : Nat → Int32) (a : Int32) : Nat → Nat → Unit → Int32
  | 0, _, σ => 0
  | n + 1, i, σ => hid (if sn ≤ (nI i) then 1 else if (6 : Int32) ≤ (nI i) then 1 else if (fX2_hasPerson pe (qw (nI i).toNatClampNeg)) = 0 then (frX5_isAsSeen_2 sn pe qw qg a) n (i + 1) () else if (fX5_has a (qw (nI i).toNatClampNeg)) = (qg (nI i).toNatClampNeg) then (frX5_isAsSeen_2 sn pe qw qg a) n (i + 1) () else 0)
set_option maxHeartbeats 4000000 in
set_option maxRecDepth 100000 in
theorem lpX5_isAsSeen_2 {p : Program} {l : Launch} {e : Env} {s : State} {m : MethodId} {args : Array Value} {below : List Frame} {meth : Method} {c : Code} {E : hE} {A : Nat → Prop} (C : hX p s m args meth c E A cX5_isAsSeen 4 RX5 wsX5_isAsSeen (some .boolean)) (hr : Nat) (ta : Nat) (fa : Nat) (n0 : Nat) (aa : Nat) (ka : Nat) (kb : Nat) (qa : Nat) (qb : Nat) (t0 : Nat) (u0 : Nat) (be : Nat) (sn : Int32) (sd : Int64) (fb : Nat) (fc : Nat) (pe : Int32) (tu : Int32) (pf : Nat → Int32) (tf : Nat → Int32) (qw : Nat → Int32) (qg : Nat → Int32) (a : Int32) : ∀ (n i : Nat) (σ : Unit), i + n = 6 + 1 → i ≤ 6 → hG p l e rmX5_isAsSeen s m args below meth c E A 4 (hQ E A below args s (some (.int ((frX5_isAsSeen_2 sn pe qw qg a) n i σ))) [(hr, .inr (5, [.ref ta, .ref fa, .ref n0, .ref aa, .ref ka, .ref kb, .ref qa, .ref qb, .int sn, .long sd, .ref t0, .ref u0, .ref be])), (fa, .inr (2, [.int pe, .int tu, .ref fb, .ref fc])), (fb, .inl (E.2.1.1, 36, .inl pf)), (fc, .inl (E.2.1.1, 12, .inl tf)), (qa, .inl (E.2.1.1, 6, .inl qw)), (qb, .inl (E.2.1.2.1, 6, .inl qg))]) 0 0 2 [(0, .ref hr), (1, .int a), (2, .int (nI i))] [] [(hr, .inr (5, [.ref ta, .ref fa, .ref n0, .ref aa, .ref ka, .ref kb, .ref qa, .ref qb, .int sn, .long sd, .ref t0, .ref u0, .ref be])), (fa, .inr (2, [.int pe, .int tu, .ref fb, .ref fc])), (fb, .inl (E.2.1.1, 36, .inl pf)), (fc, .inl (E.2.1.1, 12, .inl tf)), (qa, .inl (E.2.1.1, 6, .inl qw)), (qb, .inl (E.2.1.2.1, 6, .inl qg))] := by
  intro n
  induction n with
  | zero =>
    intro i σ hi hiN
    exact absurd hi (by omega)
  | succ n ih =>
    intro i σ hi hiN
    refine hg_iload_n C dX5_isAsSeen_2 rfl 2 rfl ?_
    refine hg_aload_n C dX5_isAsSeen_3 rfl 0 rfl ?_
    refine hg_get C (Cn := RX5) (T := TX5) (N := 13) (v := .int sn) mrX5_isAsSeen_5 0 rfl rfl 8 (by decide) mmX5_isAsSeen_f54 rfl dX5_isAsSeen_4 ?_
    refine hg_icmp_ge C (tgt := 56) dX5_isAsSeen_7 (by decide) (fun c5 => ?_) (fun c5 => ?_)
    · refine hg_iconst C (v := 1) dX5_isAsSeen_56 (by decide) ?_
      have e9 : (frX5_isAsSeen_2 sn pe qw qg a) (n + 1) i σ = 1 := (hid_eq _).trans ((if_pos c5).trans rfl)
      rw [e9]
      exact hg_zret C dX5_isAsSeen_57 rfl rfl rfl
    · refine hg_iload_n C dX5_isAsSeen_10 rfl 2 rfl ?_
      refine hg_bipush C (v := 6) dX5_isAsSeen_11 (by decide) ?_
      refine hg_icmp_ge C (tgt := 56) dX5_isAsSeen_13 (by decide) (fun c6 => ?_) (fun c6 => ?_)
      · refine hg_iconst C (v := 1) dX5_isAsSeen_56 (by decide) ?_
        have e9 : (frX5_isAsSeen_2 sn pe qw qg a) (n + 1) i σ = 1 := (hid_eq _).trans ((if_neg c5).trans ((if_pos c6).trans rfl))
        rw [e9]
        exact hg_zret C dX5_isAsSeen_57 rfl rfl rfl
      · refine hg_aload_n C dX5_isAsSeen_16 rfl 0 rfl ?_
        refine hg_get C (Cn := RX5) (T := TX5) (N := 13) (v := .ref qa) mrX5_isAsSeen_5 0 rfl rfl 6 (by decide) mmX5_isAsSeen_f47 rfl dX5_isAsSeen_17 ?_
        refine hg_iload_n C dX5_isAsSeen_20 rfl 2 rfl ?_
        refine hg_iald C 4 rfl (vp_in_nI (lt_nI (by omega) (by assumption)) (by decide)) dX5_isAsSeen_21 ?_
        refine hg_istore_n C (lv' := [(3, .int (qw (nI i).toNatClampNeg)), (0, .ref hr), (1, .int a), (2, .int (nI i))]) dX5_isAsSeen_22 rfl (by decide) rfl ?_
        refine hg_aload_n C dX5_isAsSeen_23 rfl 1 rfl ?_
        refine hg_get C (Cn := RX5) (T := TX5) (N := 13) (v := .ref fa) mrX5_isAsSeen_5 0 rfl rfl 1 (by decide) mmX5_isAsSeen_f19 rfl dX5_isAsSeen_24 ?_
        refine hg_iload_n C dX5_isAsSeen_27 rfl 0 rfl ?_
        refine hg_callV C (ws' := [(hr, .inr (5, [.ref ta, .ref fa, .ref n0, .ref aa, .ref ka, .ref kb, .ref qa, .ref qb, .int sn, .long sd, .ref t0, .ref u0, .ref be])), (fa, .inr (2, [.int pe, .int tu, .ref fb, .ref fc])), (fb, .inl (E.2.1.1, 36, .inl pf)), (fc, .inl (E.2.1.1, 12, .inl tf)), (qa, .inl (E.2.1.1, 6, .inl qw)), (qb, .inl (E.2.1.2.1, 6, .inl qg))]) (rest := []) (kX2_hasPerson l E fa fb fc pe tu pf tf (qw (nI i).toNatClampNeg)) hfX2_hasPerson gX5_isAsSeen_X2_hasPerson ⟨Nat.le_of_ble_eq_true rfl, Nat.le_of_ble_eq_true rfl⟩ ⟨Nat.zero_le _, Nat.zero_le _⟩ [1, 2, 3] rfl (by decide) [fa, fb, fc] rfl rfl rfl 1 rfl rfl rfl rfl (Nat.le_of_ble_eq_true rfl) dX5_isAsSeen_28 ?_
        refine hg_if_eq C (tgt := 50) dX5_isAsSeen_31 (by decide) (fun c7 => ?_) (fun c7 => ?_)
        · refine hg_iinc C (v := nI (i + 1)) (lv' := [(2, .int (nI (i + 1))), (3, .int (qw (nI i).toNatClampNeg)), (0, .ref hr), (1, .int a)]) dX5_isAsSeen_50 3 rfl (nI_inc _) (by decide) rfl ?_
          refine hg_goto C (tgt := 2) dX5_isAsSeen_53 (by decide) ?_
          have hlt : i < 6 := (lt_nI (by omega) (by assumption))
          have e9 : (frX5_isAsSeen_2 sn pe qw qg a) (n + 1) i σ = (frX5_isAsSeen_2 sn pe qw qg a) n (i + 1) () := (hid_eq _).trans ((if_neg c5).trans ((if_neg c6).trans ((if_pos c7).trans rfl)))
          rw [e9]
          exact hg_sub [2, 3, 0] rfl (ih (i + 1) () (by omega) (by omega))
        · refine hg_iload_n C dX5_isAsSeen_34 rfl 2 rfl ?_
          refine hg_iload_n C dX5_isAsSeen_35 rfl 0 rfl ?_
          refine hg_callS C (ws' := [(hr, .inr (5, [.ref ta, .ref fa, .ref n0, .ref aa, .ref ka, .ref kb, .ref qa, .ref qb, .int sn, .long sd, .ref t0, .ref u0, .ref be])), (fa, .inr (2, [.int pe, .int tu, .ref fb, .ref fc])), (fb, .inl (E.2.1.1, 36, .inl pf)), (fc, .inl (E.2.1.1, 12, .inl tf)), (qa, .inl (E.2.1.1, 6, .inl qw)), (qb, .inl (E.2.1.2.1, 6, .inl qg))]) (rest := []) (kX5_has l E a (qw (nI i).toNatClampNeg)) hfX5_has gX5_isAsSeen_X5_has ⟨Nat.le_of_ble_eq_true rfl, Nat.le_of_ble_eq_true rfl⟩ ⟨Nat.zero_le _, Nat.zero_le _⟩ [] rfl (by decide) [] rfl rfl rfl rfl (Nat.le_of_ble_eq_true rfl) dX5_isAsSeen_36 ?_
          refine hg_aload_n C dX5_isAsSeen_39 rfl 1 rfl ?_
          refine hg_get C (Cn := RX5) (T := TX5) (N := 13) (v := .ref qb) mrX5_isAsSeen_5 0 rfl rfl 7 (by decide) mmX5_isAsSeen_f51 rfl dX5_isAsSeen_40 ?_
          refine hg_iload_n C dX5_isAsSeen_43 rfl 3 rfl ?_
          refine hg_zald C 5 rfl (vp_in_nI (lt_nI (by omega) (by assumption)) (by decide)) dX5_isAsSeen_44 ?_
          refine hg_icmp_eq C (tgt := 50) dX5_isAsSeen_45 (by decide) (fun c8 => ?_) (fun c8 => ?_)
          · refine hg_iinc C (v := nI (i + 1)) (lv' := [(2, .int (nI (i + 1))), (3, .int (qw (nI i).toNatClampNeg)), (0, .ref hr), (1, .int a)]) dX5_isAsSeen_50 3 rfl (nI_inc _) (by decide) rfl ?_
            refine hg_goto C (tgt := 2) dX5_isAsSeen_53 (by decide) ?_
            have hlt : i < 6 := (lt_nI (by omega) (by assumption))
            have e9 : (frX5_isAsSeen_2 sn pe qw qg a) (n + 1) i σ = (frX5_isAsSeen_2 sn pe qw qg a) n (i + 1) () := (hid_eq _).trans ((if_neg c5).trans ((if_neg c6).trans ((if_neg c7).trans ((if_pos c8).trans rfl))))
            rw [e9]
            exact hg_sub [2, 3, 0] rfl (ih (i + 1) () (by omega) (by omega))
          · refine hg_iconst C (v := 0) dX5_isAsSeen_48 (by decide) ?_
            have e9 : (frX5_isAsSeen_2 sn pe qw qg a) (n + 1) i σ = 0 := (hid_eq _).trans ((if_neg c5).trans ((if_neg c6).trans ((if_neg c7).trans ((if_neg c8).trans rfl))))
            rw [e9]
            exact hg_zret C dX5_isAsSeen_49 rfl rfl rfl
noncomputable def fX5_isAsSeen (sn : Int32) (pe : Int32) (qw : Nat → Int32) (qg : Nat → Int32) (a : Int32) : Int32 := hid ((frX5_isAsSeen_2 sn pe qw qg a) (6 + 1) 0 ())
set_option maxHeartbeats 4000000 in
set_option maxRecDepth 100000 in
theorem kX5_isAsSeen (l : Launch) (E : hE) (hr : Nat) (ta : Nat) (fa : Nat) (n0 : Nat) (aa : Nat) (ka : Nat) (kb : Nat) (qa : Nat) (qb : Nat) (t0 : Nat) (u0 : Nat) (be : Nat) (sn : Int32) (sd : Int64) (fb : Nat) (fc : Nat) (pe : Int32) (tu : Int32) (pf : Nat → Int32) (tf : Nat → Int32) (qw : Nat → Int32) (qg : Nat → Int32) (a : Int32) : hC l yX5_isAsSeen wsX5_isAsSeen rmX5_isAsSeen E [.ref hr, .int a] [(hr, .inr (5, [.ref ta, .ref fa, .ref n0, .ref aa, .ref ka, .ref kb, .ref qa, .ref qb, .int sn, .long sd, .ref t0, .ref u0, .ref be])), (fa, .inr (2, [.int pe, .int tu, .ref fb, .ref fc])), (fb, .inl (E.2.1.1, 36, .inl pf)), (fc, .inl (E.2.1.1, 12, .inl tf)), (qa, .inl (E.2.1.1, 6, .inl qw)), (qb, .inl (E.2.1.2.1, 6, .inl qg))] (some (.int (fX5_isAsSeen sn pe qw qg a))) [(hr, .inr (5, [.ref ta, .ref fa, .ref n0, .ref aa, .ref ka, .ref kb, .ref qa, .ref qb, .int sn, .long sd, .ref t0, .ref u0, .ref be])), (fa, .inr (2, [.int pe, .int tu, .ref fb, .ref fc])), (fb, .inl (E.2.1.1, 36, .inl pf)), (fc, .inl (E.2.1.1, 12, .inl tf)), (qa, .inl (E.2.1.1, 6, .inl qw)), (qb, .inl (E.2.1.2.1, 6, .inl qg))] := by
  refine hC_intro (cc := cX5_isAsSeen) (maxL := 4) (ret := (some .boolean)) (lv0 := [(0, .ref hr), (1, .int a)]) (by decide) rfl (Nat.le_of_ble_eq_true rfl) rfl ?_
  intro p e s m below meth c A C
  refine hg_iconst C (v := 0) dX5_isAsSeen_0 (by decide) ?_
  refine hg_istore_n C (lv' := [(2, .int 0), (0, .ref hr), (1, .int a)]) dX5_isAsSeen_1 rfl (by decide) rfl ?_
  have e9 : (fX5_isAsSeen sn pe qw qg a) = (frX5_isAsSeen_2 sn pe qw qg a) (6 + 1) 0 () := hid_eq _
  rw [e9]
  refine hg_sub [1, 2, 0] rfl ?_
  exact lpX5_isAsSeen_2 C hr ta fa n0 aa ka kb qa qb t0 u0 be sn sd fb fc pe tu pf tf qw qg a (6 + 1) 0 () (by omega) (by omega)
theorem mmX5_gave_f28 : (Cond.fieldLink RX5 28 "HatRound" "now" "LHatRound$Scene;") ∈ wsX5_gave := (List.mem_cons_of_mem _ (List.mem_append_left _ (List.mem_append_left _ (List.mem_append_left _ (List.mem_append_left _ (List.mem_of_getElem? (i := 0) rfl))))))
theorem mrX5_gave_5 : ∀ w ∈ u_ws RX5 TX5 13, w ∈ wsX5_gave := fun _ h => (List.mem_cons_of_mem _ (List.mem_append_left _ (List.mem_append_left _ (List.mem_append_right _ h))))
theorem mrX5_gave_3 : ∀ w ∈ u_ws RX3 TX3 9, w ∈ wsX5_gave := fun _ h => (List.mem_cons_of_mem _ (List.mem_append_left _ (List.mem_append_right _ h)))
abbrev rmX5_gave : Room := { frames := 3, cells := 0, slots := 0, locals := 66 }
theorem hfX5_gave : hCF yX5_gave wsX5_gave rmX5_gave cX5_gave 6 (some .int) 2 := ⟨⟨_, rfl⟩, by decide +kernel, rfl, rfl⟩
noncomputable def stX5_gave_33 (sn : Int32) (pe : Int32) (S : Sc) (qw : Nat → Int32) (qg : Nat → Int32) (a : Int32) (i : Nat) (σ : Int32 × Int32) : Int32 × Int32 := hid (if (gX3_areStanding_s (nI i) S) = 0 then (σ.1, σ.2) else if (fX5_isAsSeen sn pe qw qg (nI i)) = 0 then (σ.1, σ.2) else if (gX3_giftsOf_s (nI i) S) = a then (σ.1 + 1, σ.2 &&& (nI i)) else (σ.1, σ.2))
set_option maxHeartbeats 4000000 in
set_option maxRecDepth 100000 in
theorem lpX5_gave_33 {p : Program} {l : Launch} {e : Env} {s : State} {m : MethodId} {args : Array Value} {below : List Frame} {meth : Method} {c : Code} {E : hE} {A : Nat → Prop} {Q : State → Prop} (C : hX p s m args meth c E A cX5_gave 6 RX5 wsX5_gave (some .int)) (hr : Nat) (ta : Nat) (fa : Nat) (n0 : Nat) (aa : Nat) (ka : Nat) (kb : Nat) (qa : Nat) (qb : Nat) (t0 : Nat) (u0 : Nat) (be : Nat) (sn : Int32) (sd : Int64) (fb : Nat) (fc : Nat) (pe : Int32) (tu : Int32) (pf : Nat → Int32) (tf : Nat → Int32) (n1 : Nat) (n2 : Nat) (n3 : Nat) (S : Sc) (qw : Nat → Int32) (qg : Nat → Int32) (a : Int32) (b : Int32) (σ0 : Int32 × Int32) (k : hG p l e rmX5_gave s m args below meth c E A 6 Q 0 0 90 [(2, .int b), (3, .int ((itN (stX5_gave_33 sn pe S qw qg a) 64 σ0).1)), (4, .int ((itN (stX5_gave_33 sn pe S qw qg a) 64 σ0).2))] [] [(hr, .inr (5, [.ref ta, .ref fa, .ref n0, .ref aa, .ref ka, .ref kb, .ref qa, .ref qb, .int sn, .long sd, .ref t0, .ref u0, .ref be])), (fa, .inr (2, [.int pe, .int tu, .ref fb, .ref fc])), (fb, .inl (E.2.1.1, 36, .inl pf)), (fc, .inl (E.2.1.1, 12, .inl tf)), (n0, .inr (3, [.ref fa, .int S.1, .int S.2.1, .int S.2.2.1, .int S.2.2.2.1, .int S.2.2.2.2.1, .ref n1, .ref n2, .ref n3])), (n1, .inl (E.2.1.1, 6, .inl S.2.2.2.2.2.1)), (n2, .inl (E.2.1.1, 6, .inl S.2.2.2.2.2.2.1)), (n3, .inl (E.2.1.1, 4, .inl S.2.2.2.2.2.2.2)), (qa, .inl (E.2.1.1, 6, .inl qw)), (qb, .inl (E.2.1.2.1, 6, .inl qg))]) : ∀ (n i : Nat) (σ : Int32 × Int32), i + n = 64 → σ = itN (stX5_gave_33 sn pe S qw qg a) i σ0 → hG p l e rmX5_gave s m args below meth c E A 6 Q 0 0 33 [(0, .ref hr), (1, .int a), (2, .int b), (3, .int σ.1), (4, .int σ.2), (5, .int (nI i))] [] [(hr, .inr (5, [.ref ta, .ref fa, .ref n0, .ref aa, .ref ka, .ref kb, .ref qa, .ref qb, .int sn, .long sd, .ref t0, .ref u0, .ref be])), (fa, .inr (2, [.int pe, .int tu, .ref fb, .ref fc])), (fb, .inl (E.2.1.1, 36, .inl pf)), (fc, .inl (E.2.1.1, 12, .inl tf)), (n0, .inr (3, [.ref fa, .int S.1, .int S.2.1, .int S.2.2.1, .int S.2.2.2.1, .int S.2.2.2.2.1, .ref n1, .ref n2, .ref n3])), (n1, .inl (E.2.1.1, 6, .inl S.2.2.2.2.2.1)), (n2, .inl (E.2.1.1, 6, .inl S.2.2.2.2.2.2.1)), (n3, .inl (E.2.1.1, 4, .inl S.2.2.2.2.2.2.2)), (qa, .inl (E.2.1.1, 6, .inl qw)), (qb, .inl (E.2.1.2.1, 6, .inl qg))] := by
  intro n
  induction n with
  | zero =>
    intro i σ hi hσ
    have hi : i = 64 := by omega
    rw [hi] at hσ
    rw [hi]
    subst hσ
    refine hg_iload C dX5_gave_33 5 rfl ?_
    refine hg_bipush C (v := 64) dX5_gave_35 (by decide) ?_
    refine hg_icmp_ge C (tgt := 90) dX5_gave_37 (by decide) (fun _ => ?_) (fun h => absurd (by decide) h)
    exact hg_sub [2, 3, 4] rfl k
  | succ n ih =>
    intro i σ hi hσ
    have hlt : i < 64 := by omega
    refine hg_iload C dX5_gave_33 5 rfl ?_
    refine hg_bipush C (v := 64) dX5_gave_35 (by decide) ?_
    refine hg_icmp_ge C (tgt := 90) dX5_gave_37 (by decide) (fun h => absurd h (nI_ge hlt (by decide))) (fun _ => ?_)
    refine hg_aload_n C dX5_gave_40 rfl 0 rfl ?_
    refine hg_get C (Cn := RX5) (T := TX5) (N := 13) (v := .ref n0) mrX5_gave_5 0 rfl rfl 2 (by decide) mmX5_gave_f28 rfl dX5_gave_41 ?_
    refine hg_iload C dX5_gave_44 5 rfl ?_
    refine hg_callV C (ws' := [(hr, .inr (5, [.ref ta, .ref fa, .ref n0, .ref aa, .ref ka, .ref kb, .ref qa, .ref qb, .int sn, .long sd, .ref t0, .ref u0, .ref be])), (fa, .inr (2, [.int pe, .int tu, .ref fb, .ref fc])), (fb, .inl (E.2.1.1, 36, .inl pf)), (fc, .inl (E.2.1.1, 12, .inl tf)), (n0, .inr (3, [.ref fa, .int S.1, .int S.2.1, .int S.2.2.1, .int S.2.2.2.1, .int S.2.2.2.2.1, .ref n1, .ref n2, .ref n3])), (n1, .inl (E.2.1.1, 6, .inl S.2.2.2.2.2.1)), (n2, .inl (E.2.1.1, 6, .inl S.2.2.2.2.2.2.1)), (n3, .inl (E.2.1.1, 4, .inl S.2.2.2.2.2.2.2)), (qa, .inl (E.2.1.1, 6, .inl qw)), (qb, .inl (E.2.1.2.1, 6, .inl qg))]) (rest := []) (ksX3_areStanding l E fa n0 n1 n2 n3 (nI i) S) hfX3_areStanding gX5_gave_X3_areStanding ⟨Nat.le_of_ble_eq_true rfl, Nat.le_of_ble_eq_true rfl⟩ ⟨Nat.zero_le _, Nat.zero_le _⟩ [4, 5, 6, 7] rfl (by decide) [n0, n1, n2, n3] rfl rfl rfl 4 rfl rfl rfl rfl (Nat.le_of_ble_eq_true rfl) dX5_gave_46 ?_
    refine hg_if_eq C (tgt := 84) dX5_gave_49 (by decide) (fun c6 => ?_) (fun c6 => ?_)
    · refine hg_iinc C (v := nI (i + 1)) (lv' := [(5, .int (nI (i + 1))), (0, .ref hr), (1, .int a), (2, .int b), (3, .int σ.1), (4, .int σ.2)]) dX5_gave_84 5 rfl (nI_inc _) (by decide) rfl ?_
      refine hg_goto C (tgt := 33) dX5_gave_87 (by decide) ?_
      have e9 : (stX5_gave_33 sn pe S qw qg a) i σ = (σ.1, σ.2) := (hid_eq _).trans ((if_pos c6).trans rfl)
      have h9 := ih (i + 1) (σ.1, σ.2) (by omega) (e9.symm.trans (congrArg ((stX5_gave_33 sn pe S qw qg a) i) hσ))
      exact hg_sub [1, 2, 3, 4, 5, 0] rfl h9
    · refine hg_aload_n C dX5_gave_52 rfl 0 rfl ?_
      refine hg_iload C dX5_gave_53 5 rfl ?_
      refine hg_callV C (ws' := [(hr, .inr (5, [.ref ta, .ref fa, .ref n0, .ref aa, .ref ka, .ref kb, .ref qa, .ref qb, .int sn, .long sd, .ref t0, .ref u0, .ref be])), (fa, .inr (2, [.int pe, .int tu, .ref fb, .ref fc])), (fb, .inl (E.2.1.1, 36, .inl pf)), (fc, .inl (E.2.1.1, 12, .inl tf)), (n0, .inr (3, [.ref fa, .int S.1, .int S.2.1, .int S.2.2.1, .int S.2.2.2.1, .int S.2.2.2.2.1, .ref n1, .ref n2, .ref n3])), (n1, .inl (E.2.1.1, 6, .inl S.2.2.2.2.2.1)), (n2, .inl (E.2.1.1, 6, .inl S.2.2.2.2.2.2.1)), (n3, .inl (E.2.1.1, 4, .inl S.2.2.2.2.2.2.2)), (qa, .inl (E.2.1.1, 6, .inl qw)), (qb, .inl (E.2.1.2.1, 6, .inl qg))]) (rest := []) (kX5_isAsSeen l E hr ta fa n0 aa ka kb qa qb t0 u0 be sn sd fb fc pe tu pf tf qw qg (nI i)) hfX5_isAsSeen gX5_gave_X5_isAsSeen ⟨Nat.le_of_ble_eq_true rfl, Nat.le_of_ble_eq_true rfl⟩ ⟨Nat.zero_le _, Nat.zero_le _⟩ [0, 1, 2, 3, 8, 9] rfl (by decide) [hr, fa, fb, fc, qa, qb] rfl rfl rfl 0 rfl rfl rfl rfl (Nat.le_of_ble_eq_true rfl) dX5_gave_55 ?_
      refine hg_if_eq C (tgt := 84) dX5_gave_58 (by decide) (fun c7 => ?_) (fun c7 => ?_)
      · refine hg_iinc C (v := nI (i + 1)) (lv' := [(5, .int (nI (i + 1))), (0, .ref hr), (1, .int a), (2, .int b), (3, .int σ.1), (4, .int σ.2)]) dX5_gave_84 5 rfl (nI_inc _) (by decide) rfl ?_
        refine hg_goto C (tgt := 33) dX5_gave_87 (by decide) ?_
        have e9 : (stX5_gave_33 sn pe S qw qg a) i σ = (σ.1, σ.2) := (hid_eq _).trans ((if_neg c6).trans ((if_pos c7).trans rfl))
        have h9 := ih (i + 1) (σ.1, σ.2) (by omega) (e9.symm.trans (congrArg ((stX5_gave_33 sn pe S qw qg a) i) hσ))
        exact hg_sub [1, 2, 3, 4, 5, 0] rfl h9
      · refine hg_aload_n C dX5_gave_61 rfl 0 rfl ?_
        refine hg_get C (Cn := RX5) (T := TX5) (N := 13) (v := .ref n0) mrX5_gave_5 0 rfl rfl 2 (by decide) mmX5_gave_f28 rfl dX5_gave_62 ?_
        refine hg_iload C dX5_gave_65 5 rfl ?_
        refine hg_callV C (ws' := [(hr, .inr (5, [.ref ta, .ref fa, .ref n0, .ref aa, .ref ka, .ref kb, .ref qa, .ref qb, .int sn, .long sd, .ref t0, .ref u0, .ref be])), (fa, .inr (2, [.int pe, .int tu, .ref fb, .ref fc])), (fb, .inl (E.2.1.1, 36, .inl pf)), (fc, .inl (E.2.1.1, 12, .inl tf)), (n0, .inr (3, [.ref fa, .int S.1, .int S.2.1, .int S.2.2.1, .int S.2.2.2.1, .int S.2.2.2.2.1, .ref n1, .ref n2, .ref n3])), (n1, .inl (E.2.1.1, 6, .inl S.2.2.2.2.2.1)), (n2, .inl (E.2.1.1, 6, .inl S.2.2.2.2.2.2.1)), (n3, .inl (E.2.1.1, 4, .inl S.2.2.2.2.2.2.2)), (qa, .inl (E.2.1.1, 6, .inl qw)), (qb, .inl (E.2.1.2.1, 6, .inl qg))]) (rest := []) (ksX3_giftsOf l E fa n0 n1 n2 n3 (nI i) S) hfX3_giftsOf gX5_gave_X3_giftsOf ⟨Nat.le_of_ble_eq_true rfl, Nat.le_of_ble_eq_true rfl⟩ ⟨Nat.zero_le _, Nat.zero_le _⟩ [4, 5, 6, 7] rfl (by decide) [n0, n1, n2, n3] rfl rfl rfl 4 rfl rfl rfl rfl (Nat.le_of_ble_eq_true rfl) dX5_gave_67 ?_
        refine hg_iload_n C dX5_gave_70 rfl 1 rfl ?_
        refine hg_icmp_ne C (tgt := 84) dX5_gave_71 (by decide) (fun c8 => ?_) (fun c8 => ?_)
        · refine hg_iinc C (v := nI (i + 1)) (lv' := [(5, .int (nI (i + 1))), (0, .ref hr), (1, .int a), (2, .int b), (3, .int σ.1), (4, .int σ.2)]) dX5_gave_84 5 rfl (nI_inc _) (by decide) rfl ?_
          refine hg_goto C (tgt := 33) dX5_gave_87 (by decide) ?_
          have e9 : (stX5_gave_33 sn pe S qw qg a) i σ = (σ.1, σ.2) := (hid_eq _).trans ((if_neg c6).trans ((if_neg c7).trans ((if_neg c8).trans rfl)))
          have h9 := ih (i + 1) (σ.1, σ.2) (by omega) (e9.symm.trans (congrArg ((stX5_gave_33 sn pe S qw qg a) i) hσ))
          exact hg_sub [1, 2, 3, 4, 5, 0] rfl h9
        · refine hg_iinc C (v := σ.1 + 1) (lv' := [(3, .int (σ.1 + 1)), (0, .ref hr), (1, .int a), (2, .int b), (4, .int σ.2), (5, .int (nI i))]) dX5_gave_74 3 rfl rfl (by decide) rfl ?_
          refine hg_iload C dX5_gave_77 4 rfl ?_
          refine hg_iload C dX5_gave_79 5 rfl ?_
          refine hg_iand C dX5_gave_81 ?_
          refine hg_istore C (lv' := [(4, .int (σ.2 &&& (nI i))), (3, .int (σ.1 + 1)), (0, .ref hr), (1, .int a), (2, .int b), (5, .int (nI i))]) dX5_gave_82 (by decide) rfl ?_
          refine hg_iinc C (v := nI (i + 1)) (lv' := [(5, .int (nI (i + 1))), (4, .int (σ.2 &&& (nI i))), (3, .int (σ.1 + 1)), (0, .ref hr), (1, .int a), (2, .int b)]) dX5_gave_84 5 rfl (nI_inc _) (by decide) rfl ?_
          refine hg_goto C (tgt := 33) dX5_gave_87 (by decide) ?_
          have e9 : (stX5_gave_33 sn pe S qw qg a) i σ = (σ.1 + 1, σ.2 &&& (nI i)) := (hid_eq _).trans ((if_neg c6).trans ((if_neg c7).trans ((if_pos c8).trans rfl)))
          have h9 := ih (i + 1) (σ.1 + 1, σ.2 &&& (nI i)) (by omega) (e9.symm.trans (congrArg ((stX5_gave_33 sn pe S qw qg a) i) hσ))
          exact hg_sub [3, 4, 5, 2, 1, 0] rfl h9
noncomputable def fX5_gave (sn : Int32) (pe : Int32) (S : Sc) (qw : Nat → Int32) (qg : Nat → Int32) (a : Int32) (b : Int32) : Int32 := hid (if (fX5_isCoins a) = 0 then (-2) else if (fX5_isWithin b 0 1) = 0 then (-2) else if b = 0 then (itN (stX5_gave_33 sn pe S qw qg a) 64 (0, S.2.2.2.1)).1 else if ((itN (stX5_gave_33 sn pe S qw qg a) 64 (0, S.2.2.2.1)).1) = 0 then ((-9) : Int32) else ((itN (stX5_gave_33 sn pe S qw qg a) 64 (0, S.2.2.2.1)).2))
set_option maxHeartbeats 4000000 in
set_option maxRecDepth 100000 in
theorem kX5_gave (l : Launch) (E : hE) (hr : Nat) (ta : Nat) (fa : Nat) (n0 : Nat) (aa : Nat) (ka : Nat) (kb : Nat) (qa : Nat) (qb : Nat) (t0 : Nat) (u0 : Nat) (be : Nat) (sn : Int32) (sd : Int64) (fb : Nat) (fc : Nat) (pe : Int32) (tu : Int32) (pf : Nat → Int32) (tf : Nat → Int32) (n1 : Nat) (n2 : Nat) (n3 : Nat) (S : Sc) (qw : Nat → Int32) (qg : Nat → Int32) (a : Int32) (b : Int32) : hC l yX5_gave wsX5_gave rmX5_gave E [.ref hr, .int a, .int b] [(hr, .inr (5, [.ref ta, .ref fa, .ref n0, .ref aa, .ref ka, .ref kb, .ref qa, .ref qb, .int sn, .long sd, .ref t0, .ref u0, .ref be])), (fa, .inr (2, [.int pe, .int tu, .ref fb, .ref fc])), (fb, .inl (E.2.1.1, 36, .inl pf)), (fc, .inl (E.2.1.1, 12, .inl tf)), (n0, .inr (3, [.ref fa, .int S.1, .int S.2.1, .int S.2.2.1, .int S.2.2.2.1, .int S.2.2.2.2.1, .ref n1, .ref n2, .ref n3])), (n1, .inl (E.2.1.1, 6, .inl S.2.2.2.2.2.1)), (n2, .inl (E.2.1.1, 6, .inl S.2.2.2.2.2.2.1)), (n3, .inl (E.2.1.1, 4, .inl S.2.2.2.2.2.2.2)), (qa, .inl (E.2.1.1, 6, .inl qw)), (qb, .inl (E.2.1.2.1, 6, .inl qg))] (some (.int (fX5_gave sn pe S qw qg a b))) [(hr, .inr (5, [.ref ta, .ref fa, .ref n0, .ref aa, .ref ka, .ref kb, .ref qa, .ref qb, .int sn, .long sd, .ref t0, .ref u0, .ref be])), (fa, .inr (2, [.int pe, .int tu, .ref fb, .ref fc])), (fb, .inl (E.2.1.1, 36, .inl pf)), (fc, .inl (E.2.1.1, 12, .inl tf)), (n0, .inr (3, [.ref fa, .int S.1, .int S.2.1, .int S.2.2.1, .int S.2.2.2.1, .int S.2.2.2.2.1, .ref n1, .ref n2, .ref n3])), (n1, .inl (E.2.1.1, 6, .inl S.2.2.2.2.2.1)), (n2, .inl (E.2.1.1, 6, .inl S.2.2.2.2.2.2.1)), (n3, .inl (E.2.1.1, 4, .inl S.2.2.2.2.2.2.2)), (qa, .inl (E.2.1.1, 6, .inl qw)), (qb, .inl (E.2.1.2.1, 6, .inl qg))] := by
  refine hC_intro (cc := cX5_gave) (maxL := 6) (ret := (some .int)) (lv0 := [(0, .ref hr), (1, .int a), (2, .int b)]) (by decide) rfl (Nat.le_of_ble_eq_true rfl) rfl ?_
  intro p e s m below meth c A C
  refine hg_iload_n C dX5_gave_0 rfl 1 rfl ?_
  refine hg_callS C (ws' := [(hr, .inr (5, [.ref ta, .ref fa, .ref n0, .ref aa, .ref ka, .ref kb, .ref qa, .ref qb, .int sn, .long sd, .ref t0, .ref u0, .ref be])), (fa, .inr (2, [.int pe, .int tu, .ref fb, .ref fc])), (fb, .inl (E.2.1.1, 36, .inl pf)), (fc, .inl (E.2.1.1, 12, .inl tf)), (n0, .inr (3, [.ref fa, .int S.1, .int S.2.1, .int S.2.2.1, .int S.2.2.2.1, .int S.2.2.2.2.1, .ref n1, .ref n2, .ref n3])), (n1, .inl (E.2.1.1, 6, .inl S.2.2.2.2.2.1)), (n2, .inl (E.2.1.1, 6, .inl S.2.2.2.2.2.2.1)), (n3, .inl (E.2.1.1, 4, .inl S.2.2.2.2.2.2.2)), (qa, .inl (E.2.1.1, 6, .inl qw)), (qb, .inl (E.2.1.2.1, 6, .inl qg))]) (rest := []) (kX5_isCoins l E a) hfX5_isCoins gX5_gave_X5_isCoins ⟨Nat.le_of_ble_eq_true rfl, Nat.le_of_ble_eq_true rfl⟩ ⟨Nat.zero_le _, Nat.zero_le _⟩ [] rfl (by decide) [] rfl rfl rfl rfl (Nat.le_of_ble_eq_true rfl) dX5_gave_1 ?_
  refine hg_if_eq C (tgt := 16) dX5_gave_4 (by decide) (fun c1 => ?_) (fun c1 => ?_)
  · refine hg_bipush C (v := (-2)) dX5_gave_16 (by decide) ?_
    have e9 : (fX5_gave sn pe S qw qg a b) = (-2) := (hid_eq _).trans ((if_pos c1).trans rfl)
    rw [e9]
    exact hg_iret C dX5_gave_18 rfl rfl
  · refine hg_iload_n C dX5_gave_7 rfl 2 rfl ?_
    refine hg_iconst C (v := 0) dX5_gave_8 (by decide) ?_
    refine hg_iconst C (v := 1) dX5_gave_9 (by decide) ?_
    refine hg_callS C (ws' := [(hr, .inr (5, [.ref ta, .ref fa, .ref n0, .ref aa, .ref ka, .ref kb, .ref qa, .ref qb, .int sn, .long sd, .ref t0, .ref u0, .ref be])), (fa, .inr (2, [.int pe, .int tu, .ref fb, .ref fc])), (fb, .inl (E.2.1.1, 36, .inl pf)), (fc, .inl (E.2.1.1, 12, .inl tf)), (n0, .inr (3, [.ref fa, .int S.1, .int S.2.1, .int S.2.2.1, .int S.2.2.2.1, .int S.2.2.2.2.1, .ref n1, .ref n2, .ref n3])), (n1, .inl (E.2.1.1, 6, .inl S.2.2.2.2.2.1)), (n2, .inl (E.2.1.1, 6, .inl S.2.2.2.2.2.2.1)), (n3, .inl (E.2.1.1, 4, .inl S.2.2.2.2.2.2.2)), (qa, .inl (E.2.1.1, 6, .inl qw)), (qb, .inl (E.2.1.2.1, 6, .inl qg))]) (rest := []) (kX5_isWithin l E b 0 1) hfX5_isWithin gX5_gave_X5_isWithin ⟨Nat.le_of_ble_eq_true rfl, Nat.le_of_ble_eq_true rfl⟩ ⟨Nat.zero_le _, Nat.zero_le _⟩ [] rfl (by decide) [] rfl rfl rfl rfl (Nat.le_of_ble_eq_true rfl) dX5_gave_10 ?_
    refine hg_if_ne C (tgt := 19) dX5_gave_13 (by decide) (fun c2 => ?_) (fun c2 => ?_)
    · refine hg_iconst C (v := 0) dX5_gave_19 (by decide) ?_
      refine hg_istore_n C (lv' := [(3, .int 0), (0, .ref hr), (1, .int a), (2, .int b)]) dX5_gave_20 rfl (by decide) rfl ?_
      refine hg_aload_n C dX5_gave_21 rfl 1 rfl ?_
      refine hg_get C (Cn := RX5) (T := TX5) (N := 13) (v := .ref n0) mrX5_gave_5 0 rfl rfl 2 (by decide) mmX5_gave_f28 rfl dX5_gave_22 ?_
      refine hg_getN C (Cn := RX3) (T := TX3) (N := 9) (v := .int S.2.2.2.1) mrX5_gave_3 4 rfl rfl 4 (by decide) nfX5_118 rfl dX5_gave_25 ?_
      refine hg_istore C (lv' := [(4, .int S.2.2.2.1), (3, .int 0), (0, .ref hr), (1, .int a), (2, .int b)]) dX5_gave_28 (by decide) rfl ?_
      refine hg_iconst C (v := 0) dX5_gave_30 (by decide) ?_
      refine hg_istore C (lv' := [(5, .int 0), (4, .int S.2.2.2.1), (3, .int 0), (0, .ref hr), (1, .int a), (2, .int b)]) dX5_gave_31 (by decide) rfl ?_
      refine hg_sub [3, 4, 5, 2, 1, 0] rfl ?_
      refine lpX5_gave_33 C hr ta fa n0 aa ka kb qa qb t0 u0 be sn sd fb fc pe tu pf tf n1 n2 n3 S qw qg a b (0, S.2.2.2.1) ?_ 64 0 (0, S.2.2.2.1) (by omega) rfl
      refine hg_iload_n C dX5_gave_90 rfl 0 rfl ?_
      refine hg_if_ne C (tgt := 96) dX5_gave_91 (by decide) (fun c9 => ?_) (fun c9 => ?_)
      · refine hg_iload_n C dX5_gave_96 rfl 1 rfl ?_
        refine hg_join (J := 107) (v := if ((itN (stX5_gave_33 sn pe S qw qg a) 64 (0, S.2.2.2.1)).1) = 0 then ((-9) : Int32) else ((itN (stX5_gave_33 sn pe S qw qg a) 64 (0, S.2.2.2.1)).2)) (st1 := []) (fun jj => ?_) ?_
        · refine hg_if_ne C (tgt := 105) dX5_gave_97 (by decide) (fun c10 => ?_) (fun c10 => ?_)
          · refine hg_iload C dX5_gave_105 2 rfl ?_
            exact hg_top (v := if ((itN (stX5_gave_33 sn pe S qw qg a) 64 (0, S.2.2.2.1)).1) = 0 then ((-9) : Int32) else ((itN (stX5_gave_33 sn pe S qw qg a) 64 (0, S.2.2.2.1)).2)) (v' := (itN (stX5_gave_33 sn pe S qw qg a) 64 (0, S.2.2.2.1)).2) ((if_neg c10).trans rfl) jj
          · refine hg_bipush C (v := (-9)) dX5_gave_100 (by decide) ?_
            refine hg_goto C (tgt := 107) dX5_gave_102 (by decide) ?_
            exact hg_top (v := if ((itN (stX5_gave_33 sn pe S qw qg a) 64 (0, S.2.2.2.1)).1) = 0 then ((-9) : Int32) else ((itN (stX5_gave_33 sn pe S qw qg a) 64 (0, S.2.2.2.1)).2)) (v' := (-9)) ((if_pos c10).trans rfl) jj
        have e9 : (fX5_gave sn pe S qw qg a b) = if ((itN (stX5_gave_33 sn pe S qw qg a) 64 (0, S.2.2.2.1)).1) = 0 then ((-9) : Int32) else ((itN (stX5_gave_33 sn pe S qw qg a) 64 (0, S.2.2.2.1)).2) := (hid_eq _).trans ((if_neg c1).trans ((if_neg c2).trans ((if_neg c9).trans rfl)))
        rw [e9]
        exact hg_iret C dX5_gave_107 rfl rfl
      · refine hg_iload_n C dX5_gave_94 rfl 1 rfl ?_
        have e9 : (fX5_gave sn pe S qw qg a b) = (itN (stX5_gave_33 sn pe S qw qg a) 64 (0, S.2.2.2.1)).1 := (hid_eq _).trans ((if_neg c1).trans ((if_neg c2).trans ((if_pos c9).trans rfl)))
        rw [e9]
        exact hg_iret C dX5_gave_95 rfl rfl
    · refine hg_bipush C (v := (-2)) dX5_gave_16 (by decide) ?_
      have e9 : (fX5_gave sn pe S qw qg a b) = (-2) := (hid_eq _).trans ((if_neg c1).trans ((if_pos c2).trans rfl))
      rw [e9]
      exact hg_iret C dX5_gave_18 rfl rfl
theorem mmX5_see_f19 : (Cond.fieldLink RX5 19 "HatRound" "facts" "LHatRound$Facts;") ∈ wsX5_see := (List.mem_cons_of_mem _ (List.mem_append_left _ (List.mem_append_left _ (List.mem_of_getElem? (i := 0) rfl))))
theorem mrX5_see_5 : ∀ w ∈ u_ws RX5 TX5 13, w ∈ wsX5_see := fun _ h => (List.mem_cons_of_mem _ (List.mem_append_left _ (List.mem_append_right _ h)))
theorem mmX5_see_f54 : (Cond.fieldLink RX5 54 "HatRound" "seenCount" "I") ∈ wsX5_see := (List.mem_cons_of_mem _ (List.mem_append_left _ (List.mem_append_left _ (List.mem_of_getElem? (i := 1) rfl))))
theorem mmX5_see_f47 : (Cond.fieldLink RX5 47 "HatRound" "seenPeople" "[I") ∈ wsX5_see := (List.mem_cons_of_mem _ (List.mem_append_left _ (List.mem_append_left _ (List.mem_of_getElem? (i := 2) rfl))))
theorem mmX5_see_f51 : (Cond.fieldLink RX5 51 "HatRound" "seenGives" "[Z") ∈ wsX5_see := (List.mem_cons_of_mem _ (List.mem_append_left _ (List.mem_append_left _ (List.mem_of_getElem? (i := 3) rfl))))
abbrev rmX5_see : Room := { frames := 2, cells := 0, slots := 0, locals := 43 }
theorem hfX5_see : hCF yX5_see wsX5_see rmX5_see cX5_see 3 (some .int) 2 := ⟨⟨_, rfl⟩, by decide +kernel, rfl, rfl⟩
noncomputable def fX5_see (sn : Int32) (pe : Int32) (qw : Nat → Int32) (qg : Nat → Int32) (a : Int32) (b : Int32) : Int32 × Int32 × (Nat → Int32) × (Nat → Int32) := hid (if (fX2_hasPerson pe a) = 0 then ((-1), sn, qw, qg) else if sn < 6 then (sn + 1, sn + 1, upd qw sn.toNatClampNeg a, upd qg sn.toNatClampNeg (vp_nar .boolean b)) else ((-4), sn, qw, qg))
set_option maxHeartbeats 4000000 in
set_option maxRecDepth 100000 in
theorem kX5_see (l : Launch) (E : hE) (hr : Nat) (ta : Nat) (fa : Nat) (n0 : Nat) (aa : Nat) (ka : Nat) (kb : Nat) (qa : Nat) (qb : Nat) (t0 : Nat) (u0 : Nat) (be : Nat) (sn : Int32) (sd : Int64) (fb : Nat) (fc : Nat) (pe : Int32) (tu : Int32) (pf : Nat → Int32) (tf : Nat → Int32) (qw : Nat → Int32) (qg : Nat → Int32) (a : Int32) (b : Int32) (hs0 : ¬ sn < 0) : hC l yX5_see wsX5_see rmX5_see E [.ref hr, .int a, .int b] [(hr, .inr (5, [.ref ta, .ref fa, .ref n0, .ref aa, .ref ka, .ref kb, .ref qa, .ref qb, .int sn, .long sd, .ref t0, .ref u0, .ref be])), (fa, .inr (2, [.int pe, .int tu, .ref fb, .ref fc])), (fb, .inl (E.2.1.1, 36, .inl pf)), (fc, .inl (E.2.1.1, 12, .inl tf)), (qa, .inl (E.2.1.1, 6, .inl qw)), (qb, .inl (E.2.1.2.1, 6, .inl qg))] (some (.int ((fX5_see sn pe qw qg a b).1))) [(hr, .inr (5, [.ref ta, .ref fa, .ref n0, .ref aa, .ref ka, .ref kb, .ref qa, .ref qb, .int ((fX5_see sn pe qw qg a b).2.1), .long sd, .ref t0, .ref u0, .ref be])), (fa, .inr (2, [.int pe, .int tu, .ref fb, .ref fc])), (fb, .inl (E.2.1.1, 36, .inl pf)), (fc, .inl (E.2.1.1, 12, .inl tf)), (qa, .inl (E.2.1.1, 6, .inl ((fX5_see sn pe qw qg a b).2.2.1))), (qb, .inl (E.2.1.2.1, 6, .inl ((fX5_see sn pe qw qg a b).2.2.2)))] := by
  refine hC_intro (cc := cX5_see) (maxL := 3) (ret := (some .int)) (lv0 := [(0, .ref hr), (1, .int a), (2, .int b)]) (by decide) rfl (Nat.le_of_ble_eq_true rfl) rfl ?_
  intro p e s m below meth c A C
  refine hg_aload_n C dX5_see_0 rfl 0 rfl ?_
  refine hg_get C (Cn := RX5) (T := TX5) (N := 13) (v := .ref fa) mrX5_see_5 0 rfl rfl 1 (by decide) mmX5_see_f19 rfl dX5_see_1 ?_
  refine hg_iload_n C dX5_see_4 rfl 1 rfl ?_
  refine hg_callV C (ws' := [(hr, .inr (5, [.ref ta, .ref fa, .ref n0, .ref aa, .ref ka, .ref kb, .ref qa, .ref qb, .int sn, .long sd, .ref t0, .ref u0, .ref be])), (fa, .inr (2, [.int pe, .int tu, .ref fb, .ref fc])), (fb, .inl (E.2.1.1, 36, .inl pf)), (fc, .inl (E.2.1.1, 12, .inl tf)), (qa, .inl (E.2.1.1, 6, .inl qw)), (qb, .inl (E.2.1.2.1, 6, .inl qg))]) (rest := []) (kX2_hasPerson l E fa fb fc pe tu pf tf a) hfX2_hasPerson gX5_see_X2_hasPerson ⟨Nat.le_of_ble_eq_true rfl, Nat.le_of_ble_eq_true rfl⟩ ⟨Nat.zero_le _, Nat.zero_le _⟩ [1, 2, 3] rfl (by decide) [fa, fb, fc] rfl rfl rfl 1 rfl rfl rfl rfl (Nat.le_of_ble_eq_true rfl) dX5_see_5 ?_
  refine hg_if_ne C (tgt := 13) dX5_see_8 (by decide) (fun c1 => ?_) (fun c1 => ?_)
  · refine hg_aload_n C dX5_see_13 rfl 0 rfl ?_
    refine hg_get C (Cn := RX5) (T := TX5) (N := 13) (v := .int sn) mrX5_see_5 0 rfl rfl 8 (by decide) mmX5_see_f54 rfl dX5_see_14 ?_
    refine hg_bipush C (v := 6) dX5_see_17 (by decide) ?_
    refine hg_icmp_lt C (tgt := 25) dX5_see_19 (by decide) (fun c2 => ?_) (fun c2 => ?_)
    · refine hg_aload_n C dX5_see_25 rfl 0 rfl ?_
      refine hg_get C (Cn := RX5) (T := TX5) (N := 13) (v := .ref qa) mrX5_see_5 0 rfl rfl 6 (by decide) mmX5_see_f47 rfl dX5_see_26 ?_
      refine hg_aload_n C dX5_see_29 rfl 0 rfl ?_
      refine hg_get C (Cn := RX5) (T := TX5) (N := 13) (v := .int sn) mrX5_see_5 0 rfl rfl 8 (by decide) mmX5_see_f54 rfl dX5_see_30 ?_
      refine hg_iload_n C dX5_see_33 rfl 1 rfl ?_
      refine hg_iast C (ws' := [(hr, .inr (5, [.ref ta, .ref fa, .ref n0, .ref aa, .ref ka, .ref kb, .ref qa, .ref qb, .int sn, .long sd, .ref t0, .ref u0, .ref be])), (fa, .inr (2, [.int pe, .int tu, .ref fb, .ref fc])), (fb, .inl (E.2.1.1, 36, .inl pf)), (fc, .inl (E.2.1.1, 12, .inl tf)), (qa, .inl (E.2.1.1, 6, .inl (upd qw sn.toNatClampNeg a))), (qb, .inl (E.2.1.2.1, 6, .inl qg))]) 4 rfl (vp_of (N := 6) (n := 6) rfl (by decide) hs0 (Int32.not_le.mpr (by assumption))) rfl dX5_see_34 ?_
      refine hg_aload_n C dX5_see_35 rfl 0 rfl ?_
      refine hg_get C (Cn := RX5) (T := TX5) (N := 13) (v := .ref qb) mrX5_see_5 0 rfl rfl 7 (by decide) mmX5_see_f51 rfl dX5_see_36 ?_
      refine hg_aload_n C dX5_see_39 rfl 0 rfl ?_
      refine hg_get C (Cn := RX5) (T := TX5) (N := 13) (v := .int sn) mrX5_see_5 0 rfl rfl 8 (by decide) mmX5_see_f54 rfl dX5_see_40 ?_
      refine hg_iload_n C dX5_see_43 rfl 2 rfl ?_
      refine hg_zast C (ws' := [(hr, .inr (5, [.ref ta, .ref fa, .ref n0, .ref aa, .ref ka, .ref kb, .ref qa, .ref qb, .int sn, .long sd, .ref t0, .ref u0, .ref be])), (fa, .inr (2, [.int pe, .int tu, .ref fb, .ref fc])), (fb, .inl (E.2.1.1, 36, .inl pf)), (fc, .inl (E.2.1.1, 12, .inl tf)), (qa, .inl (E.2.1.1, 6, .inl (upd qw sn.toNatClampNeg a))), (qb, .inl (E.2.1.2.1, 6, .inl (upd qg sn.toNatClampNeg (vp_nar .boolean b))))]) 5 rfl (vp_of (N := 6) (n := 6) rfl (by decide) hs0 (Int32.not_le.mpr (by assumption))) rfl dX5_see_44 ?_
      refine hg_aload_n C dX5_see_45 rfl 0 rfl ?_
      refine hg_dup C dX5_see_46 rfl ?_
      refine hg_get C (Cn := RX5) (T := TX5) (N := 13) (v := .int sn) mrX5_see_5 0 rfl rfl 8 (by decide) mmX5_see_f54 rfl dX5_see_47 ?_
      refine hg_iconst C (v := 1) dX5_see_50 (by decide) ?_
      refine hg_iadd C dX5_see_51 ?_
      refine hg_put C (Cn := RX5) (T := TX5) (N := 13) (ws' := [(hr, .inr (5, [.ref ta, .ref fa, .ref n0, .ref aa, .ref ka, .ref kb, .ref qa, .ref qb, .int (sn + 1), .long sd, .ref t0, .ref u0, .ref be])), (fa, .inr (2, [.int pe, .int tu, .ref fb, .ref fc])), (fb, .inl (E.2.1.1, 36, .inl pf)), (fc, .inl (E.2.1.1, 12, .inl tf)), (qa, .inl (E.2.1.1, 6, .inl (upd qw sn.toNatClampNeg a))), (qb, .inl (E.2.1.2.1, 6, .inl (upd qg sn.toNatClampNeg (vp_nar .boolean b))))]) mrX5_see_5 tyX5 tyX5_ok nmX5 0 rfl rfl 8 (by decide) mmX5_see_f54 rfl rfl rfl rfl (Nat.le_of_ble_eq_true rfl) rfl dX5_see_52 ?_
      refine hg_aload_n C dX5_see_55 rfl 0 rfl ?_
      refine hg_get C (Cn := RX5) (T := TX5) (N := 13) (v := .int (sn + 1)) mrX5_see_5 0 rfl rfl 8 (by decide) mmX5_see_f54 rfl dX5_see_56 ?_
      have e9 : (fX5_see sn pe qw qg a b) = (sn + 1, sn + 1, upd qw sn.toNatClampNeg a, upd qg sn.toNatClampNeg (vp_nar .boolean b)) := (hid_eq _).trans ((if_neg c1).trans ((if_pos c2).trans rfl))
      rw [e9]
      exact hg_iret C dX5_see_59 rfl rfl
    · refine hg_bipush C (v := (-4)) dX5_see_22 (by decide) ?_
      have e9 : (fX5_see sn pe qw qg a b) = ((-4), sn, qw, qg) := (hid_eq _).trans ((if_neg c1).trans ((if_neg c2).trans rfl))
      rw [e9]
      exact hg_iret C dX5_see_24 rfl rfl
  · refine hg_iconst C (v := (-1)) dX5_see_11 (by decide) ?_
    have e9 : (fX5_see sn pe qw qg a b) = ((-1), sn, qw, qg) := (hid_eq _).trans ((if_pos c1).trans rfl)
    rw [e9]
    exact hg_iret C dX5_see_12 rfl rfl
theorem mmX5_unsee_f54 : (Cond.fieldLink RX5 54 "HatRound" "seenCount" "I") ∈ wsX5_unsee := (List.mem_cons_of_mem _ (List.mem_append_left _ (List.mem_of_getElem? (i := 0) rfl)))
theorem mrX5_unsee_5 : ∀ w ∈ u_ws RX5 TX5 13, w ∈ wsX5_unsee := fun _ h => (List.mem_cons_of_mem _ (List.mem_append_right _ h))
abbrev rmX5_unsee : Room := { frames := 0, cells := 0, slots := 0, locals := 0 }
theorem hfX5_unsee : hCF yX5_unsee wsX5_unsee rmX5_unsee cX5_unsee 2 (some .int) 0 := ⟨⟨_, rfl⟩, by decide +kernel, rfl, rfl⟩
noncomputable def fX5_unsee (sn : Int32) : Int32 × Int32 := hid ((sn, 0))
set_option maxHeartbeats 4000000 in
set_option maxRecDepth 100000 in
theorem kX5_unsee (l : Launch) (E : hE) (hr : Nat) (ta : Nat) (fa : Nat) (n0 : Nat) (aa : Nat) (ka : Nat) (kb : Nat) (qa : Nat) (qb : Nat) (t0 : Nat) (u0 : Nat) (be : Nat) (sn : Int32) (sd : Int64) : hC l yX5_unsee wsX5_unsee rmX5_unsee E [.ref hr] [(hr, .inr (5, [.ref ta, .ref fa, .ref n0, .ref aa, .ref ka, .ref kb, .ref qa, .ref qb, .int sn, .long sd, .ref t0, .ref u0, .ref be]))] (some (.int ((fX5_unsee sn).1))) [(hr, .inr (5, [.ref ta, .ref fa, .ref n0, .ref aa, .ref ka, .ref kb, .ref qa, .ref qb, .int ((fX5_unsee sn).2), .long sd, .ref t0, .ref u0, .ref be]))] := by
  refine hC_intro (cc := cX5_unsee) (maxL := 2) (ret := (some .int)) (lv0 := [(0, .ref hr)]) (by decide) rfl (Nat.le_of_ble_eq_true rfl) rfl ?_
  intro p e s m below meth c A C
  refine hg_aload_n C dX5_unsee_0 rfl 0 rfl ?_
  refine hg_get C (Cn := RX5) (T := TX5) (N := 13) (v := .int sn) mrX5_unsee_5 0 rfl rfl 8 (by decide) mmX5_unsee_f54 rfl dX5_unsee_1 ?_
  refine hg_istore_n C (lv' := [(1, .int sn), (0, .ref hr)]) dX5_unsee_4 rfl (by decide) rfl ?_
  refine hg_aload_n C dX5_unsee_5 rfl 1 rfl ?_
  refine hg_iconst C (v := 0) dX5_unsee_6 (by decide) ?_
  refine hg_put C (Cn := RX5) (T := TX5) (N := 13) (ws' := [(hr, .inr (5, [.ref ta, .ref fa, .ref n0, .ref aa, .ref ka, .ref kb, .ref qa, .ref qb, .int 0, .long sd, .ref t0, .ref u0, .ref be]))]) mrX5_unsee_5 tyX5 tyX5_ok nmX5 0 rfl rfl 8 (by decide) mmX5_unsee_f54 rfl rfl rfl rfl (Nat.le_of_ble_eq_true rfl) rfl dX5_unsee_7 ?_
  refine hg_iload_n C dX5_unsee_10 rfl 0 rfl ?_
  have e9 : (fX5_unsee sn) = (sn, 0) := hid_eq _
  rw [e9]
  exact hg_iret C dX5_unsee_11 rfl rfl
