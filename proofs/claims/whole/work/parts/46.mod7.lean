theorem mmX6_giftsOf_f51 : (Cond.fieldLink RX6 51 "HatRoundModel" "people" "I") ∈ wsX6_giftsOf := (List.mem_cons_of_mem _ (List.mem_append_left _ (List.mem_of_getElem? (i := 0) rfl)))
theorem mrX6_giftsOf_6 : ∀ w ∈ u_ws RX6 TX6 23, w ∈ wsX6_giftsOf := fun _ h => (List.mem_cons_of_mem _ (List.mem_append_right _ h))
theorem mmX6_giftsOf_f25 : (Cond.fieldLink RX6 25 "HatRoundModel" "page" "[I") ∈ wsX6_giftsOf := (List.mem_cons_of_mem _ (List.mem_append_left _ (List.mem_of_getElem? (i := 1) rfl)))
abbrev rmX6_giftsOf : Room := { frames := 1, cells := 0, slots := 0, locals := 22 }
theorem hfX6_giftsOf : hCF yX6_giftsOf wsX6_giftsOf rmX6_giftsOf cX6_giftsOf 4 (some .int) 1 := ⟨⟨_, rfl⟩, by decide +kernel, rfl, rfl⟩
noncomputable def stX6_giftsOf_4 (pg : Nat → Int32) (a : Int32) (i : Nat) (σ : Int32) : Int32 := hid (σ + (if (fX6_has a (nI i)) = 0 then (0 : Int32) else (fX6_giftOf pg (nI i))))
set_option maxHeartbeats 4000000 in
set_option maxRecDepth 100000 in
theorem lpX6_giftsOf_4 {p : Program} {l : Launch} {e : Env} {s : State} {m : MethodId} {args : Array Value} {below : List Frame} {meth : Method} {c : Code} {E : hE} {A : Nat → Prop} {Q : State → Prop} (C : hX p s m args meth c E A cX6_giftsOf 4 RX6 wsX6_giftsOf (some .int)) (mm : Nat) (m1 : Nat) (m6 : Nat) (m7 : Nat) (ma : Nat) (mb : Nat) (mc : Nat) (md : Nat) (me : Nat) (mg : Nat) (mh : Nat) (mj : Nat) (mk : Nat) (ts : Int32) (pc : Int32) (pe : Int32) (tu : Int32) (rp : Int32) (rt : Int32) (ac : Int32) (sn : Int32) (sd : Int64) (sl : Int32) (pg : Nat → Int32) (a : Int32) (hpe : pe.toNatClampNeg ≤ 6) (σ0 : Int32) (k : hG p l e rmX6_giftsOf s m args below meth c E A 4 Q 0 0 41 [(2, .int (itN (stX6_giftsOf_4 pg a) pe.toNatClampNeg σ0))] [] [(mm, .inr (6, [.int 0, .ref m1, .int ts, .int pc, .int pe, .int tu, .ref m6, .ref m7, .int rp, .int rt, .ref ma, .ref mb, .ref mc, .ref md, .ref me, .int ac, .ref mg, .ref mh, .int sn, .ref mj, .ref mk, .long sd, .int sl])), (mc, .inl (E.2.1.1, 21, .inl pg))]) : ∀ (n i : Nat) (σ : Int32), i + n = pe.toNatClampNeg → σ = itN (stX6_giftsOf_4 pg a) i σ0 → hG p l e rmX6_giftsOf s m args below meth c E A 4 Q 0 0 4 [(0, .ref mm), (1, .int a), (2, .int σ), (3, .int (nI i))] [] [(mm, .inr (6, [.int 0, .ref m1, .int ts, .int pc, .int pe, .int tu, .ref m6, .ref m7, .int rp, .int rt, .ref ma, .ref mb, .ref mc, .ref md, .ref me, .int ac, .ref mg, .ref mh, .int sn, .ref mj, .ref mk, .long sd, .int sl])), (mc, .inl (E.2.1.1, 21, .inl pg))] := by
  intro n
  induction n with
  | zero =>
    intro i σ hi hσ
    have hi : i = pe.toNatClampNeg := by omega
    rw [hi] at hσ
    rw [hi]
    subst hσ
    refine hg_iload_n C dX6_giftsOf_4 rfl 3 rfl ?_
    refine hg_aload_n C dX6_giftsOf_5 rfl 0 rfl ?_
    refine hg_get C (Cn := RX6) (T := TX6) (N := 23) (v := .int pe) mrX6_giftsOf_6 0 rfl rfl 4 (by decide) mmX6_giftsOf_f51 rfl dX6_giftsOf_6 ?_
    refine hg_icmp_ge C (tgt := 41) dX6_giftsOf_9 (by decide) (fun _ => ?_) (fun h => absurd (cl_done _) h)
    exact hg_sub [2] rfl k
  | succ n ih =>
    intro i σ hi hσ
    have hlt : i < pe.toNatClampNeg := by omega
    refine hg_iload_n C dX6_giftsOf_4 rfl 3 rfl ?_
    refine hg_aload_n C dX6_giftsOf_5 rfl 0 rfl ?_
    refine hg_get C (Cn := RX6) (T := TX6) (N := 23) (v := .int pe) mrX6_giftsOf_6 0 rfl rfl 4 (by decide) mmX6_giftsOf_f51 rfl dX6_giftsOf_6 ?_
    refine hg_icmp_ge C (tgt := 41) dX6_giftsOf_9 (by decide) (fun h => absurd h (cl_cont hlt)) (fun _ => ?_)
    refine hg_iload_n C dX6_giftsOf_12 rfl 2 rfl ?_
    refine hg_iload_n C dX6_giftsOf_13 rfl 1 rfl ?_
    refine hg_iload_n C dX6_giftsOf_14 rfl 3 rfl ?_
    refine hg_callS C (ws' := [(mm, .inr (6, [.int 0, .ref m1, .int ts, .int pc, .int pe, .int tu, .ref m6, .ref m7, .int rp, .int rt, .ref ma, .ref mb, .ref mc, .ref md, .ref me, .int ac, .ref mg, .ref mh, .int sn, .ref mj, .ref mk, .long sd, .int sl])), (mc, .inl (E.2.1.1, 21, .inl pg))]) (rest := [.int σ]) (kX6_has l E a (nI i)) hfX6_has gX6_giftsOf_X6_has ⟨Nat.le_of_ble_eq_true rfl, Nat.le_of_ble_eq_true rfl⟩ ⟨Nat.zero_le _, Nat.zero_le _⟩ [] rfl (by decide) [] rfl rfl rfl rfl (Nat.le_of_ble_eq_true rfl) dX6_giftsOf_15 ?_
    refine hg_join (J := 33) (v := if (fX6_has a (nI i)) = 0 then (0 : Int32) else (fX6_giftOf pg (nI i))) (st1 := [.int σ]) (fun jj => ?_) ?_
    · refine hg_if_eq C (tgt := 32) dX6_giftsOf_18 (by decide) (fun c2 => ?_) (fun c2 => ?_)
      · refine hg_iconst C (v := 0) dX6_giftsOf_32 (by decide) ?_
        exact hg_top (v := if (fX6_has a (nI i)) = 0 then (0 : Int32) else (fX6_giftOf pg (nI i))) (v' := 0) ((if_pos c2).trans rfl) jj
      · refine hg_aload_n C dX6_giftsOf_21 rfl 0 rfl ?_
        refine hg_get C (Cn := RX6) (T := TX6) (N := 23) (v := .ref mc) mrX6_giftsOf_6 0 rfl rfl 12 (by decide) mmX6_giftsOf_f25 rfl dX6_giftsOf_22 ?_
        refine hg_iload_n C dX6_giftsOf_25 rfl 3 rfl ?_
        refine hg_callS C (ws' := [(mm, .inr (6, [.int 0, .ref m1, .int ts, .int pc, .int pe, .int tu, .ref m6, .ref m7, .int rp, .int rt, .ref ma, .ref mb, .ref mc, .ref md, .ref me, .int ac, .ref mg, .ref mh, .int sn, .ref mj, .ref mk, .long sd, .int sl])), (mc, .inl (E.2.1.1, 21, .inl pg))]) (rest := [.int σ]) (kX6_giftOf l E mc pg (nI i) (vp_in_nI (by omega) (by decide))) hfX6_giftOf gX6_giftsOf_X6_giftOf ⟨Nat.le_of_ble_eq_true rfl, Nat.le_of_ble_eq_true rfl⟩ ⟨Nat.zero_le _, Nat.zero_le _⟩ [1] rfl (by decide) [mc] rfl rfl rfl rfl (Nat.le_of_ble_eq_true rfl) dX6_giftsOf_26 ?_
        refine hg_goto C (tgt := 33) dX6_giftsOf_29 (by decide) ?_
        exact hg_top (v := if (fX6_has a (nI i)) = 0 then (0 : Int32) else (fX6_giftOf pg (nI i))) (v' := fX6_giftOf pg (nI i)) ((if_neg c2).trans rfl) jj
    refine hg_iadd C dX6_giftsOf_33 ?_
    refine hg_istore_n C (lv' := [(2, .int (σ + (if (fX6_has a (nI i)) = 0 then (0 : Int32) else (fX6_giftOf pg (nI i))))), (0, .ref mm), (1, .int a), (3, .int (nI i))]) dX6_giftsOf_34 rfl (by decide) rfl ?_
    refine hg_iinc C (v := nI (i + 1)) (lv' := [(3, .int (nI (i + 1))), (2, .int (σ + (if (fX6_has a (nI i)) = 0 then (0 : Int32) else (fX6_giftOf pg (nI i))))), (0, .ref mm), (1, .int a)]) dX6_giftsOf_35 3 rfl (nI_inc _) (by decide) rfl ?_
    refine hg_goto C (tgt := 4) dX6_giftsOf_38 (by decide) ?_
    have e9 : (stX6_giftsOf_4 pg a) i σ = σ + (if (fX6_has a (nI i)) = 0 then (0 : Int32) else (fX6_giftOf pg (nI i))) := hid_eq _
    have h9 := ih (i + 1) (σ + (if (fX6_has a (nI i)) = 0 then (0 : Int32) else (fX6_giftOf pg (nI i)))) (by omega) (e9.symm.trans (congrArg ((stX6_giftsOf_4 pg a) i) hσ))
    exact hg_sub [2, 3, 1, 0] rfl h9
noncomputable def fX6_giftsOf (pe : Int32) (pg : Nat → Int32) (a : Int32) : Int32 := hid ((itN (stX6_giftsOf_4 pg a) pe.toNatClampNeg 0))
set_option maxHeartbeats 4000000 in
set_option maxRecDepth 100000 in
theorem kX6_giftsOf (l : Launch) (E : hE) (mm : Nat) (m1 : Nat) (m6 : Nat) (m7 : Nat) (ma : Nat) (mb : Nat) (mc : Nat) (md : Nat) (me : Nat) (mg : Nat) (mh : Nat) (mj : Nat) (mk : Nat) (ts : Int32) (pc : Int32) (pe : Int32) (tu : Int32) (rp : Int32) (rt : Int32) (ac : Int32) (sn : Int32) (sd : Int64) (sl : Int32) (pg : Nat → Int32) (a : Int32) (hpe : pe.toNatClampNeg ≤ 6) : hC l yX6_giftsOf wsX6_giftsOf rmX6_giftsOf E [.ref mm, .int a] [(mm, .inr (6, [.int 0, .ref m1, .int ts, .int pc, .int pe, .int tu, .ref m6, .ref m7, .int rp, .int rt, .ref ma, .ref mb, .ref mc, .ref md, .ref me, .int ac, .ref mg, .ref mh, .int sn, .ref mj, .ref mk, .long sd, .int sl])), (mc, .inl (E.2.1.1, 21, .inl pg))] (some (.int (fX6_giftsOf pe pg a))) [(mm, .inr (6, [.int 0, .ref m1, .int ts, .int pc, .int pe, .int tu, .ref m6, .ref m7, .int rp, .int rt, .ref ma, .ref mb, .ref mc, .ref md, .ref me, .int ac, .ref mg, .ref mh, .int sn, .ref mj, .ref mk, .long sd, .int sl])), (mc, .inl (E.2.1.1, 21, .inl pg))] := by
  refine hC_intro (cc := cX6_giftsOf) (maxL := 4) (ret := (some .int)) (lv0 := [(0, .ref mm), (1, .int a)]) (by decide) rfl (Nat.le_of_ble_eq_true rfl) rfl ?_
  intro p e s m below meth c A C
  refine hg_iconst C (v := 0) dX6_giftsOf_0 (by decide) ?_
  refine hg_istore_n C (lv' := [(2, .int 0), (0, .ref mm), (1, .int a)]) dX6_giftsOf_1 rfl (by decide) rfl ?_
  refine hg_iconst C (v := 0) dX6_giftsOf_2 (by decide) ?_
  refine hg_istore_n C (lv' := [(3, .int 0), (2, .int 0), (0, .ref mm), (1, .int a)]) dX6_giftsOf_3 rfl (by decide) rfl ?_
  refine hg_sub [2, 3, 1, 0] rfl ?_
  refine lpX6_giftsOf_4 C mm m1 m6 m7 ma mb mc md me mg mh mj mk ts pc pe tu rp rt ac sn sd sl pg a hpe 0 ?_ pe.toNatClampNeg 0 0 (by omega) rfl
  refine hg_iload_n C dX6_giftsOf_41 rfl 0 rfl ?_
  have e9 : (fX6_giftsOf pe pg a) = (itN (stX6_giftsOf_4 pg a) pe.toNatClampNeg 0) := hid_eq _
  rw [e9]
  exact hg_iret C dX6_giftsOf_42 rfl rfl
theorem mmX6_gave_f47 : (Cond.fieldLink RX6 47 "HatRoundModel" "thrown" "I") ∈ wsX6_gave := (List.mem_cons_of_mem _ (List.mem_append_left _ (List.mem_of_getElem? (i := 0) rfl)))
theorem mrX6_gave_6 : ∀ w ∈ u_ws RX6 TX6 23, w ∈ wsX6_gave := fun _ h => (List.mem_cons_of_mem _ (List.mem_append_right _ h))
theorem mmX6_gave_k159 : (Cond.constantLong RX6 159 (99)) ∈ wsX6_gave := (List.mem_cons_of_mem _ (List.mem_append_left _ (List.mem_of_getElem? (i := 1) rfl)))
theorem mmX6_gave_f51 : (Cond.fieldLink RX6 51 "HatRoundModel" "people" "I") ∈ wsX6_gave := (List.mem_cons_of_mem _ (List.mem_append_left _ (List.mem_of_getElem? (i := 2) rfl)))
theorem mmX6_gave_f25 : (Cond.fieldLink RX6 25 "HatRoundModel" "page" "[I") ∈ wsX6_gave := (List.mem_cons_of_mem _ (List.mem_append_left _ (List.mem_of_getElem? (i := 3) rfl)))
theorem mmX6_gave_f100 : (Cond.fieldLink RX6 100 "HatRoundModel" "seen" "I") ∈ wsX6_gave := (List.mem_cons_of_mem _ (List.mem_append_left _ (List.mem_of_getElem? (i := 4) rfl)))
theorem mmX6_gave_f41 : (Cond.fieldLink RX6 41 "HatRoundModel" "seenWho" "[I") ∈ wsX6_gave := (List.mem_cons_of_mem _ (List.mem_append_left _ (List.mem_of_getElem? (i := 5) rfl)))
theorem mmX6_gave_f44 : (Cond.fieldLink RX6 44 "HatRoundModel" "seenGives" "[Z") ∈ wsX6_gave := (List.mem_cons_of_mem _ (List.mem_append_left _ (List.mem_of_getElem? (i := 6) rfl)))
abbrev rmX6_gave : Room := { frames := 2, cells := 0, slots := 0, locals := 45 }
theorem hfX6_gave : hCF yX6_gave wsX6_gave rmX6_gave cX6_gave 8 (some .int) 2 := ⟨⟨_, rfl⟩, by decide +kernel, rfl, rfl⟩
noncomputable def fuX6_gave_91 (pe : Int32) (sn : Int32) (sw : Nat → Int32) (sgv : Nat → Int32) (x5 : Int32) : Nat → Nat → Int32 → Int32
  | 0, _, σ => σ
  | n + 1, i, σ => hid (if sn ≤ (nI i) then σ else if σ = 0 then σ else (fuX6_gave_91 pe sn sw sgv x5) n (i + 1) (if pe ≤ (sw (nI i).toNatClampNeg) then (1 : Int32) else (if (fX6_has x5 (sw (nI i).toNatClampNeg)) = (sgv (nI i).toNatClampNeg) then (1 : Int32) else (0 : Int32))))
set_option maxHeartbeats 4000000 in
set_option maxRecDepth 100000 in
theorem lpX6_gave_91 {p : Program} {l : Launch} {e : Env} {s : State} {m : MethodId} {args : Array Value} {below : List Frame} {meth : Method} {c : Code} {E : hE} {A : Nat → Prop} {Q : State → Prop} (C : hX p s m args meth c E A cX6_gave 8 RX6 wsX6_gave (some .int)) (mm : Nat) (m1 : Nat) (m6 : Nat) (m7 : Nat) (ma : Nat) (mb : Nat) (mc : Nat) (md : Nat) (me : Nat) (mg : Nat) (mh : Nat) (mj : Nat) (mk : Nat) (ts : Int32) (pc : Int32) (pe : Int32) (tu : Int32) (rp : Int32) (rt : Int32) (ac : Int32) (sn : Int32) (sd : Int64) (sl : Int32) (pg : Nat → Int32) (sw : Nat → Int32) (sgv : Nat → Int32) (a : Int32) (b : Int32) (x3 : Int32) (x4 : Int32) (x5 : Int32) (hp7 : vp_in pe 7) (hs7 : vp_in sn 7) : ∀ (n i : Nat) (σ : Int32), i + n = sn.toNatClampNeg + 1 → i ≤ sn.toNatClampNeg → hG p l e rmX6_gave s m args below meth c E A 8 Q 0 0 154 [(0, .ref mm), (1, .int a), (2, .int b), (3, .int x3), (4, .int x4), (5, .int x5), (6, .int ((fuX6_gave_91 pe sn sw sgv x5) n i σ))] [] [(mm, .inr (6, [.int 0, .ref m1, .int ts, .int pc, .int pe, .int tu, .ref m6, .ref m7, .int rp, .int rt, .ref ma, .ref mb, .ref mc, .ref md, .ref me, .int ac, .ref mg, .ref mh, .int sn, .ref mj, .ref mk, .long sd, .int sl])), (mc, .inl (E.2.1.1, 21, .inl pg)), (mj, .inl (E.2.1.1, 6, .inl sw)), (mk, .inl (E.2.1.2.1, 6, .inl sgv))] → hG p l e rmX6_gave s m args below meth c E A 8 Q 0 0 91 [(0, .ref mm), (1, .int a), (2, .int b), (3, .int x3), (4, .int x4), (5, .int x5), (6, .int σ), (7, .int (nI i))] [] [(mm, .inr (6, [.int 0, .ref m1, .int ts, .int pc, .int pe, .int tu, .ref m6, .ref m7, .int rp, .int rt, .ref ma, .ref mb, .ref mc, .ref md, .ref me, .int ac, .ref mg, .ref mh, .int sn, .ref mj, .ref mk, .long sd, .int sl])), (mc, .inl (E.2.1.1, 21, .inl pg)), (mj, .inl (E.2.1.1, 6, .inl sw)), (mk, .inl (E.2.1.2.1, 6, .inl sgv))] := by
  intro n
  induction n with
  | zero =>
    intro i σ hi hiN k
    exact absurd hi (by omega)
  | succ n ih =>
    intro i σ hi hiN k
    refine hg_iload C dX6_gave_91 7 rfl ?_
    refine hg_aload_n C dX6_gave_93 rfl 0 rfl ?_
    refine hg_get C (Cn := RX6) (T := TX6) (N := 23) (v := .int sn) mrX6_gave_6 0 rfl rfl 18 (by decide) mmX6_gave_f100 rfl dX6_gave_94 ?_
    refine hg_icmp_ge C (tgt := 154) dX6_gave_97 (by decide) (fun c9 => ?_) (fun c9 => ?_)
    · have e9 : (fuX6_gave_91 pe sn sw sgv x5) (n + 1) i σ = σ := (hid_eq _).trans ((if_pos c9).trans rfl)
      rw [e9] at k
      exact hg_sub [0, 1, 2, 3, 4, 5, 6] rfl k
    · refine hg_iload C dX6_gave_100 6 rfl ?_
      refine hg_if_eq C (tgt := 154) dX6_gave_102 (by decide) (fun c10 => ?_) (fun c10 => ?_)
      · have e9 : (fuX6_gave_91 pe sn sw sgv x5) (n + 1) i σ = σ := (hid_eq _).trans ((if_neg c9).trans ((if_pos c10).trans rfl))
        rw [e9] at k
        exact hg_sub [0, 1, 2, 3, 4, 5, 6] rfl k
      · refine hg_aload_n C dX6_gave_105 rfl 0 rfl ?_
        refine hg_get C (Cn := RX6) (T := TX6) (N := 23) (v := .ref mj) mrX6_gave_6 0 rfl rfl 19 (by decide) mmX6_gave_f41 rfl dX6_gave_106 ?_
        refine hg_iload C dX6_gave_109 7 rfl ?_
        refine hg_iald C 2 rfl (ix_s hs7 hiN (by assumption)) dX6_gave_111 ?_
        refine hg_aload_n C dX6_gave_112 rfl 0 rfl ?_
        refine hg_get C (Cn := RX6) (T := TX6) (N := 23) (v := .int pe) mrX6_gave_6 0 rfl rfl 4 (by decide) mmX6_gave_f51 rfl dX6_gave_113 ?_
        refine hg_join (J := 146) (v := if pe ≤ (sw (nI i).toNatClampNeg) then (1 : Int32) else (if (fX6_has x5 (sw (nI i).toNatClampNeg)) = (sgv (nI i).toNatClampNeg) then (1 : Int32) else (0 : Int32))) (st1 := []) (fun jj => ?_) ?_
        · refine hg_icmp_ge C (tgt := 141) dX6_gave_116 (by decide) (fun c11 => ?_) (fun c11 => ?_)
          · refine hg_iconst C (v := 1) dX6_gave_141 (by decide) ?_
            refine hg_goto C (tgt := 146) dX6_gave_142 (by decide) ?_
            exact hg_top (v := if pe ≤ (sw (nI i).toNatClampNeg) then (1 : Int32) else (if (fX6_has x5 (sw (nI i).toNatClampNeg)) = (sgv (nI i).toNatClampNeg) then (1 : Int32) else (0 : Int32))) (v' := 1) ((if_pos c11).trans rfl) jj
          · refine hg_iload C dX6_gave_119 5 rfl ?_
            refine hg_aload_n C dX6_gave_121 rfl 0 rfl ?_
            refine hg_get C (Cn := RX6) (T := TX6) (N := 23) (v := .ref mj) mrX6_gave_6 0 rfl rfl 19 (by decide) mmX6_gave_f41 rfl dX6_gave_122 ?_
            refine hg_iload C dX6_gave_125 7 rfl ?_
            refine hg_iald C 2 rfl (ix_s hs7 hiN (by assumption)) dX6_gave_127 ?_
            refine hg_callS C (ws' := [(mm, .inr (6, [.int 0, .ref m1, .int ts, .int pc, .int pe, .int tu, .ref m6, .ref m7, .int rp, .int rt, .ref ma, .ref mb, .ref mc, .ref md, .ref me, .int ac, .ref mg, .ref mh, .int sn, .ref mj, .ref mk, .long sd, .int sl])), (mc, .inl (E.2.1.1, 21, .inl pg)), (mj, .inl (E.2.1.1, 6, .inl sw)), (mk, .inl (E.2.1.2.1, 6, .inl sgv))]) (rest := []) (kX6_has l E x5 (sw (nI i).toNatClampNeg)) hfX6_has gX6_gave_X6_has ⟨Nat.le_of_ble_eq_true rfl, Nat.le_of_ble_eq_true rfl⟩ ⟨Nat.zero_le _, Nat.zero_le _⟩ [] rfl (by decide) [] rfl rfl rfl rfl (Nat.le_of_ble_eq_true rfl) dX6_gave_128 ?_
            refine hg_aload_n C dX6_gave_131 rfl 0 rfl ?_
            refine hg_get C (Cn := RX6) (T := TX6) (N := 23) (v := .ref mk) mrX6_gave_6 0 rfl rfl 20 (by decide) mmX6_gave_f44 rfl dX6_gave_132 ?_
            refine hg_iload C dX6_gave_135 7 rfl ?_
            refine hg_zald C 3 rfl (ix_s hs7 hiN (by assumption)) dX6_gave_137 ?_
            refine hg_join (J := 146) (v := if (fX6_has x5 (sw (nI i).toNatClampNeg)) = (sgv (nI i).toNatClampNeg) then (1 : Int32) else (0 : Int32)) (st1 := []) (fun jj => ?_) ?_
            · refine hg_icmp_ne C (tgt := 145) dX6_gave_138 (by decide) (fun c12 => ?_) (fun c12 => ?_)
              · refine hg_iconst C (v := 0) dX6_gave_145 (by decide) ?_
                exact hg_top (v := if (fX6_has x5 (sw (nI i).toNatClampNeg)) = (sgv (nI i).toNatClampNeg) then (1 : Int32) else (0 : Int32)) (v' := 0) ((if_neg c12).trans rfl) jj
              · refine hg_iconst C (v := 1) dX6_gave_141 (by decide) ?_
                refine hg_goto C (tgt := 146) dX6_gave_142 (by decide) ?_
                exact hg_top (v := if (fX6_has x5 (sw (nI i).toNatClampNeg)) = (sgv (nI i).toNatClampNeg) then (1 : Int32) else (0 : Int32)) (v' := 1) ((if_pos c12).trans rfl) jj
            exact hg_top (v := if pe ≤ (sw (nI i).toNatClampNeg) then (1 : Int32) else (if (fX6_has x5 (sw (nI i).toNatClampNeg)) = (sgv (nI i).toNatClampNeg) then (1 : Int32) else (0 : Int32))) (v' := if (fX6_has x5 (sw (nI i).toNatClampNeg)) = (sgv (nI i).toNatClampNeg) then (1 : Int32) else (0 : Int32)) ((if_neg c11).trans rfl) jj
        refine hg_istore C (lv' := [(6, .int (if pe ≤ (sw (nI i).toNatClampNeg) then (1 : Int32) else (if (fX6_has x5 (sw (nI i).toNatClampNeg)) = (sgv (nI i).toNatClampNeg) then (1 : Int32) else (0 : Int32)))), (0, .ref mm), (1, .int a), (2, .int b), (3, .int x3), (4, .int x4), (5, .int x5), (7, .int (nI i))]) dX6_gave_146 (by decide) rfl ?_
        refine hg_iinc C (v := nI (i + 1)) (lv' := [(7, .int (nI (i + 1))), (6, .int (if pe ≤ (sw (nI i).toNatClampNeg) then (1 : Int32) else (if (fX6_has x5 (sw (nI i).toNatClampNeg)) = (sgv (nI i).toNatClampNeg) then (1 : Int32) else (0 : Int32)))), (0, .ref mm), (1, .int a), (2, .int b), (3, .int x3), (4, .int x4), (5, .int x5)]) dX6_gave_148 7 rfl (nI_inc _) (by decide) rfl ?_
        refine hg_goto C (tgt := 91) dX6_gave_151 (by decide) ?_
        have hlt : i < sn.toNatClampNeg := (s_lt hs7 hiN (by assumption))
        have e9 : (fuX6_gave_91 pe sn sw sgv x5) (n + 1) i σ = (fuX6_gave_91 pe sn sw sgv x5) n (i + 1) (if pe ≤ (sw (nI i).toNatClampNeg) then (1 : Int32) else (if (fX6_has x5 (sw (nI i).toNatClampNeg)) = (sgv (nI i).toNatClampNeg) then (1 : Int32) else (0 : Int32))) := (hid_eq _).trans ((if_neg c9).trans ((if_neg c10).trans rfl))
        rw [e9] at k
        exact hg_sub [2, 3, 4, 5, 6, 7, 1, 0] rfl (ih (i + 1) (if pe ≤ (sw (nI i).toNatClampNeg) then (1 : Int32) else (if (fX6_has x5 (sw (nI i).toNatClampNeg)) = (sgv (nI i).toNatClampNeg) then (1 : Int32) else (0 : Int32))) (by omega) (by omega) k)
noncomputable def stX6_gave_45 (pe : Int32) (sn : Int32) (pg : Nat → Int32) (sw : Nat → Int32) (sgv : Nat → Int32) (a : Int32) (i : Nat) (σ : Int32 × Int32) : Int32 × Int32 := hid (if ((fuX6_gave_91 pe sn sw sgv (nI i)) (sn.toNatClampNeg + 1) 0 (if ((nI i) &&& ((pg (12 : Int32).toNatClampNeg) ^^^ (-1))) = 0 then (if (fX6_giftsOf pe pg (nI i)) = a then (1 : Int32) else (0 : Int32)) else (0 : Int32))) = 0 then (σ.1, σ.2) else (σ.1 + 1, σ.2 &&& (nI i)))
set_option maxHeartbeats 4000000 in
set_option maxRecDepth 100000 in
theorem lpX6_gave_45 {p : Program} {l : Launch} {e : Env} {s : State} {m : MethodId} {args : Array Value} {below : List Frame} {meth : Method} {c : Code} {E : hE} {A : Nat → Prop} {Q : State → Prop} (C : hX p s m args meth c E A cX6_gave 8 RX6 wsX6_gave (some .int)) (mm : Nat) (m1 : Nat) (m6 : Nat) (m7 : Nat) (ma : Nat) (mb : Nat) (mc : Nat) (md : Nat) (me : Nat) (mg : Nat) (mh : Nat) (mj : Nat) (mk : Nat) (ts : Int32) (pc : Int32) (pe : Int32) (tu : Int32) (rp : Int32) (rt : Int32) (ac : Int32) (sn : Int32) (sd : Int64) (sl : Int32) (pg : Nat → Int32) (sw : Nat → Int32) (sgv : Nat → Int32) (a : Int32) (b : Int32) (hp7 : vp_in pe 7) (hs7 : vp_in sn 7) (σ0 : Int32 × Int32) (k : hG p l e rmX6_gave s m args below meth c E A 8 Q 0 0 175 [(2, .int b), (3, .int ((itN (stX6_gave_45 pe sn pg sw sgv a) (((1 : Int32) <<< (pe &&& 31)).toNatClampNeg) σ0).1)), (4, .int ((itN (stX6_gave_45 pe sn pg sw sgv a) (((1 : Int32) <<< (pe &&& 31)).toNatClampNeg) σ0).2))] [] [(mm, .inr (6, [.int 0, .ref m1, .int ts, .int pc, .int pe, .int tu, .ref m6, .ref m7, .int rp, .int rt, .ref ma, .ref mb, .ref mc, .ref md, .ref me, .int ac, .ref mg, .ref mh, .int sn, .ref mj, .ref mk, .long sd, .int sl])), (mc, .inl (E.2.1.1, 21, .inl pg)), (mj, .inl (E.2.1.1, 6, .inl sw)), (mk, .inl (E.2.1.2.1, 6, .inl sgv))]) : ∀ (n i : Nat) (σ : Int32 × Int32), i + n = ((1 : Int32) <<< (pe &&& 31)).toNatClampNeg → σ = itN (stX6_gave_45 pe sn pg sw sgv a) i σ0 → hG p l e rmX6_gave s m args below meth c E A 8 Q 0 0 45 [(0, .ref mm), (1, .int a), (2, .int b), (3, .int σ.1), (4, .int σ.2), (5, .int (nI i))] [] [(mm, .inr (6, [.int 0, .ref m1, .int ts, .int pc, .int pe, .int tu, .ref m6, .ref m7, .int rp, .int rt, .ref ma, .ref mb, .ref mc, .ref md, .ref me, .int ac, .ref mg, .ref mh, .int sn, .ref mj, .ref mk, .long sd, .int sl])), (mc, .inl (E.2.1.1, 21, .inl pg)), (mj, .inl (E.2.1.1, 6, .inl sw)), (mk, .inl (E.2.1.2.1, 6, .inl sgv))] := by
  intro n
  induction n with
  | zero =>
    intro i σ hi hσ
    have hi : i = ((1 : Int32) <<< (pe &&& 31)).toNatClampNeg := by omega
    rw [hi] at hσ
    rw [hi]
    subst hσ
    refine hg_iload C dX6_gave_45 5 rfl ?_
    refine hg_iconst C (v := 1) dX6_gave_47 (by decide) ?_
    refine hg_aload_n C dX6_gave_48 rfl 0 rfl ?_
    refine hg_get C (Cn := RX6) (T := TX6) (N := 23) (v := .int pe) mrX6_gave_6 0 rfl rfl 4 (by decide) mmX6_gave_f51 rfl dX6_gave_49 ?_
    refine hg_ishl C dX6_gave_52 ?_
    refine hg_icmp_ge C (tgt := 175) dX6_gave_53 (by decide) (fun _ => ?_) (fun h => absurd (cl_done _) h)
    exact hg_sub [2, 3, 4] rfl k
  | succ n ih =>
    intro i σ hi hσ
    have hlt : i < ((1 : Int32) <<< (pe &&& 31)).toNatClampNeg := by omega
    refine hg_iload C dX6_gave_45 5 rfl ?_
    refine hg_iconst C (v := 1) dX6_gave_47 (by decide) ?_
    refine hg_aload_n C dX6_gave_48 rfl 0 rfl ?_
    refine hg_get C (Cn := RX6) (T := TX6) (N := 23) (v := .int pe) mrX6_gave_6 0 rfl rfl 4 (by decide) mmX6_gave_f51 rfl dX6_gave_49 ?_
    refine hg_ishl C dX6_gave_52 ?_
    refine hg_icmp_ge C (tgt := 175) dX6_gave_53 (by decide) (fun h => absurd h (cl_cont hlt)) (fun _ => ?_)
    refine hg_iload C dX6_gave_56 5 rfl ?_
    refine hg_aload_n C dX6_gave_58 rfl 0 rfl ?_
    refine hg_get C (Cn := RX6) (T := TX6) (N := 23) (v := .ref mc) mrX6_gave_6 0 rfl rfl 12 (by decide) mmX6_gave_f25 rfl dX6_gave_59 ?_
    refine hg_bipush C (v := 12) dX6_gave_62 (by decide) ?_
    refine hg_iald C 1 rfl (by unfold vp_in; decide) dX6_gave_64 ?_
    refine hg_iconst C (v := (-1)) dX6_gave_65 (by decide) ?_
    refine hg_ixor C dX6_gave_66 ?_
    refine hg_iand C dX6_gave_67 ?_
    refine hg_join (J := 86) (v := if ((nI i) &&& ((pg (12 : Int32).toNatClampNeg) ^^^ (-1))) = 0 then (if (fX6_giftsOf pe pg (nI i)) = a then (1 : Int32) else (0 : Int32)) else (0 : Int32)) (st1 := []) (fun jj => ?_) ?_
    · refine hg_if_ne C (tgt := 85) dX6_gave_68 (by decide) (fun c14 => ?_) (fun c14 => ?_)
      · refine hg_iconst C (v := 0) dX6_gave_85 (by decide) ?_
        exact hg_top (v := if ((nI i) &&& ((pg (12 : Int32).toNatClampNeg) ^^^ (-1))) = 0 then (if (fX6_giftsOf pe pg (nI i)) = a then (1 : Int32) else (0 : Int32)) else (0 : Int32)) (v' := 0) ((if_neg c14).trans rfl) jj
      · refine hg_aload_n C dX6_gave_71 rfl 0 rfl ?_
        refine hg_iload C dX6_gave_72 5 rfl ?_
        refine hg_callV C (ws' := [(mm, .inr (6, [.int 0, .ref m1, .int ts, .int pc, .int pe, .int tu, .ref m6, .ref m7, .int rp, .int rt, .ref ma, .ref mb, .ref mc, .ref md, .ref me, .int ac, .ref mg, .ref mh, .int sn, .ref mj, .ref mk, .long sd, .int sl])), (mc, .inl (E.2.1.1, 21, .inl pg)), (mj, .inl (E.2.1.1, 6, .inl sw)), (mk, .inl (E.2.1.2.1, 6, .inl sgv))]) (rest := []) (kX6_giftsOf l E mm m1 m6 m7 ma mb mc md me mg mh mj mk ts pc pe tu rp rt ac sn sd sl pg (nI i) (Nat.le_of_lt_succ (vp_cl hp7))) hfX6_giftsOf gX6_gave_X6_giftsOf ⟨Nat.le_of_ble_eq_true rfl, Nat.le_of_ble_eq_true rfl⟩ ⟨Nat.zero_le _, Nat.zero_le _⟩ [0, 1] rfl (by decide) [mm, mc] rfl rfl rfl 0 rfl rfl rfl rfl (Nat.le_of_ble_eq_true rfl) dX6_gave_74 ?_
        refine hg_iload_n C dX6_gave_77 rfl 1 rfl ?_
        refine hg_join (J := 86) (v := if (fX6_giftsOf pe pg (nI i)) = a then (1 : Int32) else (0 : Int32)) (st1 := []) (fun jj => ?_) ?_
        · refine hg_icmp_ne C (tgt := 85) dX6_gave_78 (by decide) (fun c15 => ?_) (fun c15 => ?_)
          · refine hg_iconst C (v := 0) dX6_gave_85 (by decide) ?_
            exact hg_top (v := if (fX6_giftsOf pe pg (nI i)) = a then (1 : Int32) else (0 : Int32)) (v' := 0) ((if_neg c15).trans rfl) jj
          · refine hg_iconst C (v := 1) dX6_gave_81 (by decide) ?_
            refine hg_goto C (tgt := 86) dX6_gave_82 (by decide) ?_
            exact hg_top (v := if (fX6_giftsOf pe pg (nI i)) = a then (1 : Int32) else (0 : Int32)) (v' := 1) ((if_pos c15).trans rfl) jj
        exact hg_top (v := if ((nI i) &&& ((pg (12 : Int32).toNatClampNeg) ^^^ (-1))) = 0 then (if (fX6_giftsOf pe pg (nI i)) = a then (1 : Int32) else (0 : Int32)) else (0 : Int32)) (v' := if (fX6_giftsOf pe pg (nI i)) = a then (1 : Int32) else (0 : Int32)) ((if_pos c14).trans rfl) jj
    refine hg_istore C (lv' := [(6, .int (if ((nI i) &&& ((pg (12 : Int32).toNatClampNeg) ^^^ (-1))) = 0 then (if (fX6_giftsOf pe pg (nI i)) = a then (1 : Int32) else (0 : Int32)) else (0 : Int32))), (0, .ref mm), (1, .int a), (2, .int b), (3, .int σ.1), (4, .int σ.2), (5, .int (nI i))]) dX6_gave_86 (by decide) rfl ?_
    refine hg_iconst C (v := 0) dX6_gave_88 (by decide) ?_
    refine hg_istore C (lv' := [(7, .int 0), (6, .int (if ((nI i) &&& ((pg (12 : Int32).toNatClampNeg) ^^^ (-1))) = 0 then (if (fX6_giftsOf pe pg (nI i)) = a then (1 : Int32) else (0 : Int32)) else (0 : Int32))), (0, .ref mm), (1, .int a), (2, .int b), (3, .int σ.1), (4, .int σ.2), (5, .int (nI i))]) dX6_gave_89 (by decide) rfl ?_
    refine hg_sub [2, 3, 4, 5, 6, 7, 1, 0] rfl ?_
    refine lpX6_gave_91 C mm m1 m6 m7 ma mb mc md me mg mh mj mk ts pc pe tu rp rt ac sn sd sl pg sw sgv a b σ.1 σ.2 (nI i) hp7 hs7 (sn.toNatClampNeg + 1) 0 (if ((nI i) &&& ((pg (12 : Int32).toNatClampNeg) ^^^ (-1))) = 0 then (if (fX6_giftsOf pe pg (nI i)) = a then (1 : Int32) else (0 : Int32)) else (0 : Int32)) (by omega) (by omega) ?_
    refine hg_iload C dX6_gave_154 6 rfl ?_
    refine hg_if_eq C (tgt := 169) dX6_gave_156 (by decide) (fun c16 => ?_) (fun c16 => ?_)
    · refine hg_iinc C (v := nI (i + 1)) (lv' := [(5, .int (nI (i + 1))), (0, .ref mm), (1, .int a), (2, .int b), (3, .int σ.1), (4, .int σ.2), (6, .int ((fuX6_gave_91 pe sn sw sgv (nI i)) (sn.toNatClampNeg + 1) 0 (if ((nI i) &&& ((pg (12 : Int32).toNatClampNeg) ^^^ (-1))) = 0 then (if (fX6_giftsOf pe pg (nI i)) = a then (1 : Int32) else (0 : Int32)) else (0 : Int32))))]) dX6_gave_169 5 rfl (nI_inc _) (by decide) rfl ?_
      refine hg_goto C (tgt := 45) dX6_gave_172 (by decide) ?_
      have e9 : (stX6_gave_45 pe sn pg sw sgv a) i σ = (σ.1, σ.2) := (hid_eq _).trans ((if_pos c16).trans rfl)
      have h9 := ih (i + 1) (σ.1, σ.2) (by omega) (e9.symm.trans (congrArg ((stX6_gave_45 pe sn pg sw sgv a) i) hσ))
      exact hg_sub [1, 2, 3, 4, 5, 0] rfl h9
    · refine hg_iinc C (v := σ.1 + 1) (lv' := [(3, .int (σ.1 + 1)), (0, .ref mm), (1, .int a), (2, .int b), (4, .int σ.2), (5, .int (nI i)), (6, .int ((fuX6_gave_91 pe sn sw sgv (nI i)) (sn.toNatClampNeg + 1) 0 (if ((nI i) &&& ((pg (12 : Int32).toNatClampNeg) ^^^ (-1))) = 0 then (if (fX6_giftsOf pe pg (nI i)) = a then (1 : Int32) else (0 : Int32)) else (0 : Int32))))]) dX6_gave_159 3 rfl rfl (by decide) rfl ?_
      refine hg_iload C dX6_gave_162 4 rfl ?_
      refine hg_iload C dX6_gave_164 5 rfl ?_
      refine hg_iand C dX6_gave_166 ?_
      refine hg_istore C (lv' := [(4, .int (σ.2 &&& (nI i))), (3, .int (σ.1 + 1)), (0, .ref mm), (1, .int a), (2, .int b), (5, .int (nI i)), (6, .int ((fuX6_gave_91 pe sn sw sgv (nI i)) (sn.toNatClampNeg + 1) 0 (if ((nI i) &&& ((pg (12 : Int32).toNatClampNeg) ^^^ (-1))) = 0 then (if (fX6_giftsOf pe pg (nI i)) = a then (1 : Int32) else (0 : Int32)) else (0 : Int32))))]) dX6_gave_167 (by decide) rfl ?_
      refine hg_iinc C (v := nI (i + 1)) (lv' := [(5, .int (nI (i + 1))), (4, .int (σ.2 &&& (nI i))), (3, .int (σ.1 + 1)), (0, .ref mm), (1, .int a), (2, .int b), (6, .int ((fuX6_gave_91 pe sn sw sgv (nI i)) (sn.toNatClampNeg + 1) 0 (if ((nI i) &&& ((pg (12 : Int32).toNatClampNeg) ^^^ (-1))) = 0 then (if (fX6_giftsOf pe pg (nI i)) = a then (1 : Int32) else (0 : Int32)) else (0 : Int32))))]) dX6_gave_169 5 rfl (nI_inc _) (by decide) rfl ?_
      refine hg_goto C (tgt := 45) dX6_gave_172 (by decide) ?_
      have e9 : (stX6_gave_45 pe sn pg sw sgv a) i σ = (σ.1 + 1, σ.2 &&& (nI i)) := (hid_eq _).trans ((if_neg c16).trans rfl)
      have h9 := ih (i + 1) (σ.1 + 1, σ.2 &&& (nI i)) (by omega) (e9.symm.trans (congrArg ((stX6_gave_45 pe sn pg sw sgv a) i) hσ))
      exact hg_sub [3, 4, 5, 2, 1, 0] rfl h9
noncomputable def fX6_gave (pe : Int32) (sn : Int32) (pg : Nat → Int32) (sw : Nat → Int32) (sgv : Nat → Int32) (a : Int32) (b : Int32) : Int32 := hid (if (fX6_in a.toInt64 0 99) = 0 then (-2) else if (fX6_in b.toInt64 0 1) = 0 then (-2) else if b = 0 then ((itN (stX6_gave_45 pe sn pg sw sgv a) (((1 : Int32) <<< (pe &&& 31)).toNatClampNeg) (0, (1 <<< (pe &&& 31)) - 1)).1) else (if ((itN (stX6_gave_45 pe sn pg sw sgv a) (((1 : Int32) <<< (pe &&& 31)).toNatClampNeg) (0, (1 <<< (pe &&& 31)) - 1)).1) = 0 then ((-9) : Int32) else ((itN (stX6_gave_45 pe sn pg sw sgv a) (((1 : Int32) <<< (pe &&& 31)).toNatClampNeg) (0, (1 <<< (pe &&& 31)) - 1)).2)))
set_option maxHeartbeats 4000000 in
set_option maxRecDepth 100000 in
theorem kX6_gave (l : Launch) (E : hE) (mm : Nat) (m1 : Nat) (m6 : Nat) (m7 : Nat) (ma : Nat) (mb : Nat) (mc : Nat) (md : Nat) (me : Nat) (mg : Nat) (mh : Nat) (mj : Nat) (mk : Nat) (ts : Int32) (pc : Int32) (pe : Int32) (tu : Int32) (rp : Int32) (rt : Int32) (ac : Int32) (sn : Int32) (sd : Int64) (sl : Int32) (pg : Nat → Int32) (sw : Nat → Int32) (sgv : Nat → Int32) (a : Int32) (b : Int32) (hp7 : vp_in pe 7) (hs7 : vp_in sn 7) : hC l yX6_gave wsX6_gave rmX6_gave E [.ref mm, .int a, .int b] [(mm, .inr (6, [.int 0, .ref m1, .int ts, .int pc, .int pe, .int tu, .ref m6, .ref m7, .int rp, .int rt, .ref ma, .ref mb, .ref mc, .ref md, .ref me, .int ac, .ref mg, .ref mh, .int sn, .ref mj, .ref mk, .long sd, .int sl])), (mc, .inl (E.2.1.1, 21, .inl pg)), (mj, .inl (E.2.1.1, 6, .inl sw)), (mk, .inl (E.2.1.2.1, 6, .inl sgv))] (some (.int (fX6_gave pe sn pg sw sgv a b))) [(mm, .inr (6, [.int 0, .ref m1, .int ts, .int pc, .int pe, .int tu, .ref m6, .ref m7, .int rp, .int rt, .ref ma, .ref mb, .ref mc, .ref md, .ref me, .int ac, .ref mg, .ref mh, .int sn, .ref mj, .ref mk, .long sd, .int sl])), (mc, .inl (E.2.1.1, 21, .inl pg)), (mj, .inl (E.2.1.1, 6, .inl sw)), (mk, .inl (E.2.1.2.1, 6, .inl sgv))] := by
  refine hC_intro (cc := cX6_gave) (maxL := 8) (ret := (some .int)) (lv0 := [(0, .ref mm), (1, .int a), (2, .int b)]) (by decide) rfl (Nat.le_of_ble_eq_true rfl) rfl ?_
  intro p e s m below meth c A C
  refine hg_aload_n C dX6_gave_0 rfl 0 rfl ?_
  refine hg_iconst C (v := 0) dX6_gave_1 (by decide) ?_
  refine hg_put C (Cn := RX6) (T := TX6) (N := 23) (ws' := [(mm, .inr (6, [.int 0, .ref m1, .int ts, .int pc, .int pe, .int tu, .ref m6, .ref m7, .int rp, .int rt, .ref ma, .ref mb, .ref mc, .ref md, .ref me, .int ac, .ref mg, .ref mh, .int sn, .ref mj, .ref mk, .long sd, .int sl])), (mc, .inl (E.2.1.1, 21, .inl pg)), (mj, .inl (E.2.1.1, 6, .inl sw)), (mk, .inl (E.2.1.2.1, 6, .inl sgv))]) mrX6_gave_6 tyX6 tyX6_ok nmX6 0 rfl rfl 0 (by decide) mmX6_gave_f47 rfl rfl rfl rfl (Nat.le_of_ble_eq_true rfl) rfl dX6_gave_2 ?_
  refine hg_iload_n C dX6_gave_5 rfl 1 rfl ?_
  refine hg_i2l C dX6_gave_6 ?_
  refine hg_lconst C (v := 0) dX6_gave_7 rfl ?_
  refine hg_ldc2 C mmX6_gave_k159 dX6_gave_8 ?_
  refine hg_callS C (ws' := [(mm, .inr (6, [.int 0, .ref m1, .int ts, .int pc, .int pe, .int tu, .ref m6, .ref m7, .int rp, .int rt, .ref ma, .ref mb, .ref mc, .ref md, .ref me, .int ac, .ref mg, .ref mh, .int sn, .ref mj, .ref mk, .long sd, .int sl])), (mc, .inl (E.2.1.1, 21, .inl pg)), (mj, .inl (E.2.1.1, 6, .inl sw)), (mk, .inl (E.2.1.2.1, 6, .inl sgv))]) (rest := []) (kX6_in l E a.toInt64 0 99) hfX6_in gX6_gave_X6_in ⟨Nat.le_of_ble_eq_true rfl, Nat.le_of_ble_eq_true rfl⟩ ⟨Nat.zero_le _, Nat.zero_le _⟩ [] rfl (by decide) [] rfl rfl rfl rfl (Nat.le_of_ble_eq_true rfl) dX6_gave_11 ?_
  refine hg_if_eq C (tgt := 27) dX6_gave_14 (by decide) (fun c1 => ?_) (fun c1 => ?_)
  · refine hg_bipush C (v := (-2)) dX6_gave_27 (by decide) ?_
    have e9 : (fX6_gave pe sn pg sw sgv a b) = (-2) := (hid_eq _).trans ((if_pos c1).trans rfl)
    rw [e9]
    exact hg_iret C dX6_gave_29 rfl rfl
  · refine hg_iload_n C dX6_gave_17 rfl 2 rfl ?_
    refine hg_i2l C dX6_gave_18 ?_
    refine hg_lconst C (v := 0) dX6_gave_19 rfl ?_
    refine hg_lconst C (v := 1) dX6_gave_20 rfl ?_
    refine hg_callS C (ws' := [(mm, .inr (6, [.int 0, .ref m1, .int ts, .int pc, .int pe, .int tu, .ref m6, .ref m7, .int rp, .int rt, .ref ma, .ref mb, .ref mc, .ref md, .ref me, .int ac, .ref mg, .ref mh, .int sn, .ref mj, .ref mk, .long sd, .int sl])), (mc, .inl (E.2.1.1, 21, .inl pg)), (mj, .inl (E.2.1.1, 6, .inl sw)), (mk, .inl (E.2.1.2.1, 6, .inl sgv))]) (rest := []) (kX6_in l E b.toInt64 0 1) hfX6_in gX6_gave_X6_in ⟨Nat.le_of_ble_eq_true rfl, Nat.le_of_ble_eq_true rfl⟩ ⟨Nat.zero_le _, Nat.zero_le _⟩ [] rfl (by decide) [] rfl rfl rfl rfl (Nat.le_of_ble_eq_true rfl) dX6_gave_21 ?_
    refine hg_if_ne C (tgt := 30) dX6_gave_24 (by decide) (fun c2 => ?_) (fun c2 => ?_)
    · refine hg_iconst C (v := 0) dX6_gave_30 (by decide) ?_
      refine hg_istore_n C (lv' := [(3, .int 0), (0, .ref mm), (1, .int a), (2, .int b)]) dX6_gave_31 rfl (by decide) rfl ?_
      refine hg_iconst C (v := 1) dX6_gave_32 (by decide) ?_
      refine hg_aload_n C dX6_gave_33 rfl 1 rfl ?_
      refine hg_get C (Cn := RX6) (T := TX6) (N := 23) (v := .int pe) mrX6_gave_6 0 rfl rfl 4 (by decide) mmX6_gave_f51 rfl dX6_gave_34 ?_
      refine hg_ishl C dX6_gave_37 ?_
      refine hg_iconst C (v := 1) dX6_gave_38 (by decide) ?_
      refine hg_isub C dX6_gave_39 ?_
      refine hg_istore C (lv' := [(4, .int ((1 <<< (pe &&& 31)) - 1)), (3, .int 0), (0, .ref mm), (1, .int a), (2, .int b)]) dX6_gave_40 (by decide) rfl ?_
      refine hg_iconst C (v := 0) dX6_gave_42 (by decide) ?_
      refine hg_istore C (lv' := [(5, .int 0), (4, .int ((1 <<< (pe &&& 31)) - 1)), (3, .int 0), (0, .ref mm), (1, .int a), (2, .int b)]) dX6_gave_43 (by decide) rfl ?_
      refine hg_sub [3, 4, 5, 2, 1, 0] rfl ?_
      refine lpX6_gave_45 C mm m1 m6 m7 ma mb mc md me mg mh mj mk ts pc pe tu rp rt ac sn sd sl pg sw sgv a b hp7 hs7 (0, (1 <<< (pe &&& 31)) - 1) ?_ (((1 : Int32) <<< (pe &&& 31)).toNatClampNeg) 0 (0, (1 <<< (pe &&& 31)) - 1) (by omega) rfl
      refine hg_iload_n C dX6_gave_175 rfl 0 rfl ?_
      refine hg_join (J := 194) (v := if b = 0 then ((itN (stX6_gave_45 pe sn pg sw sgv a) (((1 : Int32) <<< (pe &&& 31)).toNatClampNeg) (0, (1 <<< (pe &&& 31)) - 1)).1) else (if ((itN (stX6_gave_45 pe sn pg sw sgv a) (((1 : Int32) <<< (pe &&& 31)).toNatClampNeg) (0, (1 <<< (pe &&& 31)) - 1)).1) = 0 then ((-9) : Int32) else ((itN (stX6_gave_45 pe sn pg sw sgv a) (((1 : Int32) <<< (pe &&& 31)).toNatClampNeg) (0, (1 <<< (pe &&& 31)) - 1)).2))) (st1 := []) (fun jj => ?_) ?_
      · refine hg_if_ne C (tgt := 183) dX6_gave_176 (by decide) (fun c17 => ?_) (fun c17 => ?_)
        · refine hg_iload_n C dX6_gave_183 rfl 1 rfl ?_
          refine hg_join (J := 194) (v := if ((itN (stX6_gave_45 pe sn pg sw sgv a) (((1 : Int32) <<< (pe &&& 31)).toNatClampNeg) (0, (1 <<< (pe &&& 31)) - 1)).1) = 0 then ((-9) : Int32) else ((itN (stX6_gave_45 pe sn pg sw sgv a) (((1 : Int32) <<< (pe &&& 31)).toNatClampNeg) (0, (1 <<< (pe &&& 31)) - 1)).2)) (st1 := []) (fun jj => ?_) ?_
          · refine hg_if_ne C (tgt := 192) dX6_gave_184 (by decide) (fun c18 => ?_) (fun c18 => ?_)
            · refine hg_iload C dX6_gave_192 2 rfl ?_
              exact hg_top (v := if ((itN (stX6_gave_45 pe sn pg sw sgv a) (((1 : Int32) <<< (pe &&& 31)).toNatClampNeg) (0, (1 <<< (pe &&& 31)) - 1)).1) = 0 then ((-9) : Int32) else ((itN (stX6_gave_45 pe sn pg sw sgv a) (((1 : Int32) <<< (pe &&& 31)).toNatClampNeg) (0, (1 <<< (pe &&& 31)) - 1)).2)) (v' := (itN (stX6_gave_45 pe sn pg sw sgv a) (((1 : Int32) <<< (pe &&& 31)).toNatClampNeg) (0, (1 <<< (pe &&& 31)) - 1)).2) ((if_neg c18).trans rfl) jj
            · refine hg_bipush C (v := (-9)) dX6_gave_187 (by decide) ?_
              refine hg_goto C (tgt := 194) dX6_gave_189 (by decide) ?_
              exact hg_top (v := if ((itN (stX6_gave_45 pe sn pg sw sgv a) (((1 : Int32) <<< (pe &&& 31)).toNatClampNeg) (0, (1 <<< (pe &&& 31)) - 1)).1) = 0 then ((-9) : Int32) else ((itN (stX6_gave_45 pe sn pg sw sgv a) (((1 : Int32) <<< (pe &&& 31)).toNatClampNeg) (0, (1 <<< (pe &&& 31)) - 1)).2)) (v' := (-9)) ((if_pos c18).trans rfl) jj
          exact hg_top (v := if b = 0 then ((itN (stX6_gave_45 pe sn pg sw sgv a) (((1 : Int32) <<< (pe &&& 31)).toNatClampNeg) (0, (1 <<< (pe &&& 31)) - 1)).1) else (if ((itN (stX6_gave_45 pe sn pg sw sgv a) (((1 : Int32) <<< (pe &&& 31)).toNatClampNeg) (0, (1 <<< (pe &&& 31)) - 1)).1) = 0 then ((-9) : Int32) else ((itN (stX6_gave_45 pe sn pg sw sgv a) (((1 : Int32) <<< (pe &&& 31)).toNatClampNeg) (0, (1 <<< (pe &&& 31)) - 1)).2))) (v' := if ((itN (stX6_gave_45 pe sn pg sw sgv a) (((1 : Int32) <<< (pe &&& 31)).toNatClampNeg) (0, (1 <<< (pe &&& 31)) - 1)).1) = 0 then ((-9) : Int32) else ((itN (stX6_gave_45 pe sn pg sw sgv a) (((1 : Int32) <<< (pe &&& 31)).toNatClampNeg) (0, (1 <<< (pe &&& 31)) - 1)).2)) ((if_neg c17).trans rfl) jj
        · refine hg_iload_n C dX6_gave_179 rfl 1 rfl ?_
          refine hg_goto C (tgt := 194) dX6_gave_180 (by decide) ?_
          exact hg_top (v := if b = 0 then ((itN (stX6_gave_45 pe sn pg sw sgv a) (((1 : Int32) <<< (pe &&& 31)).toNatClampNeg) (0, (1 <<< (pe &&& 31)) - 1)).1) else (if ((itN (stX6_gave_45 pe sn pg sw sgv a) (((1 : Int32) <<< (pe &&& 31)).toNatClampNeg) (0, (1 <<< (pe &&& 31)) - 1)).1) = 0 then ((-9) : Int32) else ((itN (stX6_gave_45 pe sn pg sw sgv a) (((1 : Int32) <<< (pe &&& 31)).toNatClampNeg) (0, (1 <<< (pe &&& 31)) - 1)).2))) (v' := (itN (stX6_gave_45 pe sn pg sw sgv a) (((1 : Int32) <<< (pe &&& 31)).toNatClampNeg) (0, (1 <<< (pe &&& 31)) - 1)).1) ((if_pos c17).trans rfl) jj
      have e9 : (fX6_gave pe sn pg sw sgv a b) = if b = 0 then ((itN (stX6_gave_45 pe sn pg sw sgv a) (((1 : Int32) <<< (pe &&& 31)).toNatClampNeg) (0, (1 <<< (pe &&& 31)) - 1)).1) else (if ((itN (stX6_gave_45 pe sn pg sw sgv a) (((1 : Int32) <<< (pe &&& 31)).toNatClampNeg) (0, (1 <<< (pe &&& 31)) - 1)).1) = 0 then ((-9) : Int32) else ((itN (stX6_gave_45 pe sn pg sw sgv a) (((1 : Int32) <<< (pe &&& 31)).toNatClampNeg) (0, (1 <<< (pe &&& 31)) - 1)).2)) := (hid_eq _).trans ((if_neg c1).trans ((if_neg c2).trans rfl))
      rw [e9]
      exact hg_iret C dX6_gave_194 rfl rfl
    · refine hg_bipush C (v := (-2)) dX6_gave_27 (by decide) ?_
      have e9 : (fX6_gave pe sn pg sw sgv a b) = (-2) := (hid_eq _).trans ((if_neg c1).trans ((if_pos c2).trans rfl))
      rw [e9]
      exact hg_iret C dX6_gave_29 rfl rfl
theorem mmX6_see_f47 : (Cond.fieldLink RX6 47 "HatRoundModel" "thrown" "I") ∈ wsX6_see := (List.mem_cons_of_mem _ (List.mem_append_left _ (List.mem_of_getElem? (i := 0) rfl)))
theorem mrX6_see_6 : ∀ w ∈ u_ws RX6 TX6 23, w ∈ wsX6_see := fun _ h => (List.mem_cons_of_mem _ (List.mem_append_right _ h))
theorem mmX6_see_f100 : (Cond.fieldLink RX6 100 "HatRoundModel" "seen" "I") ∈ wsX6_see := (List.mem_cons_of_mem _ (List.mem_append_left _ (List.mem_of_getElem? (i := 1) rfl)))
theorem mmX6_see_f41 : (Cond.fieldLink RX6 41 "HatRoundModel" "seenWho" "[I") ∈ wsX6_see := (List.mem_cons_of_mem _ (List.mem_append_left _ (List.mem_of_getElem? (i := 2) rfl)))
theorem mmX6_see_f44 : (Cond.fieldLink RX6 44 "HatRoundModel" "seenGives" "[Z") ∈ wsX6_see := (List.mem_cons_of_mem _ (List.mem_append_left _ (List.mem_of_getElem? (i := 3) rfl)))
abbrev rmX6_see : Room := { frames := 2, cells := 0, slots := 0, locals := 46 }
theorem hfX6_see : hCF yX6_see wsX6_see rmX6_see cX6_see 3 (some .int) 2 := ⟨⟨_, rfl⟩, by decide +kernel, rfl, rfl⟩
noncomputable def fX6_see (pe : Int32) (sn : Int32) (sw : Nat → Int32) (sgv : Nat → Int32) (a : Int32) (b : Int32) : Int32 × Int32 × (Nat → Int32) × (Nat → Int32) := hid (if (fX6_noOne pe a) = 0 then (if sn = 6 then ((-4), sn, sw, sgv) else (sn + 1, sn + 1, upd sw sn.toNatClampNeg a, upd sgv sn.toNatClampNeg (vp_nar .boolean b))) else ((-1), sn, sw, sgv))
set_option maxHeartbeats 4000000 in
set_option maxRecDepth 100000 in
theorem kX6_see (l : Launch) (E : hE) (mm : Nat) (m1 : Nat) (m6 : Nat) (m7 : Nat) (ma : Nat) (mb : Nat) (mc : Nat) (md : Nat) (me : Nat) (mg : Nat) (mh : Nat) (mj : Nat) (mk : Nat) (ts : Int32) (pc : Int32) (pe : Int32) (tu : Int32) (rp : Int32) (rt : Int32) (ac : Int32) (sn : Int32) (sd : Int64) (sl : Int32) (sw : Nat → Int32) (sgv : Nat → Int32) (a : Int32) (b : Int32) (hs7 : vp_in sn 7) : hC l yX6_see wsX6_see rmX6_see E [.ref mm, .int a, .int b] [(mm, .inr (6, [.int 0, .ref m1, .int ts, .int pc, .int pe, .int tu, .ref m6, .ref m7, .int rp, .int rt, .ref ma, .ref mb, .ref mc, .ref md, .ref me, .int ac, .ref mg, .ref mh, .int sn, .ref mj, .ref mk, .long sd, .int sl])), (mj, .inl (E.2.1.1, 6, .inl sw)), (mk, .inl (E.2.1.2.1, 6, .inl sgv))] (some (.int ((fX6_see pe sn sw sgv a b).1))) [(mm, .inr (6, [.int 0, .ref m1, .int ts, .int pc, .int pe, .int tu, .ref m6, .ref m7, .int rp, .int rt, .ref ma, .ref mb, .ref mc, .ref md, .ref me, .int ac, .ref mg, .ref mh, .int ((fX6_see pe sn sw sgv a b).2.1), .ref mj, .ref mk, .long sd, .int sl])), (mj, .inl (E.2.1.1, 6, .inl ((fX6_see pe sn sw sgv a b).2.2.1))), (mk, .inl (E.2.1.2.1, 6, .inl ((fX6_see pe sn sw sgv a b).2.2.2)))] := by
  refine hC_intro (cc := cX6_see) (maxL := 3) (ret := (some .int)) (lv0 := [(0, .ref mm), (1, .int a), (2, .int b)]) (by decide) rfl (Nat.le_of_ble_eq_true rfl) rfl ?_
  intro p e s m below meth c A C
  refine hg_aload_n C dX6_see_0 rfl 0 rfl ?_
  refine hg_iconst C (v := 0) dX6_see_1 (by decide) ?_
  refine hg_put C (Cn := RX6) (T := TX6) (N := 23) (ws' := [(mm, .inr (6, [.int 0, .ref m1, .int ts, .int pc, .int pe, .int tu, .ref m6, .ref m7, .int rp, .int rt, .ref ma, .ref mb, .ref mc, .ref md, .ref me, .int ac, .ref mg, .ref mh, .int sn, .ref mj, .ref mk, .long sd, .int sl])), (mj, .inl (E.2.1.1, 6, .inl sw)), (mk, .inl (E.2.1.2.1, 6, .inl sgv))]) mrX6_see_6 tyX6 tyX6_ok nmX6 0 rfl rfl 0 (by decide) mmX6_see_f47 rfl rfl rfl rfl (Nat.le_of_ble_eq_true rfl) rfl dX6_see_2 ?_
  refine hg_aload_n C dX6_see_5 rfl 0 rfl ?_
  refine hg_iload_n C dX6_see_6 rfl 1 rfl ?_
  refine hg_callV C (ws' := [(mm, .inr (6, [.int 0, .ref m1, .int ts, .int pc, .int pe, .int tu, .ref m6, .ref m7, .int rp, .int rt, .ref ma, .ref mb, .ref mc, .ref md, .ref me, .int ac, .ref mg, .ref mh, .int sn, .ref mj, .ref mk, .long sd, .int sl])), (mj, .inl (E.2.1.1, 6, .inl sw)), (mk, .inl (E.2.1.2.1, 6, .inl sgv))]) (rest := []) (kX6_noOne l E mm m1 m6 m7 ma mb mc md me mg mh mj mk ts pc pe tu rp rt ac sn sd sl a) hfX6_noOne gX6_see_X6_noOne ⟨Nat.le_of_ble_eq_true rfl, Nat.le_of_ble_eq_true rfl⟩ ⟨Nat.zero_le _, Nat.zero_le _⟩ [0] rfl (by decide) [mm] rfl rfl rfl 0 rfl rfl rfl rfl (Nat.le_of_ble_eq_true rfl) dX6_see_7 ?_
  refine hg_if_eq C (tgt := 15) dX6_see_10 (by decide) (fun c1 => ?_) (fun c1 => ?_)
  · refine hg_aload_n C dX6_see_15 rfl 0 rfl ?_
    refine hg_get C (Cn := RX6) (T := TX6) (N := 23) (v := .int sn) mrX6_see_6 0 rfl rfl 18 (by decide) mmX6_see_f100 rfl dX6_see_16 ?_
    refine hg_bipush C (v := 6) dX6_see_19 (by decide) ?_
    refine hg_icmp_ne C (tgt := 27) dX6_see_21 (by decide) (fun c2 => ?_) (fun c2 => ?_)
    · refine hg_aload_n C dX6_see_27 rfl 0 rfl ?_
      refine hg_get C (Cn := RX6) (T := TX6) (N := 23) (v := .ref mj) mrX6_see_6 0 rfl rfl 19 (by decide) mmX6_see_f41 rfl dX6_see_28 ?_
      refine hg_aload_n C dX6_see_31 rfl 0 rfl ?_
      refine hg_get C (Cn := RX6) (T := TX6) (N := 23) (v := .int sn) mrX6_see_6 0 rfl rfl 18 (by decide) mmX6_see_f100 rfl dX6_see_32 ?_
      refine hg_iload_n C dX6_see_35 rfl 1 rfl ?_
      refine hg_iast C (ws' := [(mm, .inr (6, [.int 0, .ref m1, .int ts, .int pc, .int pe, .int tu, .ref m6, .ref m7, .int rp, .int rt, .ref ma, .ref mb, .ref mc, .ref md, .ref me, .int ac, .ref mg, .ref mh, .int sn, .ref mj, .ref mk, .long sd, .int sl])), (mj, .inl (E.2.1.1, 6, .inl (upd sw sn.toNatClampNeg a))), (mk, .inl (E.2.1.2.1, 6, .inl sgv))]) 1 rfl (sn_in hs7 (by assumption)) rfl dX6_see_36 ?_
      refine hg_aload_n C dX6_see_37 rfl 0 rfl ?_
      refine hg_get C (Cn := RX6) (T := TX6) (N := 23) (v := .ref mk) mrX6_see_6 0 rfl rfl 20 (by decide) mmX6_see_f44 rfl dX6_see_38 ?_
      refine hg_aload_n C dX6_see_41 rfl 0 rfl ?_
      refine hg_get C (Cn := RX6) (T := TX6) (N := 23) (v := .int sn) mrX6_see_6 0 rfl rfl 18 (by decide) mmX6_see_f100 rfl dX6_see_42 ?_
      refine hg_iload_n C dX6_see_45 rfl 2 rfl ?_
      refine hg_zast C (ws' := [(mm, .inr (6, [.int 0, .ref m1, .int ts, .int pc, .int pe, .int tu, .ref m6, .ref m7, .int rp, .int rt, .ref ma, .ref mb, .ref mc, .ref md, .ref me, .int ac, .ref mg, .ref mh, .int sn, .ref mj, .ref mk, .long sd, .int sl])), (mj, .inl (E.2.1.1, 6, .inl (upd sw sn.toNatClampNeg a))), (mk, .inl (E.2.1.2.1, 6, .inl (upd sgv sn.toNatClampNeg (vp_nar .boolean b))))]) 2 rfl (sn_in hs7 (by assumption)) rfl dX6_see_46 ?_
      refine hg_aload_n C dX6_see_47 rfl 0 rfl ?_
      refine hg_dup C dX6_see_48 rfl ?_
      refine hg_get C (Cn := RX6) (T := TX6) (N := 23) (v := .int sn) mrX6_see_6 0 rfl rfl 18 (by decide) mmX6_see_f100 rfl dX6_see_49 ?_
      refine hg_iconst C (v := 1) dX6_see_52 (by decide) ?_
      refine hg_iadd C dX6_see_53 ?_
      refine hg_put C (Cn := RX6) (T := TX6) (N := 23) (ws' := [(mm, .inr (6, [.int 0, .ref m1, .int ts, .int pc, .int pe, .int tu, .ref m6, .ref m7, .int rp, .int rt, .ref ma, .ref mb, .ref mc, .ref md, .ref me, .int ac, .ref mg, .ref mh, .int (sn + 1), .ref mj, .ref mk, .long sd, .int sl])), (mj, .inl (E.2.1.1, 6, .inl (upd sw sn.toNatClampNeg a))), (mk, .inl (E.2.1.2.1, 6, .inl (upd sgv sn.toNatClampNeg (vp_nar .boolean b))))]) mrX6_see_6 tyX6 tyX6_ok nmX6 0 rfl rfl 18 (by decide) mmX6_see_f100 rfl rfl rfl rfl (Nat.le_of_ble_eq_true rfl) rfl dX6_see_54 ?_
      refine hg_aload_n C dX6_see_57 rfl 0 rfl ?_
      refine hg_get C (Cn := RX6) (T := TX6) (N := 23) (v := .int (sn + 1)) mrX6_see_6 0 rfl rfl 18 (by decide) mmX6_see_f100 rfl dX6_see_58 ?_
      have e9 : (fX6_see pe sn sw sgv a b) = (sn + 1, sn + 1, upd sw sn.toNatClampNeg a, upd sgv sn.toNatClampNeg (vp_nar .boolean b)) := (hid_eq _).trans ((if_pos c1).trans ((if_neg c2).trans rfl))
      rw [e9]
      exact hg_iret C dX6_see_61 rfl rfl
    · refine hg_bipush C (v := (-4)) dX6_see_24 (by decide) ?_
      have e9 : (fX6_see pe sn sw sgv a b) = ((-4), sn, sw, sgv) := (hid_eq _).trans ((if_pos c1).trans ((if_pos c2).trans rfl))
      rw [e9]
      exact hg_iret C dX6_see_26 rfl rfl
  · refine hg_iconst C (v := (-1)) dX6_see_13 (by decide) ?_
    have e9 : (fX6_see pe sn sw sgv a b) = ((-1), sn, sw, sgv) := (hid_eq _).trans ((if_neg c1).trans rfl)
    rw [e9]
    exact hg_iret C dX6_see_14 rfl rfl
theorem mmX6_unsee_f47 : (Cond.fieldLink RX6 47 "HatRoundModel" "thrown" "I") ∈ wsX6_unsee := (List.mem_cons_of_mem _ (List.mem_append_left _ (List.mem_of_getElem? (i := 0) rfl)))
theorem mrX6_unsee_6 : ∀ w ∈ u_ws RX6 TX6 23, w ∈ wsX6_unsee := fun _ h => (List.mem_cons_of_mem _ (List.mem_append_right _ h))
theorem mmX6_unsee_f100 : (Cond.fieldLink RX6 100 "HatRoundModel" "seen" "I") ∈ wsX6_unsee := (List.mem_cons_of_mem _ (List.mem_append_left _ (List.mem_of_getElem? (i := 1) rfl)))
abbrev rmX6_unsee : Room := { frames := 0, cells := 0, slots := 0, locals := 0 }
theorem hfX6_unsee : hCF yX6_unsee wsX6_unsee rmX6_unsee cX6_unsee 2 (some .int) 0 := ⟨⟨_, rfl⟩, by decide +kernel, rfl, rfl⟩
noncomputable def fX6_unsee (sn : Int32) : Int32 × Int32 := hid ((sn, 0))
set_option maxHeartbeats 4000000 in
set_option maxRecDepth 100000 in
theorem kX6_unsee (l : Launch) (E : hE) (mm : Nat) (m1 : Nat) (m6 : Nat) (m7 : Nat) (ma : Nat) (mb : Nat) (mc : Nat) (md : Nat) (me : Nat) (mg : Nat) (mh : Nat) (mj : Nat) (mk : Nat) (ts : Int32) (pc : Int32) (pe : Int32) (tu : Int32) (rp : Int32) (rt : Int32) (ac : Int32) (sn : Int32) (sd : Int64) (sl : Int32) : hC l yX6_unsee wsX6_unsee rmX6_unsee E [.ref mm] [(mm, .inr (6, [.int 0, .ref m1, .int ts, .int pc, .int pe, .int tu, .ref m6, .ref m7, .int rp, .int rt, .ref ma, .ref mb, .ref mc, .ref md, .ref me, .int ac, .ref mg, .ref mh, .int sn, .ref mj, .ref mk, .long sd, .int sl]))] (some (.int ((fX6_unsee sn).1))) [(mm, .inr (6, [.int 0, .ref m1, .int ts, .int pc, .int pe, .int tu, .ref m6, .ref m7, .int rp, .int rt, .ref ma, .ref mb, .ref mc, .ref md, .ref me, .int ac, .ref mg, .ref mh, .int ((fX6_unsee sn).2), .ref mj, .ref mk, .long sd, .int sl]))] := by
  refine hC_intro (cc := cX6_unsee) (maxL := 2) (ret := (some .int)) (lv0 := [(0, .ref mm)]) (by decide) rfl (Nat.le_of_ble_eq_true rfl) rfl ?_
  intro p e s m below meth c A C
  refine hg_aload_n C dX6_unsee_0 rfl 0 rfl ?_
  refine hg_iconst C (v := 0) dX6_unsee_1 (by decide) ?_
  refine hg_put C (Cn := RX6) (T := TX6) (N := 23) (ws' := [(mm, .inr (6, [.int 0, .ref m1, .int ts, .int pc, .int pe, .int tu, .ref m6, .ref m7, .int rp, .int rt, .ref ma, .ref mb, .ref mc, .ref md, .ref me, .int ac, .ref mg, .ref mh, .int sn, .ref mj, .ref mk, .long sd, .int sl]))]) mrX6_unsee_6 tyX6 tyX6_ok nmX6 0 rfl rfl 0 (by decide) mmX6_unsee_f47 rfl rfl rfl rfl (Nat.le_of_ble_eq_true rfl) rfl dX6_unsee_2 ?_
  refine hg_aload_n C dX6_unsee_5 rfl 0 rfl ?_
  refine hg_get C (Cn := RX6) (T := TX6) (N := 23) (v := .int sn) mrX6_unsee_6 0 rfl rfl 18 (by decide) mmX6_unsee_f100 rfl dX6_unsee_6 ?_
  refine hg_istore_n C (lv' := [(1, .int sn), (0, .ref mm)]) dX6_unsee_9 rfl (by decide) rfl ?_
  refine hg_aload_n C dX6_unsee_10 rfl 1 rfl ?_
  refine hg_iconst C (v := 0) dX6_unsee_11 (by decide) ?_
  refine hg_put C (Cn := RX6) (T := TX6) (N := 23) (ws' := [(mm, .inr (6, [.int 0, .ref m1, .int ts, .int pc, .int pe, .int tu, .ref m6, .ref m7, .int rp, .int rt, .ref ma, .ref mb, .ref mc, .ref md, .ref me, .int ac, .ref mg, .ref mh, .int 0, .ref mj, .ref mk, .long sd, .int sl]))]) mrX6_unsee_6 tyX6 tyX6_ok nmX6 0 rfl rfl 18 (by decide) mmX6_unsee_f100 rfl rfl rfl rfl (Nat.le_of_ble_eq_true rfl) rfl dX6_unsee_12 ?_
  refine hg_iload_n C dX6_unsee_15 rfl 0 rfl ?_
  have e9 : (fX6_unsee sn) = (sn, 0) := hid_eq _
  rw [e9]
  exact hg_iret C dX6_unsee_16 rfl rfl
theorem mmX6_seed_f47 : (Cond.fieldLink RX6 47 "HatRoundModel" "thrown" "I") ∈ wsX6_seed := (List.mem_cons_of_mem _ (List.mem_append_left _ (List.mem_of_getElem? (i := 0) rfl)))
theorem mrX6_seed_6 : ∀ w ∈ u_ws RX6 TX6 23, w ∈ wsX6_seed := fun _ h => (List.mem_cons_of_mem _ (List.mem_append_right _ h))
theorem mmX6_seed_f169 : (Cond.fieldLink RX6 169 "HatRoundModel" "seed" "J") ∈ wsX6_seed := (List.mem_cons_of_mem _ (List.mem_append_left _ (List.mem_of_getElem? (i := 1) rfl)))
abbrev rmX6_seed : Room := { frames := 0, cells := 0, slots := 0, locals := 0 }
theorem hfX6_seed : hCF yX6_seed wsX6_seed rmX6_seed cX6_seed 5 (some .long) 1 := ⟨⟨_, rfl⟩, by decide +kernel, rfl, rfl⟩
noncomputable def fX6_seed (sd : Int64) (v : Int64) : Int64 × Int64 := hid ((sd, v))
set_option maxHeartbeats 4000000 in
set_option maxRecDepth 100000 in
theorem kX6_seed (l : Launch) (E : hE) (mm : Nat) (m1 : Nat) (m6 : Nat) (m7 : Nat) (ma : Nat) (mb : Nat) (mc : Nat) (md : Nat) (me : Nat) (mg : Nat) (mh : Nat) (mj : Nat) (mk : Nat) (ts : Int32) (pc : Int32) (pe : Int32) (tu : Int32) (rp : Int32) (rt : Int32) (ac : Int32) (sn : Int32) (sd : Int64) (sl : Int32) (v : Int64) : hC l yX6_seed wsX6_seed rmX6_seed E [.ref mm, .long v] [(mm, .inr (6, [.int 0, .ref m1, .int ts, .int pc, .int pe, .int tu, .ref m6, .ref m7, .int rp, .int rt, .ref ma, .ref mb, .ref mc, .ref md, .ref me, .int ac, .ref mg, .ref mh, .int sn, .ref mj, .ref mk, .long sd, .int sl]))] (some (.long ((fX6_seed sd v).1))) [(mm, .inr (6, [.int 0, .ref m1, .int ts, .int pc, .int pe, .int tu, .ref m6, .ref m7, .int rp, .int rt, .ref ma, .ref mb, .ref mc, .ref md, .ref me, .int ac, .ref mg, .ref mh, .int sn, .ref mj, .ref mk, .long ((fX6_seed sd v).2), .int sl]))] := by
  refine hC_intro (cc := cX6_seed) (maxL := 5) (ret := (some .long)) (lv0 := [(0, .ref mm), (1, .long v)]) (by decide) rfl (Nat.le_of_ble_eq_true rfl) rfl ?_
  intro p e s m below meth c A C
  refine hg_aload_n C dX6_seed_0 rfl 0 rfl ?_
  refine hg_iconst C (v := 0) dX6_seed_1 (by decide) ?_
  refine hg_put C (Cn := RX6) (T := TX6) (N := 23) (ws' := [(mm, .inr (6, [.int 0, .ref m1, .int ts, .int pc, .int pe, .int tu, .ref m6, .ref m7, .int rp, .int rt, .ref ma, .ref mb, .ref mc, .ref md, .ref me, .int ac, .ref mg, .ref mh, .int sn, .ref mj, .ref mk, .long sd, .int sl]))]) mrX6_seed_6 tyX6 tyX6_ok nmX6 0 rfl rfl 0 (by decide) mmX6_seed_f47 rfl rfl rfl rfl (Nat.le_of_ble_eq_true rfl) rfl dX6_seed_2 ?_
  refine hg_aload_n C dX6_seed_5 rfl 0 rfl ?_
  refine hg_get C (Cn := RX6) (T := TX6) (N := 23) (v := .long sd) mrX6_seed_6 0 rfl rfl 21 (by decide) mmX6_seed_f169 rfl dX6_seed_6 ?_
  refine hg_lstore_n C (lv' := [(3, .long sd), (0, .ref mm), (1, .long v)]) dX6_seed_9 rfl (by decide) rfl ?_
  refine hg_aload_n C dX6_seed_10 rfl 1 rfl ?_
  refine hg_lload_n C dX6_seed_11 rfl 2 rfl ?_
  refine hg_put C (Cn := RX6) (T := TX6) (N := 23) (ws' := [(mm, .inr (6, [.int 0, .ref m1, .int ts, .int pc, .int pe, .int tu, .ref m6, .ref m7, .int rp, .int rt, .ref ma, .ref mb, .ref mc, .ref md, .ref me, .int ac, .ref mg, .ref mh, .int sn, .ref mj, .ref mk, .long v, .int sl]))]) mrX6_seed_6 tyX6 tyX6_ok nmX6 0 rfl rfl 21 (by decide) mmX6_seed_f169 rfl rfl rfl rfl (Nat.le_of_ble_eq_true rfl) rfl dX6_seed_12 ?_
  refine hg_lload_n C dX6_seed_15 rfl 0 rfl ?_
  have e9 : (fX6_seed sd v) = (sd, v) := hid_eq _
  rw [e9]
  exact hg_lret C dX6_seed_16 rfl rfl
theorem mmX6_keep_f47 : (Cond.fieldLink RX6 47 "HatRoundModel" "thrown" "I") ∈ wsX6_keep := (List.mem_cons_of_mem _ (List.mem_append_left _ (List.mem_of_getElem? (i := 0) rfl)))
theorem mrX6_keep_6 : ∀ w ∈ u_ws RX6 TX6 23, w ∈ wsX6_keep := fun _ h => (List.mem_cons_of_mem _ (List.mem_append_right _ h))
theorem mmX6_keep_f37 : (Cond.fieldLink RX6 37 "HatRoundModel" "isKept" "[Z") ∈ wsX6_keep := (List.mem_cons_of_mem _ (List.mem_append_left _ (List.mem_of_getElem? (i := 1) rfl)))
theorem mmX6_keep_f34 : (Cond.fieldLink RX6 34 "HatRoundModel" "kept" "[I") ∈ wsX6_keep := (List.mem_cons_of_mem _ (List.mem_append_left _ (List.mem_of_getElem? (i := 2) rfl)))
theorem mmX6_keep_f25 : (Cond.fieldLink RX6 25 "HatRoundModel" "page" "[I") ∈ wsX6_keep := (List.mem_cons_of_mem _ (List.mem_append_left _ (List.mem_of_getElem? (i := 3) rfl)))
abbrev rmX6_keep : Room := { frames := 1, cells := 0, slots := 0, locals := 25 }
theorem hfX6_keep : hCF yX6_keep wsX6_keep rmX6_keep cX6_keep 3 (some .int) 1 := ⟨⟨_, rfl⟩, by decide +kernel, rfl, rfl⟩
noncomputable def stX6_keep_26 (pg : Nat → Int32) (a : Int32) (i : Nat) (σ : (Nat → Int32)) : (Nat → Int32) := hid (upd σ ((21 * a) + (nI i)).toNatClampNeg (pg (nI i).toNatClampNeg))
set_option maxHeartbeats 4000000 in
set_option maxRecDepth 100000 in
theorem lpX6_keep_26 {p : Program} {l : Launch} {e : Env} {s : State} {m : MethodId} {args : Array Value} {below : List Frame} {meth : Method} {c : Code} {E : hE} {A : Nat → Prop} {Q : State → Prop} (C : hX p s m args meth c E A cX6_keep 3 RX6 wsX6_keep (some .int)) (mm : Nat) (m1 : Nat) (m6 : Nat) (m7 : Nat) (ma : Nat) (mb : Nat) (mc : Nat) (md : Nat) (me : Nat) (mg : Nat) (mh : Nat) (mj : Nat) (mk : Nat) (ts : Int32) (pc : Int32) (pe : Int32) (tu : Int32) (rp : Int32) (rt : Int32) (ac : Int32) (sn : Int32) (sd : Int64) (sl : Int32) (pg : Nat → Int32) (kp : Nat → Int32) (ik : Nat → Int32) (a : Int32) (v3 : Nat → Int32) (hn : ¬ fX6_in a.toInt64 0 1 = 0) (σ0 : (Nat → Int32)) (k : hG p l e rmX6_keep s m args below meth c E A 3 Q 0 0 55 [(0, .ref mm)] [] [(mm, .inr (6, [.int 0, .ref m1, .int ts, .int pc, .int pe, .int tu, .ref m6, .ref m7, .int rp, .int rt, .ref ma, .ref mb, .ref mc, .ref md, .ref me, .int ac, .ref mg, .ref mh, .int sn, .ref mj, .ref mk, .long sd, .int sl])), (mc, .inl (E.2.1.1, 21, .inl pg)), (mg, .inl (E.2.1.1, 42, .inl (itN (stX6_keep_26 pg a) 21 σ0))), (mh, .inl (E.2.1.2.1, 2, .inl v3))]) : ∀ (n i : Nat) (σ : (Nat → Int32)), i + n = 21 → σ = itN (stX6_keep_26 pg a) i σ0 → hG p l e rmX6_keep s m args below meth c E A 3 Q 0 0 26 [(0, .ref mm), (1, .int a), (2, .int (nI i))] [] [(mm, .inr (6, [.int 0, .ref m1, .int ts, .int pc, .int pe, .int tu, .ref m6, .ref m7, .int rp, .int rt, .ref ma, .ref mb, .ref mc, .ref md, .ref me, .int ac, .ref mg, .ref mh, .int sn, .ref mj, .ref mk, .long sd, .int sl])), (mc, .inl (E.2.1.1, 21, .inl pg)), (mg, .inl (E.2.1.1, 42, .inl σ)), (mh, .inl (E.2.1.2.1, 2, .inl v3))] := by
  intro n
  induction n with
  | zero =>
    intro i σ hi hσ
    have hi : i = 21 := by omega
    rw [hi] at hσ
    rw [hi]
    subst hσ
    refine hg_iload_n C dX6_keep_26 rfl 2 rfl ?_
    refine hg_bipush C (v := 21) dX6_keep_27 (by decide) ?_
    refine hg_icmp_ge C (tgt := 55) dX6_keep_29 (by decide) (fun _ => ?_) (fun h => absurd (by decide) h)
    exact hg_sub [0] rfl k
  | succ n ih =>
    intro i σ hi hσ
    have hlt : i < 21 := by omega
    refine hg_iload_n C dX6_keep_26 rfl 2 rfl ?_
    refine hg_bipush C (v := 21) dX6_keep_27 (by decide) ?_
    refine hg_icmp_ge C (tgt := 55) dX6_keep_29 (by decide) (fun h => absurd h (nI_ge hlt (by decide))) (fun _ => ?_)
    refine hg_aload_n C dX6_keep_32 rfl 0 rfl ?_
    refine hg_get C (Cn := RX6) (T := TX6) (N := 23) (v := .ref mg) mrX6_keep_6 0 rfl rfl 16 (by decide) mmX6_keep_f34 rfl dX6_keep_33 ?_
    refine hg_bipush C (v := 21) dX6_keep_36 (by decide) ?_
    refine hg_iload_n C dX6_keep_38 rfl 1 rfl ?_
    refine hg_imul C dX6_keep_39 ?_
    refine hg_iload_n C dX6_keep_40 rfl 2 rfl ?_
    refine hg_iadd C dX6_keep_41 ?_
    refine hg_aload_n C dX6_keep_42 rfl 0 rfl ?_
    refine hg_get C (Cn := RX6) (T := TX6) (N := 23) (v := .ref mc) mrX6_keep_6 0 rfl rfl 12 (by decide) mmX6_keep_f25 rfl dX6_keep_43 ?_
    refine hg_iload_n C dX6_keep_46 rfl 2 rfl ?_
    refine hg_iald C 1 rfl (vp_in_nI (by omega) (by decide)) dX6_keep_47 ?_
    refine hg_iast C (ws' := [(mm, .inr (6, [.int 0, .ref m1, .int ts, .int pc, .int pe, .int tu, .ref m6, .ref m7, .int rp, .int rt, .ref ma, .ref mb, .ref mc, .ref md, .ref me, .int ac, .ref mg, .ref mh, .int sn, .ref mj, .ref mk, .long sd, .int sl])), (mc, .inl (E.2.1.1, 21, .inl pg)), (mg, .inl (E.2.1.1, 42, .inl (upd σ ((21 * a) + (nI i)).toNatClampNeg (pg (nI i).toNatClampNeg)))), (mh, .inl (E.2.1.2.1, 2, .inl v3))]) 2 rfl (ix_k2 hn hlt) rfl dX6_keep_48 ?_
    refine hg_iinc C (v := nI (i + 1)) (lv' := [(2, .int (nI (i + 1))), (0, .ref mm), (1, .int a)]) dX6_keep_49 2 rfl (nI_inc _) (by decide) rfl ?_
    refine hg_goto C (tgt := 26) dX6_keep_52 (by decide) ?_
    have e9 : (stX6_keep_26 pg a) i σ = upd σ ((21 * a) + (nI i)).toNatClampNeg (pg (nI i).toNatClampNeg) := hid_eq _
    have h9 := ih (i + 1) (upd σ ((21 * a) + (nI i)).toNatClampNeg (pg (nI i).toNatClampNeg)) (by omega) (e9.symm.trans (congrArg ((stX6_keep_26 pg a) i) hσ))
    exact hg_sub [1, 2, 0] rfl h9
noncomputable def fX6_keep (pg : Nat → Int32) (kp : Nat → Int32) (ik : Nat → Int32) (a : Int32) : Int32 × (Nat → Int32) × (Nat → Int32) := hid (if (fX6_in a.toInt64 0 1) = 0 then ((-1), kp, ik) else (fX6_many (pg (12 : Int32).toNatClampNeg), (itN (stX6_keep_26 pg a) 21 kp), upd ik a.toNatClampNeg (vp_nar .boolean 1)))
set_option maxHeartbeats 4000000 in
set_option maxRecDepth 100000 in
theorem kX6_keep (l : Launch) (E : hE) (mm : Nat) (m1 : Nat) (m6 : Nat) (m7 : Nat) (ma : Nat) (mb : Nat) (mc : Nat) (md : Nat) (me : Nat) (mg : Nat) (mh : Nat) (mj : Nat) (mk : Nat) (ts : Int32) (pc : Int32) (pe : Int32) (tu : Int32) (rp : Int32) (rt : Int32) (ac : Int32) (sn : Int32) (sd : Int64) (sl : Int32) (pg : Nat → Int32) (kp : Nat → Int32) (ik : Nat → Int32) (a : Int32) : hC l yX6_keep wsX6_keep rmX6_keep E [.ref mm, .int a] [(mm, .inr (6, [.int 0, .ref m1, .int ts, .int pc, .int pe, .int tu, .ref m6, .ref m7, .int rp, .int rt, .ref ma, .ref mb, .ref mc, .ref md, .ref me, .int ac, .ref mg, .ref mh, .int sn, .ref mj, .ref mk, .long sd, .int sl])), (mc, .inl (E.2.1.1, 21, .inl pg)), (mg, .inl (E.2.1.1, 42, .inl kp)), (mh, .inl (E.2.1.2.1, 2, .inl ik))] (some (.int ((fX6_keep pg kp ik a).1))) [(mm, .inr (6, [.int 0, .ref m1, .int ts, .int pc, .int pe, .int tu, .ref m6, .ref m7, .int rp, .int rt, .ref ma, .ref mb, .ref mc, .ref md, .ref me, .int ac, .ref mg, .ref mh, .int sn, .ref mj, .ref mk, .long sd, .int sl])), (mc, .inl (E.2.1.1, 21, .inl pg)), (mg, .inl (E.2.1.1, 42, .inl ((fX6_keep pg kp ik a).2.1))), (mh, .inl (E.2.1.2.1, 2, .inl ((fX6_keep pg kp ik a).2.2)))] := by
  refine hC_intro (cc := cX6_keep) (maxL := 3) (ret := (some .int)) (lv0 := [(0, .ref mm), (1, .int a)]) (by decide) rfl (Nat.le_of_ble_eq_true rfl) rfl ?_
  intro p e s m below meth c A C
  refine hg_aload_n C dX6_keep_0 rfl 0 rfl ?_
  refine hg_iconst C (v := 0) dX6_keep_1 (by decide) ?_
  refine hg_put C (Cn := RX6) (T := TX6) (N := 23) (ws' := [(mm, .inr (6, [.int 0, .ref m1, .int ts, .int pc, .int pe, .int tu, .ref m6, .ref m7, .int rp, .int rt, .ref ma, .ref mb, .ref mc, .ref md, .ref me, .int ac, .ref mg, .ref mh, .int sn, .ref mj, .ref mk, .long sd, .int sl])), (mc, .inl (E.2.1.1, 21, .inl pg)), (mg, .inl (E.2.1.1, 42, .inl kp)), (mh, .inl (E.2.1.2.1, 2, .inl ik))]) mrX6_keep_6 tyX6 tyX6_ok nmX6 0 rfl rfl 0 (by decide) mmX6_keep_f47 rfl rfl rfl rfl (Nat.le_of_ble_eq_true rfl) rfl dX6_keep_2 ?_
  refine hg_iload_n C dX6_keep_5 rfl 1 rfl ?_
  refine hg_i2l C dX6_keep_6 ?_
  refine hg_lconst C (v := 0) dX6_keep_7 rfl ?_
  refine hg_lconst C (v := 1) dX6_keep_8 rfl ?_
  refine hg_callS C (ws' := [(mm, .inr (6, [.int 0, .ref m1, .int ts, .int pc, .int pe, .int tu, .ref m6, .ref m7, .int rp, .int rt, .ref ma, .ref mb, .ref mc, .ref md, .ref me, .int ac, .ref mg, .ref mh, .int sn, .ref mj, .ref mk, .long sd, .int sl])), (mc, .inl (E.2.1.1, 21, .inl pg)), (mg, .inl (E.2.1.1, 42, .inl kp)), (mh, .inl (E.2.1.2.1, 2, .inl ik))]) (rest := []) (kX6_in l E a.toInt64 0 1) hfX6_in gX6_keep_X6_in ⟨Nat.le_of_ble_eq_true rfl, Nat.le_of_ble_eq_true rfl⟩ ⟨Nat.zero_le _, Nat.zero_le _⟩ [] rfl (by decide) [] rfl rfl rfl rfl (Nat.le_of_ble_eq_true rfl) dX6_keep_9 ?_
  refine hg_if_ne C (tgt := 17) dX6_keep_12 (by decide) (fun c1 => ?_) (fun c1 => ?_)
  · refine hg_aload_n C dX6_keep_17 rfl 0 rfl ?_
    refine hg_get C (Cn := RX6) (T := TX6) (N := 23) (v := .ref mh) mrX6_keep_6 0 rfl rfl 17 (by decide) mmX6_keep_f37 rfl dX6_keep_18 ?_
    refine hg_iload_n C dX6_keep_21 rfl 1 rfl ?_
    refine hg_iconst C (v := 1) dX6_keep_22 (by decide) ?_
    refine hg_zast C (ws' := [(mm, .inr (6, [.int 0, .ref m1, .int ts, .int pc, .int pe, .int tu, .ref m6, .ref m7, .int rp, .int rt, .ref ma, .ref mb, .ref mc, .ref md, .ref me, .int ac, .ref mg, .ref mh, .int sn, .ref mj, .ref mk, .long sd, .int sl])), (mc, .inl (E.2.1.1, 21, .inl pg)), (mg, .inl (E.2.1.1, 42, .inl kp)), (mh, .inl (E.2.1.2.1, 2, .inl (upd ik a.toNatClampNeg (vp_nar .boolean 1))))]) 3 rfl (vp_01 (by assumption)) rfl dX6_keep_23 ?_
    refine hg_iconst C (v := 0) dX6_keep_24 (by decide) ?_
    refine hg_istore_n C (lv' := [(2, .int 0), (0, .ref mm), (1, .int a)]) dX6_keep_25 rfl (by decide) rfl ?_
    refine hg_sub [1, 2, 0] rfl ?_
    refine lpX6_keep_26 C mm m1 m6 m7 ma mb mc md me mg mh mj mk ts pc pe tu rp rt ac sn sd sl pg kp ik a (upd ik a.toNatClampNeg (vp_nar .boolean 1)) (by assumption) kp ?_ 21 0 kp (by omega) rfl
    refine hg_aload_n C dX6_keep_55 rfl 0 rfl ?_
    refine hg_get C (Cn := RX6) (T := TX6) (N := 23) (v := .ref mc) mrX6_keep_6 0 rfl rfl 12 (by decide) mmX6_keep_f25 rfl dX6_keep_56 ?_
    refine hg_bipush C (v := 12) dX6_keep_59 (by decide) ?_
    refine hg_iald C 1 rfl (by unfold vp_in; decide) dX6_keep_61 ?_
    refine hg_callS C (ws' := [(mm, .inr (6, [.int 0, .ref m1, .int ts, .int pc, .int pe, .int tu, .ref m6, .ref m7, .int rp, .int rt, .ref ma, .ref mb, .ref mc, .ref md, .ref me, .int ac, .ref mg, .ref mh, .int sn, .ref mj, .ref mk, .long sd, .int sl])), (mc, .inl (E.2.1.1, 21, .inl pg)), (mg, .inl (E.2.1.1, 42, .inl (itN (stX6_keep_26 pg a) 21 kp))), (mh, .inl (E.2.1.2.1, 2, .inl (upd ik a.toNatClampNeg (vp_nar .boolean 1))))]) (rest := []) (kX6_many l E (pg (12 : Int32).toNatClampNeg)) hfX6_many gX6_keep_X6_many ⟨Nat.le_of_ble_eq_true rfl, Nat.le_of_ble_eq_true rfl⟩ ⟨Nat.zero_le _, Nat.zero_le _⟩ [] rfl (by decide) [] rfl rfl rfl rfl (Nat.le_of_ble_eq_true rfl) dX6_keep_62 ?_
    have e9 : (fX6_keep pg kp ik a) = (fX6_many (pg (12 : Int32).toNatClampNeg), (itN (stX6_keep_26 pg a) 21 kp), upd ik a.toNatClampNeg (vp_nar .boolean 1)) := (hid_eq _).trans ((if_neg c1).trans rfl)
    rw [e9]
    exact hg_iret C dX6_keep_65 rfl rfl
  · refine hg_iconst C (v := (-1)) dX6_keep_15 (by decide) ?_
    have e9 : (fX6_keep pg kp ik a) = ((-1), kp, ik) := (hid_eq _).trans ((if_pos c1).trans rfl)
    rw [e9]
    exact hg_iret C dX6_keep_16 rfl rfl
theorem mmX6_again_f47 : (Cond.fieldLink RX6 47 "HatRoundModel" "thrown" "I") ∈ wsX6_again := (List.mem_cons_of_mem _ (List.mem_append_left _ (List.mem_of_getElem? (i := 0) rfl)))
theorem mrX6_again_6 : ∀ w ∈ u_ws RX6 TX6 23, w ∈ wsX6_again := fun _ h => (List.mem_cons_of_mem _ (List.mem_append_right _ h))
theorem mmX6_again_f37 : (Cond.fieldLink RX6 37 "HatRoundModel" "isKept" "[Z") ∈ wsX6_again := (List.mem_cons_of_mem _ (List.mem_append_left _ (List.mem_of_getElem? (i := 1) rfl)))
theorem mmX6_again_f25 : (Cond.fieldLink RX6 25 "HatRoundModel" "page" "[I") ∈ wsX6_again := (List.mem_cons_of_mem _ (List.mem_append_left _ (List.mem_of_getElem? (i := 2) rfl)))
theorem mmX6_again_f34 : (Cond.fieldLink RX6 34 "HatRoundModel" "kept" "[I") ∈ wsX6_again := (List.mem_cons_of_mem _ (List.mem_append_left _ (List.mem_of_getElem? (i := 3) rfl)))
theorem mmX6_again_f97 : (Cond.fieldLink RX6 97 "HatRoundModel" "acts" "I") ∈ wsX6_again := (List.mem_cons_of_mem _ (List.mem_append_left _ (List.mem_of_getElem? (i := 4) rfl)))
abbrev rmX6_again : Room := { frames := 1, cells := 0, slots := 0, locals := 25 }
theorem hfX6_again : hCF yX6_again wsX6_again rmX6_again cX6_again 3 (some .int) 1 := ⟨⟨_, rfl⟩, by decide +kernel, rfl, rfl⟩
noncomputable def stX6_again_31 (kp : Nat → Int32) (a : Int32) (i : Nat) (σ : (Nat → Int32)) : (Nat → Int32) := hid (upd σ (nI i).toNatClampNeg (kp ((21 * a) + (nI i)).toNatClampNeg))
set_option maxHeartbeats 4000000 in
set_option maxRecDepth 100000 in
theorem lpX6_again_31 {p : Program} {l : Launch} {e : Env} {s : State} {m : MethodId} {args : Array Value} {below : List Frame} {meth : Method} {c : Code} {E : hE} {A : Nat → Prop} {Q : State → Prop} (C : hX p s m args meth c E A cX6_again 3 RX6 wsX6_again (some .int)) (mm : Nat) (m1 : Nat) (m6 : Nat) (m7 : Nat) (ma : Nat) (mb : Nat) (mc : Nat) (md : Nat) (me : Nat) (mg : Nat) (mh : Nat) (mj : Nat) (mk : Nat) (ts : Int32) (pc : Int32) (pe : Int32) (tu : Int32) (rp : Int32) (rt : Int32) (ac : Int32) (sn : Int32) (sd : Int64) (sl : Int32) (pg : Nat → Int32) (kp : Nat → Int32) (ik : Nat → Int32) (a : Int32) (hn : ¬ fX6_in a.toInt64 0 1 = 0) (σ0 : (Nat → Int32)) (k : hG p l e rmX6_again s m args below meth c E A 3 Q 0 0 60 [(0, .ref mm)] [] [(mm, .inr (6, [.int 0, .ref m1, .int ts, .int pc, .int pe, .int tu, .ref m6, .ref m7, .int rp, .int rt, .ref ma, .ref mb, .ref mc, .ref md, .ref me, .int ac, .ref mg, .ref mh, .int sn, .ref mj, .ref mk, .long sd, .int sl])), (mc, .inl (E.2.1.1, 21, .inl (itN (stX6_again_31 kp a) 21 σ0))), (mg, .inl (E.2.1.1, 42, .inl kp)), (mh, .inl (E.2.1.2.1, 2, .inl ik))]) : ∀ (n i : Nat) (σ : (Nat → Int32)), i + n = 21 → σ = itN (stX6_again_31 kp a) i σ0 → hG p l e rmX6_again s m args below meth c E A 3 Q 0 0 31 [(0, .ref mm), (1, .int a), (2, .int (nI i))] [] [(mm, .inr (6, [.int 0, .ref m1, .int ts, .int pc, .int pe, .int tu, .ref m6, .ref m7, .int rp, .int rt, .ref ma, .ref mb, .ref mc, .ref md, .ref me, .int ac, .ref mg, .ref mh, .int sn, .ref mj, .ref mk, .long sd, .int sl])), (mc, .inl (E.2.1.1, 21, .inl σ)), (mg, .inl (E.2.1.1, 42, .inl kp)), (mh, .inl (E.2.1.2.1, 2, .inl ik))] := by
  intro n
  induction n with
  | zero =>
    intro i σ hi hσ
    have hi : i = 21 := by omega
    rw [hi] at hσ
    rw [hi]
    subst hσ
    refine hg_iload_n C dX6_again_31 rfl 2 rfl ?_
    refine hg_bipush C (v := 21) dX6_again_32 (by decide) ?_
    refine hg_icmp_ge C (tgt := 60) dX6_again_34 (by decide) (fun _ => ?_) (fun h => absurd (by decide) h)
    exact hg_sub [0] rfl k
  | succ n ih =>
    intro i σ hi hσ
    have hlt : i < 21 := by omega
    refine hg_iload_n C dX6_again_31 rfl 2 rfl ?_
    refine hg_bipush C (v := 21) dX6_again_32 (by decide) ?_
    refine hg_icmp_ge C (tgt := 60) dX6_again_34 (by decide) (fun h => absurd h (nI_ge hlt (by decide))) (fun _ => ?_)
    refine hg_aload_n C dX6_again_37 rfl 0 rfl ?_
    refine hg_get C (Cn := RX6) (T := TX6) (N := 23) (v := .ref mc) mrX6_again_6 0 rfl rfl 12 (by decide) mmX6_again_f25 rfl dX6_again_38 ?_
    refine hg_iload_n C dX6_again_41 rfl 2 rfl ?_
    refine hg_aload_n C dX6_again_42 rfl 0 rfl ?_
    refine hg_get C (Cn := RX6) (T := TX6) (N := 23) (v := .ref mg) mrX6_again_6 0 rfl rfl 16 (by decide) mmX6_again_f34 rfl dX6_again_43 ?_
    refine hg_bipush C (v := 21) dX6_again_46 (by decide) ?_
    refine hg_iload_n C dX6_again_48 rfl 1 rfl ?_
    refine hg_imul C dX6_again_49 ?_
    refine hg_iload_n C dX6_again_50 rfl 2 rfl ?_
    refine hg_iadd C dX6_again_51 ?_
    refine hg_iald C 2 rfl (ix_k2 hn hlt) dX6_again_52 ?_
    refine hg_iast C (ws' := [(mm, .inr (6, [.int 0, .ref m1, .int ts, .int pc, .int pe, .int tu, .ref m6, .ref m7, .int rp, .int rt, .ref ma, .ref mb, .ref mc, .ref md, .ref me, .int ac, .ref mg, .ref mh, .int sn, .ref mj, .ref mk, .long sd, .int sl])), (mc, .inl (E.2.1.1, 21, .inl (upd σ (nI i).toNatClampNeg (kp ((21 * a) + (nI i)).toNatClampNeg)))), (mg, .inl (E.2.1.1, 42, .inl kp)), (mh, .inl (E.2.1.2.1, 2, .inl ik))]) 1 rfl (vp_in_nI (by omega) (by decide)) rfl dX6_again_53 ?_
    refine hg_iinc C (v := nI (i + 1)) (lv' := [(2, .int (nI (i + 1))), (0, .ref mm), (1, .int a)]) dX6_again_54 2 rfl (nI_inc _) (by decide) rfl ?_
    refine hg_goto C (tgt := 31) dX6_again_57 (by decide) ?_
    have e9 : (stX6_again_31 kp a) i σ = upd σ (nI i).toNatClampNeg (kp ((21 * a) + (nI i)).toNatClampNeg) := hid_eq _
    have h9 := ih (i + 1) (upd σ (nI i).toNatClampNeg (kp ((21 * a) + (nI i)).toNatClampNeg)) (by omega) (e9.symm.trans (congrArg ((stX6_again_31 kp a) i) hσ))
    exact hg_sub [1, 2, 0] rfl h9
noncomputable def fX6_again (ac : Int32) (pg : Nat → Int32) (kp : Nat → Int32) (ik : Nat → Int32) (a : Int32) : Int32 × Int32 × (Nat → Int32) := hid (if (fX6_in a.toInt64 0 1) = 0 then ((-1), ac, pg) else if (ik a.toNatClampNeg) = 0 then ((-3), ac, pg) else (fX6_many ((itN (stX6_again_31 kp a) 21 pg) (12 : Int32).toNatClampNeg), 0, (itN (stX6_again_31 kp a) 21 pg)))
set_option maxHeartbeats 4000000 in
set_option maxRecDepth 100000 in
theorem kX6_again (l : Launch) (E : hE) (mm : Nat) (m1 : Nat) (m6 : Nat) (m7 : Nat) (ma : Nat) (mb : Nat) (mc : Nat) (md : Nat) (me : Nat) (mg : Nat) (mh : Nat) (mj : Nat) (mk : Nat) (ts : Int32) (pc : Int32) (pe : Int32) (tu : Int32) (rp : Int32) (rt : Int32) (ac : Int32) (sn : Int32) (sd : Int64) (sl : Int32) (pg : Nat → Int32) (kp : Nat → Int32) (ik : Nat → Int32) (a : Int32) : hC l yX6_again wsX6_again rmX6_again E [.ref mm, .int a] [(mm, .inr (6, [.int 0, .ref m1, .int ts, .int pc, .int pe, .int tu, .ref m6, .ref m7, .int rp, .int rt, .ref ma, .ref mb, .ref mc, .ref md, .ref me, .int ac, .ref mg, .ref mh, .int sn, .ref mj, .ref mk, .long sd, .int sl])), (mc, .inl (E.2.1.1, 21, .inl pg)), (mg, .inl (E.2.1.1, 42, .inl kp)), (mh, .inl (E.2.1.2.1, 2, .inl ik))] (some (.int ((fX6_again ac pg kp ik a).1))) [(mm, .inr (6, [.int 0, .ref m1, .int ts, .int pc, .int pe, .int tu, .ref m6, .ref m7, .int rp, .int rt, .ref ma, .ref mb, .ref mc, .ref md, .ref me, .int ((fX6_again ac pg kp ik a).2.1), .ref mg, .ref mh, .int sn, .ref mj, .ref mk, .long sd, .int sl])), (mc, .inl (E.2.1.1, 21, .inl ((fX6_again ac pg kp ik a).2.2))), (mg, .inl (E.2.1.1, 42, .inl kp)), (mh, .inl (E.2.1.2.1, 2, .inl ik))] := by
  refine hC_intro (cc := cX6_again) (maxL := 3) (ret := (some .int)) (lv0 := [(0, .ref mm), (1, .int a)]) (by decide) rfl (Nat.le_of_ble_eq_true rfl) rfl ?_
  intro p e s m below meth c A C
  refine hg_aload_n C dX6_again_0 rfl 0 rfl ?_
  refine hg_iconst C (v := 0) dX6_again_1 (by decide) ?_
  refine hg_put C (Cn := RX6) (T := TX6) (N := 23) (ws' := [(mm, .inr (6, [.int 0, .ref m1, .int ts, .int pc, .int pe, .int tu, .ref m6, .ref m7, .int rp, .int rt, .ref ma, .ref mb, .ref mc, .ref md, .ref me, .int ac, .ref mg, .ref mh, .int sn, .ref mj, .ref mk, .long sd, .int sl])), (mc, .inl (E.2.1.1, 21, .inl pg)), (mg, .inl (E.2.1.1, 42, .inl kp)), (mh, .inl (E.2.1.2.1, 2, .inl ik))]) mrX6_again_6 tyX6 tyX6_ok nmX6 0 rfl rfl 0 (by decide) mmX6_again_f47 rfl rfl rfl rfl (Nat.le_of_ble_eq_true rfl) rfl dX6_again_2 ?_
  refine hg_iload_n C dX6_again_5 rfl 1 rfl ?_
  refine hg_i2l C dX6_again_6 ?_
  refine hg_lconst C (v := 0) dX6_again_7 rfl ?_
  refine hg_lconst C (v := 1) dX6_again_8 rfl ?_
  refine hg_callS C (ws' := [(mm, .inr (6, [.int 0, .ref m1, .int ts, .int pc, .int pe, .int tu, .ref m6, .ref m7, .int rp, .int rt, .ref ma, .ref mb, .ref mc, .ref md, .ref me, .int ac, .ref mg, .ref mh, .int sn, .ref mj, .ref mk, .long sd, .int sl])), (mc, .inl (E.2.1.1, 21, .inl pg)), (mg, .inl (E.2.1.1, 42, .inl kp)), (mh, .inl (E.2.1.2.1, 2, .inl ik))]) (rest := []) (kX6_in l E a.toInt64 0 1) hfX6_in gX6_again_X6_in ⟨Nat.le_of_ble_eq_true rfl, Nat.le_of_ble_eq_true rfl⟩ ⟨Nat.zero_le _, Nat.zero_le _⟩ [] rfl (by decide) [] rfl rfl rfl rfl (Nat.le_of_ble_eq_true rfl) dX6_again_9 ?_
  refine hg_if_ne C (tgt := 17) dX6_again_12 (by decide) (fun c1 => ?_) (fun c1 => ?_)
  · refine hg_aload_n C dX6_again_17 rfl 0 rfl ?_
    refine hg_get C (Cn := RX6) (T := TX6) (N := 23) (v := .ref mh) mrX6_again_6 0 rfl rfl 17 (by decide) mmX6_again_f37 rfl dX6_again_18 ?_
    refine hg_iload_n C dX6_again_21 rfl 1 rfl ?_
    refine hg_zald C 3 rfl (vp_01 (by assumption)) dX6_again_22 ?_
    refine hg_if_ne C (tgt := 29) dX6_again_23 (by decide) (fun c2 => ?_) (fun c2 => ?_)
    · refine hg_iconst C (v := 0) dX6_again_29 (by decide) ?_
      refine hg_istore_n C (lv' := [(2, .int 0), (0, .ref mm), (1, .int a)]) dX6_again_30 rfl (by decide) rfl ?_
      refine hg_sub [1, 2, 0] rfl ?_
      refine lpX6_again_31 C mm m1 m6 m7 ma mb mc md me mg mh mj mk ts pc pe tu rp rt ac sn sd sl pg kp ik a (by assumption) pg ?_ 21 0 pg (by omega) rfl
      refine hg_aload_n C dX6_again_60 rfl 0 rfl ?_
      refine hg_iconst C (v := 0) dX6_again_61 (by decide) ?_
      refine hg_put C (Cn := RX6) (T := TX6) (N := 23) (ws' := [(mm, .inr (6, [.int 0, .ref m1, .int ts, .int pc, .int pe, .int tu, .ref m6, .ref m7, .int rp, .int rt, .ref ma, .ref mb, .ref mc, .ref md, .ref me, .int 0, .ref mg, .ref mh, .int sn, .ref mj, .ref mk, .long sd, .int sl])), (mc, .inl (E.2.1.1, 21, .inl (itN (stX6_again_31 kp a) 21 pg))), (mg, .inl (E.2.1.1, 42, .inl kp)), (mh, .inl (E.2.1.2.1, 2, .inl ik))]) mrX6_again_6 tyX6 tyX6_ok nmX6 0 rfl rfl 15 (by decide) mmX6_again_f97 rfl rfl rfl rfl (Nat.le_of_ble_eq_true rfl) rfl dX6_again_62 ?_
      refine hg_aload_n C dX6_again_65 rfl 0 rfl ?_
      refine hg_get C (Cn := RX6) (T := TX6) (N := 23) (v := .ref mc) mrX6_again_6 0 rfl rfl 12 (by decide) mmX6_again_f25 rfl dX6_again_66 ?_
      refine hg_bipush C (v := 12) dX6_again_69 (by decide) ?_
      refine hg_iald C 1 rfl (by unfold vp_in; decide) dX6_again_71 ?_
      refine hg_callS C (ws' := [(mm, .inr (6, [.int 0, .ref m1, .int ts, .int pc, .int pe, .int tu, .ref m6, .ref m7, .int rp, .int rt, .ref ma, .ref mb, .ref mc, .ref md, .ref me, .int 0, .ref mg, .ref mh, .int sn, .ref mj, .ref mk, .long sd, .int sl])), (mc, .inl (E.2.1.1, 21, .inl (itN (stX6_again_31 kp a) 21 pg))), (mg, .inl (E.2.1.1, 42, .inl kp)), (mh, .inl (E.2.1.2.1, 2, .inl ik))]) (rest := []) (kX6_many l E ((itN (stX6_again_31 kp a) 21 pg) (12 : Int32).toNatClampNeg)) hfX6_many gX6_again_X6_many ⟨Nat.le_of_ble_eq_true rfl, Nat.le_of_ble_eq_true rfl⟩ ⟨Nat.zero_le _, Nat.zero_le _⟩ [] rfl (by decide) [] rfl rfl rfl rfl (Nat.le_of_ble_eq_true rfl) dX6_again_72 ?_
      have e9 : (fX6_again ac pg kp ik a) = (fX6_many ((itN (stX6_again_31 kp a) 21 pg) (12 : Int32).toNatClampNeg), 0, (itN (stX6_again_31 kp a) 21 pg)) := (hid_eq _).trans ((if_neg c1).trans ((if_neg c2).trans rfl))
      rw [e9]
      exact hg_iret C dX6_again_75 rfl rfl
    · refine hg_bipush C (v := (-3)) dX6_again_26 (by decide) ?_
      have e9 : (fX6_again ac pg kp ik a) = ((-3), ac, pg) := (hid_eq _).trans ((if_neg c1).trans ((if_pos c2).trans rfl))
      rw [e9]
      exact hg_iret C dX6_again_28 rfl rfl
  · refine hg_iconst C (v := (-1)) dX6_again_15 (by decide) ?_
    have e9 : (fX6_again ac pg kp ik a) = ((-1), ac, pg) := (hid_eq _).trans ((if_pos c1).trans rfl)
    rw [e9]
    exact hg_iret C dX6_again_16 rfl rfl
