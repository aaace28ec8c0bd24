theorem ix_s {sn : Int32} {i : Nat} (h : vp_in sn 7) (hi : i ≤ sn.toNatClampNeg) (h1 : ¬ sn ≤ nI i) : vp_in (nI i) 6 := by
  have h2 := vp_cl h
  have h3 := lt_cl (by omega) h1
  exact vp_in_nI (by omega) (by decide)
theorem s_lt {sn : Int32} {i : Nat} (h : vp_in sn 7) (hi : i ≤ sn.toNatClampNeg) (h1 : ¬ sn ≤ nI i) : i < sn.toNatClampNeg := by
  have h2 := vp_cl h
  exact lt_cl (by omega) h1

theorem mmX6_soon_f47 : (Cond.fieldLink RX6 47 "HatRoundModel" "thrown" "I") ∈ wsX6_soon := (List.mem_cons_of_mem _ (List.mem_append_left _ (List.mem_append_left _ (List.mem_of_getElem? (i := 0) rfl))))
theorem mrX6_soon_6 : ∀ w ∈ u_ws RX6 TX6 23, w ∈ wsX6_soon := fun _ h => (List.mem_cons_of_mem _ (List.mem_append_right _ h))
theorem mmX6_soon_f28 : (Cond.fieldLink RX6 28 "HatRoundModel" "trial" "[I") ∈ wsX6_soon := (List.mem_cons_of_mem _ (List.mem_append_left _ (List.mem_append_left _ (List.mem_of_getElem? (i := 1) rfl))))
abbrev rmX6_soon : Room := { frames := 2, cells := 0, slots := 0, locals := 49 }
theorem hfX6_soon : hCF yX6_soon wsX6_soon rmX6_soon cX6_soon 6 (some .int) 1 := ⟨⟨_, rfl⟩, by decide +kernel, rfl, rfl⟩
noncomputable def stX6_soon_37 (pe : Int32) (to : Nat → Int32) (so : Nat → Int32) (a : Int32) (i : Nat) (σ : (Nat → Int32)) : (Nat → Int32) := hid ((fX6_goPlay pe to so σ a).2)
set_option maxHeartbeats 4000000 in
set_option maxRecDepth 100000 in
theorem lpX6_soon_37 {p : Program} {l : Launch} {e : Env} {s : State} {m : MethodId} {args : Array Value} {below : List Frame} {meth : Method} {c : Code} {E : hE} {A : Nat → Prop} {Q : State → Prop} (C : hX p s m args meth c E A cX6_soon 6 RX6 wsX6_soon (some .int)) (mm : Nat) (m1 : Nat) (m6 : Nat) (m7 : Nat) (ma : Nat) (mb : Nat) (mc : Nat) (md : Nat) (me : Nat) (mg : Nat) (mh : Nat) (mj : Nat) (mk : Nat) (ts : Int32) (pc : Int32) (pe : Int32) (tu : Int32) (rp : Int32) (rt : Int32) (ac : Int32) (sn : Int32) (sd : Int64) (sl : Int32) (to : Nat → Int32) (so : Nat → Int32) (pg : Nat → Int32) (tr : Nat → Int32) (a : Int32) (x2 : Int32) (x3 : Int32) (x4 : Int32) (v0_22 : Int32) (hp7 : vp_in pe 7) (ht5 : vp_in tu 5) (ha : vp_in a 4) (σ0 : (Nat → Int32)) (k : hG p l e rmX6_soon s m args below meth c E A 6 Q 0 0 60 [(0, .ref mm), (1, .int a), (2, .int x2), (3, .int x3), (4, .int x4)] [] [(mm, .inr (6, [.int 0, .ref m1, .int ts, .int pc, .int pe, .int tu, .ref m6, .ref m7, .int rp, .int rt, .ref ma, .ref mb, .ref mc, .ref md, .ref me, .int ac, .ref mg, .ref mh, .int sn, .ref mj, .ref mk, .long sd, .int v0_22])), (m6, .inl (E.2.1.1, 36, .inl to)), (m7, .inl (E.2.1.1, 12, .inl so)), (mc, .inl (E.2.1.1, 21, .inl pg)), (md, .inl (E.2.1.1, 21, .inl (itN (stX6_soon_37 pe to so a) x4.toNatClampNeg σ0)))]) : ∀ (n i : Nat) (σ : (Nat → Int32)), i + n = x4.toNatClampNeg → σ = itN (stX6_soon_37 pe to so a) i σ0 → hG p l e rmX6_soon s m args below meth c E A 6 Q 0 0 37 [(0, .ref mm), (1, .int a), (2, .int x2), (3, .int x3), (4, .int x4), (5, .int (nI i))] [] [(mm, .inr (6, [.int 0, .ref m1, .int ts, .int pc, .int pe, .int tu, .ref m6, .ref m7, .int rp, .int rt, .ref ma, .ref mb, .ref mc, .ref md, .ref me, .int ac, .ref mg, .ref mh, .int sn, .ref mj, .ref mk, .long sd, .int v0_22])), (m6, .inl (E.2.1.1, 36, .inl to)), (m7, .inl (E.2.1.1, 12, .inl so)), (mc, .inl (E.2.1.1, 21, .inl pg)), (md, .inl (E.2.1.1, 21, .inl σ))] := by
  intro n
  induction n with
  | zero =>
    intro i σ hi hσ
    have hi : i = x4.toNatClampNeg := by omega
    rw [hi] at hσ
    rw [hi]
    subst hσ
    refine hg_iload C dX6_soon_37 5 rfl ?_
    refine hg_iload C dX6_soon_39 4 rfl ?_
    refine hg_icmp_ge C (tgt := 60) dX6_soon_41 (by decide) (fun _ => ?_) (fun h => absurd (cl_done _) h)
    exact hg_sub [0, 1, 2, 3, 4] rfl k
  | succ n ih =>
    intro i σ hi hσ
    have hlt : i < x4.toNatClampNeg := by omega
    refine hg_iload C dX6_soon_37 5 rfl ?_
    refine hg_iload C dX6_soon_39 4 rfl ?_
    refine hg_icmp_ge C (tgt := 60) dX6_soon_41 (by decide) (fun h => absurd h (cl_cont hlt)) (fun _ => ?_)
    refine hg_aload_n C dX6_soon_44 rfl 0 rfl ?_
    refine hg_aload_n C dX6_soon_45 rfl 0 rfl ?_
    refine hg_get C (Cn := RX6) (T := TX6) (N := 23) (v := .ref md) mrX6_soon_6 0 rfl rfl 13 (by decide) mmX6_soon_f28 rfl dX6_soon_46 ?_
    refine hg_iload_n C dX6_soon_49 rfl 1 rfl ?_
    refine hg_callV C (ws' := [(mm, .inr (6, [.int 0, .ref m1, .int ts, .int pc, .int pe, .int tu, .ref m6, .ref m7, .int rp, .int rt, .ref ma, .ref mb, .ref mc, .ref md, .ref me, .int ac, .ref mg, .ref mh, .int sn, .ref mj, .ref mk, .long sd, .int v0_22])), (m6, .inl (E.2.1.1, 36, .inl to)), (m7, .inl (E.2.1.1, 12, .inl so)), (mc, .inl (E.2.1.1, 21, .inl pg)), (md, .inl (E.2.1.1, 21, .inl ((fX6_goPlay pe to so σ a).2)))]) (rest := []) (kX6_goPlay l E mm m1 m6 m7 ma mb mc md me mg mh mj mk ts pc pe tu rp rt ac sn sd v0_22 to so md σ a (Nat.le_of_lt_succ (vp_cl hp7)) ha) hfX6_goPlay gX6_soon_X6_goPlay ⟨Nat.le_of_ble_eq_true rfl, Nat.le_of_ble_eq_true rfl⟩ ⟨Nat.zero_le _, Nat.zero_le _⟩ [0, 1, 2, 4] rfl (by decide) [mm, m6, m7, md] rfl rfl rfl 0 rfl rfl rfl rfl (Nat.le_of_ble_eq_true rfl) dX6_soon_50 ?_
    refine hg_pop C dX6_soon_53 rfl ?_
    refine hg_iinc C (v := nI (i + 1)) (lv' := [(5, .int (nI (i + 1))), (0, .ref mm), (1, .int a), (2, .int x2), (3, .int x3), (4, .int x4)]) dX6_soon_54 5 rfl (nI_inc _) (by decide) rfl ?_
    refine hg_goto C (tgt := 37) dX6_soon_57 (by decide) ?_
    have e9 : (stX6_soon_37 pe to so a) i σ = (fX6_goPlay pe to so σ a).2 := hid_eq _
    have h9 := ih (i + 1) ((fX6_goPlay pe to so σ a).2) (by omega) (e9.symm.trans (congrArg ((stX6_soon_37 pe to so a) i) hσ))
    exact hg_sub [1, 2, 3, 4, 5, 0] rfl h9
noncomputable def stX6_soon_23 (pe : Int32) (to : Nat → Int32) (so : Nat → Int32) (pg : Nat → Int32) (a : Int32) (i : Nat) (σ : Int32 × Int32 × Int32 × (Nat → Int32)) : Int32 × Int32 × Int32 × (Nat → Int32) := hid ((if ((fX6_goRound pe to (itN (stX6_soon_37 pe to so a) ((nI i).toNatClampNeg) (fX6_begin pg σ.2.2.2)) 0).1) ≤ σ.1 then σ.1 else ((fX6_goRound pe to (itN (stX6_soon_37 pe to so a) ((nI i).toNatClampNeg) (fX6_begin pg σ.2.2.2)) 0).1), if ((fX6_goRound pe to (itN (stX6_soon_37 pe to so a) ((nI i).toNatClampNeg) (fX6_begin pg σ.2.2.2)) 0).1) ≤ σ.1 then σ.2.1 else (nI i), (fX6_goRound pe to (itN (stX6_soon_37 pe to so a) ((nI i).toNatClampNeg) (fX6_begin pg σ.2.2.2)) 0).2.1, (fX6_goRound pe to (itN (stX6_soon_37 pe to so a) ((nI i).toNatClampNeg) (fX6_begin pg σ.2.2.2)) 0).2.2))
set_option maxHeartbeats 4000000 in
set_option maxRecDepth 100000 in
theorem lpX6_soon_23 {p : Program} {l : Launch} {e : Env} {s : State} {m : MethodId} {args : Array Value} {below : List Frame} {meth : Method} {c : Code} {E : hE} {A : Nat → Prop} {Q : State → Prop} (C : hX p s m args meth c E A cX6_soon 6 RX6 wsX6_soon (some .int)) (mm : Nat) (m1 : Nat) (m6 : Nat) (m7 : Nat) (ma : Nat) (mb : Nat) (mc : Nat) (md : Nat) (me : Nat) (mg : Nat) (mh : Nat) (mj : Nat) (mk : Nat) (ts : Int32) (pc : Int32) (pe : Int32) (tu : Int32) (rp : Int32) (rt : Int32) (ac : Int32) (sn : Int32) (sd : Int64) (sl : Int32) (to : Nat → Int32) (so : Nat → Int32) (pg : Nat → Int32) (tr : Nat → Int32) (a : Int32) (hp7 : vp_in pe 7) (ht5 : vp_in tu 5) (ha : vp_in a 4) (σ0 : Int32 × Int32 × Int32 × (Nat → Int32)) (k : hG p l e rmX6_soon s m args below meth c E A 6 Q 0 0 103 [(3, .int ((itN (stX6_soon_23 pe to so pg a) 10 σ0).2.1))] [] [(mm, .inr (6, [.int 0, .ref m1, .int ts, .int pc, .int pe, .int tu, .ref m6, .ref m7, .int rp, .int rt, .ref ma, .ref mb, .ref mc, .ref md, .ref me, .int ac, .ref mg, .ref mh, .int sn, .ref mj, .ref mk, .long sd, .int ((itN (stX6_soon_23 pe to so pg a) 10 σ0).2.2.1)])), (m6, .inl (E.2.1.1, 36, .inl to)), (m7, .inl (E.2.1.1, 12, .inl so)), (mc, .inl (E.2.1.1, 21, .inl pg)), (md, .inl (E.2.1.1, 21, .inl ((itN (stX6_soon_23 pe to so pg a) 10 σ0).2.2.2)))]) : ∀ (n i : Nat) (σ : Int32 × Int32 × Int32 × (Nat → Int32)), i + n = 10 → σ = itN (stX6_soon_23 pe to so pg a) i σ0 → hG p l e rmX6_soon s m args below meth c E A 6 Q 0 0 23 [(0, .ref mm), (1, .int a), (2, .int σ.1), (3, .int σ.2.1), (4, .int (nI i))] [] [(mm, .inr (6, [.int 0, .ref m1, .int ts, .int pc, .int pe, .int tu, .ref m6, .ref m7, .int rp, .int rt, .ref ma, .ref mb, .ref mc, .ref md, .ref me, .int ac, .ref mg, .ref mh, .int sn, .ref mj, .ref mk, .long sd, .int σ.2.2.1])), (m6, .inl (E.2.1.1, 36, .inl to)), (m7, .inl (E.2.1.1, 12, .inl so)), (mc, .inl (E.2.1.1, 21, .inl pg)), (md, .inl (E.2.1.1, 21, .inl σ.2.2.2))] := by
  intro n
  induction n with
  | zero =>
    intro i σ hi hσ
    have hi : i = 10 := by omega
    rw [hi] at hσ
    rw [hi]
    subst hσ
    refine hg_iload C dX6_soon_23 4 rfl ?_
    refine hg_bipush C (v := 9) dX6_soon_25 (by decide) ?_
    refine hg_icmp_gt C (tgt := 103) dX6_soon_27 (by decide) (fun _ => ?_) (fun h => absurd (by decide) h)
    exact hg_sub [3] rfl k
  | succ n ih =>
    intro i σ hi hσ
    have hlt : i < 10 := by omega
    refine hg_iload C dX6_soon_23 4 rfl ?_
    refine hg_bipush C (v := 9) dX6_soon_25 (by decide) ?_
    refine hg_icmp_gt C (tgt := 103) dX6_soon_27 (by decide) (fun h => absurd h (nI_nlt (a := 9) (by omega) (by decide))) (fun _ => ?_)
    refine hg_aload_n C dX6_soon_30 rfl 0 rfl ?_
    refine hg_callV C (ws' := [(mm, .inr (6, [.int 0, .ref m1, .int ts, .int pc, .int pe, .int tu, .ref m6, .ref m7, .int rp, .int rt, .ref ma, .ref mb, .ref mc, .ref md, .ref me, .int ac, .ref mg, .ref mh, .int sn, .ref mj, .ref mk, .long sd, .int σ.2.2.1])), (m6, .inl (E.2.1.1, 36, .inl to)), (m7, .inl (E.2.1.1, 12, .inl so)), (mc, .inl (E.2.1.1, 21, .inl pg)), (md, .inl (E.2.1.1, 21, .inl (fX6_begin pg σ.2.2.2)))]) (rest := []) (kX6_begin l E mm m1 m6 m7 ma mb mc md me mg mh mj mk ts pc pe tu rp rt ac sn sd σ.2.2.1 pg σ.2.2.2) hfX6_begin gX6_soon_X6_begin ⟨Nat.le_of_ble_eq_true rfl, Nat.le_of_ble_eq_true rfl⟩ ⟨Nat.zero_le _, Nat.zero_le _⟩ [0, 3, 4] rfl (by decide) [mm, mc, md] rfl rfl rfl 0 rfl rfl rfl rfl (Nat.le_of_ble_eq_true rfl) dX6_soon_31 ?_
    refine hg_iconst C (v := 0) dX6_soon_34 (by decide) ?_
    refine hg_istore C (lv' := [(5, .int 0), (0, .ref mm), (1, .int a), (2, .int σ.1), (3, .int σ.2.1), (4, .int (nI i))]) dX6_soon_35 (by decide) rfl ?_
    refine hg_sub [1, 2, 3, 4, 5, 0] rfl ?_
    refine lpX6_soon_37 C mm m1 m6 m7 ma mb mc md me mg mh mj mk ts pc pe tu rp rt ac sn sd sl to so pg tr a σ.1 σ.2.1 (nI i) σ.2.2.1 hp7 ht5 ha (fX6_begin pg σ.2.2.2) ?_ ((nI i).toNatClampNeg) 0 (fX6_begin pg σ.2.2.2) (by omega) rfl
    refine hg_aload_n C dX6_soon_60 rfl 0 rfl ?_
    refine hg_aload_n C dX6_soon_61 rfl 0 rfl ?_
    refine hg_get C (Cn := RX6) (T := TX6) (N := 23) (v := .ref md) mrX6_soon_6 0 rfl rfl 13 (by decide) mmX6_soon_f28 rfl dX6_soon_62 ?_
    refine hg_iconst C (v := 0) dX6_soon_65 (by decide) ?_
    refine hg_callV C (ws' := [(mm, .inr (6, [.int 0, .ref m1, .int ts, .int pc, .int pe, .int tu, .ref m6, .ref m7, .int rp, .int rt, .ref ma, .ref mb, .ref mc, .ref md, .ref me, .int ac, .ref mg, .ref mh, .int sn, .ref mj, .ref mk, .long sd, .int ((fX6_goRound pe to (itN (stX6_soon_37 pe to so a) ((nI i).toNatClampNeg) (fX6_begin pg σ.2.2.2)) 0).2.1)])), (m6, .inl (E.2.1.1, 36, .inl to)), (m7, .inl (E.2.1.1, 12, .inl so)), (mc, .inl (E.2.1.1, 21, .inl pg)), (md, .inl (E.2.1.1, 21, .inl ((fX6_goRound pe to (itN (stX6_soon_37 pe to so a) ((nI i).toNatClampNeg) (fX6_begin pg σ.2.2.2)) 0).2.2)))]) (rest := []) (kX6_goRound l E mm m1 m6 m7 ma mb mc md me mg mh mj mk ts pc pe tu rp rt ac sn sd σ.2.2.1 to so md (itN (stX6_soon_37 pe to so a) ((nI i).toNatClampNeg) (fX6_begin pg σ.2.2.2)) 0 (Nat.le_of_lt_succ (vp_cl hp7))) hfX6_goRound gX6_soon_X6_goRound ⟨Nat.le_of_ble_eq_true rfl, Nat.le_of_ble_eq_true rfl⟩ ⟨Nat.zero_le _, Nat.zero_le _⟩ [0, 1, 2, 4] rfl (by decide) [mm, m6, m7, md] rfl rfl rfl 0 rfl rfl rfl rfl (Nat.le_of_ble_eq_true rfl) dX6_soon_66 ?_
    refine hg_istore C (lv' := [(5, .int ((fX6_goRound pe to (itN (stX6_soon_37 pe to so a) ((nI i).toNatClampNeg) (fX6_begin pg σ.2.2.2)) 0).1)), (0, .ref mm), (1, .int a), (2, .int σ.1), (3, .int σ.2.1), (4, .int (nI i))]) dX6_soon_69 (by decide) rfl ?_
    refine hg_iload C dX6_soon_71 0 rfl ?_
    refine hg_iload_n C dX6_soon_73 rfl 3 rfl ?_
    refine hg_join (J := 83) (v := if ((fX6_goRound pe to (itN (stX6_soon_37 pe to so a) ((nI i).toNatClampNeg) (fX6_begin pg σ.2.2.2)) 0).1) ≤ σ.1 then σ.2.1 else (nI i)) (st1 := []) (fun jj => ?_) ?_
    · refine hg_icmp_le C (tgt := 82) dX6_soon_74 (by decide) (fun c4 => ?_) (fun c4 => ?_)
      · refine hg_iload_n C dX6_soon_82 rfl 4 rfl ?_
        exact hg_top (v := if ((fX6_goRound pe to (itN (stX6_soon_37 pe to so a) ((nI i).toNatClampNeg) (fX6_begin pg σ.2.2.2)) 0).1) ≤ σ.1 then σ.2.1 else (nI i)) (v' := σ.2.1) ((if_pos c4).trans rfl) jj
      · refine hg_iload C dX6_soon_77 5 rfl ?_
        refine hg_goto C (tgt := 83) dX6_soon_79 (by decide) ?_
        exact hg_top (v := if ((fX6_goRound pe to (itN (stX6_soon_37 pe to so a) ((nI i).toNatClampNeg) (fX6_begin pg σ.2.2.2)) 0).1) ≤ σ.1 then σ.2.1 else (nI i)) (v' := nI i) ((if_neg c4).trans rfl) jj
    refine hg_istore_n C (lv' := [(3, .int (if ((fX6_goRound pe to (itN (stX6_soon_37 pe to so a) ((nI i).toNatClampNeg) (fX6_begin pg σ.2.2.2)) 0).1) ≤ σ.1 then σ.2.1 else (nI i))), (5, .int ((fX6_goRound pe to (itN (stX6_soon_37 pe to so a) ((nI i).toNatClampNeg) (fX6_begin pg σ.2.2.2)) 0).1)), (0, .ref mm), (1, .int a), (2, .int σ.1), (4, .int (nI i))]) dX6_soon_83 rfl (by decide) rfl ?_
    refine hg_iload C dX6_soon_84 1 rfl ?_
    refine hg_iload_n C dX6_soon_86 rfl 4 rfl ?_
    refine hg_join (J := 96) (v := if ((fX6_goRound pe to (itN (stX6_soon_37 pe to so a) ((nI i).toNatClampNeg) (fX6_begin pg σ.2.2.2)) 0).1) ≤ σ.1 then σ.1 else ((fX6_goRound pe to (itN (stX6_soon_37 pe to so a) ((nI i).toNatClampNeg) (fX6_begin pg σ.2.2.2)) 0).1)) (st1 := []) (fun jj => ?_) ?_
    · refine hg_icmp_le C (tgt := 95) dX6_soon_87 (by decide) (fun c5 => ?_) (fun c5 => ?_)
      · refine hg_iload_n C dX6_soon_95 rfl 4 rfl ?_
        exact hg_top (v := if ((fX6_goRound pe to (itN (stX6_soon_37 pe to so a) ((nI i).toNatClampNeg) (fX6_begin pg σ.2.2.2)) 0).1) ≤ σ.1 then σ.1 else ((fX6_goRound pe to (itN (stX6_soon_37 pe to so a) ((nI i).toNatClampNeg) (fX6_begin pg σ.2.2.2)) 0).1)) (v' := σ.1) ((if_pos c5).trans rfl) jj
      · refine hg_iload C dX6_soon_90 1 rfl ?_
        refine hg_goto C (tgt := 96) dX6_soon_92 (by decide) ?_
        exact hg_top (v := if ((fX6_goRound pe to (itN (stX6_soon_37 pe to so a) ((nI i).toNatClampNeg) (fX6_begin pg σ.2.2.2)) 0).1) ≤ σ.1 then σ.1 else ((fX6_goRound pe to (itN (stX6_soon_37 pe to so a) ((nI i).toNatClampNeg) (fX6_begin pg σ.2.2.2)) 0).1)) (v' := (fX6_goRound pe to (itN (stX6_soon_37 pe to so a) ((nI i).toNatClampNeg) (fX6_begin pg σ.2.2.2)) 0).1) ((if_neg c5).trans rfl) jj
    refine hg_istore_n C (lv' := [(2, .int (if ((fX6_goRound pe to (itN (stX6_soon_37 pe to so a) ((nI i).toNatClampNeg) (fX6_begin pg σ.2.2.2)) 0).1) ≤ σ.1 then σ.1 else ((fX6_goRound pe to (itN (stX6_soon_37 pe to so a) ((nI i).toNatClampNeg) (fX6_begin pg σ.2.2.2)) 0).1))), (3, .int (if ((fX6_goRound pe to (itN (stX6_soon_37 pe to so a) ((nI i).toNatClampNeg) (fX6_begin pg σ.2.2.2)) 0).1) ≤ σ.1 then σ.2.1 else (nI i))), (5, .int ((fX6_goRound pe to (itN (stX6_soon_37 pe to so a) ((nI i).toNatClampNeg) (fX6_begin pg σ.2.2.2)) 0).1)), (0, .ref mm), (1, .int a), (4, .int (nI i))]) dX6_soon_96 rfl (by decide) rfl ?_
    refine hg_iinc C (v := nI (i + 1)) (lv' := [(4, .int (nI (i + 1))), (2, .int (if ((fX6_goRound pe to (itN (stX6_soon_37 pe to so a) ((nI i).toNatClampNeg) (fX6_begin pg σ.2.2.2)) 0).1) ≤ σ.1 then σ.1 else ((fX6_goRound pe to (itN (stX6_soon_37 pe to so a) ((nI i).toNatClampNeg) (fX6_begin pg σ.2.2.2)) 0).1))), (3, .int (if ((fX6_goRound pe to (itN (stX6_soon_37 pe to so a) ((nI i).toNatClampNeg) (fX6_begin pg σ.2.2.2)) 0).1) ≤ σ.1 then σ.2.1 else (nI i))), (5, .int ((fX6_goRound pe to (itN (stX6_soon_37 pe to so a) ((nI i).toNatClampNeg) (fX6_begin pg σ.2.2.2)) 0).1)), (0, .ref mm), (1, .int a)]) dX6_soon_97 5 rfl (nI_inc _) (by decide) rfl ?_
    refine hg_goto C (tgt := 23) dX6_soon_100 (by decide) ?_
    have e9 : (stX6_soon_23 pe to so pg a) i σ = (if ((fX6_goRound pe to (itN (stX6_soon_37 pe to so a) ((nI i).toNatClampNeg) (fX6_begin pg σ.2.2.2)) 0).1) ≤ σ.1 then σ.1 else ((fX6_goRound pe to (itN (stX6_soon_37 pe to so a) ((nI i).toNatClampNeg) (fX6_begin pg σ.2.2.2)) 0).1), if ((fX6_goRound pe to (itN (stX6_soon_37 pe to so a) ((nI i).toNatClampNeg) (fX6_begin pg σ.2.2.2)) 0).1) ≤ σ.1 then σ.2.1 else (nI i), (fX6_goRound pe to (itN (stX6_soon_37 pe to so a) ((nI i).toNatClampNeg) (fX6_begin pg σ.2.2.2)) 0).2.1, (fX6_goRound pe to (itN (stX6_soon_37 pe to so a) ((nI i).toNatClampNeg) (fX6_begin pg σ.2.2.2)) 0).2.2) := hid_eq _
    have h9 := ih (i + 1) (if ((fX6_goRound pe to (itN (stX6_soon_37 pe to so a) ((nI i).toNatClampNeg) (fX6_begin pg σ.2.2.2)) 0).1) ≤ σ.1 then σ.1 else ((fX6_goRound pe to (itN (stX6_soon_37 pe to so a) ((nI i).toNatClampNeg) (fX6_begin pg σ.2.2.2)) 0).1), if ((fX6_goRound pe to (itN (stX6_soon_37 pe to so a) ((nI i).toNatClampNeg) (fX6_begin pg σ.2.2.2)) 0).1) ≤ σ.1 then σ.2.1 else (nI i), (fX6_goRound pe to (itN (stX6_soon_37 pe to so a) ((nI i).toNatClampNeg) (fX6_begin pg σ.2.2.2)) 0).2.1, (fX6_goRound pe to (itN (stX6_soon_37 pe to so a) ((nI i).toNatClampNeg) (fX6_begin pg σ.2.2.2)) 0).2.2) (by omega) (e9.symm.trans (congrArg ((stX6_soon_23 pe to so pg a) i) hσ))
    exact hg_sub [4, 5, 1, 2, 0] rfl h9
noncomputable def fX6_soon (pe : Int32) (tu : Int32) (sl : Int32) (to : Nat → Int32) (so : Nat → Int32) (pg : Nat → Int32) (tr : Nat → Int32) (a : Int32) : Int32 × Int32 × (Nat → Int32) := hid (if (fX6_noTune tu a) = 0 then ((itN (stX6_soon_23 pe to so pg a) 10 ((-9), 0, sl, tr)).2.1, (itN (stX6_soon_23 pe to so pg a) 10 ((-9), 0, sl, tr)).2.2.1, (itN (stX6_soon_23 pe to so pg a) 10 ((-9), 0, sl, tr)).2.2.2) else ((-1), sl, tr))
set_option maxHeartbeats 4000000 in
set_option maxRecDepth 100000 in
theorem kX6_soon (l : Launch) (E : hE) (mm : Nat) (m1 : Nat) (m6 : Nat) (m7 : Nat) (ma : Nat) (mb : Nat) (mc : Nat) (md : Nat) (me : Nat) (mg : Nat) (mh : Nat) (mj : Nat) (mk : Nat) (ts : Int32) (pc : Int32) (pe : Int32) (tu : Int32) (rp : Int32) (rt : Int32) (ac : Int32) (sn : Int32) (sd : Int64) (sl : Int32) (to : Nat → Int32) (so : Nat → Int32) (pg : Nat → Int32) (tr : Nat → Int32) (a : Int32) (hp7 : vp_in pe 7) (ht5 : vp_in tu 5) : hC l yX6_soon wsX6_soon rmX6_soon E [.ref mm, .int a] [(mm, .inr (6, [.int 0, .ref m1, .int ts, .int pc, .int pe, .int tu, .ref m6, .ref m7, .int rp, .int rt, .ref ma, .ref mb, .ref mc, .ref md, .ref me, .int ac, .ref mg, .ref mh, .int sn, .ref mj, .ref mk, .long sd, .int sl])), (m6, .inl (E.2.1.1, 36, .inl to)), (m7, .inl (E.2.1.1, 12, .inl so)), (mc, .inl (E.2.1.1, 21, .inl pg)), (md, .inl (E.2.1.1, 21, .inl tr))] (some (.int ((fX6_soon pe tu sl to so pg tr a).1))) [(mm, .inr (6, [.int 0, .ref m1, .int ts, .int pc, .int pe, .int tu, .ref m6, .ref m7, .int rp, .int rt, .ref ma, .ref mb, .ref mc, .ref md, .ref me, .int ac, .ref mg, .ref mh, .int sn, .ref mj, .ref mk, .long sd, .int ((fX6_soon pe tu sl to so pg tr a).2.1)])), (m6, .inl (E.2.1.1, 36, .inl to)), (m7, .inl (E.2.1.1, 12, .inl so)), (mc, .inl (E.2.1.1, 21, .inl pg)), (md, .inl (E.2.1.1, 21, .inl ((fX6_soon pe tu sl to so pg tr a).2.2)))] := by
  refine hC_intro (cc := cX6_soon) (maxL := 6) (ret := (some .int)) (lv0 := [(0, .ref mm), (1, .int a)]) (by decide) rfl (Nat.le_of_ble_eq_true rfl) rfl ?_
  intro p e s m below meth c A C
  refine hg_aload_n C dX6_soon_0 rfl 0 rfl ?_
  refine hg_iconst C (v := 0) dX6_soon_1 (by decide) ?_
  refine hg_put C (Cn := RX6) (T := TX6) (N := 23) (ws' := [(mm, .inr (6, [.int 0, .ref m1, .int ts, .int pc, .int pe, .int tu, .ref m6, .ref m7, .int rp, .int rt, .ref ma, .ref mb, .ref mc, .ref md, .ref me, .int ac, .ref mg, .ref mh, .int sn, .ref mj, .ref mk, .long sd, .int sl])), (m6, .inl (E.2.1.1, 36, .inl to)), (m7, .inl (E.2.1.1, 12, .inl so)), (mc, .inl (E.2.1.1, 21, .inl pg)), (md, .inl (E.2.1.1, 21, .inl tr))]) mrX6_soon_6 tyX6 tyX6_ok nmX6 0 rfl rfl 0 (by decide) mmX6_soon_f47 rfl rfl rfl rfl (Nat.le_of_ble_eq_true rfl) rfl dX6_soon_2 ?_
  refine hg_aload_n C dX6_soon_5 rfl 0 rfl ?_
  refine hg_iload_n C dX6_soon_6 rfl 1 rfl ?_
  refine hg_callV C (ws' := [(mm, .inr (6, [.int 0, .ref m1, .int ts, .int pc, .int pe, .int tu, .ref m6, .ref m7, .int rp, .int rt, .ref ma, .ref mb, .ref mc, .ref md, .ref me, .int ac, .ref mg, .ref mh, .int sn, .ref mj, .ref mk, .long sd, .int sl])), (m6, .inl (E.2.1.1, 36, .inl to)), (m7, .inl (E.2.1.1, 12, .inl so)), (mc, .inl (E.2.1.1, 21, .inl pg)), (md, .inl (E.2.1.1, 21, .inl tr))]) (rest := []) (kX6_noTune l E mm m1 m6 m7 ma mb mc md me mg mh mj mk ts pc pe tu rp rt ac sn sd sl a) hfX6_noTune gX6_soon_X6_noTune ⟨Nat.le_of_ble_eq_true rfl, Nat.le_of_ble_eq_true rfl⟩ ⟨Nat.zero_le _, Nat.zero_le _⟩ [0] rfl (by decide) [mm] rfl rfl rfl 0 rfl rfl rfl rfl (Nat.le_of_ble_eq_true rfl) dX6_soon_7 ?_
  refine hg_if_eq C (tgt := 15) dX6_soon_10 (by decide) (fun c1 => ?_) (fun c1 => ?_)
  · refine hg_bipush C (v := (-9)) dX6_soon_15 (by decide) ?_
    refine hg_istore_n C (lv' := [(2, .int (-9)), (0, .ref mm), (1, .int a)]) dX6_soon_17 rfl (by decide) rfl ?_
    refine hg_iconst C (v := 0) dX6_soon_18 (by decide) ?_
    refine hg_istore_n C (lv' := [(3, .int 0), (2, .int (-9)), (0, .ref mm), (1, .int a)]) dX6_soon_19 rfl (by decide) rfl ?_
    refine hg_iconst C (v := 0) dX6_soon_20 (by decide) ?_
    refine hg_istore C (lv' := [(4, .int 0), (3, .int 0), (2, .int (-9)), (0, .ref mm), (1, .int a)]) dX6_soon_21 (by decide) rfl ?_
    refine hg_sub [3, 4, 2, 1, 0] rfl ?_
    refine lpX6_soon_23 C mm m1 m6 m7 ma mb mc md me mg mh mj mk ts pc pe tu rp rt ac sn sd sl to so pg tr a hp7 ht5 (nt_in ht5 (by assumption)) ((-9), 0, sl, tr) ?_ 10 0 ((-9), 0, sl, tr) (by omega) rfl
    refine hg_iload_n C dX6_soon_103 rfl 0 rfl ?_
    have e9 : (fX6_soon pe tu sl to so pg tr a) = ((itN (stX6_soon_23 pe to so pg a) 10 ((-9), 0, sl, tr)).2.1, (itN (stX6_soon_23 pe to so pg a) 10 ((-9), 0, sl, tr)).2.2.1, (itN (stX6_soon_23 pe to so pg a) 10 ((-9), 0, sl, tr)).2.2.2) := (hid_eq _).trans ((if_pos c1).trans rfl)
    rw [e9]
    exact hg_iret C dX6_soon_104 rfl rfl
  · refine hg_iconst C (v := (-1)) dX6_soon_13 (by decide) ?_
    have e9 : (fX6_soon pe tu sl to so pg tr a) = ((-1), sl, tr) := (hid_eq _).trans ((if_neg c1).trans rfl)
    rw [e9]
    exact hg_iret C dX6_soon_14 rfl rfl
theorem mmX6_grows_f47 : (Cond.fieldLink RX6 47 "HatRoundModel" "thrown" "I") ∈ wsX6_grows := (List.mem_cons_of_mem _ (List.mem_append_left _ (List.mem_append_left _ (List.mem_of_getElem? (i := 0) rfl))))
theorem mrX6_grows_6 : ∀ w ∈ u_ws RX6 TX6 23, w ∈ wsX6_grows := fun _ h => (List.mem_cons_of_mem _ (List.mem_append_right _ h))
theorem mmX6_grows_k145 : (Cond.constantLong RX6 145 (6)) ∈ wsX6_grows := (List.mem_cons_of_mem _ (List.mem_append_left _ (List.mem_append_left _ (List.mem_of_getElem? (i := 1) rfl))))
theorem mmX6_grows_f28 : (Cond.fieldLink RX6 28 "HatRoundModel" "trial" "[I") ∈ wsX6_grows := (List.mem_cons_of_mem _ (List.mem_append_left _ (List.mem_append_left _ (List.mem_of_getElem? (i := 2) rfl))))
abbrev rmX6_grows : Room := { frames := 2, cells := 0, slots := 0, locals := 46 }
theorem hfX6_grows : hCF yX6_grows wsX6_grows rmX6_grows cX6_grows 5 (some .int) 2 := ⟨⟨_, rfl⟩, by decide +kernel, rfl, rfl⟩
noncomputable def frX6_grows_46 (pe : Int32) (tu : Int32) (to : Nat → Int32) (so : Nat → Int32) (a : Int32) (b : Int32) : Nat → Nat → (Nat → Int32) → Int32 × (Nat → Int32)
  | 0, _, σ => (0, σ)
  | n + 1, i, σ => hid (if (dcr (a - 1) i) < 0 then (fX6_many (σ (12 : Int32).toNatClampNeg), σ) else if (fX6_noTune tu ((b / (fX6_power 10 (dcr (a - 1) i))) - (b / (fX6_power 10 (dcr (a - 1) i))) / 10 * 10)) = 0 then (frX6_grows_46 pe tu to so a b) n (i + 1) ((fX6_goPlay pe to so σ ((b / (fX6_power 10 (dcr (a - 1) i))) - (b / (fX6_power 10 (dcr (a - 1) i))) / 10 * 10)).2) else ((-2), σ))
set_option maxHeartbeats 4000000 in
set_option maxRecDepth 100000 in
theorem lpX6_grows_46 {p : Program} {l : Launch} {e : Env} {s : State} {m : MethodId} {args : Array Value} {below : List Frame} {meth : Method} {c : Code} {E : hE} {A : Nat → Prop} (C : hX p s m args meth c E A cX6_grows 5 RX6 wsX6_grows (some .int)) (mm : Nat) (m1 : Nat) (m6 : Nat) (m7 : Nat) (ma : Nat) (mb : Nat) (mc : Nat) (md : Nat) (me : Nat) (mg : Nat) (mh : Nat) (mj : Nat) (mk : Nat) (ts : Int32) (pc : Int32) (pe : Int32) (tu : Int32) (rp : Int32) (rt : Int32) (ac : Int32) (sn : Int32) (sd : Int64) (sl : Int32) (to : Nat → Int32) (so : Nat → Int32) (pg : Nat → Int32) (tr : Nat → Int32) (a : Int32) (b : Int32) (hp7 : vp_in pe 7) (ht5 : vp_in tu 5) (hn : vp_in a 10) : ∀ (n i : Nat) (σ : (Nat → Int32)), i + n = a.toNatClampNeg + 1 → i ≤ a.toNatClampNeg → hG p l e rmX6_grows s m args below meth c E A 5 (hQ E A below args s (some (.int (((frX6_grows_46 pe tu to so a b) n i σ).1))) [(mm, .inr (6, [.int 0, .ref m1, .int ts, .int pc, .int pe, .int tu, .ref m6, .ref m7, .int rp, .int rt, .ref ma, .ref mb, .ref mc, .ref md, .ref me, .int ac, .ref mg, .ref mh, .int sn, .ref mj, .ref mk, .long sd, .int sl])), (m6, .inl (E.2.1.1, 36, .inl to)), (m7, .inl (E.2.1.1, 12, .inl so)), (mc, .inl (E.2.1.1, 21, .inl pg)), (md, .inl (E.2.1.1, 21, .inl (((frX6_grows_46 pe tu to so a b) n i σ).2)))]) 0 0 46 [(0, .ref mm), (2, .int b), (3, .int (dcr (a - 1) i))] [] [(mm, .inr (6, [.int 0, .ref m1, .int ts, .int pc, .int pe, .int tu, .ref m6, .ref m7, .int rp, .int rt, .ref ma, .ref mb, .ref mc, .ref md, .ref me, .int ac, .ref mg, .ref mh, .int sn, .ref mj, .ref mk, .long sd, .int sl])), (m6, .inl (E.2.1.1, 36, .inl to)), (m7, .inl (E.2.1.1, 12, .inl so)), (mc, .inl (E.2.1.1, 21, .inl pg)), (md, .inl (E.2.1.1, 21, .inl σ))] := by
  intro n
  induction n with
  | zero =>
    intro i σ hi hiN
    exact absurd hi (by omega)
  | succ n ih =>
    intro i σ hi hiN
    refine hg_iload_n C dX6_grows_46 rfl 2 rfl ?_
    refine hg_if_lt C (tgt := 92) dX6_grows_47 (by decide) (fun c5 => ?_) (fun c5 => ?_)
    · refine hg_aload_n C dX6_grows_92 rfl 0 rfl ?_
      refine hg_get C (Cn := RX6) (T := TX6) (N := 23) (v := .ref md) mrX6_grows_6 0 rfl rfl 13 (by decide) mmX6_grows_f28 rfl dX6_grows_93 ?_
      refine hg_bipush C (v := 12) dX6_grows_96 (by decide) ?_
      refine hg_iald C 4 rfl (by unfold vp_in; decide) dX6_grows_98 ?_
      refine hg_callS C (ws' := [(mm, .inr (6, [.int 0, .ref m1, .int ts, .int pc, .int pe, .int tu, .ref m6, .ref m7, .int rp, .int rt, .ref ma, .ref mb, .ref mc, .ref md, .ref me, .int ac, .ref mg, .ref mh, .int sn, .ref mj, .ref mk, .long sd, .int sl])), (m6, .inl (E.2.1.1, 36, .inl to)), (m7, .inl (E.2.1.1, 12, .inl so)), (mc, .inl (E.2.1.1, 21, .inl pg)), (md, .inl (E.2.1.1, 21, .inl σ))]) (rest := []) (kX6_many l E (σ (12 : Int32).toNatClampNeg)) hfX6_many gX6_grows_X6_many ⟨Nat.le_of_ble_eq_true rfl, Nat.le_of_ble_eq_true rfl⟩ ⟨Nat.zero_le _, Nat.zero_le _⟩ [] rfl (by decide) [] rfl rfl rfl rfl (Nat.le_of_ble_eq_true rfl) dX6_grows_99 ?_
      have e9 : (frX6_grows_46 pe tu to so a b) (n + 1) i σ = (fX6_many (σ (12 : Int32).toNatClampNeg), σ) := (hid_eq _).trans ((if_pos c5).trans rfl)
      rw [e9]
      exact hg_iret C dX6_grows_102 rfl rfl
    · refine hg_iload_n C dX6_grows_50 rfl 1 rfl ?_
      refine hg_bipush C (v := 10) dX6_grows_51 (by decide) ?_
      refine hg_iload_n C dX6_grows_53 rfl 2 rfl ?_
      refine hg_callS C (ws' := [(mm, .inr (6, [.int 0, .ref m1, .int ts, .int pc, .int pe, .int tu, .ref m6, .ref m7, .int rp, .int rt, .ref ma, .ref mb, .ref mc, .ref md, .ref me, .int ac, .ref mg, .ref mh, .int sn, .ref mj, .ref mk, .long sd, .int sl])), (m6, .inl (E.2.1.1, 36, .inl to)), (m7, .inl (E.2.1.1, 12, .inl so)), (mc, .inl (E.2.1.1, 21, .inl pg)), (md, .inl (E.2.1.1, 21, .inl σ))]) (rest := [.int b]) (kX6_power l E 10 (dcr (a - 1) i)) hfX6_power gX6_grows_X6_power ⟨Nat.le_of_ble_eq_true rfl, Nat.le_of_ble_eq_true rfl⟩ ⟨Nat.zero_le _, Nat.zero_le _⟩ [] rfl (by decide) [] rfl rfl rfl rfl (Nat.le_of_ble_eq_true rfl) dX6_grows_54 ?_
      refine hg_idiv C dX6_grows_57 (pw_dc hn (dc_lt hn hiN (by assumption))) ?_
      refine hg_bipush C (v := 10) dX6_grows_58 (by decide) ?_
      refine hg_irem C dX6_grows_60 (by decide) ?_
      refine hg_istore C (lv' := [(4, .int ((b / (fX6_power 10 (dcr (a - 1) i))) - (b / (fX6_power 10 (dcr (a - 1) i))) / 10 * 10)), (0, .ref mm), (2, .int b), (3, .int (dcr (a - 1) i))]) dX6_grows_61 (by decide) rfl ?_
      refine hg_aload_n C dX6_grows_63 rfl 1 rfl ?_
      refine hg_iload C dX6_grows_64 0 rfl ?_
      refine hg_callV C (ws' := [(mm, .inr (6, [.int 0, .ref m1, .int ts, .int pc, .int pe, .int tu, .ref m6, .ref m7, .int rp, .int rt, .ref ma, .ref mb, .ref mc, .ref md, .ref me, .int ac, .ref mg, .ref mh, .int sn, .ref mj, .ref mk, .long sd, .int sl])), (m6, .inl (E.2.1.1, 36, .inl to)), (m7, .inl (E.2.1.1, 12, .inl so)), (mc, .inl (E.2.1.1, 21, .inl pg)), (md, .inl (E.2.1.1, 21, .inl σ))]) (rest := []) (kX6_noTune l E mm m1 m6 m7 ma mb mc md me mg mh mj mk ts pc pe tu rp rt ac sn sd sl ((b / (fX6_power 10 (dcr (a - 1) i))) - (b / (fX6_power 10 (dcr (a - 1) i))) / 10 * 10)) hfX6_noTune gX6_grows_X6_noTune ⟨Nat.le_of_ble_eq_true rfl, Nat.le_of_ble_eq_true rfl⟩ ⟨Nat.zero_le _, Nat.zero_le _⟩ [0] rfl (by decide) [mm] rfl rfl rfl 0 rfl rfl rfl rfl (Nat.le_of_ble_eq_true rfl) dX6_grows_66 ?_
      refine hg_if_eq C (tgt := 75) dX6_grows_69 (by decide) (fun c6 => ?_) (fun c6 => ?_)
      · refine hg_aload_n C dX6_grows_75 rfl 1 rfl ?_
        refine hg_aload_n C dX6_grows_76 rfl 1 rfl ?_
        refine hg_get C (Cn := RX6) (T := TX6) (N := 23) (v := .ref md) mrX6_grows_6 0 rfl rfl 13 (by decide) mmX6_grows_f28 rfl dX6_grows_77 ?_
        refine hg_iload C dX6_grows_80 0 rfl ?_
        refine hg_callV C (ws' := [(mm, .inr (6, [.int 0, .ref m1, .int ts, .int pc, .int pe, .int tu, .ref m6, .ref m7, .int rp, .int rt, .ref ma, .ref mb, .ref mc, .ref md, .ref me, .int ac, .ref mg, .ref mh, .int sn, .ref mj, .ref mk, .long sd, .int sl])), (m6, .inl (E.2.1.1, 36, .inl to)), (m7, .inl (E.2.1.1, 12, .inl so)), (mc, .inl (E.2.1.1, 21, .inl pg)), (md, .inl (E.2.1.1, 21, .inl ((fX6_goPlay pe to so σ ((b / (fX6_power 10 (dcr (a - 1) i))) - (b / (fX6_power 10 (dcr (a - 1) i))) / 10 * 10)).2)))]) (rest := []) (kX6_goPlay l E mm m1 m6 m7 ma mb mc md me mg mh mj mk ts pc pe tu rp rt ac sn sd sl to so md σ ((b / (fX6_power 10 (dcr (a - 1) i))) - (b / (fX6_power 10 (dcr (a - 1) i))) / 10 * 10) (Nat.le_of_lt_succ (vp_cl hp7)) (nt_in ht5 (by assumption))) hfX6_goPlay gX6_grows_X6_goPlay ⟨Nat.le_of_ble_eq_true rfl, Nat.le_of_ble_eq_true rfl⟩ ⟨Nat.zero_le _, Nat.zero_le _⟩ [0, 1, 2, 4] rfl (by decide) [mm, m6, m7, md] rfl rfl rfl 0 rfl rfl rfl rfl (Nat.le_of_ble_eq_true rfl) dX6_grows_82 ?_
        refine hg_pop C dX6_grows_85 rfl ?_
        refine hg_iinc C (v := dcr (a - 1) (i + 1)) (lv' := [(3, .int (dcr (a - 1) (i + 1))), (4, .int ((b / (fX6_power 10 (dcr (a - 1) i))) - (b / (fX6_power 10 (dcr (a - 1) i))) / 10 * 10)), (0, .ref mm), (2, .int b)]) dX6_grows_86 3 rfl rfl (by decide) rfl ?_
        refine hg_goto C (tgt := 46) dX6_grows_89 (by decide) ?_
        have hlt : i < a.toNatClampNeg := (dc_lt hn hiN (by assumption))
        have e9 : (frX6_grows_46 pe tu to so a b) (n + 1) i σ = (frX6_grows_46 pe tu to so a b) n (i + 1) ((fX6_goPlay pe to so σ ((b / (fX6_power 10 (dcr (a - 1) i))) - (b / (fX6_power 10 (dcr (a - 1) i))) / 10 * 10)).2) := (hid_eq _).trans ((if_neg c5).trans ((if_pos c6).trans rfl))
        rw [e9]
        exact hg_sub [2, 3, 0] rfl (ih (i + 1) ((fX6_goPlay pe to so σ ((b / (fX6_power 10 (dcr (a - 1) i))) - (b / (fX6_power 10 (dcr (a - 1) i))) / 10 * 10)).2) (by omega) (by omega))
      · refine hg_bipush C (v := (-2)) dX6_grows_72 (by decide) ?_
        have e9 : (frX6_grows_46 pe tu to so a b) (n + 1) i σ = ((-2), σ) := (hid_eq _).trans ((if_neg c5).trans ((if_neg c6).trans rfl))
        rw [e9]
        exact hg_iret C dX6_grows_74 rfl rfl
noncomputable def fX6_grows (pe : Int32) (tu : Int32) (to : Nat → Int32) (so : Nat → Int32) (pg : Nat → Int32) (tr : Nat → Int32) (a : Int32) (b : Int32) : Int32 × (Nat → Int32) := hid (if (fX6_in a.toInt64 1 6) = 0 then ((-2), tr) else if (fX6_in b.toInt64 0 (((fX6_power 10 a) - 1).toInt64)) = 0 then ((-2), tr) else (frX6_grows_46 pe tu to so a b) (a.toNatClampNeg + 1) 0 (fX6_begin pg tr))
set_option maxHeartbeats 4000000 in
set_option maxRecDepth 100000 in
theorem kX6_grows (l : Launch) (E : hE) (mm : Nat) (m1 : Nat) (m6 : Nat) (m7 : Nat) (ma : Nat) (mb : Nat) (mc : Nat) (md : Nat) (me : Nat) (mg : Nat) (mh : Nat) (mj : Nat) (mk : Nat) (ts : Int32) (pc : Int32) (pe : Int32) (tu : Int32) (rp : Int32) (rt : Int32) (ac : Int32) (sn : Int32) (sd : Int64) (sl : Int32) (to : Nat → Int32) (so : Nat → Int32) (pg : Nat → Int32) (tr : Nat → Int32) (a : Int32) (b : Int32) (hp7 : vp_in pe 7) (ht5 : vp_in tu 5) : hC l yX6_grows wsX6_grows rmX6_grows E [.ref mm, .int a, .int b] [(mm, .inr (6, [.int 0, .ref m1, .int ts, .int pc, .int pe, .int tu, .ref m6, .ref m7, .int rp, .int rt, .ref ma, .ref mb, .ref mc, .ref md, .ref me, .int ac, .ref mg, .ref mh, .int sn, .ref mj, .ref mk, .long sd, .int sl])), (m6, .inl (E.2.1.1, 36, .inl to)), (m7, .inl (E.2.1.1, 12, .inl so)), (mc, .inl (E.2.1.1, 21, .inl pg)), (md, .inl (E.2.1.1, 21, .inl tr))] (some (.int ((fX6_grows pe tu to so pg tr a b).1))) [(mm, .inr (6, [.int 0, .ref m1, .int ts, .int pc, .int pe, .int tu, .ref m6, .ref m7, .int rp, .int rt, .ref ma, .ref mb, .ref mc, .ref md, .ref me, .int ac, .ref mg, .ref mh, .int sn, .ref mj, .ref mk, .long sd, .int sl])), (m6, .inl (E.2.1.1, 36, .inl to)), (m7, .inl (E.2.1.1, 12, .inl so)), (mc, .inl (E.2.1.1, 21, .inl pg)), (md, .inl (E.2.1.1, 21, .inl ((fX6_grows pe tu to so pg tr a b).2)))] := by
  refine hC_intro (cc := cX6_grows) (maxL := 5) (ret := (some .int)) (lv0 := [(0, .ref mm), (1, .int a), (2, .int b)]) (by decide) rfl (Nat.le_of_ble_eq_true rfl) rfl ?_
  intro p e s m below meth c A C
  refine hg_aload_n C dX6_grows_0 rfl 0 rfl ?_
  refine hg_iconst C (v := 0) dX6_grows_1 (by decide) ?_
  refine hg_put C (Cn := RX6) (T := TX6) (N := 23) (ws' := [(mm, .inr (6, [.int 0, .ref m1, .int ts, .int pc, .int pe, .int tu, .ref m6, .ref m7, .int rp, .int rt, .ref ma, .ref mb, .ref mc, .ref md, .ref me, .int ac, .ref mg, .ref mh, .int sn, .ref mj, .ref mk, .long sd, .int sl])), (m6, .inl (E.2.1.1, 36, .inl to)), (m7, .inl (E.2.1.1, 12, .inl so)), (mc, .inl (E.2.1.1, 21, .inl pg)), (md, .inl (E.2.1.1, 21, .inl tr))]) mrX6_grows_6 tyX6 tyX6_ok nmX6 0 rfl rfl 0 (by decide) mmX6_grows_f47 rfl rfl rfl rfl (Nat.le_of_ble_eq_true rfl) rfl dX6_grows_2 ?_
  refine hg_iload_n C dX6_grows_5 rfl 1 rfl ?_
  refine hg_i2l C dX6_grows_6 ?_
  refine hg_lconst C (v := 1) dX6_grows_7 rfl ?_
  refine hg_ldc2 C mmX6_grows_k145 dX6_grows_8 ?_
  refine hg_callS C (ws' := [(mm, .inr (6, [.int 0, .ref m1, .int ts, .int pc, .int pe, .int tu, .ref m6, .ref m7, .int rp, .int rt, .ref ma, .ref mb, .ref mc, .ref md, .ref me, .int ac, .ref mg, .ref mh, .int sn, .ref mj, .ref mk, .long sd, .int sl])), (m6, .inl (E.2.1.1, 36, .inl to)), (m7, .inl (E.2.1.1, 12, .inl so)), (mc, .inl (E.2.1.1, 21, .inl pg)), (md, .inl (E.2.1.1, 21, .inl tr))]) (rest := []) (kX6_in l E a.toInt64 1 6) hfX6_in gX6_grows_X6_in ⟨Nat.le_of_ble_eq_true rfl, Nat.le_of_ble_eq_true rfl⟩ ⟨Nat.zero_le _, Nat.zero_le _⟩ [] rfl (by decide) [] rfl rfl rfl rfl (Nat.le_of_ble_eq_true rfl) dX6_grows_11 ?_
  refine hg_if_eq C (tgt := 35) dX6_grows_14 (by decide) (fun c1 => ?_) (fun c1 => ?_)
  · refine hg_bipush C (v := (-2)) dX6_grows_35 (by decide) ?_
    have e9 : (fX6_grows pe tu to so pg tr a b) = ((-2), tr) := (hid_eq _).trans ((if_pos c1).trans rfl)
    rw [e9]
    exact hg_iret C dX6_grows_37 rfl rfl
  · refine hg_iload_n C dX6_grows_17 rfl 2 rfl ?_
    refine hg_i2l C dX6_grows_18 ?_
    refine hg_lconst C (v := 0) dX6_grows_19 rfl ?_
    refine hg_bipush C (v := 10) dX6_grows_20 (by decide) ?_
    refine hg_iload_n C dX6_grows_22 rfl 1 rfl ?_
    refine hg_callS C (ws' := [(mm, .inr (6, [.int 0, .ref m1, .int ts, .int pc, .int pe, .int tu, .ref m6, .ref m7, .int rp, .int rt, .ref ma, .ref mb, .ref mc, .ref md, .ref me, .int ac, .ref mg, .ref mh, .int sn, .ref mj, .ref mk, .long sd, .int sl])), (m6, .inl (E.2.1.1, 36, .inl to)), (m7, .inl (E.2.1.1, 12, .inl so)), (mc, .inl (E.2.1.1, 21, .inl pg)), (md, .inl (E.2.1.1, 21, .inl tr))]) (rest := [.long 0, .long b.toInt64]) (kX6_power l E 10 a) hfX6_power gX6_grows_X6_power ⟨Nat.le_of_ble_eq_true rfl, Nat.le_of_ble_eq_true rfl⟩ ⟨Nat.zero_le _, Nat.zero_le _⟩ [] rfl (by decide) [] rfl rfl rfl rfl (Nat.le_of_ble_eq_true rfl) dX6_grows_23 ?_
    refine hg_iconst C (v := 1) dX6_grows_26 (by decide) ?_
    refine hg_isub C dX6_grows_27 ?_
    refine hg_i2l C dX6_grows_28 ?_
    refine hg_callS C (ws' := [(mm, .inr (6, [.int 0, .ref m1, .int ts, .int pc, .int pe, .int tu, .ref m6, .ref m7, .int rp, .int rt, .ref ma, .ref mb, .ref mc, .ref md, .ref me, .int ac, .ref mg, .ref mh, .int sn, .ref mj, .ref mk, .long sd, .int sl])), (m6, .inl (E.2.1.1, 36, .inl to)), (m7, .inl (E.2.1.1, 12, .inl so)), (mc, .inl (E.2.1.1, 21, .inl pg)), (md, .inl (E.2.1.1, 21, .inl tr))]) (rest := []) (kX6_in l E b.toInt64 0 (((fX6_power 10 a) - 1).toInt64)) hfX6_in gX6_grows_X6_in ⟨Nat.le_of_ble_eq_true rfl, Nat.le_of_ble_eq_true rfl⟩ ⟨Nat.zero_le _, Nat.zero_le _⟩ [] rfl (by decide) [] rfl rfl rfl rfl (Nat.le_of_ble_eq_true rfl) dX6_grows_29 ?_
    refine hg_if_ne C (tgt := 38) dX6_grows_32 (by decide) (fun c2 => ?_) (fun c2 => ?_)
    · refine hg_aload_n C dX6_grows_38 rfl 0 rfl ?_
      refine hg_callV C (ws' := [(mm, .inr (6, [.int 0, .ref m1, .int ts, .int pc, .int pe, .int tu, .ref m6, .ref m7, .int rp, .int rt, .ref ma, .ref mb, .ref mc, .ref md, .ref me, .int ac, .ref mg, .ref mh, .int sn, .ref mj, .ref mk, .long sd, .int sl])), (m6, .inl (E.2.1.1, 36, .inl to)), (m7, .inl (E.2.1.1, 12, .inl so)), (mc, .inl (E.2.1.1, 21, .inl pg)), (md, .inl (E.2.1.1, 21, .inl (fX6_begin pg tr)))]) (rest := []) (kX6_begin l E mm m1 m6 m7 ma mb mc md me mg mh mj mk ts pc pe tu rp rt ac sn sd sl pg tr) hfX6_begin gX6_grows_X6_begin ⟨Nat.le_of_ble_eq_true rfl, Nat.le_of_ble_eq_true rfl⟩ ⟨Nat.zero_le _, Nat.zero_le _⟩ [0, 3, 4] rfl (by decide) [mm, mc, md] rfl rfl rfl 0 rfl rfl rfl rfl (Nat.le_of_ble_eq_true rfl) dX6_grows_39 ?_
      refine hg_iload_n C dX6_grows_42 rfl 1 rfl ?_
      refine hg_iconst C (v := 1) dX6_grows_43 (by decide) ?_
      refine hg_isub C dX6_grows_44 ?_
      refine hg_istore_n C (lv' := [(3, .int (a - 1)), (0, .ref mm), (1, .int a), (2, .int b)]) dX6_grows_45 rfl (by decide) rfl ?_
      have e9 : (fX6_grows pe tu to so pg tr a b) = (frX6_grows_46 pe tu to so a b) (a.toNatClampNeg + 1) 0 (fX6_begin pg tr) := (hid_eq _).trans ((if_neg c1).trans ((if_neg c2).trans rfl))
      rw [e9]
      refine hg_sub [1, 3, 0] rfl ?_
      exact lpX6_grows_46 C mm m1 m6 m7 ma mb mc md me mg mh mj mk ts pc pe tu rp rt ac sn sd sl to so pg tr a b hp7 ht5 (in_vp (b := 1) (q := 6) rfl rfl (by assumption) (by decide) (by decide)) (a.toNatClampNeg + 1) 0 (fX6_begin pg tr) (by omega) (by omega)
    · refine hg_bipush C (v := (-2)) dX6_grows_35 (by decide) ?_
      have e9 : (fX6_grows pe tu to so pg tr a b) = ((-2), tr) := (hid_eq _).trans ((if_neg c1).trans ((if_pos c2).trans rfl))
      rw [e9]
      exact hg_iret C dX6_grows_37 rfl rfl
theorem mmX6_bestBait_f47 : (Cond.fieldLink RX6 47 "HatRoundModel" "thrown" "I") ∈ wsX6_bestBait := (List.mem_cons_of_mem _ (List.mem_append_left _ (List.mem_of_getElem? (i := 0) rfl)))
theorem mrX6_bestBait_6 : ∀ w ∈ u_ws RX6 TX6 23, w ∈ wsX6_bestBait := fun _ h => (List.mem_cons_of_mem _ (List.mem_append_right _ h))
theorem mmX6_bestBait_f28 : (Cond.fieldLink RX6 28 "HatRoundModel" "trial" "[I") ∈ wsX6_bestBait := (List.mem_cons_of_mem _ (List.mem_append_left _ (List.mem_of_getElem? (i := 1) rfl)))
abbrev rmX6_bestBait : Room := { frames := 2, cells := 0, slots := 0, locals := 49 }
theorem hfX6_bestBait : hCF yX6_bestBait wsX6_bestBait rmX6_bestBait cX6_bestBait 6 (some .int) 1 := ⟨⟨_, rfl⟩, by decide +kernel, rfl, rfl⟩
noncomputable def stX6_bestBait_26 (pe : Int32) (to : Nat → Int32) (pg : Nat → Int32) (a : Int32) (i : Nat) (σ : Int32 × Int32 × Int32 × (Nat → Int32)) : Int32 × Int32 × Int32 × (Nat → Int32) := hid ((if ((fX6_goRound pe to (upd (fX6_begin pg σ.2.2.2) (16 : Int32).toNatClampNeg (nI i)) a).1) ≤ σ.1 then σ.1 else ((fX6_goRound pe to (upd (fX6_begin pg σ.2.2.2) (16 : Int32).toNatClampNeg (nI i)) a).1), if ((fX6_goRound pe to (upd (fX6_begin pg σ.2.2.2) (16 : Int32).toNatClampNeg (nI i)) a).1) ≤ σ.1 then σ.2.1 else (nI i), (fX6_goRound pe to (upd (fX6_begin pg σ.2.2.2) (16 : Int32).toNatClampNeg (nI i)) a).2.1, (fX6_goRound pe to (upd (fX6_begin pg σ.2.2.2) (16 : Int32).toNatClampNeg (nI i)) a).2.2))
set_option maxHeartbeats 4000000 in
set_option maxRecDepth 100000 in
theorem lpX6_bestBait_26 {p : Program} {l : Launch} {e : Env} {s : State} {m : MethodId} {args : Array Value} {below : List Frame} {meth : Method} {c : Code} {E : hE} {A : Nat → Prop} {Q : State → Prop} (C : hX p s m args meth c E A cX6_bestBait 6 RX6 wsX6_bestBait (some .int)) (mm : Nat) (m1 : Nat) (m6 : Nat) (m7 : Nat) (ma : Nat) (mb : Nat) (mc : Nat) (md : Nat) (me : Nat) (mg : Nat) (mh : Nat) (mj : Nat) (mk : Nat) (ts : Int32) (pc : Int32) (pe : Int32) (tu : Int32) (rp : Int32) (rt : Int32) (ac : Int32) (sn : Int32) (sd : Int64) (sl : Int32) (to : Nat → Int32) (so : Nat → Int32) (pg : Nat → Int32) (tr : Nat → Int32) (a : Int32) (hp7 : vp_in pe 7) (ht5 : vp_in tu 5) (σ0 : Int32 × Int32 × Int32 × (Nat → Int32)) (k : hG p l e rmX6_bestBait s m args below meth c E A 6 Q 0 0 89 [(3, .int ((itN (stX6_bestBait_26 pe to pg a) 10 σ0).2.1))] [] [(mm, .inr (6, [.int 0, .ref m1, .int ts, .int pc, .int pe, .int tu, .ref m6, .ref m7, .int rp, .int rt, .ref ma, .ref mb, .ref mc, .ref md, .ref me, .int ac, .ref mg, .ref mh, .int sn, .ref mj, .ref mk, .long sd, .int ((itN (stX6_bestBait_26 pe to pg a) 10 σ0).2.2.1)])), (m6, .inl (E.2.1.1, 36, .inl to)), (m7, .inl (E.2.1.1, 12, .inl so)), (mc, .inl (E.2.1.1, 21, .inl pg)), (md, .inl (E.2.1.1, 21, .inl ((itN (stX6_bestBait_26 pe to pg a) 10 σ0).2.2.2)))]) : ∀ (n i : Nat) (σ : Int32 × Int32 × Int32 × (Nat → Int32)), i + n = 10 → σ = itN (stX6_bestBait_26 pe to pg a) i σ0 → hG p l e rmX6_bestBait s m args below meth c E A 6 Q 0 0 26 [(0, .ref mm), (1, .int a), (2, .int σ.1), (3, .int σ.2.1), (4, .int (nI i))] [] [(mm, .inr (6, [.int 0, .ref m1, .int ts, .int pc, .int pe, .int tu, .ref m6, .ref m7, .int rp, .int rt, .ref ma, .ref mb, .ref mc, .ref md, .ref me, .int ac, .ref mg, .ref mh, .int sn, .ref mj, .ref mk, .long sd, .int σ.2.2.1])), (m6, .inl (E.2.1.1, 36, .inl to)), (m7, .inl (E.2.1.1, 12, .inl so)), (mc, .inl (E.2.1.1, 21, .inl pg)), (md, .inl (E.2.1.1, 21, .inl σ.2.2.2))] := by
  intro n
  induction n with
  | zero =>
    intro i σ hi hσ
    have hi : i = 10 := by omega
    rw [hi] at hσ
    rw [hi]
    subst hσ
    refine hg_iload C dX6_bestBait_26 4 rfl ?_
    refine hg_bipush C (v := 9) dX6_bestBait_28 (by decide) ?_
    refine hg_icmp_gt C (tgt := 89) dX6_bestBait_30 (by decide) (fun _ => ?_) (fun h => absurd (by decide) h)
    exact hg_sub [3] rfl k
  | succ n ih =>
    intro i σ hi hσ
    have hlt : i < 10 := by omega
    refine hg_iload C dX6_bestBait_26 4 rfl ?_
    refine hg_bipush C (v := 9) dX6_bestBait_28 (by decide) ?_
    refine hg_icmp_gt C (tgt := 89) dX6_bestBait_30 (by decide) (fun h => absurd h (nI_nlt (a := 9) (by omega) (by decide))) (fun _ => ?_)
    refine hg_aload_n C dX6_bestBait_33 rfl 0 rfl ?_
    refine hg_callV C (ws' := [(mm, .inr (6, [.int 0, .ref m1, .int ts, .int pc, .int pe, .int tu, .ref m6, .ref m7, .int rp, .int rt, .ref ma, .ref mb, .ref mc, .ref md, .ref me, .int ac, .ref mg, .ref mh, .int sn, .ref mj, .ref mk, .long sd, .int σ.2.2.1])), (m6, .inl (E.2.1.1, 36, .inl to)), (m7, .inl (E.2.1.1, 12, .inl so)), (mc, .inl (E.2.1.1, 21, .inl pg)), (md, .inl (E.2.1.1, 21, .inl (fX6_begin pg σ.2.2.2)))]) (rest := []) (kX6_begin l E mm m1 m6 m7 ma mb mc md me mg mh mj mk ts pc pe tu rp rt ac sn sd σ.2.2.1 pg σ.2.2.2) hfX6_begin gX6_bestBait_X6_begin ⟨Nat.le_of_ble_eq_true rfl, Nat.le_of_ble_eq_true rfl⟩ ⟨Nat.zero_le _, Nat.zero_le _⟩ [0, 3, 4] rfl (by decide) [mm, mc, md] rfl rfl rfl 0 rfl rfl rfl rfl (Nat.le_of_ble_eq_true rfl) dX6_bestBait_34 ?_
    refine hg_aload_n C dX6_bestBait_37 rfl 0 rfl ?_
    refine hg_get C (Cn := RX6) (T := TX6) (N := 23) (v := .ref md) mrX6_bestBait_6 0 rfl rfl 13 (by decide) mmX6_bestBait_f28 rfl dX6_bestBait_38 ?_
    refine hg_bipush C (v := 16) dX6_bestBait_41 (by decide) ?_
    refine hg_iload C dX6_bestBait_43 4 rfl ?_
    refine hg_iast C (ws' := [(mm, .inr (6, [.int 0, .ref m1, .int ts, .int pc, .int pe, .int tu, .ref m6, .ref m7, .int rp, .int rt, .ref ma, .ref mb, .ref mc, .ref md, .ref me, .int ac, .ref mg, .ref mh, .int sn, .ref mj, .ref mk, .long sd, .int σ.2.2.1])), (m6, .inl (E.2.1.1, 36, .inl to)), (m7, .inl (E.2.1.1, 12, .inl so)), (mc, .inl (E.2.1.1, 21, .inl pg)), (md, .inl (E.2.1.1, 21, .inl (upd (fX6_begin pg σ.2.2.2) (16 : Int32).toNatClampNeg (nI i))))]) 4 rfl (by unfold vp_in; decide) rfl dX6_bestBait_45 ?_
    refine hg_aload_n C dX6_bestBait_46 rfl 0 rfl ?_
    refine hg_aload_n C dX6_bestBait_47 rfl 0 rfl ?_
    refine hg_get C (Cn := RX6) (T := TX6) (N := 23) (v := .ref md) mrX6_bestBait_6 0 rfl rfl 13 (by decide) mmX6_bestBait_f28 rfl dX6_bestBait_48 ?_
    refine hg_iload_n C dX6_bestBait_51 rfl 1 rfl ?_
    refine hg_callV C (ws' := [(mm, .inr (6, [.int 0, .ref m1, .int ts, .int pc, .int pe, .int tu, .ref m6, .ref m7, .int rp, .int rt, .ref ma, .ref mb, .ref mc, .ref md, .ref me, .int ac, .ref mg, .ref mh, .int sn, .ref mj, .ref mk, .long sd, .int ((fX6_goRound pe to (upd (fX6_begin pg σ.2.2.2) (16 : Int32).toNatClampNeg (nI i)) a).2.1)])), (m6, .inl (E.2.1.1, 36, .inl to)), (m7, .inl (E.2.1.1, 12, .inl so)), (mc, .inl (E.2.1.1, 21, .inl pg)), (md, .inl (E.2.1.1, 21, .inl ((fX6_goRound pe to (upd (fX6_begin pg σ.2.2.2) (16 : Int32).toNatClampNeg (nI i)) a).2.2)))]) (rest := []) (kX6_goRound l E mm m1 m6 m7 ma mb mc md me mg mh mj mk ts pc pe tu rp rt ac sn sd σ.2.2.1 to so md (upd (fX6_begin pg σ.2.2.2) (16 : Int32).toNatClampNeg (nI i)) a (Nat.le_of_lt_succ (vp_cl hp7))) hfX6_goRound gX6_bestBait_X6_goRound ⟨Nat.le_of_ble_eq_true rfl, Nat.le_of_ble_eq_true rfl⟩ ⟨Nat.zero_le _, Nat.zero_le _⟩ [0, 1, 2, 4] rfl (by decide) [mm, m6, m7, md] rfl rfl rfl 0 rfl rfl rfl rfl (Nat.le_of_ble_eq_true rfl) dX6_bestBait_52 ?_
    refine hg_istore C (lv' := [(5, .int ((fX6_goRound pe to (upd (fX6_begin pg σ.2.2.2) (16 : Int32).toNatClampNeg (nI i)) a).1)), (0, .ref mm), (1, .int a), (2, .int σ.1), (3, .int σ.2.1), (4, .int (nI i))]) dX6_bestBait_55 (by decide) rfl ?_
    refine hg_iload C dX6_bestBait_57 0 rfl ?_
    refine hg_iload_n C dX6_bestBait_59 rfl 3 rfl ?_
    refine hg_join (J := 69) (v := if ((fX6_goRound pe to (upd (fX6_begin pg σ.2.2.2) (16 : Int32).toNatClampNeg (nI i)) a).1) ≤ σ.1 then σ.2.1 else (nI i)) (st1 := []) (fun jj => ?_) ?_
    · refine hg_icmp_le C (tgt := 68) dX6_bestBait_60 (by decide) (fun c4 => ?_) (fun c4 => ?_)
      · refine hg_iload_n C dX6_bestBait_68 rfl 4 rfl ?_
        exact hg_top (v := if ((fX6_goRound pe to (upd (fX6_begin pg σ.2.2.2) (16 : Int32).toNatClampNeg (nI i)) a).1) ≤ σ.1 then σ.2.1 else (nI i)) (v' := σ.2.1) ((if_pos c4).trans rfl) jj
      · refine hg_iload C dX6_bestBait_63 5 rfl ?_
        refine hg_goto C (tgt := 69) dX6_bestBait_65 (by decide) ?_
        exact hg_top (v := if ((fX6_goRound pe to (upd (fX6_begin pg σ.2.2.2) (16 : Int32).toNatClampNeg (nI i)) a).1) ≤ σ.1 then σ.2.1 else (nI i)) (v' := nI i) ((if_neg c4).trans rfl) jj
    refine hg_istore_n C (lv' := [(3, .int (if ((fX6_goRound pe to (upd (fX6_begin pg σ.2.2.2) (16 : Int32).toNatClampNeg (nI i)) a).1) ≤ σ.1 then σ.2.1 else (nI i))), (5, .int ((fX6_goRound pe to (upd (fX6_begin pg σ.2.2.2) (16 : Int32).toNatClampNeg (nI i)) a).1)), (0, .ref mm), (1, .int a), (2, .int σ.1), (4, .int (nI i))]) dX6_bestBait_69 rfl (by decide) rfl ?_
    refine hg_iload C dX6_bestBait_70 1 rfl ?_
    refine hg_iload_n C dX6_bestBait_72 rfl 4 rfl ?_
    refine hg_join (J := 82) (v := if ((fX6_goRound pe to (upd (fX6_begin pg σ.2.2.2) (16 : Int32).toNatClampNeg (nI i)) a).1) ≤ σ.1 then σ.1 else ((fX6_goRound pe to (upd (fX6_begin pg σ.2.2.2) (16 : Int32).toNatClampNeg (nI i)) a).1)) (st1 := []) (fun jj => ?_) ?_
    · refine hg_icmp_le C (tgt := 81) dX6_bestBait_73 (by decide) (fun c5 => ?_) (fun c5 => ?_)
      · refine hg_iload_n C dX6_bestBait_81 rfl 4 rfl ?_
        exact hg_top (v := if ((fX6_goRound pe to (upd (fX6_begin pg σ.2.2.2) (16 : Int32).toNatClampNeg (nI i)) a).1) ≤ σ.1 then σ.1 else ((fX6_goRound pe to (upd (fX6_begin pg σ.2.2.2) (16 : Int32).toNatClampNeg (nI i)) a).1)) (v' := σ.1) ((if_pos c5).trans rfl) jj
      · refine hg_iload C dX6_bestBait_76 1 rfl ?_
        refine hg_goto C (tgt := 82) dX6_bestBait_78 (by decide) ?_
        exact hg_top (v := if ((fX6_goRound pe to (upd (fX6_begin pg σ.2.2.2) (16 : Int32).toNatClampNeg (nI i)) a).1) ≤ σ.1 then σ.1 else ((fX6_goRound pe to (upd (fX6_begin pg σ.2.2.2) (16 : Int32).toNatClampNeg (nI i)) a).1)) (v' := (fX6_goRound pe to (upd (fX6_begin pg σ.2.2.2) (16 : Int32).toNatClampNeg (nI i)) a).1) ((if_neg c5).trans rfl) jj
    refine hg_istore_n C (lv' := [(2, .int (if ((fX6_goRound pe to (upd (fX6_begin pg σ.2.2.2) (16 : Int32).toNatClampNeg (nI i)) a).1) ≤ σ.1 then σ.1 else ((fX6_goRound pe to (upd (fX6_begin pg σ.2.2.2) (16 : Int32).toNatClampNeg (nI i)) a).1))), (3, .int (if ((fX6_goRound pe to (upd (fX6_begin pg σ.2.2.2) (16 : Int32).toNatClampNeg (nI i)) a).1) ≤ σ.1 then σ.2.1 else (nI i))), (5, .int ((fX6_goRound pe to (upd (fX6_begin pg σ.2.2.2) (16 : Int32).toNatClampNeg (nI i)) a).1)), (0, .ref mm), (1, .int a), (4, .int (nI i))]) dX6_bestBait_82 rfl (by decide) rfl ?_
    refine hg_iinc C (v := nI (i + 1)) (lv' := [(4, .int (nI (i + 1))), (2, .int (if ((fX6_goRound pe to (upd (fX6_begin pg σ.2.2.2) (16 : Int32).toNatClampNeg (nI i)) a).1) ≤ σ.1 then σ.1 else ((fX6_goRound pe to (upd (fX6_begin pg σ.2.2.2) (16 : Int32).toNatClampNeg (nI i)) a).1))), (3, .int (if ((fX6_goRound pe to (upd (fX6_begin pg σ.2.2.2) (16 : Int32).toNatClampNeg (nI i)) a).1) ≤ σ.1 then σ.2.1 else (nI i))), (5, .int ((fX6_goRound pe to (upd (fX6_begin pg σ.2.2.2) (16 : Int32).toNatClampNeg (nI i)) a).1)), (0, .ref mm), (1, .int a)]) dX6_bestBait_83 5 rfl (nI_inc _) (by decide) rfl ?_
    refine hg_goto C (tgt := 26) dX6_bestBait_86 (by decide) ?_
    have e9 : (stX6_bestBait_26 pe to pg a) i σ = (if ((fX6_goRound pe to (upd (fX6_begin pg σ.2.2.2) (16 : Int32).toNatClampNeg (nI i)) a).1) ≤ σ.1 then σ.1 else ((fX6_goRound pe to (upd (fX6_begin pg σ.2.2.2) (16 : Int32).toNatClampNeg (nI i)) a).1), if ((fX6_goRound pe to (upd (fX6_begin pg σ.2.2.2) (16 : Int32).toNatClampNeg (nI i)) a).1) ≤ σ.1 then σ.2.1 else (nI i), (fX6_goRound pe to (upd (fX6_begin pg σ.2.2.2) (16 : Int32).toNatClampNeg (nI i)) a).2.1, (fX6_goRound pe to (upd (fX6_begin pg σ.2.2.2) (16 : Int32).toNatClampNeg (nI i)) a).2.2) := hid_eq _
    have h9 := ih (i + 1) (if ((fX6_goRound pe to (upd (fX6_begin pg σ.2.2.2) (16 : Int32).toNatClampNeg (nI i)) a).1) ≤ σ.1 then σ.1 else ((fX6_goRound pe to (upd (fX6_begin pg σ.2.2.2) (16 : Int32).toNatClampNeg (nI i)) a).1), if ((fX6_goRound pe to (upd (fX6_begin pg σ.2.2.2) (16 : Int32).toNatClampNeg (nI i)) a).1) ≤ σ.1 then σ.2.1 else (nI i), (fX6_goRound pe to (upd (fX6_begin pg σ.2.2.2) (16 : Int32).toNatClampNeg (nI i)) a).2.1, (fX6_goRound pe to (upd (fX6_begin pg σ.2.2.2) (16 : Int32).toNatClampNeg (nI i)) a).2.2) (by omega) (e9.symm.trans (congrArg ((stX6_bestBait_26 pe to pg a) i) hσ))
    exact hg_sub [4, 5, 1, 2, 0] rfl h9
noncomputable def fX6_bestBait (pe : Int32) (sl : Int32) (to : Nat → Int32) (pg : Nat → Int32) (tr : Nat → Int32) (a : Int32) : Int32 × Int32 × (Nat → Int32) := hid (if (fX6_in a.toInt64 0 1) = 0 then ((-2), sl, tr) else ((itN (stX6_bestBait_26 pe to pg a) 10 ((-9), 0, sl, tr)).2.1, (itN (stX6_bestBait_26 pe to pg a) 10 ((-9), 0, sl, tr)).2.2.1, (itN (stX6_bestBait_26 pe to pg a) 10 ((-9), 0, sl, tr)).2.2.2))
set_option maxHeartbeats 4000000 in
set_option maxRecDepth 100000 in
theorem kX6_bestBait (l : Launch) (E : hE) (mm : Nat) (m1 : Nat) (m6 : Nat) (m7 : Nat) (ma : Nat) (mb : Nat) (mc : Nat) (md : Nat) (me : Nat) (mg : Nat) (mh : Nat) (mj : Nat) (mk : Nat) (ts : Int32) (pc : Int32) (pe : Int32) (tu : Int32) (rp : Int32) (rt : Int32) (ac : Int32) (sn : Int32) (sd : Int64) (sl : Int32) (to : Nat → Int32) (so : Nat → Int32) (pg : Nat → Int32) (tr : Nat → Int32) (a : Int32) (hp7 : vp_in pe 7) (ht5 : vp_in tu 5) : hC l yX6_bestBait wsX6_bestBait rmX6_bestBait E [.ref mm, .int a] [(mm, .inr (6, [.int 0, .ref m1, .int ts, .int pc, .int pe, .int tu, .ref m6, .ref m7, .int rp, .int rt, .ref ma, .ref mb, .ref mc, .ref md, .ref me, .int ac, .ref mg, .ref mh, .int sn, .ref mj, .ref mk, .long sd, .int sl])), (m6, .inl (E.2.1.1, 36, .inl to)), (m7, .inl (E.2.1.1, 12, .inl so)), (mc, .inl (E.2.1.1, 21, .inl pg)), (md, .inl (E.2.1.1, 21, .inl tr))] (some (.int ((fX6_bestBait pe sl to pg tr a).1))) [(mm, .inr (6, [.int 0, .ref m1, .int ts, .int pc, .int pe, .int tu, .ref m6, .ref m7, .int rp, .int rt, .ref ma, .ref mb, .ref mc, .ref md, .ref me, .int ac, .ref mg, .ref mh, .int sn, .ref mj, .ref mk, .long sd, .int ((fX6_bestBait pe sl to pg tr a).2.1)])), (m6, .inl (E.2.1.1, 36, .inl to)), (m7, .inl (E.2.1.1, 12, .inl so)), (mc, .inl (E.2.1.1, 21, .inl pg)), (md, .inl (E.2.1.1, 21, .inl ((fX6_bestBait pe sl to pg tr a).2.2)))] := by
  refine hC_intro (cc := cX6_bestBait) (maxL := 6) (ret := (some .int)) (lv0 := [(0, .ref mm), (1, .int a)]) (by decide) rfl (Nat.le_of_ble_eq_true rfl) rfl ?_
  intro p e s m below meth c A C
  refine hg_aload_n C dX6_bestBait_0 rfl 0 rfl ?_
  refine hg_iconst C (v := 0) dX6_bestBait_1 (by decide) ?_
  refine hg_put C (Cn := RX6) (T := TX6) (N := 23) (ws' := [(mm, .inr (6, [.int 0, .ref m1, .int ts, .int pc, .int pe, .int tu, .ref m6, .ref m7, .int rp, .int rt, .ref ma, .ref mb, .ref mc, .ref md, .ref me, .int ac, .ref mg, .ref mh, .int sn, .ref mj, .ref mk, .long sd, .int sl])), (m6, .inl (E.2.1.1, 36, .inl to)), (m7, .inl (E.2.1.1, 12, .inl so)), (mc, .inl (E.2.1.1, 21, .inl pg)), (md, .inl (E.2.1.1, 21, .inl tr))]) mrX6_bestBait_6 tyX6 tyX6_ok nmX6 0 rfl rfl 0 (by decide) mmX6_bestBait_f47 rfl rfl rfl rfl (Nat.le_of_ble_eq_true rfl) rfl dX6_bestBait_2 ?_
  refine hg_iload_n C dX6_bestBait_5 rfl 1 rfl ?_
  refine hg_i2l C dX6_bestBait_6 ?_
  refine hg_lconst C (v := 0) dX6_bestBait_7 rfl ?_
  refine hg_lconst C (v := 1) dX6_bestBait_8 rfl ?_
  refine hg_callS C (ws' := [(mm, .inr (6, [.int 0, .ref m1, .int ts, .int pc, .int pe, .int tu, .ref m6, .ref m7, .int rp, .int rt, .ref ma, .ref mb, .ref mc, .ref md, .ref me, .int ac, .ref mg, .ref mh, .int sn, .ref mj, .ref mk, .long sd, .int sl])), (m6, .inl (E.2.1.1, 36, .inl to)), (m7, .inl (E.2.1.1, 12, .inl so)), (mc, .inl (E.2.1.1, 21, .inl pg)), (md, .inl (E.2.1.1, 21, .inl tr))]) (rest := []) (kX6_in l E a.toInt64 0 1) hfX6_in gX6_bestBait_X6_in ⟨Nat.le_of_ble_eq_true rfl, Nat.le_of_ble_eq_true rfl⟩ ⟨Nat.zero_le _, Nat.zero_le _⟩ [] rfl (by decide) [] rfl rfl rfl rfl (Nat.le_of_ble_eq_true rfl) dX6_bestBait_9 ?_
  refine hg_if_ne C (tgt := 18) dX6_bestBait_12 (by decide) (fun c1 => ?_) (fun c1 => ?_)
  · refine hg_bipush C (v := (-9)) dX6_bestBait_18 (by decide) ?_
    refine hg_istore_n C (lv' := [(2, .int (-9)), (0, .ref mm), (1, .int a)]) dX6_bestBait_20 rfl (by decide) rfl ?_
    refine hg_iconst C (v := 0) dX6_bestBait_21 (by decide) ?_
    refine hg_istore_n C (lv' := [(3, .int 0), (2, .int (-9)), (0, .ref mm), (1, .int a)]) dX6_bestBait_22 rfl (by decide) rfl ?_
    refine hg_iconst C (v := 0) dX6_bestBait_23 (by decide) ?_
    refine hg_istore C (lv' := [(4, .int 0), (3, .int 0), (2, .int (-9)), (0, .ref mm), (1, .int a)]) dX6_bestBait_24 (by decide) rfl ?_
    refine hg_sub [3, 4, 2, 1, 0] rfl ?_
    refine lpX6_bestBait_26 C mm m1 m6 m7 ma mb mc md me mg mh mj mk ts pc pe tu rp rt ac sn sd sl to so pg tr a hp7 ht5 ((-9), 0, sl, tr) ?_ 10 0 ((-9), 0, sl, tr) (by omega) rfl
    refine hg_iload_n C dX6_bestBait_89 rfl 0 rfl ?_
    have e9 : (fX6_bestBait pe sl to pg tr a) = ((itN (stX6_bestBait_26 pe to pg a) 10 ((-9), 0, sl, tr)).2.1, (itN (stX6_bestBait_26 pe to pg a) 10 ((-9), 0, sl, tr)).2.2.1, (itN (stX6_bestBait_26 pe to pg a) 10 ((-9), 0, sl, tr)).2.2.2) := (hid_eq _).trans ((if_neg c1).trans rfl)
    rw [e9]
    exact hg_iret C dX6_bestBait_90 rfl rfl
  · refine hg_bipush C (v := (-2)) dX6_bestBait_15 (by decide) ?_
    have e9 : (fX6_bestBait pe sl to pg tr a) = ((-2), sl, tr) := (hid_eq _).trans ((if_pos c1).trans rfl)
    rw [e9]
    exact hg_iret C dX6_bestBait_17 rfl rfl
theorem mmX6_judged_f47 : (Cond.fieldLink RX6 47 "HatRoundModel" "thrown" "I") ∈ wsX6_judged := (List.mem_cons_of_mem _ (List.mem_append_left _ (List.mem_append_left _ (List.mem_of_getElem? (i := 0) rfl))))
theorem mrX6_judged_6 : ∀ w ∈ u_ws RX6 TX6 23, w ∈ wsX6_judged := fun _ h => (List.mem_cons_of_mem _ (List.mem_append_right _ h))
theorem mmX6_judged_k147 : (Cond.constantLong RX6 147 (8)) ∈ wsX6_judged := (List.mem_cons_of_mem _ (List.mem_append_left _ (List.mem_append_left _ (List.mem_of_getElem? (i := 1) rfl))))
theorem mmX6_judged_f28 : (Cond.fieldLink RX6 28 "HatRoundModel" "trial" "[I") ∈ wsX6_judged := (List.mem_cons_of_mem _ (List.mem_append_left _ (List.mem_append_left _ (List.mem_of_getElem? (i := 2) rfl))))
abbrev rmX6_judged : Room := { frames := 3, cells := 0, slots := 0, locals := 71 }
theorem hfX6_judged : hCF yX6_judged wsX6_judged rmX6_judged cX6_judged 4 (some .int) 2 := ⟨⟨_, rfl⟩, by decide +kernel, rfl, rfl⟩
noncomputable def frX6_judged_44 (pe : Int32) (tu : Int32) (to : Nat → Int32) (so : Nat → Int32) (a : Int32) (b : Int32) : Nat → Nat → (Int32 × (Nat → Int32)) → Int32 × Int32 × (Nat → Int32)
  | 0, _, σ => (0, σ.1, σ.2)
  | n + 1, i, σ => hid (if a ≤ (nI i) then ((-9), σ.1, σ.2) else if ((fX6_goAct pe tu σ.1 to so σ.2 ((b / (fX6_power 10 ((a - 1) - (nI i)))) - (b / (fX6_power 10 ((a - 1) - (nI i)))) / 10 * 10)).1) = 0 then (nI i, (fX6_goAct pe tu σ.1 to so σ.2 ((b / (fX6_power 10 ((a - 1) - (nI i)))) - (b / (fX6_power 10 ((a - 1) - (nI i)))) / 10 * 10)).2.1, (fX6_goAct pe tu σ.1 to so σ.2 ((b / (fX6_power 10 ((a - 1) - (nI i)))) - (b / (fX6_power 10 ((a - 1) - (nI i)))) / 10 * 10)).2.2) else if (((fX6_goAct pe tu σ.1 to so σ.2 ((b / (fX6_power 10 ((a - 1) - (nI i)))) - (b / (fX6_power 10 ((a - 1) - (nI i)))) / 10 * 10)).2.2) (12 : Int32).toNatClampNeg) = 0 then (nI i, (fX6_goAct pe tu σ.1 to so σ.2 ((b / (fX6_power 10 ((a - 1) - (nI i)))) - (b / (fX6_power 10 ((a - 1) - (nI i)))) / 10 * 10)).2.1, (fX6_goAct pe tu σ.1 to so σ.2 ((b / (fX6_power 10 ((a - 1) - (nI i)))) - (b / (fX6_power 10 ((a - 1) - (nI i)))) / 10 * 10)).2.2) else (frX6_judged_44 pe tu to so a b) n (i + 1) ((fX6_goAct pe tu σ.1 to so σ.2 ((b / (fX6_power 10 ((a - 1) - (nI i)))) - (b / (fX6_power 10 ((a - 1) - (nI i)))) / 10 * 10)).2.1, (fX6_goAct pe tu σ.1 to so σ.2 ((b / (fX6_power 10 ((a - 1) - (nI i)))) - (b / (fX6_power 10 ((a - 1) - (nI i)))) / 10 * 10)).2.2))
set_option maxHeartbeats 4000000 in
set_option maxRecDepth 100000 in
theorem lpX6_judged_44 {p : Program} {l : Launch} {e : Env} {s : State} {m : MethodId} {args : Array Value} {below : List Frame} {meth : Method} {c : Code} {E : hE} {A : Nat → Prop} (C : hX p s m args meth c E A cX6_judged 4 RX6 wsX6_judged (some .int)) (mm : Nat) (m1 : Nat) (m6 : Nat) (m7 : Nat) (ma : Nat) (mb : Nat) (mc : Nat) (md : Nat) (me : Nat) (mg : Nat) (mh : Nat) (mj : Nat) (mk : Nat) (ts : Int32) (pc : Int32) (pe : Int32) (tu : Int32) (rp : Int32) (rt : Int32) (ac : Int32) (sn : Int32) (sd : Int64) (sl : Int32) (to : Nat → Int32) (so : Nat → Int32) (pg : Nat → Int32) (tr : Nat → Int32) (a : Int32) (b : Int32) (hp7 : vp_in pe 7) (ht5 : vp_in tu 5) (hn : vp_in a 10) : ∀ (n i : Nat) (σ : Int32 × (Nat → Int32)), i + n = a.toNatClampNeg + 1 → i ≤ a.toNatClampNeg → hG p l e rmX6_judged s m args below meth c E A 4 (hQ E A below args s (some (.int (((frX6_judged_44 pe tu to so a b) n i σ).1))) [(mm, .inr (6, [.int 0, .ref m1, .int ts, .int pc, .int pe, .int tu, .ref m6, .ref m7, .int rp, .int rt, .ref ma, .ref mb, .ref mc, .ref md, .ref me, .int ac, .ref mg, .ref mh, .int sn, .ref mj, .ref mk, .long sd, .int (((frX6_judged_44 pe tu to so a b) n i σ).2.1)])), (m6, .inl (E.2.1.1, 36, .inl to)), (m7, .inl (E.2.1.1, 12, .inl so)), (mc, .inl (E.2.1.1, 21, .inl pg)), (md, .inl (E.2.1.1, 21, .inl (((frX6_judged_44 pe tu to so a b) n i σ).2.2)))]) 0 0 44 [(0, .ref mm), (1, .int a), (2, .int b), (3, .int (nI i))] [] [(mm, .inr (6, [.int 0, .ref m1, .int ts, .int pc, .int pe, .int tu, .ref m6, .ref m7, .int rp, .int rt, .ref ma, .ref mb, .ref mc, .ref md, .ref me, .int ac, .ref mg, .ref mh, .int sn, .ref mj, .ref mk, .long sd, .int σ.1])), (m6, .inl (E.2.1.1, 36, .inl to)), (m7, .inl (E.2.1.1, 12, .inl so)), (mc, .inl (E.2.1.1, 21, .inl pg)), (md, .inl (E.2.1.1, 21, .inl σ.2))] := by
  intro n
  induction n with
  | zero =>
    intro i σ hi hiN
    exact absurd hi (by omega)
  | succ n ih =>
    intro i σ hi hiN
    refine hg_iload_n C dX6_judged_44 rfl 3 rfl ?_
    refine hg_iload_n C dX6_judged_45 rfl 1 rfl ?_
    refine hg_icmp_ge C (tgt := 93) dX6_judged_46 (by decide) (fun c6 => ?_) (fun c6 => ?_)
    · refine hg_bipush C (v := (-9)) dX6_judged_93 (by decide) ?_
      have e9 : (frX6_judged_44 pe tu to so a b) (n + 1) i σ = ((-9), σ.1, σ.2) := (hid_eq _).trans ((if_pos c6).trans rfl)
      rw [e9]
      exact hg_iret C dX6_judged_95 rfl rfl
    · refine hg_aload_n C dX6_judged_49 rfl 0 rfl ?_
      refine hg_aload_n C dX6_judged_50 rfl 0 rfl ?_
      refine hg_get C (Cn := RX6) (T := TX6) (N := 23) (v := .ref md) mrX6_judged_6 0 rfl rfl 13 (by decide) mmX6_judged_f28 rfl dX6_judged_51 ?_
      refine hg_iload_n C dX6_judged_54 rfl 2 rfl ?_
      refine hg_bipush C (v := 10) dX6_judged_55 (by decide) ?_
      refine hg_iload_n C dX6_judged_57 rfl 1 rfl ?_
      refine hg_iconst C (v := 1) dX6_judged_58 (by decide) ?_
      refine hg_isub C dX6_judged_59 ?_
      refine hg_iload_n C dX6_judged_60 rfl 3 rfl ?_
      refine hg_isub C dX6_judged_61 ?_
      refine hg_callS C (ws' := [(mm, .inr (6, [.int 0, .ref m1, .int ts, .int pc, .int pe, .int tu, .ref m6, .ref m7, .int rp, .int rt, .ref ma, .ref mb, .ref mc, .ref md, .ref me, .int ac, .ref mg, .ref mh, .int sn, .ref mj, .ref mk, .long sd, .int σ.1])), (m6, .inl (E.2.1.1, 36, .inl to)), (m7, .inl (E.2.1.1, 12, .inl so)), (mc, .inl (E.2.1.1, 21, .inl pg)), (md, .inl (E.2.1.1, 21, .inl σ.2))]) (rest := [.int b, .ref md, .ref mm]) (kX6_power l E 10 ((a - 1) - (nI i))) hfX6_power gX6_judged_X6_power ⟨Nat.le_of_ble_eq_true rfl, Nat.le_of_ble_eq_true rfl⟩ ⟨Nat.zero_le _, Nat.zero_le _⟩ [] rfl (by decide) [] rfl rfl rfl rfl (Nat.le_of_ble_eq_true rfl) dX6_judged_62 ?_
      refine hg_idiv C dX6_judged_65 (pw_j hn (lt_cl (by have := vp_cl hn; omega) (by assumption))) ?_
      refine hg_bipush C (v := 10) dX6_judged_66 (by decide) ?_
      refine hg_irem C dX6_judged_68 (by decide) ?_
      refine hg_callV C (ws' := [(mm, .inr (6, [.int 0, .ref m1, .int ts, .int pc, .int pe, .int tu, .ref m6, .ref m7, .int rp, .int rt, .ref ma, .ref mb, .ref mc, .ref md, .ref me, .int ac, .ref mg, .ref mh, .int sn, .ref mj, .ref mk, .long sd, .int ((fX6_goAct pe tu σ.1 to so σ.2 ((b / (fX6_power 10 ((a - 1) - (nI i)))) - (b / (fX6_power 10 ((a - 1) - (nI i)))) / 10 * 10)).2.1)])), (m6, .inl (E.2.1.1, 36, .inl to)), (m7, .inl (E.2.1.1, 12, .inl so)), (mc, .inl (E.2.1.1, 21, .inl pg)), (md, .inl (E.2.1.1, 21, .inl ((fX6_goAct pe tu σ.1 to so σ.2 ((b / (fX6_power 10 ((a - 1) - (nI i)))) - (b / (fX6_power 10 ((a - 1) - (nI i)))) / 10 * 10)).2.2)))]) (rest := []) (kX6_goAct l E mm m1 m6 m7 ma mb mc md me mg mh mj mk ts pc pe tu rp rt ac sn sd σ.1 to so md σ.2 ((b / (fX6_power 10 ((a - 1) - (nI i)))) - (b / (fX6_power 10 ((a - 1) - (nI i)))) / 10 * 10) hp7 ht5) hfX6_goAct gX6_judged_X6_goAct ⟨Nat.le_of_ble_eq_true rfl, Nat.le_of_ble_eq_true rfl⟩ ⟨Nat.zero_le _, Nat.zero_le _⟩ [0, 1, 2, 4] rfl (by decide) [mm, m6, m7, md] rfl rfl rfl 0 rfl rfl rfl rfl (Nat.le_of_ble_eq_true rfl) dX6_judged_69 ?_
      refine hg_if_eq C (tgt := 85) dX6_judged_72 (by decide) (fun c7 => ?_) (fun c7 => ?_)
      · refine hg_iload_n C dX6_judged_85 rfl 3 rfl ?_
        have e9 : (frX6_judged_44 pe tu to so a b) (n + 1) i σ = (nI i, (fX6_goAct pe tu σ.1 to so σ.2 ((b / (fX6_power 10 ((a - 1) - (nI i)))) - (b / (fX6_power 10 ((a - 1) - (nI i)))) / 10 * 10)).2.1, (fX6_goAct pe tu σ.1 to so σ.2 ((b / (fX6_power 10 ((a - 1) - (nI i)))) - (b / (fX6_power 10 ((a - 1) - (nI i)))) / 10 * 10)).2.2) := (hid_eq _).trans ((if_neg c6).trans ((if_pos c7).trans rfl))
        rw [e9]
        exact hg_iret C dX6_judged_86 rfl rfl
      · refine hg_aload_n C dX6_judged_75 rfl 0 rfl ?_
        refine hg_get C (Cn := RX6) (T := TX6) (N := 23) (v := .ref md) mrX6_judged_6 0 rfl rfl 13 (by decide) mmX6_judged_f28 rfl dX6_judged_76 ?_
        refine hg_bipush C (v := 12) dX6_judged_79 (by decide) ?_
        refine hg_iald C 4 rfl (by unfold vp_in; decide) dX6_judged_81 ?_
        refine hg_if_ne C (tgt := 87) dX6_judged_82 (by decide) (fun c8 => ?_) (fun c8 => ?_)
        · refine hg_iinc C (v := nI (i + 1)) (lv' := [(3, .int (nI (i + 1))), (0, .ref mm), (1, .int a), (2, .int b)]) dX6_judged_87 3 rfl (nI_inc _) (by decide) rfl ?_
          refine hg_goto C (tgt := 44) dX6_judged_90 (by decide) ?_
          have hlt : i < a.toNatClampNeg := (lt_cl (by have := vp_cl hn; omega) (by assumption))
          have e9 : (frX6_judged_44 pe tu to so a b) (n + 1) i σ = (frX6_judged_44 pe tu to so a b) n (i + 1) ((fX6_goAct pe tu σ.1 to so σ.2 ((b / (fX6_power 10 ((a - 1) - (nI i)))) - (b / (fX6_power 10 ((a - 1) - (nI i)))) / 10 * 10)).2.1, (fX6_goAct pe tu σ.1 to so σ.2 ((b / (fX6_power 10 ((a - 1) - (nI i)))) - (b / (fX6_power 10 ((a - 1) - (nI i)))) / 10 * 10)).2.2) := (hid_eq _).trans ((if_neg c6).trans ((if_neg c7).trans ((if_neg c8).trans rfl)))
          rw [e9]
          exact hg_sub [1, 2, 3, 0] rfl (ih (i + 1) ((fX6_goAct pe tu σ.1 to so σ.2 ((b / (fX6_power 10 ((a - 1) - (nI i)))) - (b / (fX6_power 10 ((a - 1) - (nI i)))) / 10 * 10)).2.1, (fX6_goAct pe tu σ.1 to so σ.2 ((b / (fX6_power 10 ((a - 1) - (nI i)))) - (b / (fX6_power 10 ((a - 1) - (nI i)))) / 10 * 10)).2.2) (by omega) (by omega))
        · refine hg_iload_n C dX6_judged_85 rfl 3 rfl ?_
          have e9 : (frX6_judged_44 pe tu to so a b) (n + 1) i σ = (nI i, (fX6_goAct pe tu σ.1 to so σ.2 ((b / (fX6_power 10 ((a - 1) - (nI i)))) - (b / (fX6_power 10 ((a - 1) - (nI i)))) / 10 * 10)).2.1, (fX6_goAct pe tu σ.1 to so σ.2 ((b / (fX6_power 10 ((a - 1) - (nI i)))) - (b / (fX6_power 10 ((a - 1) - (nI i)))) / 10 * 10)).2.2) := (hid_eq _).trans ((if_neg c6).trans ((if_neg c7).trans ((if_pos c8).trans rfl)))
          rw [e9]
          exact hg_iret C dX6_judged_86 rfl rfl
noncomputable def fX6_judged (pe : Int32) (tu : Int32) (sl : Int32) (to : Nat → Int32) (so : Nat → Int32) (pg : Nat → Int32) (tr : Nat → Int32) (a : Int32) (b : Int32) : Int32 × Int32 × (Nat → Int32) := hid (if (fX6_in a.toInt64 1 8) = 0 then ((-2), sl, tr) else if (fX6_in b.toInt64 0 (((fX6_power 10 a) - 1).toInt64)) = 0 then ((-2), sl, tr) else (frX6_judged_44 pe tu to so a b) (a.toNatClampNeg + 1) 0 (sl, fX6_begin pg tr))
set_option maxHeartbeats 4000000 in
set_option maxRecDepth 100000 in
theorem kX6_judged (l : Launch) (E : hE) (mm : Nat) (m1 : Nat) (m6 : Nat) (m7 : Nat) (ma : Nat) (mb : Nat) (mc : Nat) (md : Nat) (me : Nat) (mg : Nat) (mh : Nat) (mj : Nat) (mk : Nat) (ts : Int32) (pc : Int32) (pe : Int32) (tu : Int32) (rp : Int32) (rt : Int32) (ac : Int32) (sn : Int32) (sd : Int64) (sl : Int32) (to : Nat → Int32) (so : Nat → Int32) (pg : Nat → Int32) (tr : Nat → Int32) (a : Int32) (b : Int32) (hp7 : vp_in pe 7) (ht5 : vp_in tu 5) : hC l yX6_judged wsX6_judged rmX6_judged E [.ref mm, .int a, .int b] [(mm, .inr (6, [.int 0, .ref m1, .int ts, .int pc, .int pe, .int tu, .ref m6, .ref m7, .int rp, .int rt, .ref ma, .ref mb, .ref mc, .ref md, .ref me, .int ac, .ref mg, .ref mh, .int sn, .ref mj, .ref mk, .long sd, .int sl])), (m6, .inl (E.2.1.1, 36, .inl to)), (m7, .inl (E.2.1.1, 12, .inl so)), (mc, .inl (E.2.1.1, 21, .inl pg)), (md, .inl (E.2.1.1, 21, .inl tr))] (some (.int ((fX6_judged pe tu sl to so pg tr a b).1))) [(mm, .inr (6, [.int 0, .ref m1, .int ts, .int pc, .int pe, .int tu, .ref m6, .ref m7, .int rp, .int rt, .ref ma, .ref mb, .ref mc, .ref md, .ref me, .int ac, .ref mg, .ref mh, .int sn, .ref mj, .ref mk, .long sd, .int ((fX6_judged pe tu sl to so pg tr a b).2.1)])), (m6, .inl (E.2.1.1, 36, .inl to)), (m7, .inl (E.2.1.1, 12, .inl so)), (mc, .inl (E.2.1.1, 21, .inl pg)), (md, .inl (E.2.1.1, 21, .inl ((fX6_judged pe tu sl to so pg tr a b).2.2)))] := by
  refine hC_intro (cc := cX6_judged) (maxL := 4) (ret := (some .int)) (lv0 := [(0, .ref mm), (1, .int a), (2, .int b)]) (by decide) rfl (Nat.le_of_ble_eq_true rfl) rfl ?_
  intro p e s m below meth c A C
  refine hg_aload_n C dX6_judged_0 rfl 0 rfl ?_
  refine hg_iconst C (v := 0) dX6_judged_1 (by decide) ?_
  refine hg_put C (Cn := RX6) (T := TX6) (N := 23) (ws' := [(mm, .inr (6, [.int 0, .ref m1, .int ts, .int pc, .int pe, .int tu, .ref m6, .ref m7, .int rp, .int rt, .ref ma, .ref mb, .ref mc, .ref md, .ref me, .int ac, .ref mg, .ref mh, .int sn, .ref mj, .ref mk, .long sd, .int sl])), (m6, .inl (E.2.1.1, 36, .inl to)), (m7, .inl (E.2.1.1, 12, .inl so)), (mc, .inl (E.2.1.1, 21, .inl pg)), (md, .inl (E.2.1.1, 21, .inl tr))]) mrX6_judged_6 tyX6 tyX6_ok nmX6 0 rfl rfl 0 (by decide) mmX6_judged_f47 rfl rfl rfl rfl (Nat.le_of_ble_eq_true rfl) rfl dX6_judged_2 ?_
  refine hg_iload_n C dX6_judged_5 rfl 1 rfl ?_
  refine hg_i2l C dX6_judged_6 ?_
  refine hg_lconst C (v := 1) dX6_judged_7 rfl ?_
  refine hg_ldc2 C mmX6_judged_k147 dX6_judged_8 ?_
  refine hg_callS C (ws' := [(mm, .inr (6, [.int 0, .ref m1, .int ts, .int pc, .int pe, .int tu, .ref m6, .ref m7, .int rp, .int rt, .ref ma, .ref mb, .ref mc, .ref md, .ref me, .int ac, .ref mg, .ref mh, .int sn, .ref mj, .ref mk, .long sd, .int sl])), (m6, .inl (E.2.1.1, 36, .inl to)), (m7, .inl (E.2.1.1, 12, .inl so)), (mc, .inl (E.2.1.1, 21, .inl pg)), (md, .inl (E.2.1.1, 21, .inl tr))]) (rest := []) (kX6_in l E a.toInt64 1 8) hfX6_in gX6_judged_X6_in ⟨Nat.le_of_ble_eq_true rfl, Nat.le_of_ble_eq_true rfl⟩ ⟨Nat.zero_le _, Nat.zero_le _⟩ [] rfl (by decide) [] rfl rfl rfl rfl (Nat.le_of_ble_eq_true rfl) dX6_judged_11 ?_
  refine hg_if_eq C (tgt := 35) dX6_judged_14 (by decide) (fun c1 => ?_) (fun c1 => ?_)
  · refine hg_bipush C (v := (-2)) dX6_judged_35 (by decide) ?_
    have e9 : (fX6_judged pe tu sl to so pg tr a b) = ((-2), sl, tr) := (hid_eq _).trans ((if_pos c1).trans rfl)
    rw [e9]
    exact hg_iret C dX6_judged_37 rfl rfl
  · refine hg_iload_n C dX6_judged_17 rfl 2 rfl ?_
    refine hg_i2l C dX6_judged_18 ?_
    refine hg_lconst C (v := 0) dX6_judged_19 rfl ?_
    refine hg_bipush C (v := 10) dX6_judged_20 (by decide) ?_
    refine hg_iload_n C dX6_judged_22 rfl 1 rfl ?_
    refine hg_callS C (ws' := [(mm, .inr (6, [.int 0, .ref m1, .int ts, .int pc, .int pe, .int tu, .ref m6, .ref m7, .int rp, .int rt, .ref ma, .ref mb, .ref mc, .ref md, .ref me, .int ac, .ref mg, .ref mh, .int sn, .ref mj, .ref mk, .long sd, .int sl])), (m6, .inl (E.2.1.1, 36, .inl to)), (m7, .inl (E.2.1.1, 12, .inl so)), (mc, .inl (E.2.1.1, 21, .inl pg)), (md, .inl (E.2.1.1, 21, .inl tr))]) (rest := [.long 0, .long b.toInt64]) (kX6_power l E 10 a) hfX6_power gX6_judged_X6_power ⟨Nat.le_of_ble_eq_true rfl, Nat.le_of_ble_eq_true rfl⟩ ⟨Nat.zero_le _, Nat.zero_le _⟩ [] rfl (by decide) [] rfl rfl rfl rfl (Nat.le_of_ble_eq_true rfl) dX6_judged_23 ?_
    refine hg_iconst C (v := 1) dX6_judged_26 (by decide) ?_
    refine hg_isub C dX6_judged_27 ?_
    refine hg_i2l C dX6_judged_28 ?_
    refine hg_callS C (ws' := [(mm, .inr (6, [.int 0, .ref m1, .int ts, .int pc, .int pe, .int tu, .ref m6, .ref m7, .int rp, .int rt, .ref ma, .ref mb, .ref mc, .ref md, .ref me, .int ac, .ref mg, .ref mh, .int sn, .ref mj, .ref mk, .long sd, .int sl])), (m6, .inl (E.2.1.1, 36, .inl to)), (m7, .inl (E.2.1.1, 12, .inl so)), (mc, .inl (E.2.1.1, 21, .inl pg)), (md, .inl (E.2.1.1, 21, .inl tr))]) (rest := []) (kX6_in l E b.toInt64 0 (((fX6_power 10 a) - 1).toInt64)) hfX6_in gX6_judged_X6_in ⟨Nat.le_of_ble_eq_true rfl, Nat.le_of_ble_eq_true rfl⟩ ⟨Nat.zero_le _, Nat.zero_le _⟩ [] rfl (by decide) [] rfl rfl rfl rfl (Nat.le_of_ble_eq_true rfl) dX6_judged_29 ?_
    refine hg_if_ne C (tgt := 38) dX6_judged_32 (by decide) (fun c2 => ?_) (fun c2 => ?_)
    · refine hg_aload_n C dX6_judged_38 rfl 0 rfl ?_
      refine hg_callV C (ws' := [(mm, .inr (6, [.int 0, .ref m1, .int ts, .int pc, .int pe, .int tu, .ref m6, .ref m7, .int rp, .int rt, .ref ma, .ref mb, .ref mc, .ref md, .ref me, .int ac, .ref mg, .ref mh, .int sn, .ref mj, .ref mk, .long sd, .int sl])), (m6, .inl (E.2.1.1, 36, .inl to)), (m7, .inl (E.2.1.1, 12, .inl so)), (mc, .inl (E.2.1.1, 21, .inl pg)), (md, .inl (E.2.1.1, 21, .inl (fX6_begin pg tr)))]) (rest := []) (kX6_begin l E mm m1 m6 m7 ma mb mc md me mg mh mj mk ts pc pe tu rp rt ac sn sd sl pg tr) hfX6_begin gX6_judged_X6_begin ⟨Nat.le_of_ble_eq_true rfl, Nat.le_of_ble_eq_true rfl⟩ ⟨Nat.zero_le _, Nat.zero_le _⟩ [0, 3, 4] rfl (by decide) [mm, mc, md] rfl rfl rfl 0 rfl rfl rfl rfl (Nat.le_of_ble_eq_true rfl) dX6_judged_39 ?_
      refine hg_iconst C (v := 0) dX6_judged_42 (by decide) ?_
      refine hg_istore_n C (lv' := [(3, .int 0), (0, .ref mm), (1, .int a), (2, .int b)]) dX6_judged_43 rfl (by decide) rfl ?_
      have e9 : (fX6_judged pe tu sl to so pg tr a b) = (frX6_judged_44 pe tu to so a b) (a.toNatClampNeg + 1) 0 (sl, fX6_begin pg tr) := (hid_eq _).trans ((if_neg c1).trans ((if_neg c2).trans rfl))
      rw [e9]
      refine hg_sub [1, 2, 3, 0] rfl ?_
      exact lpX6_judged_44 C mm m1 m6 m7 ma mb mc md me mg mh mj mk ts pc pe tu rp rt ac sn sd sl to so pg tr a b hp7 ht5 (in_vp (b := 1) (q := 8) rfl rfl (by assumption) (by decide) (by decide)) (a.toNatClampNeg + 1) 0 (sl, fX6_begin pg tr) (by omega) (by omega)
    · refine hg_bipush C (v := (-2)) dX6_judged_35 (by decide) ?_
      have e9 : (fX6_judged pe tu sl to so pg tr a b) = ((-2), sl, tr) := (hid_eq _).trans ((if_neg c1).trans ((if_pos c2).trans rfl))
      rw [e9]
      exact hg_iret C dX6_judged_37 rfl rfl
theorem mmX6_never_f47 : (Cond.fieldLink RX6 47 "HatRoundModel" "thrown" "I") ∈ wsX6_never := (List.mem_cons_of_mem _ (List.mem_append_left _ (List.mem_of_getElem? (i := 0) rfl)))
theorem mrX6_never_6 : ∀ w ∈ u_ws RX6 TX6 23, w ∈ wsX6_never := fun _ h => (List.mem_cons_of_mem _ (List.mem_append_right _ h))
theorem mmX6_never_f25 : (Cond.fieldLink RX6 25 "HatRoundModel" "page" "[I") ∈ wsX6_never := (List.mem_cons_of_mem _ (List.mem_append_left _ (List.mem_of_getElem? (i := 1) rfl)))
theorem mmX6_never_f51 : (Cond.fieldLink RX6 51 "HatRoundModel" "people" "I") ∈ wsX6_never := (List.mem_cons_of_mem _ (List.mem_append_left _ (List.mem_of_getElem? (i := 2) rfl)))
theorem mmX6_never_f13 : (Cond.fieldLink RX6 13 "HatRoundModel" "told" "[I") ∈ wsX6_never := (List.mem_cons_of_mem _ (List.mem_append_left _ (List.mem_of_getElem? (i := 3) rfl)))
abbrev rmX6_never : Room := { frames := 1, cells := 0, slots := 0, locals := 22 }
theorem hfX6_never : hCF yX6_never wsX6_never rmX6_never cX6_never 5 (some .int) 0 := ⟨⟨_, rfl⟩, by decide +kernel, rfl, rfl⟩
noncomputable def stX6_never_32 (to : Nat → Int32) (i : Nat) (σ : Int32 × Int32) : Int32 × Int32 := hid (if (fX6_has σ.2 (nI i)) = 0 then (σ.1, σ.2) else if (fX6_many σ.1) < (to ((6 * (nI i)) + 5).toNatClampNeg) then (σ.1, σ.2) else (σ.1 ||| (1 <<< ((nI i) &&& 31)), σ.2 &&& ((1 <<< ((nI i) &&& 31)) ^^^ (-1))))
set_option maxHeartbeats 4000000 in
set_option maxRecDepth 100000 in
theorem lpX6_never_32 {p : Program} {l : Launch} {e : Env} {s : State} {m : MethodId} {args : Array Value} {below : List Frame} {meth : Method} {c : Code} {E : hE} {A : Nat → Prop} {Q : State → Prop} (C : hX p s m args meth c E A cX6_never 5 RX6 wsX6_never (some .int)) (mm : Nat) (m1 : Nat) (m6 : Nat) (m7 : Nat) (ma : Nat) (mb : Nat) (mc : Nat) (md : Nat) (me : Nat) (mg : Nat) (mh : Nat) (mj : Nat) (mk : Nat) (ts : Int32) (pc : Int32) (pe : Int32) (tu : Int32) (rp : Int32) (rt : Int32) (ac : Int32) (sn : Int32) (sd : Int64) (sl : Int32) (to : Nat → Int32) (pg : Nat → Int32) (x3 : Int32) (hpe : pe.toNatClampNeg ≤ 6) (σ0 : Int32 × Int32) (k : hG p l e rmX6_never s m args below meth c E A 5 Q 0 0 91 [(0, .ref mm), (1, .int ((itN (stX6_never_32 to) pe.toNatClampNeg σ0).1)), (2, .int ((itN (stX6_never_32 to) pe.toNatClampNeg σ0).2)), (3, .int x3)] [] [(mm, .inr (6, [.int 0, .ref m1, .int ts, .int pc, .int pe, .int tu, .ref m6, .ref m7, .int rp, .int rt, .ref ma, .ref mb, .ref mc, .ref md, .ref me, .int ac, .ref mg, .ref mh, .int sn, .ref mj, .ref mk, .long sd, .int sl])), (m6, .inl (E.2.1.1, 36, .inl to)), (mc, .inl (E.2.1.1, 21, .inl pg))]) : ∀ (n i : Nat) (σ : Int32 × Int32), i + n = pe.toNatClampNeg → σ = itN (stX6_never_32 to) i σ0 → hG p l e rmX6_never s m args below meth c E A 5 Q 0 0 32 [(0, .ref mm), (1, .int σ.1), (2, .int σ.2), (3, .int x3), (4, .int (nI i))] [] [(mm, .inr (6, [.int 0, .ref m1, .int ts, .int pc, .int pe, .int tu, .ref m6, .ref m7, .int rp, .int rt, .ref ma, .ref mb, .ref mc, .ref md, .ref me, .int ac, .ref mg, .ref mh, .int sn, .ref mj, .ref mk, .long sd, .int sl])), (m6, .inl (E.2.1.1, 36, .inl to)), (mc, .inl (E.2.1.1, 21, .inl pg))] := by
  intro n
  induction n with
  | zero =>
    intro i σ hi hσ
    have hi : i = pe.toNatClampNeg := by omega
    rw [hi] at hσ
    rw [hi]
    subst hσ
    refine hg_iload C dX6_never_32 4 rfl ?_
    refine hg_aload_n C dX6_never_34 rfl 0 rfl ?_
    refine hg_get C (Cn := RX6) (T := TX6) (N := 23) (v := .int pe) mrX6_never_6 0 rfl rfl 4 (by decide) mmX6_never_f51 rfl dX6_never_35 ?_
    refine hg_icmp_ge C (tgt := 91) dX6_never_38 (by decide) (fun _ => ?_) (fun h => absurd (cl_done _) h)
    exact hg_sub [0, 1, 2, 3] rfl k
  | succ n ih =>
    intro i σ hi hσ
    have hlt : i < pe.toNatClampNeg := by omega
    refine hg_iload C dX6_never_32 4 rfl ?_
    refine hg_aload_n C dX6_never_34 rfl 0 rfl ?_
    refine hg_get C (Cn := RX6) (T := TX6) (N := 23) (v := .int pe) mrX6_never_6 0 rfl rfl 4 (by decide) mmX6_never_f51 rfl dX6_never_35 ?_
    refine hg_icmp_ge C (tgt := 91) dX6_never_38 (by decide) (fun h => absurd h (cl_cont hlt)) (fun _ => ?_)
    refine hg_iload_n C dX6_never_41 rfl 2 rfl ?_
    refine hg_iload C dX6_never_42 4 rfl ?_
    refine hg_callS C (ws' := [(mm, .inr (6, [.int 0, .ref m1, .int ts, .int pc, .int pe, .int tu, .ref m6, .ref m7, .int rp, .int rt, .ref ma, .ref mb, .ref mc, .ref md, .ref me, .int ac, .ref mg, .ref mh, .int sn, .ref mj, .ref mk, .long sd, .int sl])), (m6, .inl (E.2.1.1, 36, .inl to)), (mc, .inl (E.2.1.1, 21, .inl pg))]) (rest := []) (kX6_has l E σ.2 (nI i)) hfX6_has gX6_never_X6_has ⟨Nat.le_of_ble_eq_true rfl, Nat.le_of_ble_eq_true rfl⟩ ⟨Nat.zero_le _, Nat.zero_le _⟩ [] rfl (by decide) [] rfl rfl rfl rfl (Nat.le_of_ble_eq_true rfl) dX6_never_44 ?_
    refine hg_if_eq C (tgt := 85) dX6_never_47 (by decide) (fun c3 => ?_) (fun c3 => ?_)
    · refine hg_iinc C (v := nI (i + 1)) (lv' := [(4, .int (nI (i + 1))), (0, .ref mm), (1, .int σ.1), (2, .int σ.2), (3, .int x3)]) dX6_never_85 4 rfl (nI_inc _) (by decide) rfl ?_
      refine hg_goto C (tgt := 32) dX6_never_88 (by decide) ?_
      have e9 : (stX6_never_32 to) i σ = (σ.1, σ.2) := (hid_eq _).trans ((if_pos c3).trans rfl)
      have h9 := ih (i + 1) (σ.1, σ.2) (by omega) (e9.symm.trans (congrArg ((stX6_never_32 to) i) hσ))
      exact hg_sub [1, 2, 3, 4, 0] rfl h9
    · refine hg_iload_n C dX6_never_50 rfl 1 rfl ?_
      refine hg_callS C (ws' := [(mm, .inr (6, [.int 0, .ref m1, .int ts, .int pc, .int pe, .int tu, .ref m6, .ref m7, .int rp, .int rt, .ref ma, .ref mb, .ref mc, .ref md, .ref me, .int ac, .ref mg, .ref mh, .int sn, .ref mj, .ref mk, .long sd, .int sl])), (m6, .inl (E.2.1.1, 36, .inl to)), (mc, .inl (E.2.1.1, 21, .inl pg))]) (rest := []) (kX6_many l E σ.1) hfX6_many gX6_never_X6_many ⟨Nat.le_of_ble_eq_true rfl, Nat.le_of_ble_eq_true rfl⟩ ⟨Nat.zero_le _, Nat.zero_le _⟩ [] rfl (by decide) [] rfl rfl rfl rfl (Nat.le_of_ble_eq_true rfl) dX6_never_51 ?_
      refine hg_aload_n C dX6_never_54 rfl 0 rfl ?_
      refine hg_get C (Cn := RX6) (T := TX6) (N := 23) (v := .ref m6) mrX6_never_6 0 rfl rfl 6 (by decide) mmX6_never_f13 rfl dX6_never_55 ?_
      refine hg_bipush C (v := 6) dX6_never_58 (by decide) ?_
      refine hg_iload C dX6_never_60 4 rfl ?_
      refine hg_imul C dX6_never_62 ?_
      refine hg_iconst C (v := 5) dX6_never_63 (by decide) ?_
      refine hg_iadd C dX6_never_64 ?_
      refine hg_iald C 1 rfl (ix_6k (c := 5) (by omega) (by decide)) dX6_never_65 ?_
      refine hg_icmp_lt C (tgt := 85) dX6_never_66 (by decide) (fun c4 => ?_) (fun c4 => ?_)
      · refine hg_iinc C (v := nI (i + 1)) (lv' := [(4, .int (nI (i + 1))), (0, .ref mm), (1, .int σ.1), (2, .int σ.2), (3, .int x3)]) dX6_never_85 4 rfl (nI_inc _) (by decide) rfl ?_
        refine hg_goto C (tgt := 32) dX6_never_88 (by decide) ?_
        have e9 : (stX6_never_32 to) i σ = (σ.1, σ.2) := (hid_eq _).trans ((if_neg c3).trans ((if_pos c4).trans rfl))
        have h9 := ih (i + 1) (σ.1, σ.2) (by omega) (e9.symm.trans (congrArg ((stX6_never_32 to) i) hσ))
        exact hg_sub [1, 2, 3, 4, 0] rfl h9
      · refine hg_iload_n C dX6_never_69 rfl 1 rfl ?_
        refine hg_iconst C (v := 1) dX6_never_70 (by decide) ?_
        refine hg_iload C dX6_never_71 4 rfl ?_
        refine hg_ishl C dX6_never_73 ?_
        refine hg_ior C dX6_never_74 ?_
        refine hg_istore_n C (lv' := [(1, .int (σ.1 ||| (1 <<< ((nI i) &&& 31)))), (0, .ref mm), (2, .int σ.2), (3, .int x3), (4, .int (nI i))]) dX6_never_75 rfl (by decide) rfl ?_
        refine hg_iload_n C dX6_never_76 rfl 2 rfl ?_
        refine hg_iconst C (v := 1) dX6_never_77 (by decide) ?_
        refine hg_iload C dX6_never_78 4 rfl ?_
        refine hg_ishl C dX6_never_80 ?_
        refine hg_iconst C (v := (-1)) dX6_never_81 (by decide) ?_
        refine hg_ixor C dX6_never_82 ?_
        refine hg_iand C dX6_never_83 ?_
        refine hg_istore_n C (lv' := [(2, .int (σ.2 &&& ((1 <<< ((nI i) &&& 31)) ^^^ (-1)))), (1, .int (σ.1 ||| (1 <<< ((nI i) &&& 31)))), (0, .ref mm), (3, .int x3), (4, .int (nI i))]) dX6_never_84 rfl (by decide) rfl ?_
        refine hg_iinc C (v := nI (i + 1)) (lv' := [(4, .int (nI (i + 1))), (2, .int (σ.2 &&& ((1 <<< ((nI i) &&& 31)) ^^^ (-1)))), (1, .int (σ.1 ||| (1 <<< ((nI i) &&& 31)))), (0, .ref mm), (3, .int x3)]) dX6_never_85 4 rfl (nI_inc _) (by decide) rfl ?_
        refine hg_goto C (tgt := 32) dX6_never_88 (by decide) ?_
        have e9 : (stX6_never_32 to) i σ = (σ.1 ||| (1 <<< ((nI i) &&& 31)), σ.2 &&& ((1 <<< ((nI i) &&& 31)) ^^^ (-1))) := (hid_eq _).trans ((if_neg c3).trans ((if_neg c4).trans rfl))
        have h9 := ih (i + 1) (σ.1 ||| (1 <<< ((nI i) &&& 31)), σ.2 &&& ((1 <<< ((nI i) &&& 31)) ^^^ (-1))) (by omega) (e9.symm.trans (congrArg ((stX6_never_32 to) i) hσ))
        exact hg_sub [3, 2, 1, 4, 0] rfl h9
noncomputable def stX6_never_23 (pe : Int32) (to : Nat → Int32) (i : Nat) (σ : Int32 × Int32) : Int32 × Int32 := hid (((itN (stX6_never_32 to) pe.toNatClampNeg (σ.1, σ.2)).1, (itN (stX6_never_32 to) pe.toNatClampNeg (σ.1, σ.2)).2))
set_option maxHeartbeats 4000000 in
set_option maxRecDepth 100000 in
theorem lpX6_never_23 {p : Program} {l : Launch} {e : Env} {s : State} {m : MethodId} {args : Array Value} {below : List Frame} {meth : Method} {c : Code} {E : hE} {A : Nat → Prop} {Q : State → Prop} (C : hX p s m args meth c E A cX6_never 5 RX6 wsX6_never (some .int)) (mm : Nat) (m1 : Nat) (m6 : Nat) (m7 : Nat) (ma : Nat) (mb : Nat) (mc : Nat) (md : Nat) (me : Nat) (mg : Nat) (mh : Nat) (mj : Nat) (mk : Nat) (ts : Int32) (pc : Int32) (pe : Int32) (tu : Int32) (rp : Int32) (rt : Int32) (ac : Int32) (sn : Int32) (sd : Int64) (sl : Int32) (to : Nat → Int32) (pg : Nat → Int32) (hpe : pe.toNatClampNeg ≤ 6) (σ0 : Int32 × Int32) (k : hG p l e rmX6_never s m args below meth c E A 5 Q 0 0 97 [(2, .int ((itN (stX6_never_23 pe to) 6 σ0).2))] [] [(mm, .inr (6, [.int 0, .ref m1, .int ts, .int pc, .int pe, .int tu, .ref m6, .ref m7, .int rp, .int rt, .ref ma, .ref mb, .ref mc, .ref md, .ref me, .int ac, .ref mg, .ref mh, .int sn, .ref mj, .ref mk, .long sd, .int sl])), (m6, .inl (E.2.1.1, 36, .inl to)), (mc, .inl (E.2.1.1, 21, .inl pg))]) : ∀ (n i : Nat) (σ : Int32 × Int32), i + n = 6 → σ = itN (stX6_never_23 pe to) i σ0 → hG p l e rmX6_never s m args below meth c E A 5 Q 0 0 23 [(0, .ref mm), (1, .int σ.1), (2, .int σ.2), (3, .int (nI i))] [] [(mm, .inr (6, [.int 0, .ref m1, .int ts, .int pc, .int pe, .int tu, .ref m6, .ref m7, .int rp, .int rt, .ref ma, .ref mb, .ref mc, .ref md, .ref me, .int ac, .ref mg, .ref mh, .int sn, .ref mj, .ref mk, .long sd, .int sl])), (m6, .inl (E.2.1.1, 36, .inl to)), (mc, .inl (E.2.1.1, 21, .inl pg))] := by
  intro n
  induction n with
  | zero =>
    intro i σ hi hσ
    have hi : i = 6 := by omega
    rw [hi] at hσ
    rw [hi]
    subst hσ
    refine hg_iload_n C dX6_never_23 rfl 3 rfl ?_
    refine hg_bipush C (v := 6) dX6_never_24 (by decide) ?_
    refine hg_icmp_ge C (tgt := 97) dX6_never_26 (by decide) (fun _ => ?_) (fun h => absurd (by decide) h)
    exact hg_sub [2] rfl k
  | succ n ih =>
    intro i σ hi hσ
    have hlt : i < 6 := by omega
    refine hg_iload_n C dX6_never_23 rfl 3 rfl ?_
    refine hg_bipush C (v := 6) dX6_never_24 (by decide) ?_
    refine hg_icmp_ge C (tgt := 97) dX6_never_26 (by decide) (fun h => absurd h (nI_ge hlt (by decide))) (fun _ => ?_)
    refine hg_iconst C (v := 0) dX6_never_29 (by decide) ?_
    refine hg_istore C (lv' := [(4, .int 0), (0, .ref mm), (1, .int σ.1), (2, .int σ.2), (3, .int (nI i))]) dX6_never_30 (by decide) rfl ?_
    refine hg_sub [1, 2, 3, 4, 0] rfl ?_
    refine lpX6_never_32 C mm m1 m6 m7 ma mb mc md me mg mh mj mk ts pc pe tu rp rt ac sn sd sl to pg (nI i) hpe (σ.1, σ.2) ?_ pe.toNatClampNeg 0 (σ.1, σ.2) (by omega) rfl
    refine hg_iinc C (v := nI (i + 1)) (lv' := [(3, .int (nI (i + 1))), (0, .ref mm), (1, .int ((itN (stX6_never_32 to) pe.toNatClampNeg (σ.1, σ.2)).1)), (2, .int ((itN (stX6_never_32 to) pe.toNatClampNeg (σ.1, σ.2)).2))]) dX6_never_91 3 rfl (nI_inc _) (by decide) rfl ?_
    refine hg_goto C (tgt := 23) dX6_never_94 (by decide) ?_
    have e9 : (stX6_never_23 pe to) i σ = ((itN (stX6_never_32 to) pe.toNatClampNeg (σ.1, σ.2)).1, (itN (stX6_never_32 to) pe.toNatClampNeg (σ.1, σ.2)).2) := hid_eq _
    have h9 := ih (i + 1) ((itN (stX6_never_32 to) pe.toNatClampNeg (σ.1, σ.2)).1, (itN (stX6_never_32 to) pe.toNatClampNeg (σ.1, σ.2)).2) (by omega) (e9.symm.trans (congrArg ((stX6_never_23 pe to) i) hσ))
    exact hg_sub [1, 2, 3, 0] rfl h9
noncomputable def fX6_never (pe : Int32) (to : Nat → Int32) (pg : Nat → Int32) : Int32 := hid ((itN (stX6_never_23 pe to) 6 (pg (12 : Int32).toNatClampNeg, pg (13 : Int32).toNatClampNeg)).2)
set_option maxHeartbeats 4000000 in
set_option maxRecDepth 100000 in
theorem kX6_never (l : Launch) (E : hE) (mm : Nat) (m1 : Nat) (m6 : Nat) (m7 : Nat) (ma : Nat) (mb : Nat) (mc : Nat) (md : Nat) (me : Nat) (mg : Nat) (mh : Nat) (mj : Nat) (mk : Nat) (ts : Int32) (pc : Int32) (pe : Int32) (tu : Int32) (rp : Int32) (rt : Int32) (ac : Int32) (sn : Int32) (sd : Int64) (sl : Int32) (to : Nat → Int32) (pg : Nat → Int32) (hpe : pe.toNatClampNeg ≤ 6) : hC l yX6_never wsX6_never rmX6_never E [.ref mm] [(mm, .inr (6, [.int 0, .ref m1, .int ts, .int pc, .int pe, .int tu, .ref m6, .ref m7, .int rp, .int rt, .ref ma, .ref mb, .ref mc, .ref md, .ref me, .int ac, .ref mg, .ref mh, .int sn, .ref mj, .ref mk, .long sd, .int sl])), (m6, .inl (E.2.1.1, 36, .inl to)), (mc, .inl (E.2.1.1, 21, .inl pg))] (some (.int (fX6_never pe to pg))) [(mm, .inr (6, [.int 0, .ref m1, .int ts, .int pc, .int pe, .int tu, .ref m6, .ref m7, .int rp, .int rt, .ref ma, .ref mb, .ref mc, .ref md, .ref me, .int ac, .ref mg, .ref mh, .int sn, .ref mj, .ref mk, .long sd, .int sl])), (m6, .inl (E.2.1.1, 36, .inl to)), (mc, .inl (E.2.1.1, 21, .inl pg))] := by
  refine hC_intro (cc := cX6_never) (maxL := 5) (ret := (some .int)) (lv0 := [(0, .ref mm)]) (by decide) rfl (Nat.le_of_ble_eq_true rfl) rfl ?_
  intro p e s m below meth c A C
  refine hg_aload_n C dX6_never_0 rfl 0 rfl ?_
  refine hg_iconst C (v := 0) dX6_never_1 (by decide) ?_
  refine hg_put C (Cn := RX6) (T := TX6) (N := 23) (ws' := [(mm, .inr (6, [.int 0, .ref m1, .int ts, .int pc, .int pe, .int tu, .ref m6, .ref m7, .int rp, .int rt, .ref ma, .ref mb, .ref mc, .ref md, .ref me, .int ac, .ref mg, .ref mh, .int sn, .ref mj, .ref mk, .long sd, .int sl])), (m6, .inl (E.2.1.1, 36, .inl to)), (mc, .inl (E.2.1.1, 21, .inl pg))]) mrX6_never_6 tyX6 tyX6_ok nmX6 0 rfl rfl 0 (by decide) mmX6_never_f47 rfl rfl rfl rfl (Nat.le_of_ble_eq_true rfl) rfl dX6_never_2 ?_
  refine hg_aload_n C dX6_never_5 rfl 0 rfl ?_
  refine hg_get C (Cn := RX6) (T := TX6) (N := 23) (v := .ref mc) mrX6_never_6 0 rfl rfl 12 (by decide) mmX6_never_f25 rfl dX6_never_6 ?_
  refine hg_bipush C (v := 12) dX6_never_9 (by decide) ?_
  refine hg_iald C 2 rfl (by unfold vp_in; decide) dX6_never_11 ?_
  refine hg_istore_n C (lv' := [(1, .int (pg (12 : Int32).toNatClampNeg)), (0, .ref mm)]) dX6_never_12 rfl (by decide) rfl ?_
  refine hg_aload_n C dX6_never_13 rfl 1 rfl ?_
  refine hg_get C (Cn := RX6) (T := TX6) (N := 23) (v := .ref mc) mrX6_never_6 0 rfl rfl 12 (by decide) mmX6_never_f25 rfl dX6_never_14 ?_
  refine hg_bipush C (v := 13) dX6_never_17 (by decide) ?_
  refine hg_iald C 2 rfl (by unfold vp_in; decide) dX6_never_19 ?_
  refine hg_istore_n C (lv' := [(2, .int (pg (13 : Int32).toNatClampNeg)), (1, .int (pg (12 : Int32).toNatClampNeg)), (0, .ref mm)]) dX6_never_20 rfl (by decide) rfl ?_
  refine hg_iconst C (v := 0) dX6_never_21 (by decide) ?_
  refine hg_istore_n C (lv' := [(3, .int 0), (2, .int (pg (13 : Int32).toNatClampNeg)), (1, .int (pg (12 : Int32).toNatClampNeg)), (0, .ref mm)]) dX6_never_22 rfl (by decide) rfl ?_
  refine hg_sub [3, 2, 1, 0] rfl ?_
  refine lpX6_never_23 C mm m1 m6 m7 ma mb mc md me mg mh mj mk ts pc pe tu rp rt ac sn sd sl to pg hpe (pg (12 : Int32).toNatClampNeg, pg (13 : Int32).toNatClampNeg) ?_ 6 0 (pg (12 : Int32).toNatClampNeg, pg (13 : Int32).toNatClampNeg) (by omega) rfl
  refine hg_iload_n C dX6_never_97 rfl 0 rfl ?_
  have e9 : (fX6_never pe to pg) = (itN (stX6_never_23 pe to) 6 (pg (12 : Int32).toNatClampNeg, pg (13 : Int32).toNatClampNeg)).2 := hid_eq _
  rw [e9]
  exact hg_iret C dX6_never_98 rfl rfl
theorem mmX6_louder_f47 : (Cond.fieldLink RX6 47 "HatRoundModel" "thrown" "I") ∈ wsX6_louder := (List.mem_cons_of_mem _ (List.mem_append_left _ (List.mem_of_getElem? (i := 0) rfl)))
theorem mrX6_louder_6 : ∀ w ∈ u_ws RX6 TX6 23, w ∈ wsX6_louder := fun _ h => (List.mem_cons_of_mem _ (List.mem_append_right _ h))
theorem mmX6_louder_k153 : (Cond.constantLong RX6 153 (20)) ∈ wsX6_louder := (List.mem_cons_of_mem _ (List.mem_append_left _ (List.mem_of_getElem? (i := 1) rfl)))
abbrev rmX6_louder : Room := { frames := 1, cells := 0, slots := 0, locals := 25 }
theorem hfX6_louder : hCF yX6_louder wsX6_louder rmX6_louder cX6_louder 9 (some .int) 2 := ⟨⟨_, rfl⟩, by decide +kernel, rfl, rfl⟩
noncomputable def stX6_louder_62 (a : Int32) (x5 : Int32) (x6 : Int32) (i : Nat) (σ : Int32) : Int32 := hid (if σ = 0 then (0 : Int32) else (if (fX6_worth x5 x6 a) < (fX6_worth (nI i) x6 a) then (0 : Int32) else (if (fX6_worth x6 x5 a) < (fX6_worth (nI i) x5 a) then (0 : Int32) else (1 : Int32))))
set_option maxHeartbeats 4000000 in
set_option maxRecDepth 100000 in
theorem lpX6_louder_62 {p : Program} {l : Launch} {e : Env} {s : State} {m : MethodId} {args : Array Value} {below : List Frame} {meth : Method} {c : Code} {E : hE} {A : Nat → Prop} {Q : State → Prop} (C : hX p s m args meth c E A cX6_louder 9 RX6 wsX6_louder (some .int)) (mm : Nat) (m1 : Nat) (m6 : Nat) (m7 : Nat) (ma : Nat) (mb : Nat) (mc : Nat) (md : Nat) (me : Nat) (mg : Nat) (mh : Nat) (mj : Nat) (mk : Nat) (ts : Int32) (pc : Int32) (pe : Int32) (tu : Int32) (rp : Int32) (rt : Int32) (ac : Int32) (sn : Int32) (sd : Int64) (sl : Int32) (a : Int32) (b : Int32) (x3 : Int32) (x4 : Int32) (x5 : Int32) (x6 : Int32) (σ0 : Int32) (k : hG p l e rmX6_louder s m args below meth c E A 9 Q 0 0 125 [(1, .int a), (2, .int b), (3, .int x3), (4, .int x4), (5, .int x5), (6, .int x6), (7, .int (itN (stX6_louder_62 a x5 x6) 6 σ0))] [] [(mm, .inr (6, [.int 0, .ref m1, .int ts, .int pc, .int pe, .int tu, .ref m6, .ref m7, .int rp, .int rt, .ref ma, .ref mb, .ref mc, .ref md, .ref me, .int ac, .ref mg, .ref mh, .int sn, .ref mj, .ref mk, .long sd, .int sl]))]) : ∀ (n i : Nat) (σ : Int32), i + n = 6 → σ = itN (stX6_louder_62 a x5 x6) i σ0 → hG p l e rmX6_louder s m args below meth c E A 9 Q 0 0 62 [(1, .int a), (2, .int b), (3, .int x3), (4, .int x4), (5, .int x5), (6, .int x6), (7, .int σ), (8, .int (nI i))] [] [(mm, .inr (6, [.int 0, .ref m1, .int ts, .int pc, .int pe, .int tu, .ref m6, .ref m7, .int rp, .int rt, .ref ma, .ref mb, .ref mc, .ref md, .ref me, .int ac, .ref mg, .ref mh, .int sn, .ref mj, .ref mk, .long sd, .int sl]))] := by
  intro n
  induction n with
  | zero =>
    intro i σ hi hσ
    have hi : i = 6 := by omega
    rw [hi] at hσ
    rw [hi]
    subst hσ
    refine hg_iload C dX6_louder_62 7 rfl ?_
    refine hg_bipush C (v := 6) dX6_louder_64 (by decide) ?_
    refine hg_icmp_ge C (tgt := 125) dX6_louder_66 (by decide) (fun _ => ?_) (fun h => absurd (by decide) h)
    exact hg_sub [0, 1, 2, 3, 4, 5, 6] rfl k
  | succ n ih =>
    intro i σ hi hσ
    have hlt : i < 6 := by omega
    refine hg_iload C dX6_louder_62 7 rfl ?_
    refine hg_bipush C (v := 6) dX6_louder_64 (by decide) ?_
    refine hg_icmp_ge C (tgt := 125) dX6_louder_66 (by decide) (fun h => absurd h (nI_ge hlt (by decide))) (fun _ => ?_)
    refine hg_iload C dX6_louder_69 6 rfl ?_
    refine hg_join (J := 117) (v := if σ = 0 then (0 : Int32) else (if (fX6_worth x5 x6 a) < (fX6_worth (nI i) x6 a) then (0 : Int32) else (if (fX6_worth x6 x5 a) < (fX6_worth (nI i) x5 a) then (0 : Int32) else (1 : Int32)))) (st1 := []) (fun jj => ?_) ?_
    · refine hg_if_eq C (tgt := 116) dX6_louder_71 (by decide) (fun c5 => ?_) (fun c5 => ?_)
      · refine hg_iconst C (v := 0) dX6_louder_116 (by decide) ?_
        exact hg_top (v := if σ = 0 then (0 : Int32) else (if (fX6_worth x5 x6 a) < (fX6_worth (nI i) x6 a) then (0 : Int32) else (if (fX6_worth x6 x5 a) < (fX6_worth (nI i) x5 a) then (0 : Int32) else (1 : Int32)))) (v' := 0) ((if_pos c5).trans rfl) jj
      · refine hg_iload C dX6_louder_74 7 rfl ?_
        refine hg_iload C dX6_louder_76 5 rfl ?_
        refine hg_iload_n C dX6_louder_78 rfl 0 rfl ?_
        refine hg_callS C (ws' := [(mm, .inr (6, [.int 0, .ref m1, .int ts, .int pc, .int pe, .int tu, .ref m6, .ref m7, .int rp, .int rt, .ref ma, .ref mb, .ref mc, .ref md, .ref me, .int ac, .ref mg, .ref mh, .int sn, .ref mj, .ref mk, .long sd, .int sl]))]) (rest := []) (kX6_worth l E (nI i) x6 a) hfX6_worth gX6_louder_X6_worth ⟨Nat.le_of_ble_eq_true rfl, Nat.le_of_ble_eq_true rfl⟩ ⟨Nat.zero_le _, Nat.zero_le _⟩ [] rfl (by decide) [] rfl rfl rfl rfl (Nat.le_of_ble_eq_true rfl) dX6_louder_79 ?_
        refine hg_iload C dX6_louder_82 4 rfl ?_
        refine hg_iload C dX6_louder_84 5 rfl ?_
        refine hg_iload_n C dX6_louder_86 rfl 0 rfl ?_
        refine hg_callS C (ws' := [(mm, .inr (6, [.int 0, .ref m1, .int ts, .int pc, .int pe, .int tu, .ref m6, .ref m7, .int rp, .int rt, .ref ma, .ref mb, .ref mc, .ref md, .ref me, .int ac, .ref mg, .ref mh, .int sn, .ref mj, .ref mk, .long sd, .int sl]))]) (rest := [.int (fX6_worth (nI i) x6 a)]) (kX6_worth l E x5 x6 a) hfX6_worth gX6_louder_X6_worth ⟨Nat.le_of_ble_eq_true rfl, Nat.le_of_ble_eq_true rfl⟩ ⟨Nat.zero_le _, Nat.zero_le _⟩ [] rfl (by decide) [] rfl rfl rfl rfl (Nat.le_of_ble_eq_true rfl) dX6_louder_87 ?_
        refine hg_join (J := 117) (v := if (fX6_worth x5 x6 a) < (fX6_worth (nI i) x6 a) then (0 : Int32) else (if (fX6_worth x6 x5 a) < (fX6_worth (nI i) x5 a) then (0 : Int32) else (1 : Int32))) (st1 := []) (fun jj => ?_) ?_
        · refine hg_icmp_gt C (tgt := 116) dX6_louder_90 (by decide) (fun c6 => ?_) (fun c6 => ?_)
          · refine hg_iconst C (v := 0) dX6_louder_116 (by decide) ?_
            exact hg_top (v := if (fX6_worth x5 x6 a) < (fX6_worth (nI i) x6 a) then (0 : Int32) else (if (fX6_worth x6 x5 a) < (fX6_worth (nI i) x5 a) then (0 : Int32) else (1 : Int32))) (v' := 0) ((if_pos c6).trans rfl) jj
          · refine hg_iload C dX6_louder_93 7 rfl ?_
            refine hg_iload C dX6_louder_95 4 rfl ?_
            refine hg_iload_n C dX6_louder_97 rfl 0 rfl ?_
            refine hg_callS C (ws' := [(mm, .inr (6, [.int 0, .ref m1, .int ts, .int pc, .int pe, .int tu, .ref m6, .ref m7, .int rp, .int rt, .ref ma, .ref mb, .ref mc, .ref md, .ref me, .int ac, .ref mg, .ref mh, .int sn, .ref mj, .ref mk, .long sd, .int sl]))]) (rest := []) (kX6_worth l E (nI i) x5 a) hfX6_worth gX6_louder_X6_worth ⟨Nat.le_of_ble_eq_true rfl, Nat.le_of_ble_eq_true rfl⟩ ⟨Nat.zero_le _, Nat.zero_le _⟩ [] rfl (by decide) [] rfl rfl rfl rfl (Nat.le_of_ble_eq_true rfl) dX6_louder_98 ?_
            refine hg_iload C dX6_louder_101 5 rfl ?_
            refine hg_iload C dX6_louder_103 4 rfl ?_
            refine hg_iload_n C dX6_louder_105 rfl 0 rfl ?_
            refine hg_callS C (ws' := [(mm, .inr (6, [.int 0, .ref m1, .int ts, .int pc, .int pe, .int tu, .ref m6, .ref m7, .int rp, .int rt, .ref ma, .ref mb, .ref mc, .ref md, .ref me, .int ac, .ref mg, .ref mh, .int sn, .ref mj, .ref mk, .long sd, .int sl]))]) (rest := [.int (fX6_worth (nI i) x5 a)]) (kX6_worth l E x6 x5 a) hfX6_worth gX6_louder_X6_worth ⟨Nat.le_of_ble_eq_true rfl, Nat.le_of_ble_eq_true rfl⟩ ⟨Nat.zero_le _, Nat.zero_le _⟩ [] rfl (by decide) [] rfl rfl rfl rfl (Nat.le_of_ble_eq_true rfl) dX6_louder_106 ?_
            refine hg_join (J := 117) (v := if (fX6_worth x6 x5 a) < (fX6_worth (nI i) x5 a) then (0 : Int32) else (1 : Int32)) (st1 := []) (fun jj => ?_) ?_
            · refine hg_icmp_gt C (tgt := 116) dX6_louder_109 (by decide) (fun c7 => ?_) (fun c7 => ?_)
              · refine hg_iconst C (v := 0) dX6_louder_116 (by decide) ?_
                exact hg_top (v := if (fX6_worth x6 x5 a) < (fX6_worth (nI i) x5 a) then (0 : Int32) else (1 : Int32)) (v' := 0) ((if_pos c7).trans rfl) jj
              · refine hg_iconst C (v := 1) dX6_louder_112 (by decide) ?_
                refine hg_goto C (tgt := 117) dX6_louder_113 (by decide) ?_
                exact hg_top (v := if (fX6_worth x6 x5 a) < (fX6_worth (nI i) x5 a) then (0 : Int32) else (1 : Int32)) (v' := 1) ((if_neg c7).trans rfl) jj
            exact hg_top (v := if (fX6_worth x5 x6 a) < (fX6_worth (nI i) x6 a) then (0 : Int32) else (if (fX6_worth x6 x5 a) < (fX6_worth (nI i) x5 a) then (0 : Int32) else (1 : Int32))) (v' := if (fX6_worth x6 x5 a) < (fX6_worth (nI i) x5 a) then (0 : Int32) else (1 : Int32)) ((if_neg c6).trans rfl) jj
        exact hg_top (v := if σ = 0 then (0 : Int32) else (if (fX6_worth x5 x6 a) < (fX6_worth (nI i) x6 a) then (0 : Int32) else (if (fX6_worth x6 x5 a) < (fX6_worth (nI i) x5 a) then (0 : Int32) else (1 : Int32)))) (v' := if (fX6_worth x5 x6 a) < (fX6_worth (nI i) x6 a) then (0 : Int32) else (if (fX6_worth x6 x5 a) < (fX6_worth (nI i) x5 a) then (0 : Int32) else (1 : Int32))) ((if_neg c5).trans rfl) jj
    refine hg_istore C (lv' := [(7, .int (if σ = 0 then (0 : Int32) else (if (fX6_worth x5 x6 a) < (fX6_worth (nI i) x6 a) then (0 : Int32) else (if (fX6_worth x6 x5 a) < (fX6_worth (nI i) x5 a) then (0 : Int32) else (1 : Int32))))), (1, .int a), (2, .int b), (3, .int x3), (4, .int x4), (5, .int x5), (6, .int x6), (8, .int (nI i))]) dX6_louder_117 (by decide) rfl ?_
    refine hg_iinc C (v := nI (i + 1)) (lv' := [(8, .int (nI (i + 1))), (7, .int (if σ = 0 then (0 : Int32) else (if (fX6_worth x5 x6 a) < (fX6_worth (nI i) x6 a) then (0 : Int32) else (if (fX6_worth x6 x5 a) < (fX6_worth (nI i) x5 a) then (0 : Int32) else (1 : Int32))))), (1, .int a), (2, .int b), (3, .int x3), (4, .int x4), (5, .int x5), (6, .int x6)]) dX6_louder_119 7 rfl (nI_inc _) (by decide) rfl ?_
    refine hg_goto C (tgt := 62) dX6_louder_122 (by decide) ?_
    have e9 : (stX6_louder_62 a x5 x6) i σ = if σ = 0 then (0 : Int32) else (if (fX6_worth x5 x6 a) < (fX6_worth (nI i) x6 a) then (0 : Int32) else (if (fX6_worth x6 x5 a) < (fX6_worth (nI i) x5 a) then (0 : Int32) else (1 : Int32))) := hid_eq _
    have h9 := ih (i + 1) (if σ = 0 then (0 : Int32) else (if (fX6_worth x5 x6 a) < (fX6_worth (nI i) x6 a) then (0 : Int32) else (if (fX6_worth x6 x5 a) < (fX6_worth (nI i) x5 a) then (0 : Int32) else (1 : Int32)))) (by omega) (e9.symm.trans (congrArg ((stX6_louder_62 a x5 x6) i) hσ))
    exact hg_sub [2, 3, 4, 5, 6, 7, 1, 0] rfl h9
noncomputable def stX6_louder_49 (a : Int32) (x5 : Int32) (i : Nat) (σ : Int32 × Int32) : Int32 × Int32 := hid ((σ.1 + (if (itN (stX6_louder_62 a x5 (nI i)) 6 1) = 0 then (0 : Int32) else (1 : Int32)), if (itN (stX6_louder_62 a x5 (nI i)) 6 1) = 0 then σ.2 else (if σ.1 = 0 then ((10 * x5) + (nI i)) else σ.2)))
set_option maxHeartbeats 4000000 in
set_option maxRecDepth 100000 in
theorem lpX6_louder_49 {p : Program} {l : Launch} {e : Env} {s : State} {m : MethodId} {args : Array Value} {below : List Frame} {meth : Method} {c : Code} {E : hE} {A : Nat → Prop} {Q : State → Prop} (C : hX p s m args meth c E A cX6_louder 9 RX6 wsX6_louder (some .int)) (mm : Nat) (m1 : Nat) (m6 : Nat) (m7 : Nat) (ma : Nat) (mb : Nat) (mc : Nat) (md : Nat) (me : Nat) (mg : Nat) (mh : Nat) (mj : Nat) (mk : Nat) (ts : Int32) (pc : Int32) (pe : Int32) (tu : Int32) (rp : Int32) (rt : Int32) (ac : Int32) (sn : Int32) (sd : Int64) (sl : Int32) (a : Int32) (b : Int32) (x5 : Int32) (σ0 : Int32 × Int32) (k : hG p l e rmX6_louder s m args below meth c E A 9 Q 0 0 168 [(1, .int a), (2, .int b), (3, .int ((itN (stX6_louder_49 a x5) 6 σ0).1)), (4, .int ((itN (stX6_louder_49 a x5) 6 σ0).2)), (5, .int x5)] [] [(mm, .inr (6, [.int 0, .ref m1, .int ts, .int pc, .int pe, .int tu, .ref m6, .ref m7, .int rp, .int rt, .ref ma, .ref mb, .ref mc, .ref md, .ref me, .int ac, .ref mg, .ref mh, .int sn, .ref mj, .ref mk, .long sd, .int sl]))]) : ∀ (n i : Nat) (σ : Int32 × Int32), i + n = 6 → σ = itN (stX6_louder_49 a x5) i σ0 → hG p l e rmX6_louder s m args below meth c E A 9 Q 0 0 49 [(1, .int a), (2, .int b), (3, .int σ.1), (4, .int σ.2), (5, .int x5), (6, .int (nI i))] [] [(mm, .inr (6, [.int 0, .ref m1, .int ts, .int pc, .int pe, .int tu, .ref m6, .ref m7, .int rp, .int rt, .ref ma, .ref mb, .ref mc, .ref md, .ref me, .int ac, .ref mg, .ref mh, .int sn, .ref mj, .ref mk, .long sd, .int sl]))] := by
  intro n
  induction n with
  | zero =>
    intro i σ hi hσ
    have hi : i = 6 := by omega
    rw [hi] at hσ
    rw [hi]
    subst hσ
    refine hg_iload C dX6_louder_49 5 rfl ?_
    refine hg_bipush C (v := 6) dX6_louder_51 (by decide) ?_
    refine hg_icmp_ge C (tgt := 168) dX6_louder_53 (by decide) (fun _ => ?_) (fun h => absurd (by decide) h)
    exact hg_sub [0, 1, 2, 3, 4] rfl k
  | succ n ih =>
    intro i σ hi hσ
    have hlt : i < 6 := by omega
    refine hg_iload C dX6_louder_49 5 rfl ?_
    refine hg_bipush C (v := 6) dX6_louder_51 (by decide) ?_
    refine hg_icmp_ge C (tgt := 168) dX6_louder_53 (by decide) (fun h => absurd h (nI_ge hlt (by decide))) (fun _ => ?_)
    refine hg_iconst C (v := 1) dX6_louder_56 (by decide) ?_
    refine hg_istore C (lv' := [(7, .int 1), (1, .int a), (2, .int b), (3, .int σ.1), (4, .int σ.2), (5, .int x5), (6, .int (nI i))]) dX6_louder_57 (by decide) rfl ?_
    refine hg_iconst C (v := 0) dX6_louder_59 (by decide) ?_
    refine hg_istore C (lv' := [(8, .int 0), (7, .int 1), (1, .int a), (2, .int b), (3, .int σ.1), (4, .int σ.2), (5, .int x5), (6, .int (nI i))]) dX6_louder_60 (by decide) rfl ?_
    refine hg_sub [2, 3, 4, 5, 6, 7, 1, 0] rfl ?_
    refine lpX6_louder_62 C mm m1 m6 m7 ma mb mc md me mg mh mj mk ts pc pe tu rp rt ac sn sd sl a b σ.1 σ.2 x5 (nI i) 1 ?_ 6 0 1 (by omega) rfl
    refine hg_iload C dX6_louder_125 6 rfl ?_
    refine hg_join (J := 147) (v := if (itN (stX6_louder_62 a x5 (nI i)) 6 1) = 0 then σ.2 else (if σ.1 = 0 then ((10 * x5) + (nI i)) else σ.2)) (st1 := []) (fun jj => ?_) ?_
    · refine hg_if_eq C (tgt := 145) dX6_louder_127 (by decide) (fun c10 => ?_) (fun c10 => ?_)
      · refine hg_iload C dX6_louder_145 3 rfl ?_
        exact hg_top (v := if (itN (stX6_louder_62 a x5 (nI i)) 6 1) = 0 then σ.2 else (if σ.1 = 0 then ((10 * x5) + (nI i)) else σ.2)) (v' := σ.2) ((if_pos c10).trans rfl) jj
      · refine hg_iload_n C dX6_louder_130 rfl 2 rfl ?_
        refine hg_join (J := 147) (v := if σ.1 = 0 then ((10 * x5) + (nI i)) else σ.2) (st1 := []) (fun jj => ?_) ?_
        · refine hg_if_ne C (tgt := 145) dX6_louder_131 (by decide) (fun c11 => ?_) (fun c11 => ?_)
          · refine hg_iload C dX6_louder_145 3 rfl ?_
            exact hg_top (v := if σ.1 = 0 then ((10 * x5) + (nI i)) else σ.2) (v' := σ.2) ((if_neg c11).trans rfl) jj
          · refine hg_bipush C (v := 10) dX6_louder_134 (by decide) ?_
            refine hg_iload C dX6_louder_136 4 rfl ?_
            refine hg_imul C dX6_louder_138 ?_
            refine hg_iload C dX6_louder_139 5 rfl ?_
            refine hg_iadd C dX6_louder_141 ?_
            refine hg_goto C (tgt := 147) dX6_louder_142 (by decide) ?_
            exact hg_top (v := if σ.1 = 0 then ((10 * x5) + (nI i)) else σ.2) (v' := (10 * x5) + (nI i)) ((if_pos c11).trans rfl) jj
        exact hg_top (v := if (itN (stX6_louder_62 a x5 (nI i)) 6 1) = 0 then σ.2 else (if σ.1 = 0 then ((10 * x5) + (nI i)) else σ.2)) (v' := if σ.1 = 0 then ((10 * x5) + (nI i)) else σ.2) ((if_neg c10).trans rfl) jj
    refine hg_istore C (lv' := [(4, .int (if (itN (stX6_louder_62 a x5 (nI i)) 6 1) = 0 then σ.2 else (if σ.1 = 0 then ((10 * x5) + (nI i)) else σ.2))), (1, .int a), (2, .int b), (3, .int σ.1), (5, .int x5), (6, .int (nI i)), (7, .int (itN (stX6_louder_62 a x5 (nI i)) 6 1))]) dX6_louder_147 (by decide) rfl ?_
    refine hg_iload_n C dX6_louder_149 rfl 3 rfl ?_
    refine hg_iload C dX6_louder_150 6 rfl ?_
    refine hg_join (J := 160) (v := if (itN (stX6_louder_62 a x5 (nI i)) 6 1) = 0 then (0 : Int32) else (1 : Int32)) (st1 := [.int σ.1]) (fun jj => ?_) ?_
    · refine hg_if_eq C (tgt := 159) dX6_louder_152 (by decide) (fun c12 => ?_) (fun c12 => ?_)
      · refine hg_iconst C (v := 0) dX6_louder_159 (by decide) ?_
        exact hg_top (v := if (itN (stX6_louder_62 a x5 (nI i)) 6 1) = 0 then (0 : Int32) else (1 : Int32)) (v' := 0) ((if_pos c12).trans rfl) jj
      · refine hg_iconst C (v := 1) dX6_louder_155 (by decide) ?_
        refine hg_goto C (tgt := 160) dX6_louder_156 (by decide) ?_
        exact hg_top (v := if (itN (stX6_louder_62 a x5 (nI i)) 6 1) = 0 then (0 : Int32) else (1 : Int32)) (v' := 1) ((if_neg c12).trans rfl) jj
    refine hg_iadd C dX6_louder_160 ?_
    refine hg_istore_n C (lv' := [(3, .int (σ.1 + (if (itN (stX6_louder_62 a x5 (nI i)) 6 1) = 0 then (0 : Int32) else (1 : Int32)))), (4, .int (if (itN (stX6_louder_62 a x5 (nI i)) 6 1) = 0 then σ.2 else (if σ.1 = 0 then ((10 * x5) + (nI i)) else σ.2))), (1, .int a), (2, .int b), (5, .int x5), (6, .int (nI i)), (7, .int (itN (stX6_louder_62 a x5 (nI i)) 6 1))]) dX6_louder_161 rfl (by decide) rfl ?_
    refine hg_iinc C (v := nI (i + 1)) (lv' := [(6, .int (nI (i + 1))), (3, .int (σ.1 + (if (itN (stX6_louder_62 a x5 (nI i)) 6 1) = 0 then (0 : Int32) else (1 : Int32)))), (4, .int (if (itN (stX6_louder_62 a x5 (nI i)) 6 1) = 0 then σ.2 else (if σ.1 = 0 then ((10 * x5) + (nI i)) else σ.2))), (1, .int a), (2, .int b), (5, .int x5), (7, .int (itN (stX6_louder_62 a x5 (nI i)) 6 1))]) dX6_louder_162 5 rfl (nI_inc _) (by decide) rfl ?_
    refine hg_goto C (tgt := 49) dX6_louder_165 (by decide) ?_
    have e9 : (stX6_louder_49 a x5) i σ = (σ.1 + (if (itN (stX6_louder_62 a x5 (nI i)) 6 1) = 0 then (0 : Int32) else (1 : Int32)), if (itN (stX6_louder_62 a x5 (nI i)) 6 1) = 0 then σ.2 else (if σ.1 = 0 then ((10 * x5) + (nI i)) else σ.2)) := hid_eq _
    have h9 := ih (i + 1) (σ.1 + (if (itN (stX6_louder_62 a x5 (nI i)) 6 1) = 0 then (0 : Int32) else (1 : Int32)), if (itN (stX6_louder_62 a x5 (nI i)) 6 1) = 0 then σ.2 else (if σ.1 = 0 then ((10 * x5) + (nI i)) else σ.2)) (by omega) (e9.symm.trans (congrArg ((stX6_louder_49 a x5) i) hσ))
    exact hg_sub [3, 4, 1, 2, 5, 0] rfl h9
noncomputable def stX6_louder_39 (a : Int32) (i : Nat) (σ : Int32 × Int32) : Int32 × Int32 := hid (((itN (stX6_louder_49 a (nI i)) 6 (σ.1, σ.2)).1, (itN (stX6_louder_49 a (nI i)) 6 (σ.1, σ.2)).2))
set_option maxHeartbeats 4000000 in
set_option maxRecDepth 100000 in
theorem lpX6_louder_39 {p : Program} {l : Launch} {e : Env} {s : State} {m : MethodId} {args : Array Value} {below : List Frame} {meth : Method} {c : Code} {E : hE} {A : Nat → Prop} {Q : State → Prop} (C : hX p s m args meth c E A cX6_louder 9 RX6 wsX6_louder (some .int)) (mm : Nat) (m1 : Nat) (m6 : Nat) (m7 : Nat) (ma : Nat) (mb : Nat) (mc : Nat) (md : Nat) (me : Nat) (mg : Nat) (mh : Nat) (mj : Nat) (mk : Nat) (ts : Int32) (pc : Int32) (pe : Int32) (tu : Int32) (rp : Int32) (rt : Int32) (ac : Int32) (sn : Int32) (sd : Int64) (sl : Int32) (a : Int32) (b : Int32) (σ0 : Int32 × Int32) (k : hG p l e rmX6_louder s m args below meth c E A 9 Q 0 0 174 [(2, .int b), (3, .int ((itN (stX6_louder_39 a) 6 σ0).1)), (4, .int ((itN (stX6_louder_39 a) 6 σ0).2))] [] [(mm, .inr (6, [.int 0, .ref m1, .int ts, .int pc, .int pe, .int tu, .ref m6, .ref m7, .int rp, .int rt, .ref ma, .ref mb, .ref mc, .ref md, .ref me, .int ac, .ref mg, .ref mh, .int sn, .ref mj, .ref mk, .long sd, .int sl]))]) : ∀ (n i : Nat) (σ : Int32 × Int32), i + n = 6 → σ = itN (stX6_louder_39 a) i σ0 → hG p l e rmX6_louder s m args below meth c E A 9 Q 0 0 39 [(1, .int a), (2, .int b), (3, .int σ.1), (4, .int σ.2), (5, .int (nI i))] [] [(mm, .inr (6, [.int 0, .ref m1, .int ts, .int pc, .int pe, .int tu, .ref m6, .ref m7, .int rp, .int rt, .ref ma, .ref mb, .ref mc, .ref md, .ref me, .int ac, .ref mg, .ref mh, .int sn, .ref mj, .ref mk, .long sd, .int sl]))] := by
  intro n
  induction n with
  | zero =>
    intro i σ hi hσ
    have hi : i = 6 := by omega
    rw [hi] at hσ
    rw [hi]
    subst hσ
    refine hg_iload C dX6_louder_39 4 rfl ?_
    refine hg_bipush C (v := 6) dX6_louder_41 (by decide) ?_
    refine hg_icmp_ge C (tgt := 174) dX6_louder_43 (by decide) (fun _ => ?_) (fun h => absurd (by decide) h)
    exact hg_sub [1, 2, 3] rfl k
  | succ n ih =>
    intro i σ hi hσ
    have hlt : i < 6 := by omega
    refine hg_iload C dX6_louder_39 4 rfl ?_
    refine hg_bipush C (v := 6) dX6_louder_41 (by decide) ?_
    refine hg_icmp_ge C (tgt := 174) dX6_louder_43 (by decide) (fun h => absurd h (nI_ge hlt (by decide))) (fun _ => ?_)
    refine hg_iconst C (v := 0) dX6_louder_46 (by decide) ?_
    refine hg_istore C (lv' := [(6, .int 0), (1, .int a), (2, .int b), (3, .int σ.1), (4, .int σ.2), (5, .int (nI i))]) dX6_louder_47 (by decide) rfl ?_
    refine hg_sub [1, 2, 3, 4, 5, 0] rfl ?_
    refine lpX6_louder_49 C mm m1 m6 m7 ma mb mc md me mg mh mj mk ts pc pe tu rp rt ac sn sd sl a b (nI i) (σ.1, σ.2) ?_ 6 0 (σ.1, σ.2) (by omega) rfl
    refine hg_iinc C (v := nI (i + 1)) (lv' := [(5, .int (nI (i + 1))), (1, .int a), (2, .int b), (3, .int ((itN (stX6_louder_49 a (nI i)) 6 (σ.1, σ.2)).1)), (4, .int ((itN (stX6_louder_49 a (nI i)) 6 (σ.1, σ.2)).2))]) dX6_louder_168 4 rfl (nI_inc _) (by decide) rfl ?_
    refine hg_goto C (tgt := 39) dX6_louder_171 (by decide) ?_
    have e9 : (stX6_louder_39 a) i σ = ((itN (stX6_louder_49 a (nI i)) 6 (σ.1, σ.2)).1, (itN (stX6_louder_49 a (nI i)) 6 (σ.1, σ.2)).2) := hid_eq _
    have h9 := ih (i + 1) ((itN (stX6_louder_49 a (nI i)) 6 (σ.1, σ.2)).1, (itN (stX6_louder_49 a (nI i)) 6 (σ.1, σ.2)).2) (by omega) (e9.symm.trans (congrArg ((stX6_louder_39 a) i) hσ))
    exact hg_sub [1, 2, 3, 4, 0] rfl h9
noncomputable def fX6_louder (a : Int32) (b : Int32) : Int32 := hid (if (fX6_in a.toInt64 1 20) = 0 then (-2) else if (fX6_in b.toInt64 0 1) = 0 then (-2) else if b = 0 then ((itN (stX6_louder_39 a) 6 (0, (-9))).1) else ((itN (stX6_louder_39 a) 6 (0, (-9))).2))
set_option maxHeartbeats 4000000 in
set_option maxRecDepth 100000 in
theorem kX6_louder (l : Launch) (E : hE) (mm : Nat) (m1 : Nat) (m6 : Nat) (m7 : Nat) (ma : Nat) (mb : Nat) (mc : Nat) (md : Nat) (me : Nat) (mg : Nat) (mh : Nat) (mj : Nat) (mk : Nat) (ts : Int32) (pc : Int32) (pe : Int32) (tu : Int32) (rp : Int32) (rt : Int32) (ac : Int32) (sn : Int32) (sd : Int64) (sl : Int32) (a : Int32) (b : Int32) : hC l yX6_louder wsX6_louder rmX6_louder E [.ref mm, .int a, .int b] [(mm, .inr (6, [.int 0, .ref m1, .int ts, .int pc, .int pe, .int tu, .ref m6, .ref m7, .int rp, .int rt, .ref ma, .ref mb, .ref mc, .ref md, .ref me, .int ac, .ref mg, .ref mh, .int sn, .ref mj, .ref mk, .long sd, .int sl]))] (some (.int (fX6_louder a b))) [(mm, .inr (6, [.int 0, .ref m1, .int ts, .int pc, .int pe, .int tu, .ref m6, .ref m7, .int rp, .int rt, .ref ma, .ref mb, .ref mc, .ref md, .ref me, .int ac, .ref mg, .ref mh, .int sn, .ref mj, .ref mk, .long sd, .int sl]))] := by
  refine hC_intro (cc := cX6_louder) (maxL := 9) (ret := (some .int)) (lv0 := [(0, .ref mm), (1, .int a), (2, .int b)]) (by decide) rfl (Nat.le_of_ble_eq_true rfl) rfl ?_
  intro p e s m below meth c A C
  refine hg_aload_n C dX6_louder_0 rfl 0 rfl ?_
  refine hg_iconst C (v := 0) dX6_louder_1 (by decide) ?_
  refine hg_put C (Cn := RX6) (T := TX6) (N := 23) (ws' := [(mm, .inr (6, [.int 0, .ref m1, .int ts, .int pc, .int pe, .int tu, .ref m6, .ref m7, .int rp, .int rt, .ref ma, .ref mb, .ref mc, .ref md, .ref me, .int ac, .ref mg, .ref mh, .int sn, .ref mj, .ref mk, .long sd, .int sl]))]) mrX6_louder_6 tyX6 tyX6_ok nmX6 0 rfl rfl 0 (by decide) mmX6_louder_f47 rfl rfl rfl rfl (Nat.le_of_ble_eq_true rfl) rfl dX6_louder_2 ?_
  refine hg_iload_n C dX6_louder_5 rfl 1 rfl ?_
  refine hg_i2l C dX6_louder_6 ?_
  refine hg_lconst C (v := 1) dX6_louder_7 rfl ?_
  refine hg_ldc2 C mmX6_louder_k153 dX6_louder_8 ?_
  refine hg_callS C (ws' := [(mm, .inr (6, [.int 0, .ref m1, .int ts, .int pc, .int pe, .int tu, .ref m6, .ref m7, .int rp, .int rt, .ref ma, .ref mb, .ref mc, .ref md, .ref me, .int ac, .ref mg, .ref mh, .int sn, .ref mj, .ref mk, .long sd, .int sl]))]) (rest := []) (kX6_in l E a.toInt64 1 20) hfX6_in gX6_louder_X6_in ⟨Nat.le_of_ble_eq_true rfl, Nat.le_of_ble_eq_true rfl⟩ ⟨Nat.zero_le _, Nat.zero_le _⟩ [] rfl (by decide) [] rfl rfl rfl rfl (Nat.le_of_ble_eq_true rfl) dX6_louder_11 ?_
  refine hg_if_eq C (tgt := 27) dX6_louder_14 (by decide) (fun c1 => ?_) (fun c1 => ?_)
  · refine hg_bipush C (v := (-2)) dX6_louder_27 (by decide) ?_
    have e9 : (fX6_louder a b) = (-2) := (hid_eq _).trans ((if_pos c1).trans rfl)
    rw [e9]
    exact hg_iret C dX6_louder_29 rfl rfl
  · refine hg_iload_n C dX6_louder_17 rfl 2 rfl ?_
    refine hg_i2l C dX6_louder_18 ?_
    refine hg_lconst C (v := 0) dX6_louder_19 rfl ?_
    refine hg_lconst C (v := 1) dX6_louder_20 rfl ?_
    refine hg_callS C (ws' := [(mm, .inr (6, [.int 0, .ref m1, .int ts, .int pc, .int pe, .int tu, .ref m6, .ref m7, .int rp, .int rt, .ref ma, .ref mb, .ref mc, .ref md, .ref me, .int ac, .ref mg, .ref mh, .int sn, .ref mj, .ref mk, .long sd, .int sl]))]) (rest := []) (kX6_in l E b.toInt64 0 1) hfX6_in gX6_louder_X6_in ⟨Nat.le_of_ble_eq_true rfl, Nat.le_of_ble_eq_true rfl⟩ ⟨Nat.zero_le _, Nat.zero_le _⟩ [] rfl (by decide) [] rfl rfl rfl rfl (Nat.le_of_ble_eq_true rfl) dX6_louder_21 ?_
    refine hg_if_ne C (tgt := 30) dX6_louder_24 (by decide) (fun c2 => ?_) (fun c2 => ?_)
    · refine hg_iconst C (v := 0) dX6_louder_30 (by decide) ?_
      refine hg_istore_n C (lv' := [(3, .int 0), (0, .ref mm), (1, .int a), (2, .int b)]) dX6_louder_31 rfl (by decide) rfl ?_
      refine hg_bipush C (v := (-9)) dX6_louder_32 (by decide) ?_
      refine hg_istore C (lv' := [(4, .int (-9)), (3, .int 0), (0, .ref mm), (1, .int a), (2, .int b)]) dX6_louder_34 (by decide) rfl ?_
      refine hg_iconst C (v := 0) dX6_louder_36 (by decide) ?_
      refine hg_istore C (lv' := [(5, .int 0), (4, .int (-9)), (3, .int 0), (0, .ref mm), (1, .int a), (2, .int b)]) dX6_louder_37 (by decide) rfl ?_
      refine hg_sub [4, 5, 2, 1, 0] rfl ?_
      refine lpX6_louder_39 C mm m1 m6 m7 ma mb mc md me mg mh mj mk ts pc pe tu rp rt ac sn sd sl a b (0, (-9)) ?_ 6 0 (0, (-9)) (by omega) rfl
      refine hg_iload_n C dX6_louder_174 rfl 0 rfl ?_
      refine hg_join (J := 184) (v := if b = 0 then ((itN (stX6_louder_39 a) 6 (0, (-9))).1) else ((itN (stX6_louder_39 a) 6 (0, (-9))).2)) (st1 := []) (fun jj => ?_) ?_
      · refine hg_if_ne C (tgt := 182) dX6_louder_175 (by decide) (fun c13 => ?_) (fun c13 => ?_)
        · refine hg_iload C dX6_louder_182 2 rfl ?_
          exact hg_top (v := if b = 0 then ((itN (stX6_louder_39 a) 6 (0, (-9))).1) else ((itN (stX6_louder_39 a) 6 (0, (-9))).2)) (v' := (itN (stX6_louder_39 a) 6 (0, (-9))).2) ((if_neg c13).trans rfl) jj
        · refine hg_iload_n C dX6_louder_178 rfl 1 rfl ?_
          refine hg_goto C (tgt := 184) dX6_louder_179 (by decide) ?_
          exact hg_top (v := if b = 0 then ((itN (stX6_louder_39 a) 6 (0, (-9))).1) else ((itN (stX6_louder_39 a) 6 (0, (-9))).2)) (v' := (itN (stX6_louder_39 a) 6 (0, (-9))).1) ((if_pos c13).trans rfl) jj
      have e9 : (fX6_louder a b) = if b = 0 then ((itN (stX6_louder_39 a) 6 (0, (-9))).1) else ((itN (stX6_louder_39 a) 6 (0, (-9))).2) := (hid_eq _).trans ((if_neg c1).trans ((if_neg c2).trans rfl))
      rw [e9]
      exact hg_iret C dX6_louder_184 rfl rfl
    · refine hg_bipush C (v := (-2)) dX6_louder_27 (by decide) ?_
      have e9 : (fX6_louder a b) = (-2) := (hid_eq _).trans ((if_neg c1).trans ((if_pos c2).trans rfl))
      rw [e9]
      exact hg_iret C dX6_louder_29 rfl rfl
theorem mmX6_shares_f47 : (Cond.fieldLink RX6 47 "HatRoundModel" "thrown" "I") ∈ wsX6_shares := (List.mem_cons_of_mem _ (List.mem_append_left _ (List.mem_of_getElem? (i := 0) rfl)))
theorem mrX6_shares_6 : ∀ w ∈ u_ws RX6 TX6 23, w ∈ wsX6_shares := fun _ h => (List.mem_cons_of_mem _ (List.mem_append_right _ h))
theorem mmX6_shares_k159 : (Cond.constantLong RX6 159 (99)) ∈ wsX6_shares := (List.mem_cons_of_mem _ (List.mem_append_left _ (List.mem_of_getElem? (i := 1) rfl)))
abbrev rmX6_shares : Room := { frames := 1, cells := 0, slots := 0, locals := 25 }
theorem hfX6_shares : hCF yX6_shares wsX6_shares rmX6_shares cX6_shares 5 (some .int) 3 := ⟨⟨_, rfl⟩, by decide +kernel, rfl, rfl⟩
noncomputable def frX6_shares_47 (a : Int32) (b : Int32) (q : Int32) : Nat → Nat → Unit → Int32
  | 0, _, σ => 0
  | n + 1, i, σ => hid (if (10 : Int32) < (nI i) then (-9) else if (((nI i) * a) / 10) < b then (frX6_shares_47 a b q) n (i + 1) () else if (((nI i) * a) / 10) < q then (frX6_shares_47 a b q) n (i + 1) () else nI i)
set_option maxHeartbeats 4000000 in
set_option maxRecDepth 100000 in
theorem lpX6_shares_47 {p : Program} {l : Launch} {e : Env} {s : State} {m : MethodId} {args : Array Value} {below : List Frame} {meth : Method} {c : Code} {E : hE} {A : Nat → Prop} (C : hX p s m args meth c E A cX6_shares 5 RX6 wsX6_shares (some .int)) (mm : Nat) (m1 : Nat) (m6 : Nat) (m7 : Nat) (ma : Nat) (mb : Nat) (mc : Nat) (md : Nat) (me : Nat) (mg : Nat) (mh : Nat) (mj : Nat) (mk : Nat) (ts : Int32) (pc : Int32) (pe : Int32) (tu : Int32) (rp : Int32) (rt : Int32) (ac : Int32) (sn : Int32) (sd : Int64) (sl : Int32) (a : Int32) (b : Int32) (q : Int32) : ∀ (n i : Nat) (σ : Unit), i + n = 11 + 1 → i ≤ 11 → hG p l e rmX6_shares s m args below meth c E A 5 (hQ E A below args s (some (.int ((frX6_shares_47 a b q) n i σ))) [(mm, .inr (6, [.int 0, .ref m1, .int ts, .int pc, .int pe, .int tu, .ref m6, .ref m7, .int rp, .int rt, .ref ma, .ref mb, .ref mc, .ref md, .ref me, .int ac, .ref mg, .ref mh, .int sn, .ref mj, .ref mk, .long sd, .int sl]))]) 0 0 47 [(1, .int a), (2, .int b), (3, .int q), (4, .int (nI i))] [] [(mm, .inr (6, [.int 0, .ref m1, .int ts, .int pc, .int pe, .int tu, .ref m6, .ref m7, .int rp, .int rt, .ref ma, .ref mb, .ref mc, .ref md, .ref me, .int ac, .ref mg, .ref mh, .int sn, .ref mj, .ref mk, .long sd, .int sl]))] := by
  intro n
  induction n with
  | zero =>
    intro i σ hi hiN
    exact absurd hi (by omega)
  | succ n ih =>
    intro i σ hi hiN
    refine hg_iload C dX6_shares_47 3 rfl ?_
    refine hg_bipush C (v := 10) dX6_shares_49 (by decide) ?_
    refine hg_icmp_gt C (tgt := 85) dX6_shares_51 (by decide) (fun c7 => ?_) (fun c7 => ?_)
    · refine hg_bipush C (v := (-9)) dX6_shares_85 (by decide) ?_
      have e9 : (frX6_shares_47 a b q) (n + 1) i σ = (-9) := (hid_eq _).trans ((if_pos c7).trans rfl)
      rw [e9]
      exact hg_iret C dX6_shares_87 rfl rfl
    · refine hg_iload C dX6_shares_54 3 rfl ?_
      refine hg_iload_n C dX6_shares_56 rfl 0 rfl ?_
      refine hg_imul C dX6_shares_57 ?_
      refine hg_bipush C (v := 10) dX6_shares_58 (by decide) ?_
      refine hg_idiv C dX6_shares_60 (by decide) ?_
      refine hg_iload_n C dX6_shares_61 rfl 1 rfl ?_
      refine hg_icmp_lt C (tgt := 79) dX6_shares_62 (by decide) (fun c8 => ?_) (fun c8 => ?_)
      · refine hg_iinc C (v := nI (i + 1)) (lv' := [(4, .int (nI (i + 1))), (1, .int a), (2, .int b), (3, .int q)]) dX6_shares_79 3 rfl (nI_inc _) (by decide) rfl ?_
        refine hg_goto C (tgt := 47) dX6_shares_82 (by decide) ?_
        have hlt : i < 11 := (lt_nI2 (N := 10) (by omega) (by assumption))
        have e9 : (frX6_shares_47 a b q) (n + 1) i σ = (frX6_shares_47 a b q) n (i + 1) () := (hid_eq _).trans ((if_neg c7).trans ((if_pos c8).trans rfl))
        rw [e9]
        exact hg_sub [1, 2, 3, 0] rfl (ih (i + 1) () (by omega) (by omega))
      · refine hg_iload C dX6_shares_65 3 rfl ?_
        refine hg_iload_n C dX6_shares_67 rfl 0 rfl ?_
        refine hg_imul C dX6_shares_68 ?_
        refine hg_bipush C (v := 10) dX6_shares_69 (by decide) ?_
        refine hg_idiv C dX6_shares_71 (by decide) ?_
        refine hg_iload_n C dX6_shares_72 rfl 2 rfl ?_
        refine hg_icmp_lt C (tgt := 79) dX6_shares_73 (by decide) (fun c9 => ?_) (fun c9 => ?_)
        · refine hg_iinc C (v := nI (i + 1)) (lv' := [(4, .int (nI (i + 1))), (1, .int a), (2, .int b), (3, .int q)]) dX6_shares_79 3 rfl (nI_inc _) (by decide) rfl ?_
          refine hg_goto C (tgt := 47) dX6_shares_82 (by decide) ?_
          have hlt : i < 11 := (lt_nI2 (N := 10) (by omega) (by assumption))
          have e9 : (frX6_shares_47 a b q) (n + 1) i σ = (frX6_shares_47 a b q) n (i + 1) () := (hid_eq _).trans ((if_neg c7).trans ((if_neg c8).trans ((if_pos c9).trans rfl)))
          rw [e9]
          exact hg_sub [1, 2, 3, 0] rfl (ih (i + 1) () (by omega) (by omega))
        · refine hg_iload C dX6_shares_76 3 rfl ?_
          have e9 : (frX6_shares_47 a b q) (n + 1) i σ = nI i := (hid_eq _).trans ((if_neg c7).trans ((if_neg c8).trans ((if_neg c9).trans rfl)))
          rw [e9]
          exact hg_iret C dX6_shares_78 rfl rfl
noncomputable def fX6_shares (a : Int32) (b : Int32) (q : Int32) : Int32 := hid (if (fX6_in a.toInt64 0 99) = 0 then (-2) else if (fX6_in b.toInt64 0 99) = 0 then (-2) else if (fX6_in q.toInt64 0 99) = 0 then (-2) else (frX6_shares_47 a b q) (11 + 1) 0 ())
set_option maxHeartbeats 4000000 in
set_option maxRecDepth 100000 in
theorem kX6_shares (l : Launch) (E : hE) (mm : Nat) (m1 : Nat) (m6 : Nat) (m7 : Nat) (ma : Nat) (mb : Nat) (mc : Nat) (md : Nat) (me : Nat) (mg : Nat) (mh : Nat) (mj : Nat) (mk : Nat) (ts : Int32) (pc : Int32) (pe : Int32) (tu : Int32) (rp : Int32) (rt : Int32) (ac : Int32) (sn : Int32) (sd : Int64) (sl : Int32) (a : Int32) (b : Int32) (q : Int32) : hC l yX6_shares wsX6_shares rmX6_shares E [.ref mm, .int a, .int b, .int q] [(mm, .inr (6, [.int 0, .ref m1, .int ts, .int pc, .int pe, .int tu, .ref m6, .ref m7, .int rp, .int rt, .ref ma, .ref mb, .ref mc, .ref md, .ref me, .int ac, .ref mg, .ref mh, .int sn, .ref mj, .ref mk, .long sd, .int sl]))] (some (.int (fX6_shares a b q))) [(mm, .inr (6, [.int 0, .ref m1, .int ts, .int pc, .int pe, .int tu, .ref m6, .ref m7, .int rp, .int rt, .ref ma, .ref mb, .ref mc, .ref md, .ref me, .int ac, .ref mg, .ref mh, .int sn, .ref mj, .ref mk, .long sd, .int sl]))] := by
  refine hC_intro (cc := cX6_shares) (maxL := 5) (ret := (some .int)) (lv0 := [(0, .ref mm), (1, .int a), (2, .int b), (3, .int q)]) (by decide) rfl (Nat.le_of_ble_eq_true rfl) rfl ?_
  intro p e s m below meth c A C
  refine hg_aload_n C dX6_shares_0 rfl 0 rfl ?_
  refine hg_iconst C (v := 0) dX6_shares_1 (by decide) ?_
  refine hg_put C (Cn := RX6) (T := TX6) (N := 23) (ws' := [(mm, .inr (6, [.int 0, .ref m1, .int ts, .int pc, .int pe, .int tu, .ref m6, .ref m7, .int rp, .int rt, .ref ma, .ref mb, .ref mc, .ref md, .ref me, .int ac, .ref mg, .ref mh, .int sn, .ref mj, .ref mk, .long sd, .int sl]))]) mrX6_shares_6 tyX6 tyX6_ok nmX6 0 rfl rfl 0 (by decide) mmX6_shares_f47 rfl rfl rfl rfl (Nat.le_of_ble_eq_true rfl) rfl dX6_shares_2 ?_
  refine hg_iload_n C dX6_shares_5 rfl 1 rfl ?_
  refine hg_i2l C dX6_shares_6 ?_
  refine hg_lconst C (v := 0) dX6_shares_7 rfl ?_
  refine hg_ldc2 C mmX6_shares_k159 dX6_shares_8 ?_
  refine hg_callS C (ws' := [(mm, .inr (6, [.int 0, .ref m1, .int ts, .int pc, .int pe, .int tu, .ref m6, .ref m7, .int rp, .int rt, .ref ma, .ref mb, .ref mc, .ref md, .ref me, .int ac, .ref mg, .ref mh, .int sn, .ref mj, .ref mk, .long sd, .int sl]))]) (rest := []) (kX6_in l E a.toInt64 0 99) hfX6_in gX6_shares_X6_in ⟨Nat.le_of_ble_eq_true rfl, Nat.le_of_ble_eq_true rfl⟩ ⟨Nat.zero_le _, Nat.zero_le _⟩ [] rfl (by decide) [] rfl rfl rfl rfl (Nat.le_of_ble_eq_true rfl) dX6_shares_11 ?_
  refine hg_if_eq C (tgt := 41) dX6_shares_14 (by decide) (fun c1 => ?_) (fun c1 => ?_)
  · refine hg_bipush C (v := (-2)) dX6_shares_41 (by decide) ?_
    have e9 : (fX6_shares a b q) = (-2) := (hid_eq _).trans ((if_pos c1).trans rfl)
    rw [e9]
    exact hg_iret C dX6_shares_43 rfl rfl
  · refine hg_iload_n C dX6_shares_17 rfl 2 rfl ?_
    refine hg_i2l C dX6_shares_18 ?_
    refine hg_lconst C (v := 0) dX6_shares_19 rfl ?_
    refine hg_ldc2 C mmX6_shares_k159 dX6_shares_20 ?_
    refine hg_callS C (ws' := [(mm, .inr (6, [.int 0, .ref m1, .int ts, .int pc, .int pe, .int tu, .ref m6, .ref m7, .int rp, .int rt, .ref ma, .ref mb, .ref mc, .ref md, .ref me, .int ac, .ref mg, .ref mh, .int sn, .ref mj, .ref mk, .long sd, .int sl]))]) (rest := []) (kX6_in l E b.toInt64 0 99) hfX6_in gX6_shares_X6_in ⟨Nat.le_of_ble_eq_true rfl, Nat.le_of_ble_eq_true rfl⟩ ⟨Nat.zero_le _, Nat.zero_le _⟩ [] rfl (by decide) [] rfl rfl rfl rfl (Nat.le_of_ble_eq_true rfl) dX6_shares_23 ?_
    refine hg_if_eq C (tgt := 41) dX6_shares_26 (by decide) (fun c2 => ?_) (fun c2 => ?_)
    · refine hg_bipush C (v := (-2)) dX6_shares_41 (by decide) ?_
      have e9 : (fX6_shares a b q) = (-2) := (hid_eq _).trans ((if_neg c1).trans ((if_pos c2).trans rfl))
      rw [e9]
      exact hg_iret C dX6_shares_43 rfl rfl
    · refine hg_iload_n C dX6_shares_29 rfl 3 rfl ?_
      refine hg_i2l C dX6_shares_30 ?_
      refine hg_lconst C (v := 0) dX6_shares_31 rfl ?_
      refine hg_ldc2 C mmX6_shares_k159 dX6_shares_32 ?_
      refine hg_callS C (ws' := [(mm, .inr (6, [.int 0, .ref m1, .int ts, .int pc, .int pe, .int tu, .ref m6, .ref m7, .int rp, .int rt, .ref ma, .ref mb, .ref mc, .ref md, .ref me, .int ac, .ref mg, .ref mh, .int sn, .ref mj, .ref mk, .long sd, .int sl]))]) (rest := []) (kX6_in l E q.toInt64 0 99) hfX6_in gX6_shares_X6_in ⟨Nat.le_of_ble_eq_true rfl, Nat.le_of_ble_eq_true rfl⟩ ⟨Nat.zero_le _, Nat.zero_le _⟩ [] rfl (by decide) [] rfl rfl rfl rfl (Nat.le_of_ble_eq_true rfl) dX6_shares_35 ?_
      refine hg_if_ne C (tgt := 44) dX6_shares_38 (by decide) (fun c3 => ?_) (fun c3 => ?_)
      · refine hg_iconst C (v := 0) dX6_shares_44 (by decide) ?_
        refine hg_istore C (lv' := [(4, .int 0), (0, .ref mm), (1, .int a), (2, .int b), (3, .int q)]) dX6_shares_45 (by decide) rfl ?_
        have e9 : (fX6_shares a b q) = (frX6_shares_47 a b q) (11 + 1) 0 () := (hid_eq _).trans ((if_neg c1).trans ((if_neg c2).trans ((if_neg c3).trans rfl)))
        rw [e9]
        refine hg_sub [2, 3, 4, 0] rfl ?_
        exact lpX6_shares_47 C mm m1 m6 m7 ma mb mc md me mg mh mj mk ts pc pe tu rp rt ac sn sd sl a b q (11 + 1) 0 () (by omega) (by omega)
      · refine hg_bipush C (v := (-2)) dX6_shares_41 (by decide) ?_
        have e9 : (fX6_shares a b q) = (-2) := (hid_eq _).trans ((if_neg c1).trans ((if_neg c2).trans ((if_pos c3).trans rfl)))
        rw [e9]
        exact hg_iret C dX6_shares_43 rfl rfl
theorem mmX6_day_f47 : (Cond.fieldLink RX6 47 "HatRoundModel" "thrown" "I") ∈ wsX6_day := (List.mem_cons_of_mem _ (List.mem_append_left _ (List.mem_append_left _ (List.mem_of_getElem? (i := 0) rfl))))
theorem mrX6_day_6 : ∀ w ∈ u_ws RX6 TX6 23, w ∈ wsX6_day := fun _ h => (List.mem_cons_of_mem _ (List.mem_append_right _ h))
theorem mmX6_day_k153 : (Cond.constantLong RX6 153 (20)) ∈ wsX6_day := (List.mem_cons_of_mem _ (List.mem_append_left _ (List.mem_append_left _ (List.mem_of_getElem? (i := 1) rfl))))
theorem mmX6_day_f169 : (Cond.fieldLink RX6 169 "HatRoundModel" "seed" "J") ∈ wsX6_day := (List.mem_cons_of_mem _ (List.mem_append_left _ (List.mem_append_left _ (List.mem_of_getElem? (i := 2) rfl))))
theorem mmX6_day_k173 : (Cond.constantLong RX6 173 (6364136223846793005)) ∈ wsX6_day := (List.mem_cons_of_mem _ (List.mem_append_left _ (List.mem_append_left _ (List.mem_of_getElem? (i := 3) rfl))))
theorem mmX6_day_k175 : (Cond.constantLong RX6 175 (1442695040888963407)) ∈ wsX6_day := (List.mem_cons_of_mem _ (List.mem_append_left _ (List.mem_append_left _ (List.mem_of_getElem? (i := 4) rfl))))
theorem mmX6_day_f28 : (Cond.fieldLink RX6 28 "HatRoundModel" "trial" "[I") ∈ wsX6_day := (List.mem_cons_of_mem _ (List.mem_append_left _ (List.mem_append_left _ (List.mem_of_getElem? (i := 5) rfl))))
theorem mmX6_day_k145 : (Cond.constantLong RX6 145 (6)) ∈ wsX6_day := (List.mem_cons_of_mem _ (List.mem_append_left _ (List.mem_append_left _ (List.mem_of_getElem? (i := 6) rfl))))
abbrev rmX6_day : Room := { frames := 3, cells := 0, slots := 0, locals := 71 }
theorem hfX6_day : hCF yX6_day wsX6_day rmX6_day cX6_day 3 (some .int) 1 := ⟨⟨_, rfl⟩, by decide +kernel, rfl, rfl⟩
noncomputable def stX6_day_26 (pe : Int32) (tu : Int32) (to : Nat → Int32) (so : Nat → Int32) (i : Nat) (σ : Int64 × Int32 × (Nat → Int32)) : Int64 × Int32 × (Nat → Int32) := hid (((σ.1 * 6364136223846793005) + 1442695040888963407, (fX6_goAct pe tu σ.2.1 to so σ.2.2 ((((((σ.1 * 6364136223846793005) + 1442695040888963407).toUInt64 >>> ((33 : Int32).toInt64.toUInt64 &&& Int64.toUInt64 63)).toInt64) - ((((σ.1 * 6364136223846793005) + 1442695040888963407).toUInt64 >>> ((33 : Int32).toInt64.toUInt64 &&& Int64.toUInt64 63)).toInt64) / 6 * 6).toInt32)).2.1, (fX6_goAct pe tu σ.2.1 to so σ.2.2 ((((((σ.1 * 6364136223846793005) + 1442695040888963407).toUInt64 >>> ((33 : Int32).toInt64.toUInt64 &&& Int64.toUInt64 63)).toInt64) - ((((σ.1 * 6364136223846793005) + 1442695040888963407).toUInt64 >>> ((33 : Int32).toInt64.toUInt64 &&& Int64.toUInt64 63)).toInt64) / 6 * 6).toInt32)).2.2))
set_option maxHeartbeats 4000000 in
set_option maxRecDepth 100000 in
theorem lpX6_day_26 {p : Program} {l : Launch} {e : Env} {s : State} {m : MethodId} {args : Array Value} {below : List Frame} {meth : Method} {c : Code} {E : hE} {A : Nat → Prop} {Q : State → Prop} (C : hX p s m args meth c E A cX6_day 3 RX6 wsX6_day (some .int)) (mm : Nat) (m1 : Nat) (m6 : Nat) (m7 : Nat) (ma : Nat) (mb : Nat) (mc : Nat) (md : Nat) (me : Nat) (mg : Nat) (mh : Nat) (mj : Nat) (mk : Nat) (ts : Int32) (pc : Int32) (pe : Int32) (tu : Int32) (rp : Int32) (rt : Int32) (ac : Int32) (sn : Int32) (sd : Int64) (sl : Int32) (to : Nat → Int32) (so : Nat → Int32) (pg : Nat → Int32) (tr : Nat → Int32) (a : Int32) (hp7 : vp_in pe 7) (ht5 : vp_in tu 5) (σ0 : Int64 × Int32 × (Nat → Int32)) (k : hG p l e rmX6_day s m args below meth c E A 3 Q 0 0 74 [(0, .ref mm)] [] [(mm, .inr (6, [.int 0, .ref m1, .int ts, .int pc, .int pe, .int tu, .ref m6, .ref m7, .int rp, .int rt, .ref ma, .ref mb, .ref mc, .ref md, .ref me, .int ac, .ref mg, .ref mh, .int sn, .ref mj, .ref mk, .long ((itN (stX6_day_26 pe tu to so) a.toNatClampNeg σ0).1), .int ((itN (stX6_day_26 pe tu to so) a.toNatClampNeg σ0).2.1)])), (m6, .inl (E.2.1.1, 36, .inl to)), (m7, .inl (E.2.1.1, 12, .inl so)), (mc, .inl (E.2.1.1, 21, .inl pg)), (md, .inl (E.2.1.1, 21, .inl ((itN (stX6_day_26 pe tu to so) a.toNatClampNeg σ0).2.2)))]) : ∀ (n i : Nat) (σ : Int64 × Int32 × (Nat → Int32)), i + n = a.toNatClampNeg → σ = itN (stX6_day_26 pe tu to so) i σ0 → hG p l e rmX6_day s m args below meth c E A 3 Q 0 0 26 [(0, .ref mm), (1, .int a), (2, .int (nI i))] [] [(mm, .inr (6, [.int 0, .ref m1, .int ts, .int pc, .int pe, .int tu, .ref m6, .ref m7, .int rp, .int rt, .ref ma, .ref mb, .ref mc, .ref md, .ref me, .int ac, .ref mg, .ref mh, .int sn, .ref mj, .ref mk, .long σ.1, .int σ.2.1])), (m6, .inl (E.2.1.1, 36, .inl to)), (m7, .inl (E.2.1.1, 12, .inl so)), (mc, .inl (E.2.1.1, 21, .inl pg)), (md, .inl (E.2.1.1, 21, .inl σ.2.2))] := by
  intro n
  induction n with
  | zero =>
    intro i σ hi hσ
    have hi : i = a.toNatClampNeg := by omega
    rw [hi] at hσ
    rw [hi]
    subst hσ
    refine hg_iload_n C dX6_day_26 rfl 2 rfl ?_
    refine hg_iload_n C dX6_day_27 rfl 1 rfl ?_
    refine hg_icmp_ge C (tgt := 74) dX6_day_28 (by decide) (fun _ => ?_) (fun h => absurd (cl_done _) h)
    exact hg_sub [0] rfl k
  | succ n ih =>
    intro i σ hi hσ
    have hlt : i < a.toNatClampNeg := by omega
    refine hg_iload_n C dX6_day_26 rfl 2 rfl ?_
    refine hg_iload_n C dX6_day_27 rfl 1 rfl ?_
    refine hg_icmp_ge C (tgt := 74) dX6_day_28 (by decide) (fun h => absurd h (cl_cont hlt)) (fun _ => ?_)
    refine hg_aload_n C dX6_day_31 rfl 0 rfl ?_
    refine hg_aload_n C dX6_day_32 rfl 0 rfl ?_
    refine hg_get C (Cn := RX6) (T := TX6) (N := 23) (v := .long σ.1) mrX6_day_6 0 rfl rfl 21 (by decide) mmX6_day_f169 rfl dX6_day_33 ?_
    refine hg_ldc2 C mmX6_day_k173 dX6_day_36 ?_
    refine hg_lmul C dX6_day_39 ?_
    refine hg_ldc2 C mmX6_day_k175 dX6_day_40 ?_
    refine hg_ladd C dX6_day_43 ?_
    refine hg_put C (Cn := RX6) (T := TX6) (N := 23) (ws' := [(mm, .inr (6, [.int 0, .ref m1, .int ts, .int pc, .int pe, .int tu, .ref m6, .ref m7, .int rp, .int rt, .ref ma, .ref mb, .ref mc, .ref md, .ref me, .int ac, .ref mg, .ref mh, .int sn, .ref mj, .ref mk, .long ((σ.1 * 6364136223846793005) + 1442695040888963407), .int σ.2.1])), (m6, .inl (E.2.1.1, 36, .inl to)), (m7, .inl (E.2.1.1, 12, .inl so)), (mc, .inl (E.2.1.1, 21, .inl pg)), (md, .inl (E.2.1.1, 21, .inl σ.2.2))]) mrX6_day_6 tyX6 tyX6_ok nmX6 0 rfl rfl 21 (by decide) mmX6_day_f169 rfl rfl rfl rfl (Nat.le_of_ble_eq_true rfl) rfl dX6_day_44 ?_
    refine hg_aload_n C dX6_day_47 rfl 0 rfl ?_
    refine hg_aload_n C dX6_day_48 rfl 0 rfl ?_
    refine hg_get C (Cn := RX6) (T := TX6) (N := 23) (v := .ref md) mrX6_day_6 0 rfl rfl 13 (by decide) mmX6_day_f28 rfl dX6_day_49 ?_
    refine hg_aload_n C dX6_day_52 rfl 0 rfl ?_
    refine hg_get C (Cn := RX6) (T := TX6) (N := 23) (v := .long ((σ.1 * 6364136223846793005) + 1442695040888963407)) mrX6_day_6 0 rfl rfl 21 (by decide) mmX6_day_f169 rfl dX6_day_53 ?_
    refine hg_bipush C (v := 33) dX6_day_56 (by decide) ?_
    refine hg_lushr C dX6_day_58 ?_
    refine hg_ldc2 C mmX6_day_k145 dX6_day_59 ?_
    refine hg_lrem C dX6_day_62 (by decide) ?_
    refine hg_l2i C dX6_day_63 ?_
    refine hg_callV C (ws' := [(mm, .inr (6, [.int 0, .ref m1, .int ts, .int pc, .int pe, .int tu, .ref m6, .ref m7, .int rp, .int rt, .ref ma, .ref mb, .ref mc, .ref md, .ref me, .int ac, .ref mg, .ref mh, .int sn, .ref mj, .ref mk, .long ((σ.1 * 6364136223846793005) + 1442695040888963407), .int ((fX6_goAct pe tu σ.2.1 to so σ.2.2 ((((((σ.1 * 6364136223846793005) + 1442695040888963407).toUInt64 >>> ((33 : Int32).toInt64.toUInt64 &&& Int64.toUInt64 63)).toInt64) - ((((σ.1 * 6364136223846793005) + 1442695040888963407).toUInt64 >>> ((33 : Int32).toInt64.toUInt64 &&& Int64.toUInt64 63)).toInt64) / 6 * 6).toInt32)).2.1)])), (m6, .inl (E.2.1.1, 36, .inl to)), (m7, .inl (E.2.1.1, 12, .inl so)), (mc, .inl (E.2.1.1, 21, .inl pg)), (md, .inl (E.2.1.1, 21, .inl ((fX6_goAct pe tu σ.2.1 to so σ.2.2 ((((((σ.1 * 6364136223846793005) + 1442695040888963407).toUInt64 >>> ((33 : Int32).toInt64.toUInt64 &&& Int64.toUInt64 63)).toInt64) - ((((σ.1 * 6364136223846793005) + 1442695040888963407).toUInt64 >>> ((33 : Int32).toInt64.toUInt64 &&& Int64.toUInt64 63)).toInt64) / 6 * 6).toInt32)).2.2)))]) (rest := []) (kX6_goAct l E mm m1 m6 m7 ma mb mc md me mg mh mj mk ts pc pe tu rp rt ac sn ((σ.1 * 6364136223846793005) + 1442695040888963407) σ.2.1 to so md σ.2.2 ((((((σ.1 * 6364136223846793005) + 1442695040888963407).toUInt64 >>> ((33 : Int32).toInt64.toUInt64 &&& Int64.toUInt64 63)).toInt64) - ((((σ.1 * 6364136223846793005) + 1442695040888963407).toUInt64 >>> ((33 : Int32).toInt64.toUInt64 &&& Int64.toUInt64 63)).toInt64) / 6 * 6).toInt32) hp7 ht5) hfX6_goAct gX6_day_X6_goAct ⟨Nat.le_of_ble_eq_true rfl, Nat.le_of_ble_eq_true rfl⟩ ⟨Nat.zero_le _, Nat.zero_le _⟩ [0, 1, 2, 4] rfl (by decide) [mm, m6, m7, md] rfl rfl rfl 0 rfl rfl rfl rfl (Nat.le_of_ble_eq_true rfl) dX6_day_64 ?_
    refine hg_pop C dX6_day_67 rfl ?_
    refine hg_iinc C (v := nI (i + 1)) (lv' := [(2, .int (nI (i + 1))), (0, .ref mm), (1, .int a)]) dX6_day_68 2 rfl (nI_inc _) (by decide) rfl ?_
    refine hg_goto C (tgt := 26) dX6_day_71 (by decide) ?_
    have e9 : (stX6_day_26 pe tu to so) i σ = ((σ.1 * 6364136223846793005) + 1442695040888963407, (fX6_goAct pe tu σ.2.1 to so σ.2.2 ((((((σ.1 * 6364136223846793005) + 1442695040888963407).toUInt64 >>> ((33 : Int32).toInt64.toUInt64 &&& Int64.toUInt64 63)).toInt64) - ((((σ.1 * 6364136223846793005) + 1442695040888963407).toUInt64 >>> ((33 : Int32).toInt64.toUInt64 &&& Int64.toUInt64 63)).toInt64) / 6 * 6).toInt32)).2.1, (fX6_goAct pe tu σ.2.1 to so σ.2.2 ((((((σ.1 * 6364136223846793005) + 1442695040888963407).toUInt64 >>> ((33 : Int32).toInt64.toUInt64 &&& Int64.toUInt64 63)).toInt64) - ((((σ.1 * 6364136223846793005) + 1442695040888963407).toUInt64 >>> ((33 : Int32).toInt64.toUInt64 &&& Int64.toUInt64 63)).toInt64) / 6 * 6).toInt32)).2.2) := hid_eq _
    have h9 := ih (i + 1) ((σ.1 * 6364136223846793005) + 1442695040888963407, (fX6_goAct pe tu σ.2.1 to so σ.2.2 ((((((σ.1 * 6364136223846793005) + 1442695040888963407).toUInt64 >>> ((33 : Int32).toInt64.toUInt64 &&& Int64.toUInt64 63)).toInt64) - ((((σ.1 * 6364136223846793005) + 1442695040888963407).toUInt64 >>> ((33 : Int32).toInt64.toUInt64 &&& Int64.toUInt64 63)).toInt64) / 6 * 6).toInt32)).2.1, (fX6_goAct pe tu σ.2.1 to so σ.2.2 ((((((σ.1 * 6364136223846793005) + 1442695040888963407).toUInt64 >>> ((33 : Int32).toInt64.toUInt64 &&& Int64.toUInt64 63)).toInt64) - ((((σ.1 * 6364136223846793005) + 1442695040888963407).toUInt64 >>> ((33 : Int32).toInt64.toUInt64 &&& Int64.toUInt64 63)).toInt64) / 6 * 6).toInt32)).2.2) (by omega) (e9.symm.trans (congrArg ((stX6_day_26 pe tu to so) i) hσ))
    exact hg_sub [1, 2, 0] rfl h9
noncomputable def fX6_day (pe : Int32) (tu : Int32) (sd : Int64) (sl : Int32) (to : Nat → Int32) (so : Nat → Int32) (pg : Nat → Int32) (tr : Nat → Int32) (a : Int32) : Int32 × Int64 × Int32 × (Nat → Int32) := hid (if (fX6_in a.toInt64 1 20) = 0 then ((-2), sd, sl, tr) else (((itN (stX6_day_26 pe tu to so) a.toNatClampNeg (sd, sl, fX6_begin pg tr)).2.2) (15 : Int32).toNatClampNeg, (itN (stX6_day_26 pe tu to so) a.toNatClampNeg (sd, sl, fX6_begin pg tr)).1, (itN (stX6_day_26 pe tu to so) a.toNatClampNeg (sd, sl, fX6_begin pg tr)).2.1, (itN (stX6_day_26 pe tu to so) a.toNatClampNeg (sd, sl, fX6_begin pg tr)).2.2))
set_option maxHeartbeats 4000000 in
set_option maxRecDepth 100000 in
theorem kX6_day (l : Launch) (E : hE) (mm : Nat) (m1 : Nat) (m6 : Nat) (m7 : Nat) (ma : Nat) (mb : Nat) (mc : Nat) (md : Nat) (me : Nat) (mg : Nat) (mh : Nat) (mj : Nat) (mk : Nat) (ts : Int32) (pc : Int32) (pe : Int32) (tu : Int32) (rp : Int32) (rt : Int32) (ac : Int32) (sn : Int32) (sd : Int64) (sl : Int32) (to : Nat → Int32) (so : Nat → Int32) (pg : Nat → Int32) (tr : Nat → Int32) (a : Int32) (hp7 : vp_in pe 7) (ht5 : vp_in tu 5) : hC l yX6_day wsX6_day rmX6_day E [.ref mm, .int a] [(mm, .inr (6, [.int 0, .ref m1, .int ts, .int pc, .int pe, .int tu, .ref m6, .ref m7, .int rp, .int rt, .ref ma, .ref mb, .ref mc, .ref md, .ref me, .int ac, .ref mg, .ref mh, .int sn, .ref mj, .ref mk, .long sd, .int sl])), (m6, .inl (E.2.1.1, 36, .inl to)), (m7, .inl (E.2.1.1, 12, .inl so)), (mc, .inl (E.2.1.1, 21, .inl pg)), (md, .inl (E.2.1.1, 21, .inl tr))] (some (.int ((fX6_day pe tu sd sl to so pg tr a).1))) [(mm, .inr (6, [.int 0, .ref m1, .int ts, .int pc, .int pe, .int tu, .ref m6, .ref m7, .int rp, .int rt, .ref ma, .ref mb, .ref mc, .ref md, .ref me, .int ac, .ref mg, .ref mh, .int sn, .ref mj, .ref mk, .long ((fX6_day pe tu sd sl to so pg tr a).2.1), .int ((fX6_day pe tu sd sl to so pg tr a).2.2.1)])), (m6, .inl (E.2.1.1, 36, .inl to)), (m7, .inl (E.2.1.1, 12, .inl so)), (mc, .inl (E.2.1.1, 21, .inl pg)), (md, .inl (E.2.1.1, 21, .inl ((fX6_day pe tu sd sl to so pg tr a).2.2.2)))] := by
  refine hC_intro (cc := cX6_day) (maxL := 3) (ret := (some .int)) (lv0 := [(0, .ref mm), (1, .int a)]) (by decide) rfl (Nat.le_of_ble_eq_true rfl) rfl ?_
  intro p e s m below meth c A C
  refine hg_aload_n C dX6_day_0 rfl 0 rfl ?_
  refine hg_iconst C (v := 0) dX6_day_1 (by decide) ?_
  refine hg_put C (Cn := RX6) (T := TX6) (N := 23) (ws' := [(mm, .inr (6, [.int 0, .ref m1, .int ts, .int pc, .int pe, .int tu, .ref m6, .ref m7, .int rp, .int rt, .ref ma, .ref mb, .ref mc, .ref md, .ref me, .int ac, .ref mg, .ref mh, .int sn, .ref mj, .ref mk, .long sd, .int sl])), (m6, .inl (E.2.1.1, 36, .inl to)), (m7, .inl (E.2.1.1, 12, .inl so)), (mc, .inl (E.2.1.1, 21, .inl pg)), (md, .inl (E.2.1.1, 21, .inl tr))]) mrX6_day_6 tyX6 tyX6_ok nmX6 0 rfl rfl 0 (by decide) mmX6_day_f47 rfl rfl rfl rfl (Nat.le_of_ble_eq_true rfl) rfl dX6_day_2 ?_
  refine hg_iload_n C dX6_day_5 rfl 1 rfl ?_
  refine hg_i2l C dX6_day_6 ?_
  refine hg_lconst C (v := 1) dX6_day_7 rfl ?_
  refine hg_ldc2 C mmX6_day_k153 dX6_day_8 ?_
  refine hg_callS C (ws' := [(mm, .inr (6, [.int 0, .ref m1, .int ts, .int pc, .int pe, .int tu, .ref m6, .ref m7, .int rp, .int rt, .ref ma, .ref mb, .ref mc, .ref md, .ref me, .int ac, .ref mg, .ref mh, .int sn, .ref mj, .ref mk, .long sd, .int sl])), (m6, .inl (E.2.1.1, 36, .inl to)), (m7, .inl (E.2.1.1, 12, .inl so)), (mc, .inl (E.2.1.1, 21, .inl pg)), (md, .inl (E.2.1.1, 21, .inl tr))]) (rest := []) (kX6_in l E a.toInt64 1 20) hfX6_in gX6_day_X6_in ⟨Nat.le_of_ble_eq_true rfl, Nat.le_of_ble_eq_true rfl⟩ ⟨Nat.zero_le _, Nat.zero_le _⟩ [] rfl (by decide) [] rfl rfl rfl rfl (Nat.le_of_ble_eq_true rfl) dX6_day_11 ?_
  refine hg_if_ne C (tgt := 20) dX6_day_14 (by decide) (fun c1 => ?_) (fun c1 => ?_)
  · refine hg_aload_n C dX6_day_20 rfl 0 rfl ?_
    refine hg_callV C (ws' := [(mm, .inr (6, [.int 0, .ref m1, .int ts, .int pc, .int pe, .int tu, .ref m6, .ref m7, .int rp, .int rt, .ref ma, .ref mb, .ref mc, .ref md, .ref me, .int ac, .ref mg, .ref mh, .int sn, .ref mj, .ref mk, .long sd, .int sl])), (m6, .inl (E.2.1.1, 36, .inl to)), (m7, .inl (E.2.1.1, 12, .inl so)), (mc, .inl (E.2.1.1, 21, .inl pg)), (md, .inl (E.2.1.1, 21, .inl (fX6_begin pg tr)))]) (rest := []) (kX6_begin l E mm m1 m6 m7 ma mb mc md me mg mh mj mk ts pc pe tu rp rt ac sn sd sl pg tr) hfX6_begin gX6_day_X6_begin ⟨Nat.le_of_ble_eq_true rfl, Nat.le_of_ble_eq_true rfl⟩ ⟨Nat.zero_le _, Nat.zero_le _⟩ [0, 3, 4] rfl (by decide) [mm, mc, md] rfl rfl rfl 0 rfl rfl rfl rfl (Nat.le_of_ble_eq_true rfl) dX6_day_21 ?_
    refine hg_iconst C (v := 0) dX6_day_24 (by decide) ?_
    refine hg_istore_n C (lv' := [(2, .int 0), (0, .ref mm), (1, .int a)]) dX6_day_25 rfl (by decide) rfl ?_
    refine hg_sub [1, 2, 0] rfl ?_
    refine lpX6_day_26 C mm m1 m6 m7 ma mb mc md me mg mh mj mk ts pc pe tu rp rt ac sn sd sl to so pg tr a hp7 ht5 (sd, sl, fX6_begin pg tr) ?_ a.toNatClampNeg 0 (sd, sl, fX6_begin pg tr) (by omega) rfl
    refine hg_aload_n C dX6_day_74 rfl 0 rfl ?_
    refine hg_get C (Cn := RX6) (T := TX6) (N := 23) (v := .ref md) mrX6_day_6 0 rfl rfl 13 (by decide) mmX6_day_f28 rfl dX6_day_75 ?_
    refine hg_bipush C (v := 15) dX6_day_78 (by decide) ?_
    refine hg_iald C 4 rfl (by unfold vp_in; decide) dX6_day_80 ?_
    have e9 : (fX6_day pe tu sd sl to so pg tr a) = (((itN (stX6_day_26 pe tu to so) a.toNatClampNeg (sd, sl, fX6_begin pg tr)).2.2) (15 : Int32).toNatClampNeg, (itN (stX6_day_26 pe tu to so) a.toNatClampNeg (sd, sl, fX6_begin pg tr)).1, (itN (stX6_day_26 pe tu to so) a.toNatClampNeg (sd, sl, fX6_begin pg tr)).2.1, (itN (stX6_day_26 pe tu to so) a.toNatClampNeg (sd, sl, fX6_begin pg tr)).2.2) := (hid_eq _).trans ((if_neg c1).trans rfl)
    rw [e9]
    exact hg_iret C dX6_day_81 rfl rfl
  · refine hg_bipush C (v := (-2)) dX6_day_17 (by decide) ?_
    have e9 : (fX6_day pe tu sd sl to so pg tr a) = ((-2), sd, sl, tr) := (hid_eq _).trans ((if_pos c1).trans rfl)
    rw [e9]
    exact hg_iret C dX6_day_19 rfl rfl
