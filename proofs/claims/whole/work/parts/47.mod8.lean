theorem and_all {P : Nat → Prop} {st : Nat → Int32 → Int32} (hst : ∀ i σ, ¬ st i σ = 0 → ¬ σ = 0 ∧ P i) : ∀ (n : Nat) {σ0 : Int32}, ¬ itN st n σ0 = 0 → ∀ k : Nat, k < n → P k
  | 0, _, _, k, hk => absurd hk (Nat.not_lt_zero k)
  | n + 1, σ0, h, k, hk => by
    have h1 := hst n _ h
    rcases Nat.lt_or_ge k n with q | q
    · exact and_all hst n h1.1 k q
    · rw [show k = n by omega]
      exact h1.2
theorem pl_dg {a x : Int32} (hn : vp_in a 10) (hT : ∀ k : Nat, k < a.toNatClampNeg → vp_in ((x / (fX6_power 10 (nI k))) - (x / (fX6_power 10 (nI k))) / 10 * 10) 4) {i : Nat} (hi : i < a.toNatClampNeg) : vp_in ((x / (fX6_power 10 (dcr (a - 1) i))) - (x / (fX6_power 10 (dcr (a - 1) i))) / 10 * 10) 4 := by
  rw [dc_at hn hi]
  exact hT _ (by omega)

theorem mmX6_plan_f47 : (Cond.fieldLink RX6 47 "HatRoundModel" "thrown" "I") ∈ wsX6_plan := (List.mem_cons_of_mem _ (List.mem_append_left _ (List.mem_append_left _ (List.mem_of_getElem? (i := 0) rfl))))
theorem mrX6_plan_6 : ∀ w ∈ u_ws RX6 TX6 23, w ∈ wsX6_plan := fun _ h => (List.mem_cons_of_mem _ (List.mem_append_right _ h))
theorem mmX6_plan_k140 : (Cond.constantLong RX6 140 (3)) ∈ wsX6_plan := (List.mem_cons_of_mem _ (List.mem_append_left _ (List.mem_append_left _ (List.mem_of_getElem? (i := 1) rfl))))
theorem mmX6_plan_k114 : (Cond.constantLong RX6 114 (2)) ∈ wsX6_plan := (List.mem_cons_of_mem _ (List.mem_append_left _ (List.mem_append_left _ (List.mem_of_getElem? (i := 2) rfl))))
theorem mmX6_plan_f28 : (Cond.fieldLink RX6 28 "HatRoundModel" "trial" "[I") ∈ wsX6_plan := (List.mem_cons_of_mem _ (List.mem_append_left _ (List.mem_append_left _ (List.mem_of_getElem? (i := 3) rfl))))
abbrev rmX6_plan : Room := { frames := 2, cells := 0, slots := 0, locals := 49 }
theorem hfX6_plan : hCF yX6_plan wsX6_plan rmX6_plan cX6_plan 10 (some .int) 2 := ⟨⟨_, rfl⟩, by decide +kernel, rfl, rfl⟩
noncomputable def stX6_plan_61 (tu : Int32) (x6 : Int32) (i : Nat) (σ : Int32) : Int32 := hid (if σ = 0 then (0 : Int32) else (if (fX6_noTune tu ((x6 / (fX6_power 10 (nI i))) - (x6 / (fX6_power 10 (nI i))) / 10 * 10)) = 0 then (1 : Int32) else (0 : Int32)))
set_option maxHeartbeats 4000000 in
set_option maxRecDepth 100000 in
theorem lpX6_plan_61 {p : Program} {l : Launch} {e : Env} {s : State} {m : MethodId} {args : Array Value} {below : List Frame} {meth : Method} {c : Code} {E : hE} {A : Nat → Prop} {Q : State → Prop} (C : hX p s m args meth c E A cX6_plan 10 RX6 wsX6_plan (some .int)) (mm : Nat) (m1 : Nat) (m6 : Nat) (m7 : Nat) (ma : Nat) (mb : Nat) (mc : Nat) (md : Nat) (me : Nat) (mg : Nat) (mh : Nat) (mj : Nat) (mk : Nat) (ts : Int32) (pc : Int32) (pe : Int32) (tu : Int32) (rp : Int32) (rt : Int32) (ac : Int32) (sn : Int32) (sd : Int64) (sl : Int32) (to : Nat → Int32) (so : Nat → Int32) (pg : Nat → Int32) (tr : Nat → Int32) (a : Int32) (b : Int32) (x3 : Int32) (x4 : Int32) (x5 : Int32) (x6 : Int32) (v0_22 : Int32) (v4 : Nat → Int32) (hp7 : vp_in pe 7) (ht5 : vp_in tu 5) (hn : vp_in a 10) (σ0 : Int32) (k : hG p l e rmX6_plan s m args below meth c E A 10 Q 0 0 105 [(0, .ref mm), (1, .int a), (2, .int b), (3, .int x3), (4, .int x4), (5, .int x5), (6, .int x6), (7, .int (itN (stX6_plan_61 tu x6) a.toNatClampNeg σ0))] [] [(mm, .inr (6, [.int 0, .ref m1, .int ts, .int pc, .int pe, .int tu, .ref m6, .ref m7, .int rp, .int rt, .ref ma, .ref mb, .ref mc, .ref md, .ref me, .int ac, .ref mg, .ref mh, .int sn, .ref mj, .ref mk, .long sd, .int v0_22])), (m6, .inl (E.2.1.1, 36, .inl to)), (m7, .inl (E.2.1.1, 12, .inl so)), (mc, .inl (E.2.1.1, 21, .inl pg)), (md, .inl (E.2.1.1, 21, .inl v4))]) : ∀ (n i : Nat) (σ : Int32), i + n = a.toNatClampNeg → σ = itN (stX6_plan_61 tu x6) i σ0 → hG p l e rmX6_plan s m args below meth c E A 10 Q 0 0 61 [(0, .ref mm), (1, .int a), (2, .int b), (3, .int x3), (4, .int x4), (5, .int x5), (6, .int x6), (7, .int σ), (8, .int (nI i))] [] [(mm, .inr (6, [.int 0, .ref m1, .int ts, .int pc, .int pe, .int tu, .ref m6, .ref m7, .int rp, .int rt, .ref ma, .ref mb, .ref mc, .ref md, .ref me, .int ac, .ref mg, .ref mh, .int sn, .ref mj, .ref mk, .long sd, .int v0_22])), (m6, .inl (E.2.1.1, 36, .inl to)), (m7, .inl (E.2.1.1, 12, .inl so)), (mc, .inl (E.2.1.1, 21, .inl pg)), (md, .inl (E.2.1.1, 21, .inl v4))] := by
  intro n
  induction n with
  | zero =>
    intro i σ hi hσ
    have hi : i = a.toNatClampNeg := by omega
    rw [hi] at hσ
    rw [hi]
    subst hσ
    refine hg_iload C dX6_plan_61 8 rfl ?_
    refine hg_iload_n C dX6_plan_63 rfl 1 rfl ?_
    refine hg_icmp_ge C (tgt := 105) dX6_plan_64 (by decide) (fun _ => ?_) (fun h => absurd (cl_done _) h)
    exact hg_sub [0, 1, 2, 3, 4, 5, 6, 7] rfl k
  | succ n ih =>
    intro i σ hi hσ
    have hlt : i < a.toNatClampNeg := by omega
    refine hg_iload C dX6_plan_61 8 rfl ?_
    refine hg_iload_n C dX6_plan_63 rfl 1 rfl ?_
    refine hg_icmp_ge C (tgt := 105) dX6_plan_64 (by decide) (fun h => absurd h (cl_cont hlt)) (fun _ => ?_)
    refine hg_iload C dX6_plan_67 7 rfl ?_
    refine hg_join (J := 97) (v := if σ = 0 then (0 : Int32) else (if (fX6_noTune tu ((x6 / (fX6_power 10 (nI i))) - (x6 / (fX6_power 10 (nI i))) / 10 * 10)) = 0 then (1 : Int32) else (0 : Int32))) (st1 := []) (fun jj => ?_) ?_
    · refine hg_if_eq C (tgt := 96) dX6_plan_69 (by decide) (fun c4 => ?_) (fun c4 => ?_)
      · refine hg_iconst C (v := 0) dX6_plan_96 (by decide) ?_
        exact hg_top (v := if σ = 0 then (0 : Int32) else (if (fX6_noTune tu ((x6 / (fX6_power 10 (nI i))) - (x6 / (fX6_power 10 (nI i))) / 10 * 10)) = 0 then (1 : Int32) else (0 : Int32))) (v' := 0) ((if_pos c4).trans rfl) jj
      · refine hg_aload_n C dX6_plan_72 rfl 0 rfl ?_
        refine hg_iload C dX6_plan_73 6 rfl ?_
        refine hg_bipush C (v := 10) dX6_plan_75 (by decide) ?_
        refine hg_iload C dX6_plan_77 8 rfl ?_
        refine hg_callS C (ws' := [(mm, .inr (6, [.int 0, .ref m1, .int ts, .int pc, .int pe, .int tu, .ref m6, .ref m7, .int rp, .int rt, .ref ma, .ref mb, .ref mc, .ref md, .ref me, .int ac, .ref mg, .ref mh, .int sn, .ref mj, .ref mk, .long sd, .int v0_22])), (m6, .inl (E.2.1.1, 36, .inl to)), (m7, .inl (E.2.1.1, 12, .inl so)), (mc, .inl (E.2.1.1, 21, .inl pg)), (md, .inl (E.2.1.1, 21, .inl v4))]) (rest := [.int x6, .ref mm]) (kX6_power l E 10 (nI i)) hfX6_power gX6_plan_X6_power ⟨Nat.le_of_ble_eq_true rfl, Nat.le_of_ble_eq_true rfl⟩ ⟨Nat.zero_le _, Nat.zero_le _⟩ [] rfl (by decide) [] rfl rfl rfl rfl (Nat.le_of_ble_eq_true rfl) dX6_plan_79 ?_
        refine hg_idiv C dX6_plan_82 (pw_i hn hlt) ?_
        refine hg_bipush C (v := 10) dX6_plan_83 (by decide) ?_
        refine hg_irem C dX6_plan_85 (by decide) ?_
        refine hg_callV C (ws' := [(mm, .inr (6, [.int 0, .ref m1, .int ts, .int pc, .int pe, .int tu, .ref m6, .ref m7, .int rp, .int rt, .ref ma, .ref mb, .ref mc, .ref md, .ref me, .int ac, .ref mg, .ref mh, .int sn, .ref mj, .ref mk, .long sd, .int v0_22])), (m6, .inl (E.2.1.1, 36, .inl to)), (m7, .inl (E.2.1.1, 12, .inl so)), (mc, .inl (E.2.1.1, 21, .inl pg)), (md, .inl (E.2.1.1, 21, .inl v4))]) (rest := []) (kX6_noTune l E mm m1 m6 m7 ma mb mc md me mg mh mj mk ts pc pe tu rp rt ac sn sd v0_22 ((x6 / (fX6_power 10 (nI i))) - (x6 / (fX6_power 10 (nI i))) / 10 * 10)) hfX6_noTune gX6_plan_X6_noTune ⟨Nat.le_of_ble_eq_true rfl, Nat.le_of_ble_eq_true rfl⟩ ⟨Nat.zero_le _, Nat.zero_le _⟩ [0] rfl (by decide) [mm] rfl rfl rfl 0 rfl rfl rfl rfl (Nat.le_of_ble_eq_true rfl) dX6_plan_86 ?_
        refine hg_join (J := 97) (v := if (fX6_noTune tu ((x6 / (fX6_power 10 (nI i))) - (x6 / (fX6_power 10 (nI i))) / 10 * 10)) = 0 then (1 : Int32) else (0 : Int32)) (st1 := []) (fun jj => ?_) ?_
        · refine hg_if_ne C (tgt := 96) dX6_plan_89 (by decide) (fun c5 => ?_) (fun c5 => ?_)
          · refine hg_iconst C (v := 0) dX6_plan_96 (by decide) ?_
            exact hg_top (v := if (fX6_noTune tu ((x6 / (fX6_power 10 (nI i))) - (x6 / (fX6_power 10 (nI i))) / 10 * 10)) = 0 then (1 : Int32) else (0 : Int32)) (v' := 0) ((if_neg c5).trans rfl) jj
          · refine hg_iconst C (v := 1) dX6_plan_92 (by decide) ?_
            refine hg_goto C (tgt := 97) dX6_plan_93 (by decide) ?_
            exact hg_top (v := if (fX6_noTune tu ((x6 / (fX6_power 10 (nI i))) - (x6 / (fX6_power 10 (nI i))) / 10 * 10)) = 0 then (1 : Int32) else (0 : Int32)) (v' := 1) ((if_pos c5).trans rfl) jj
        exact hg_top (v := if σ = 0 then (0 : Int32) else (if (fX6_noTune tu ((x6 / (fX6_power 10 (nI i))) - (x6 / (fX6_power 10 (nI i))) / 10 * 10)) = 0 then (1 : Int32) else (0 : Int32))) (v' := if (fX6_noTune tu ((x6 / (fX6_power 10 (nI i))) - (x6 / (fX6_power 10 (nI i))) / 10 * 10)) = 0 then (1 : Int32) else (0 : Int32)) ((if_neg c4).trans rfl) jj
    refine hg_istore C (lv' := [(7, .int (if σ = 0 then (0 : Int32) else (if (fX6_noTune tu ((x6 / (fX6_power 10 (nI i))) - (x6 / (fX6_power 10 (nI i))) / 10 * 10)) = 0 then (1 : Int32) else (0 : Int32)))), (0, .ref mm), (1, .int a), (2, .int b), (3, .int x3), (4, .int x4), (5, .int x5), (6, .int x6), (8, .int (nI i))]) dX6_plan_97 (by decide) rfl ?_
    refine hg_iinc C (v := nI (i + 1)) (lv' := [(8, .int (nI (i + 1))), (7, .int (if σ = 0 then (0 : Int32) else (if (fX6_noTune tu ((x6 / (fX6_power 10 (nI i))) - (x6 / (fX6_power 10 (nI i))) / 10 * 10)) = 0 then (1 : Int32) else (0 : Int32)))), (0, .ref mm), (1, .int a), (2, .int b), (3, .int x3), (4, .int x4), (5, .int x5), (6, .int x6)]) dX6_plan_99 8 rfl (nI_inc _) (by decide) rfl ?_
    refine hg_goto C (tgt := 61) dX6_plan_102 (by decide) ?_
    have e9 : (stX6_plan_61 tu x6) i σ = if σ = 0 then (0 : Int32) else (if (fX6_noTune tu ((x6 / (fX6_power 10 (nI i))) - (x6 / (fX6_power 10 (nI i))) / 10 * 10)) = 0 then (1 : Int32) else (0 : Int32)) := hid_eq _
    have h9 := ih (i + 1) (if σ = 0 then (0 : Int32) else (if (fX6_noTune tu ((x6 / (fX6_power 10 (nI i))) - (x6 / (fX6_power 10 (nI i))) / 10 * 10)) = 0 then (1 : Int32) else (0 : Int32))) (by omega) (e9.symm.trans (congrArg ((stX6_plan_61 tu x6) i) hσ))
    exact hg_sub [2, 3, 4, 5, 6, 7, 8, 1, 0] rfl h9
noncomputable def stX6_plan_128 (pe : Int32) (to : Nat → Int32) (so : Nat → Int32) (a : Int32) (x6 : Int32) (i : Nat) (σ : (Nat → Int32)) : (Nat → Int32) := hid ((fX6_goPlay pe to so σ ((x6 / (fX6_power 10 (dcr (a - 1) i))) - (x6 / (fX6_power 10 (dcr (a - 1) i))) / 10 * 10)).2)
set_option maxHeartbeats 4000000 in
set_option maxRecDepth 100000 in
theorem lpX6_plan_128 {p : Program} {l : Launch} {e : Env} {s : State} {m : MethodId} {args : Array Value} {below : List Frame} {meth : Method} {c : Code} {E : hE} {A : Nat → Prop} {Q : State → Prop} (C : hX p s m args meth c E A cX6_plan 10 RX6 wsX6_plan (some .int)) (mm : Nat) (m1 : Nat) (m6 : Nat) (m7 : Nat) (ma : Nat) (mb : Nat) (mc : Nat) (md : Nat) (me : Nat) (mg : Nat) (mh : Nat) (mj : Nat) (mk : Nat) (ts : Int32) (pc : Int32) (pe : Int32) (tu : Int32) (rp : Int32) (rt : Int32) (ac : Int32) (sn : Int32) (sd : Int64) (sl : Int32) (to : Nat → Int32) (so : Nat → Int32) (pg : Nat → Int32) (tr : Nat → Int32) (a : Int32) (b : Int32) (x3 : Int32) (x4 : Int32) (x5 : Int32) (x6 : Int32) (x7 : Int32) (x8 : Int32) (v0_22 : Int32) (hp7 : vp_in pe 7) (ht5 : vp_in tu 5) (hn : vp_in a 10) (hU : ∀ k : Nat, k < a.toNatClampNeg → vp_in ((x6 / (fX6_power 10 (nI k))) - (x6 / (fX6_power 10 (nI k))) / 10 * 10) 4) (σ0 : (Nat → Int32)) (k : hG p l e rmX6_plan s m args below meth c E A 10 Q 0 0 161 [(0, .ref mm), (1, .int a), (2, .int b), (3, .int x3), (4, .int x4), (5, .int x5), (6, .int x6), (7, .int x7), (8, .int x8)] [] [(mm, .inr (6, [.int 0, .ref m1, .int ts, .int pc, .int pe, .int tu, .ref m6, .ref m7, .int rp, .int rt, .ref ma, .ref mb, .ref mc, .ref md, .ref me, .int ac, .ref mg, .ref mh, .int sn, .ref mj, .ref mk, .long sd, .int v0_22])), (m6, .inl (E.2.1.1, 36, .inl to)), (m7, .inl (E.2.1.1, 12, .inl so)), (mc, .inl (E.2.1.1, 21, .inl pg)), (md, .inl (E.2.1.1, 21, .inl (itN (stX6_plan_128 pe to so a x6) a.toNatClampNeg σ0)))]) : ∀ (n i : Nat) (σ : (Nat → Int32)), i + n = a.toNatClampNeg → σ = itN (stX6_plan_128 pe to so a x6) i σ0 → hG p l e rmX6_plan s m args below meth c E A 10 Q 0 0 128 [(0, .ref mm), (1, .int a), (2, .int b), (3, .int x3), (4, .int x4), (5, .int x5), (6, .int x6), (7, .int x7), (8, .int x8), (9, .int (dcr (a - 1) i))] [] [(mm, .inr (6, [.int 0, .ref m1, .int ts, .int pc, .int pe, .int tu, .ref m6, .ref m7, .int rp, .int rt, .ref ma, .ref mb, .ref mc, .ref md, .ref me, .int ac, .ref mg, .ref mh, .int sn, .ref mj, .ref mk, .long sd, .int v0_22])), (m6, .inl (E.2.1.1, 36, .inl to)), (m7, .inl (E.2.1.1, 12, .inl so)), (mc, .inl (E.2.1.1, 21, .inl pg)), (md, .inl (E.2.1.1, 21, .inl σ))] := by
  intro n
  induction n with
  | zero =>
    intro i σ hi hσ
    have hi : i = a.toNatClampNeg := by omega
    rw [hi] at hσ
    rw [hi]
    subst hσ
    refine hg_iload C dX6_plan_128 9 rfl ?_
    refine hg_if_lt C (tgt := 161) dX6_plan_130 (by decide) (fun _ => ?_) (fun h => absurd (dc_done hn) h)
    exact hg_sub [0, 1, 2, 3, 4, 5, 6, 7, 8] rfl k
  | succ n ih =>
    intro i σ hi hσ
    have hlt : i < a.toNatClampNeg := by omega
    refine hg_iload C dX6_plan_128 9 rfl ?_
    refine hg_if_lt C (tgt := 161) dX6_plan_130 (by decide) (fun h => absurd h (dc_cont hn hlt)) (fun _ => ?_)
    refine hg_aload_n C dX6_plan_133 rfl 0 rfl ?_
    refine hg_aload_n C dX6_plan_134 rfl 0 rfl ?_
    refine hg_get C (Cn := RX6) (T := TX6) (N := 23) (v := .ref md) mrX6_plan_6 0 rfl rfl 13 (by decide) mmX6_plan_f28 rfl dX6_plan_135 ?_
    refine hg_iload C dX6_plan_138 6 rfl ?_
    refine hg_bipush C (v := 10) dX6_plan_140 (by decide) ?_
    refine hg_iload C dX6_plan_142 9 rfl ?_
    refine hg_callS C (ws' := [(mm, .inr (6, [.int 0, .ref m1, .int ts, .int pc, .int pe, .int tu, .ref m6, .ref m7, .int rp, .int rt, .ref ma, .ref mb, .ref mc, .ref md, .ref me, .int ac, .ref mg, .ref mh, .int sn, .ref mj, .ref mk, .long sd, .int v0_22])), (m6, .inl (E.2.1.1, 36, .inl to)), (m7, .inl (E.2.1.1, 12, .inl so)), (mc, .inl (E.2.1.1, 21, .inl pg)), (md, .inl (E.2.1.1, 21, .inl σ))]) (rest := [.int x6, .ref md, .ref mm]) (kX6_power l E 10 (dcr (a - 1) i)) hfX6_power gX6_plan_X6_power ⟨Nat.le_of_ble_eq_true rfl, Nat.le_of_ble_eq_true rfl⟩ ⟨Nat.zero_le _, Nat.zero_le _⟩ [] rfl (by decide) [] rfl rfl rfl rfl (Nat.le_of_ble_eq_true rfl) dX6_plan_144 ?_
    refine hg_idiv C dX6_plan_147 (pw_dc hn hlt) ?_
    refine hg_bipush C (v := 10) dX6_plan_148 (by decide) ?_
    refine hg_irem C dX6_plan_150 (by decide) ?_
    refine hg_callV C (ws' := [(mm, .inr (6, [.int 0, .ref m1, .int ts, .int pc, .int pe, .int tu, .ref m6, .ref m7, .int rp, .int rt, .ref ma, .ref mb, .ref mc, .ref md, .ref me, .int ac, .ref mg, .ref mh, .int sn, .ref mj, .ref mk, .long sd, .int v0_22])), (m6, .inl (E.2.1.1, 36, .inl to)), (m7, .inl (E.2.1.1, 12, .inl so)), (mc, .inl (E.2.1.1, 21, .inl pg)), (md, .inl (E.2.1.1, 21, .inl ((fX6_goPlay pe to so σ ((x6 / (fX6_power 10 (dcr (a - 1) i))) - (x6 / (fX6_power 10 (dcr (a - 1) i))) / 10 * 10)).2)))]) (rest := []) (kX6_goPlay l E mm m1 m6 m7 ma mb mc md me mg mh mj mk ts pc pe tu rp rt ac sn sd v0_22 to so md σ ((x6 / (fX6_power 10 (dcr (a - 1) i))) - (x6 / (fX6_power 10 (dcr (a - 1) i))) / 10 * 10) (Nat.le_of_lt_succ (vp_cl hp7)) (pl_dg hn hU hlt)) hfX6_goPlay gX6_plan_X6_goPlay ⟨Nat.le_of_ble_eq_true rfl, Nat.le_of_ble_eq_true rfl⟩ ⟨Nat.zero_le _, Nat.zero_le _⟩ [0, 1, 2, 4] rfl (by decide) [mm, m6, m7, md] rfl rfl rfl 0 rfl rfl rfl rfl (Nat.le_of_ble_eq_true rfl) dX6_plan_151 ?_
    refine hg_pop C dX6_plan_154 rfl ?_
    refine hg_iinc C (v := dcr (a - 1) (i + 1)) (lv' := [(9, .int (dcr (a - 1) (i + 1))), (0, .ref mm), (1, .int a), (2, .int b), (3, .int x3), (4, .int x4), (5, .int x5), (6, .int x6), (7, .int x7), (8, .int x8)]) dX6_plan_155 9 rfl rfl (by decide) rfl ?_
    refine hg_goto C (tgt := 128) dX6_plan_158 (by decide) ?_
    have e9 : (stX6_plan_128 pe to so a x6) i σ = (fX6_goPlay pe to so σ ((x6 / (fX6_power 10 (dcr (a - 1) i))) - (x6 / (fX6_power 10 (dcr (a - 1) i))) / 10 * 10)).2 := hid_eq _
    have h9 := ih (i + 1) ((fX6_goPlay pe to so σ ((x6 / (fX6_power 10 (dcr (a - 1) i))) - (x6 / (fX6_power 10 (dcr (a - 1) i))) / 10 * 10)).2) (by omega) (e9.symm.trans (congrArg ((stX6_plan_128 pe to so a x6) i) hσ))
    exact hg_sub [1, 2, 3, 4, 5, 6, 7, 8, 9, 0] rfl h9
noncomputable def fuX6_plan_108 (pe : Int32) (to : Nat → Int32) (so : Nat → Int32) (pg : Nat → Int32) (a : Int32) (x6 : Int32) (x7 : Int32) : Nat → Nat → (Int32 × Int32 × Int32 × Int32 × (Nat → Int32)) → (Int32 × Int32 × Int32 × Int32 × (Nat → Int32))
  | 0, _, σ => σ
  | n + 1, i, σ => hid (if (2 : Int32) ≤ (nI i) then (σ.1, σ.2.1, σ.2.2.1, σ.2.2.2.1, σ.2.2.2.2) else if x7 = 0 then (σ.1, σ.2.1, σ.2.2.1, σ.2.2.2.1, σ.2.2.2.2) else if ((fX6_goRound pe to (itN (stX6_plan_128 pe to so a x6) a.toNatClampNeg (fX6_begin pg σ.2.2.2.2)) (nI i)).1) ≤ σ.1 then (fuX6_plan_108 pe to so pg a x6 x7) n (i + 1) (σ.1, σ.2.1, σ.2.2.1, (fX6_goRound pe to (itN (stX6_plan_128 pe to so a x6) a.toNatClampNeg (fX6_begin pg σ.2.2.2.2)) (nI i)).2.1, (fX6_goRound pe to (itN (stX6_plan_128 pe to so a x6) a.toNatClampNeg (fX6_begin pg σ.2.2.2.2)) (nI i)).2.2) else (fuX6_plan_108 pe to so pg a x6 x7) n (i + 1) ((fX6_goRound pe to (itN (stX6_plan_128 pe to so a x6) a.toNatClampNeg (fX6_begin pg σ.2.2.2.2)) (nI i)).1, x6, nI i, (fX6_goRound pe to (itN (stX6_plan_128 pe to so a x6) a.toNatClampNeg (fX6_begin pg σ.2.2.2.2)) (nI i)).2.1, (fX6_goRound pe to (itN (stX6_plan_128 pe to so a x6) a.toNatClampNeg (fX6_begin pg σ.2.2.2.2)) (nI i)).2.2))
set_option maxHeartbeats 4000000 in
set_option maxRecDepth 100000 in
theorem lpX6_plan_108 {p : Program} {l : Launch} {e : Env} {s : State} {m : MethodId} {args : Array Value} {below : List Frame} {meth : Method} {c : Code} {E : hE} {A : Nat → Prop} {Q : State → Prop} (C : hX p s m args meth c E A cX6_plan 10 RX6 wsX6_plan (some .int)) (mm : Nat) (m1 : Nat) (m6 : Nat) (m7 : Nat) (ma : Nat) (mb : Nat) (mc : Nat) (md : Nat) (me : Nat) (mg : Nat) (mh : Nat) (mj : Nat) (mk : Nat) (ts : Int32) (pc : Int32) (pe : Int32) (tu : Int32) (rp : Int32) (rt : Int32) (ac : Int32) (sn : Int32) (sd : Int64) (sl : Int32) (to : Nat → Int32) (so : Nat → Int32) (pg : Nat → Int32) (tr : Nat → Int32) (a : Int32) (b : Int32) (x6 : Int32) (x7 : Int32) (hp7 : vp_in pe 7) (ht5 : vp_in tu 5) (hn : vp_in a 10) (hT : ¬ x7 = 0 → ∀ k : Nat, k < a.toNatClampNeg → vp_in ((x6 / (fX6_power 10 (nI k))) - (x6 / (fX6_power 10 (nI k))) / 10 * 10) 4) : ∀ (n i : Nat) (σ : Int32 × Int32 × Int32 × Int32 × (Nat → Int32)), i + n = 2 + 1 → i ≤ 2 → hG p l e rmX6_plan s m args below meth c E A 10 Q 0 0 196 [(0, .ref mm), (1, .int a), (2, .int b), (3, .int (((fuX6_plan_108 pe to so pg a x6 x7) n i σ).1)), (4, .int (((fuX6_plan_108 pe to so pg a x6 x7) n i σ).2.1)), (5, .int (((fuX6_plan_108 pe to so pg a x6 x7) n i σ).2.2.1)), (6, .int x6)] [] [(mm, .inr (6, [.int 0, .ref m1, .int ts, .int pc, .int pe, .int tu, .ref m6, .ref m7, .int rp, .int rt, .ref ma, .ref mb, .ref mc, .ref md, .ref me, .int ac, .ref mg, .ref mh, .int sn, .ref mj, .ref mk, .long sd, .int (((fuX6_plan_108 pe to so pg a x6 x7) n i σ).2.2.2.1)])), (m6, .inl (E.2.1.1, 36, .inl to)), (m7, .inl (E.2.1.1, 12, .inl so)), (mc, .inl (E.2.1.1, 21, .inl pg)), (md, .inl (E.2.1.1, 21, .inl (((fuX6_plan_108 pe to so pg a x6 x7) n i σ).2.2.2.2)))] → hG p l e rmX6_plan s m args below meth c E A 10 Q 0 0 108 [(0, .ref mm), (1, .int a), (2, .int b), (3, .int σ.1), (4, .int σ.2.1), (5, .int σ.2.2.1), (6, .int x6), (7, .int x7), (8, .int (nI i))] [] [(mm, .inr (6, [.int 0, .ref m1, .int ts, .int pc, .int pe, .int tu, .ref m6, .ref m7, .int rp, .int rt, .ref ma, .ref mb, .ref mc, .ref md, .ref me, .int ac, .ref mg, .ref mh, .int sn, .ref mj, .ref mk, .long sd, .int σ.2.2.2.1])), (m6, .inl (E.2.1.1, 36, .inl to)), (m7, .inl (E.2.1.1, 12, .inl so)), (mc, .inl (E.2.1.1, 21, .inl pg)), (md, .inl (E.2.1.1, 21, .inl σ.2.2.2.2))] := by
  intro n
  induction n with
  | zero =>
    intro i σ hi hiN k
    exact absurd hi (by omega)
  | succ n ih =>
    intro i σ hi hiN k
    refine hg_iload C dX6_plan_108 8 rfl ?_
    refine hg_iconst C (v := 2) dX6_plan_110 (by decide) ?_
    refine hg_icmp_ge C (tgt := 196) dX6_plan_111 (by decide) (fun c9 => ?_) (fun c9 => ?_)
    · have e9 : (fuX6_plan_108 pe to so pg a x6 x7) (n + 1) i σ = (σ.1, σ.2.1, σ.2.2.1, σ.2.2.2.1, σ.2.2.2.2) := (hid_eq _).trans ((if_pos c9).trans rfl)
      rw [e9] at k
      exact hg_sub [0, 1, 2, 3, 4, 5, 6] rfl k
    · refine hg_iload C dX6_plan_114 7 rfl ?_
      refine hg_if_eq C (tgt := 196) dX6_plan_116 (by decide) (fun c10 => ?_) (fun c10 => ?_)
      · have e9 : (fuX6_plan_108 pe to so pg a x6 x7) (n + 1) i σ = (σ.1, σ.2.1, σ.2.2.1, σ.2.2.2.1, σ.2.2.2.2) := (hid_eq _).trans ((if_neg c9).trans ((if_pos c10).trans rfl))
        rw [e9] at k
        exact hg_sub [0, 1, 2, 3, 4, 5, 6] rfl k
      · refine hg_aload_n C dX6_plan_119 rfl 0 rfl ?_
        refine hg_callV C (ws' := [(mm, .inr (6, [.int 0, .ref m1, .int ts, .int pc, .int pe, .int tu, .ref m6, .ref m7, .int rp, .int rt, .ref ma, .ref mb, .ref mc, .ref md, .ref me, .int ac, .ref mg, .ref mh, .int sn, .ref mj, .ref mk, .long sd, .int σ.2.2.2.1])), (m6, .inl (E.2.1.1, 36, .inl to)), (m7, .inl (E.2.1.1, 12, .inl so)), (mc, .inl (E.2.1.1, 21, .inl pg)), (md, .inl (E.2.1.1, 21, .inl (fX6_begin pg σ.2.2.2.2)))]) (rest := []) (kX6_begin l E mm m1 m6 m7 ma mb mc md me mg mh mj mk ts pc pe tu rp rt ac sn sd σ.2.2.2.1 pg σ.2.2.2.2) hfX6_begin gX6_plan_X6_begin ⟨Nat.le_of_ble_eq_true rfl, Nat.le_of_ble_eq_true rfl⟩ ⟨Nat.zero_le _, Nat.zero_le _⟩ [0, 3, 4] rfl (by decide) [mm, mc, md] rfl rfl rfl 0 rfl rfl rfl rfl (Nat.le_of_ble_eq_true rfl) dX6_plan_120 ?_
        refine hg_iload_n C dX6_plan_123 rfl 1 rfl ?_
        refine hg_iconst C (v := 1) dX6_plan_124 (by decide) ?_
        refine hg_isub C dX6_plan_125 ?_
        refine hg_istore C (lv' := [(9, .int (a - 1)), (0, .ref mm), (1, .int a), (2, .int b), (3, .int σ.1), (4, .int σ.2.1), (5, .int σ.2.2.1), (6, .int x6), (7, .int x7), (8, .int (nI i))]) dX6_plan_126 (by decide) rfl ?_
        refine hg_sub [1, 2, 3, 4, 5, 6, 7, 8, 9, 0] rfl ?_
        refine lpX6_plan_128 C mm m1 m6 m7 ma mb mc md me mg mh mj mk ts pc pe tu rp rt ac sn sd sl to so pg tr a b σ.1 σ.2.1 σ.2.2.1 x6 x7 (nI i) σ.2.2.2.1 hp7 ht5 hn (hT (by assumption)) (fX6_begin pg σ.2.2.2.2) ?_ a.toNatClampNeg 0 (fX6_begin pg σ.2.2.2.2) (by omega) rfl
        refine hg_aload_n C dX6_plan_161 rfl 0 rfl ?_
        refine hg_aload_n C dX6_plan_162 rfl 0 rfl ?_
        refine hg_get C (Cn := RX6) (T := TX6) (N := 23) (v := .ref md) mrX6_plan_6 0 rfl rfl 13 (by decide) mmX6_plan_f28 rfl dX6_plan_163 ?_
        refine hg_iload C dX6_plan_166 8 rfl ?_
        refine hg_callV C (ws' := [(mm, .inr (6, [.int 0, .ref m1, .int ts, .int pc, .int pe, .int tu, .ref m6, .ref m7, .int rp, .int rt, .ref ma, .ref mb, .ref mc, .ref md, .ref me, .int ac, .ref mg, .ref mh, .int sn, .ref mj, .ref mk, .long sd, .int ((fX6_goRound pe to (itN (stX6_plan_128 pe to so a x6) a.toNatClampNeg (fX6_begin pg σ.2.2.2.2)) (nI i)).2.1)])), (m6, .inl (E.2.1.1, 36, .inl to)), (m7, .inl (E.2.1.1, 12, .inl so)), (mc, .inl (E.2.1.1, 21, .inl pg)), (md, .inl (E.2.1.1, 21, .inl ((fX6_goRound pe to (itN (stX6_plan_128 pe to so a x6) a.toNatClampNeg (fX6_begin pg σ.2.2.2.2)) (nI i)).2.2)))]) (rest := []) (kX6_goRound l E mm m1 m6 m7 ma mb mc md me mg mh mj mk ts pc pe tu rp rt ac sn sd σ.2.2.2.1 to so md (itN (stX6_plan_128 pe to so a x6) a.toNatClampNeg (fX6_begin pg σ.2.2.2.2)) (nI i) (Nat.le_of_lt_succ (vp_cl hp7))) hfX6_goRound gX6_plan_X6_goRound ⟨Nat.le_of_ble_eq_true rfl, Nat.le_of_ble_eq_true rfl⟩ ⟨Nat.zero_le _, Nat.zero_le _⟩ [0, 1, 2, 4] rfl (by decide) [mm, m6, m7, md] rfl rfl rfl 0 rfl rfl rfl rfl (Nat.le_of_ble_eq_true rfl) dX6_plan_168 ?_
        refine hg_istore C (lv' := [(9, .int ((fX6_goRound pe to (itN (stX6_plan_128 pe to so a x6) a.toNatClampNeg (fX6_begin pg σ.2.2.2.2)) (nI i)).1)), (0, .ref mm), (1, .int a), (2, .int b), (3, .int σ.1), (4, .int σ.2.1), (5, .int σ.2.2.1), (6, .int x6), (7, .int x7), (8, .int (nI i))]) dX6_plan_171 (by decide) rfl ?_
        refine hg_iload C dX6_plan_173 0 rfl ?_
        refine hg_iload_n C dX6_plan_175 rfl 4 rfl ?_
        refine hg_icmp_le C (tgt := 190) dX6_plan_176 (by decide) (fun c11 => ?_) (fun c11 => ?_)
        · refine hg_iinc C (v := nI (i + 1)) (lv' := [(8, .int (nI (i + 1))), (9, .int ((fX6_goRound pe to (itN (stX6_plan_128 pe to so a x6) a.toNatClampNeg (fX6_begin pg σ.2.2.2.2)) (nI i)).1)), (0, .ref mm), (1, .int a), (2, .int b), (3, .int σ.1), (4, .int σ.2.1), (5, .int σ.2.2.1), (6, .int x6), (7, .int x7)]) dX6_plan_190 9 rfl (nI_inc _) (by decide) rfl ?_
          refine hg_goto C (tgt := 108) dX6_plan_193 (by decide) ?_
          have hlt : i < 2 := (lt_nI (by omega) (by assumption))
          have e9 : (fuX6_plan_108 pe to so pg a x6 x7) (n + 1) i σ = (fuX6_plan_108 pe to so pg a x6 x7) n (i + 1) (σ.1, σ.2.1, σ.2.2.1, (fX6_goRound pe to (itN (stX6_plan_128 pe to so a x6) a.toNatClampNeg (fX6_begin pg σ.2.2.2.2)) (nI i)).2.1, (fX6_goRound pe to (itN (stX6_plan_128 pe to so a x6) a.toNatClampNeg (fX6_begin pg σ.2.2.2.2)) (nI i)).2.2) := (hid_eq _).trans ((if_neg c9).trans ((if_neg c10).trans ((if_pos c11).trans rfl)))
          rw [e9] at k
          exact hg_sub [2, 3, 4, 5, 6, 7, 8, 9, 0] rfl (ih (i + 1) (σ.1, σ.2.1, σ.2.2.1, (fX6_goRound pe to (itN (stX6_plan_128 pe to so a x6) a.toNatClampNeg (fX6_begin pg σ.2.2.2.2)) (nI i)).2.1, (fX6_goRound pe to (itN (stX6_plan_128 pe to so a x6) a.toNatClampNeg (fX6_begin pg σ.2.2.2.2)) (nI i)).2.2) (by omega) (by omega) k)
        · refine hg_iload C dX6_plan_179 0 rfl ?_
          refine hg_istore_n C (lv' := [(3, .int ((fX6_goRound pe to (itN (stX6_plan_128 pe to so a x6) a.toNatClampNeg (fX6_begin pg σ.2.2.2.2)) (nI i)).1)), (9, .int ((fX6_goRound pe to (itN (stX6_plan_128 pe to so a x6) a.toNatClampNeg (fX6_begin pg σ.2.2.2.2)) (nI i)).1)), (0, .ref mm), (1, .int a), (2, .int b), (4, .int σ.2.1), (5, .int σ.2.2.1), (6, .int x6), (7, .int x7), (8, .int (nI i))]) dX6_plan_181 rfl (by decide) rfl ?_
          refine hg_iload C dX6_plan_182 7 rfl ?_
          refine hg_istore C (lv' := [(4, .int x6), (3, .int ((fX6_goRound pe to (itN (stX6_plan_128 pe to so a x6) a.toNatClampNeg (fX6_begin pg σ.2.2.2.2)) (nI i)).1)), (9, .int ((fX6_goRound pe to (itN (stX6_plan_128 pe to so a x6) a.toNatClampNeg (fX6_begin pg σ.2.2.2.2)) (nI i)).1)), (0, .ref mm), (1, .int a), (2, .int b), (5, .int σ.2.2.1), (6, .int x6), (7, .int x7), (8, .int (nI i))]) dX6_plan_184 (by decide) rfl ?_
          refine hg_iload C dX6_plan_186 9 rfl ?_
          refine hg_istore C (lv' := [(5, .int (nI i)), (4, .int x6), (3, .int ((fX6_goRound pe to (itN (stX6_plan_128 pe to so a x6) a.toNatClampNeg (fX6_begin pg σ.2.2.2.2)) (nI i)).1)), (9, .int ((fX6_goRound pe to (itN (stX6_plan_128 pe to so a x6) a.toNatClampNeg (fX6_begin pg σ.2.2.2.2)) (nI i)).1)), (0, .ref mm), (1, .int a), (2, .int b), (6, .int x6), (7, .int x7), (8, .int (nI i))]) dX6_plan_188 (by decide) rfl ?_
          refine hg_iinc C (v := nI (i + 1)) (lv' := [(8, .int (nI (i + 1))), (5, .int (nI i)), (4, .int x6), (3, .int ((fX6_goRound pe to (itN (stX6_plan_128 pe to so a x6) a.toNatClampNeg (fX6_begin pg σ.2.2.2.2)) (nI i)).1)), (9, .int ((fX6_goRound pe to (itN (stX6_plan_128 pe to so a x6) a.toNatClampNeg (fX6_begin pg σ.2.2.2.2)) (nI i)).1)), (0, .ref mm), (1, .int a), (2, .int b), (6, .int x6), (7, .int x7)]) dX6_plan_190 9 rfl (nI_inc _) (by decide) rfl ?_
          refine hg_goto C (tgt := 108) dX6_plan_193 (by decide) ?_
          have hlt : i < 2 := (lt_nI (by omega) (by assumption))
          have e9 : (fuX6_plan_108 pe to so pg a x6 x7) (n + 1) i σ = (fuX6_plan_108 pe to so pg a x6 x7) n (i + 1) ((fX6_goRound pe to (itN (stX6_plan_128 pe to so a x6) a.toNatClampNeg (fX6_begin pg σ.2.2.2.2)) (nI i)).1, x6, nI i, (fX6_goRound pe to (itN (stX6_plan_128 pe to so a x6) a.toNatClampNeg (fX6_begin pg σ.2.2.2.2)) (nI i)).2.1, (fX6_goRound pe to (itN (stX6_plan_128 pe to so a x6) a.toNatClampNeg (fX6_begin pg σ.2.2.2.2)) (nI i)).2.2) := (hid_eq _).trans ((if_neg c9).trans ((if_neg c10).trans ((if_neg c11).trans rfl)))
          rw [e9] at k
          exact hg_sub [5, 6, 7, 3, 2, 1, 8, 9, 0] rfl (ih (i + 1) ((fX6_goRound pe to (itN (stX6_plan_128 pe to so a x6) a.toNatClampNeg (fX6_begin pg σ.2.2.2.2)) (nI i)).1, x6, nI i, (fX6_goRound pe to (itN (stX6_plan_128 pe to so a x6) a.toNatClampNeg (fX6_begin pg σ.2.2.2.2)) (nI i)).2.1, (fX6_goRound pe to (itN (stX6_plan_128 pe to so a x6) a.toNatClampNeg (fX6_begin pg σ.2.2.2.2)) (nI i)).2.2) (by omega) (by omega) k)
noncomputable def stX6_plan_44 (pe : Int32) (tu : Int32) (to : Nat → Int32) (so : Nat → Int32) (pg : Nat → Int32) (a : Int32) (i : Nat) (σ : Int32 × Int32 × Int32 × Int32 × (Nat → Int32)) : Int32 × Int32 × Int32 × Int32 × (Nat → Int32) := hid ((((fuX6_plan_108 pe to so pg a (nI i) (itN (stX6_plan_61 tu (nI i)) a.toNatClampNeg 1)) (2 + 1) 0 (σ.1, σ.2.1, σ.2.2.1, σ.2.2.2.1, σ.2.2.2.2)).1, ((fuX6_plan_108 pe to so pg a (nI i) (itN (stX6_plan_61 tu (nI i)) a.toNatClampNeg 1)) (2 + 1) 0 (σ.1, σ.2.1, σ.2.2.1, σ.2.2.2.1, σ.2.2.2.2)).2.1, ((fuX6_plan_108 pe to so pg a (nI i) (itN (stX6_plan_61 tu (nI i)) a.toNatClampNeg 1)) (2 + 1) 0 (σ.1, σ.2.1, σ.2.2.1, σ.2.2.2.1, σ.2.2.2.2)).2.2.1, ((fuX6_plan_108 pe to so pg a (nI i) (itN (stX6_plan_61 tu (nI i)) a.toNatClampNeg 1)) (2 + 1) 0 (σ.1, σ.2.1, σ.2.2.1, σ.2.2.2.1, σ.2.2.2.2)).2.2.2.1, ((fuX6_plan_108 pe to so pg a (nI i) (itN (stX6_plan_61 tu (nI i)) a.toNatClampNeg 1)) (2 + 1) 0 (σ.1, σ.2.1, σ.2.2.1, σ.2.2.2.1, σ.2.2.2.2)).2.2.2.2))
set_option maxHeartbeats 4000000 in
set_option maxRecDepth 100000 in
theorem lpX6_plan_44 {p : Program} {l : Launch} {e : Env} {s : State} {m : MethodId} {args : Array Value} {below : List Frame} {meth : Method} {c : Code} {E : hE} {A : Nat → Prop} {Q : State → Prop} (C : hX p s m args meth c E A cX6_plan 10 RX6 wsX6_plan (some .int)) (mm : Nat) (m1 : Nat) (m6 : Nat) (m7 : Nat) (ma : Nat) (mb : Nat) (mc : Nat) (md : Nat) (me : Nat) (mg : Nat) (mh : Nat) (mj : Nat) (mk : Nat) (ts : Int32) (pc : Int32) (pe : Int32) (tu : Int32) (rp : Int32) (rt : Int32) (ac : Int32) (sn : Int32) (sd : Int64) (sl : Int32) (to : Nat → Int32) (so : Nat → Int32) (pg : Nat → Int32) (tr : Nat → Int32) (a : Int32) (b : Int32) (hp7 : vp_in pe 7) (ht5 : vp_in tu 5) (hn : vp_in a 10) (σ0 : Int32 × Int32 × Int32 × Int32 × (Nat → Int32)) (k : hG p l e rmX6_plan s m args below meth c E A 10 Q 0 0 202 [(2, .int b), (3, .int ((itN (stX6_plan_44 pe tu to so pg a) ((fX6_power 10 a).toNatClampNeg) σ0).1)), (4, .int ((itN (stX6_plan_44 pe tu to so pg a) ((fX6_power 10 a).toNatClampNeg) σ0).2.1)), (5, .int ((itN (stX6_plan_44 pe tu to so pg a) ((fX6_power 10 a).toNatClampNeg) σ0).2.2.1))] [] [(mm, .inr (6, [.int 0, .ref m1, .int ts, .int pc, .int pe, .int tu, .ref m6, .ref m7, .int rp, .int rt, .ref ma, .ref mb, .ref mc, .ref md, .ref me, .int ac, .ref mg, .ref mh, .int sn, .ref mj, .ref mk, .long sd, .int ((itN (stX6_plan_44 pe tu to so pg a) ((fX6_power 10 a).toNatClampNeg) σ0).2.2.2.1)])), (m6, .inl (E.2.1.1, 36, .inl to)), (m7, .inl (E.2.1.1, 12, .inl so)), (mc, .inl (E.2.1.1, 21, .inl pg)), (md, .inl (E.2.1.1, 21, .inl ((itN (stX6_plan_44 pe tu to so pg a) ((fX6_power 10 a).toNatClampNeg) σ0).2.2.2.2)))]) : ∀ (n i : Nat) (σ : Int32 × Int32 × Int32 × Int32 × (Nat → Int32)), i + n = (fX6_power 10 a).toNatClampNeg → σ = itN (stX6_plan_44 pe tu to so pg a) i σ0 → hG p l e rmX6_plan s m args below meth c E A 10 Q 0 0 44 [(0, .ref mm), (1, .int a), (2, .int b), (3, .int σ.1), (4, .int σ.2.1), (5, .int σ.2.2.1), (6, .int (nI i))] [] [(mm, .inr (6, [.int 0, .ref m1, .int ts, .int pc, .int pe, .int tu, .ref m6, .ref m7, .int rp, .int rt, .ref ma, .ref mb, .ref mc, .ref md, .ref me, .int ac, .ref mg, .ref mh, .int sn, .ref mj, .ref mk, .long sd, .int σ.2.2.2.1])), (m6, .inl (E.2.1.1, 36, .inl to)), (m7, .inl (E.2.1.1, 12, .inl so)), (mc, .inl (E.2.1.1, 21, .inl pg)), (md, .inl (E.2.1.1, 21, .inl σ.2.2.2.2))] := by
  intro n
  induction n with
  | zero =>
    intro i σ hi hσ
    have hi : i = (fX6_power 10 a).toNatClampNeg := by omega
    rw [hi] at hσ
    refine hg_iload C dX6_plan_44 6 rfl ?_
    refine hg_bipush C (v := 10) dX6_plan_46 (by decide) ?_
    refine hg_iload_n C dX6_plan_48 rfl 1 rfl ?_
    refine hg_callS C (ws' := [(mm, .inr (6, [.int 0, .ref m1, .int ts, .int pc, .int pe, .int tu, .ref m6, .ref m7, .int rp, .int rt, .ref ma, .ref mb, .ref mc, .ref md, .ref me, .int ac, .ref mg, .ref mh, .int sn, .ref mj, .ref mk, .long sd, .int σ.2.2.2.1])), (m6, .inl (E.2.1.1, 36, .inl to)), (m7, .inl (E.2.1.1, 12, .inl so)), (mc, .inl (E.2.1.1, 21, .inl pg)), (md, .inl (E.2.1.1, 21, .inl σ.2.2.2.2))]) (rest := [.int (nI i)]) (kX6_power l E 10 a) hfX6_power gX6_plan_X6_power ⟨Nat.le_of_ble_eq_true rfl, Nat.le_of_ble_eq_true rfl⟩ ⟨Nat.zero_le _, Nat.zero_le _⟩ [] rfl (by decide) [] rfl rfl rfl rfl (Nat.le_of_ble_eq_true rfl) dX6_plan_49 ?_
    refine hg_icmp_ge C (tgt := 202) dX6_plan_52 (by decide) (fun _ => ?_) (fun h => absurd (by rw [hi]; exact cl_done _) h)
    rw [hi, hσ]
    exact hg_sub [2, 3, 4, 5] rfl k
  | succ n ih =>
    intro i σ hi hσ
    have hlt : i < (fX6_power 10 a).toNatClampNeg := by omega
    refine hg_iload C dX6_plan_44 6 rfl ?_
    refine hg_bipush C (v := 10) dX6_plan_46 (by decide) ?_
    refine hg_iload_n C dX6_plan_48 rfl 1 rfl ?_
    refine hg_callS C (ws' := [(mm, .inr (6, [.int 0, .ref m1, .int ts, .int pc, .int pe, .int tu, .ref m6, .ref m7, .int rp, .int rt, .ref ma, .ref mb, .ref mc, .ref md, .ref me, .int ac, .ref mg, .ref mh, .int sn, .ref mj, .ref mk, .long sd, .int σ.2.2.2.1])), (m6, .inl (E.2.1.1, 36, .inl to)), (m7, .inl (E.2.1.1, 12, .inl so)), (mc, .inl (E.2.1.1, 21, .inl pg)), (md, .inl (E.2.1.1, 21, .inl σ.2.2.2.2))]) (rest := [.int (nI i)]) (kX6_power l E 10 a) hfX6_power gX6_plan_X6_power ⟨Nat.le_of_ble_eq_true rfl, Nat.le_of_ble_eq_true rfl⟩ ⟨Nat.zero_le _, Nat.zero_le _⟩ [] rfl (by decide) [] rfl rfl rfl rfl (Nat.le_of_ble_eq_true rfl) dX6_plan_49 ?_
    refine hg_icmp_ge C (tgt := 202) dX6_plan_52 (by decide) (fun h => absurd h (cl_cont hlt)) (fun _ => ?_)
    refine hg_iconst C (v := 1) dX6_plan_55 (by decide) ?_
    refine hg_istore C (lv' := [(7, .int 1), (0, .ref mm), (1, .int a), (2, .int b), (3, .int σ.1), (4, .int σ.2.1), (5, .int σ.2.2.1), (6, .int (nI i))]) dX6_plan_56 (by decide) rfl ?_
    refine hg_iconst C (v := 0) dX6_plan_58 (by decide) ?_
    refine hg_istore C (lv' := [(8, .int 0), (7, .int 1), (0, .ref mm), (1, .int a), (2, .int b), (3, .int σ.1), (4, .int σ.2.1), (5, .int σ.2.2.1), (6, .int (nI i))]) dX6_plan_59 (by decide) rfl ?_
    refine hg_sub [2, 3, 4, 5, 6, 7, 8, 1, 0] rfl ?_
    refine lpX6_plan_61 C mm m1 m6 m7 ma mb mc md me mg mh mj mk ts pc pe tu rp rt ac sn sd sl to so pg tr a b σ.1 σ.2.1 σ.2.2.1 (nI i) σ.2.2.2.1 σ.2.2.2.2 hp7 ht5 hn 1 ?_ a.toNatClampNeg 0 1 (by omega) rfl
    refine hg_iconst C (v := 0) dX6_plan_105 (by decide) ?_
    refine hg_istore C (lv' := [(8, .int 0), (0, .ref mm), (1, .int a), (2, .int b), (3, .int σ.1), (4, .int σ.2.1), (5, .int σ.2.2.1), (6, .int (nI i)), (7, .int (itN (stX6_plan_61 tu (nI i)) a.toNatClampNeg 1))]) dX6_plan_106 (by decide) rfl ?_
    refine hg_sub [1, 2, 3, 4, 5, 6, 7, 8, 0] rfl ?_
    refine lpX6_plan_108 C mm m1 m6 m7 ma mb mc md me mg mh mj mk ts pc pe tu rp rt ac sn sd sl to so pg tr a b (nI i) (itN (stX6_plan_61 tu (nI i)) a.toNatClampNeg 1) hp7 ht5 hn (fun h9 => and_all (fun i σ h => by revert h; unfold stX6_plan_61; rw [hid_eq]; split; (exact fun h => absurd rfl h); split; (exact fun _ => ⟨by assumption, nt_in ht5 (by assumption)⟩); exact fun h => absurd rfl h) _ h9) (2 + 1) 0 (σ.1, σ.2.1, σ.2.2.1, σ.2.2.2.1, σ.2.2.2.2) (by omega) (by omega) ?_
    refine hg_iinc C (v := nI (i + 1)) (lv' := [(6, .int (nI (i + 1))), (0, .ref mm), (1, .int a), (2, .int b), (3, .int (((fuX6_plan_108 pe to so pg a (nI i) (itN (stX6_plan_61 tu (nI i)) a.toNatClampNeg 1)) (2 + 1) 0 (σ.1, σ.2.1, σ.2.2.1, σ.2.2.2.1, σ.2.2.2.2)).1)), (4, .int (((fuX6_plan_108 pe to so pg a (nI i) (itN (stX6_plan_61 tu (nI i)) a.toNatClampNeg 1)) (2 + 1) 0 (σ.1, σ.2.1, σ.2.2.1, σ.2.2.2.1, σ.2.2.2.2)).2.1)), (5, .int (((fuX6_plan_108 pe to so pg a (nI i) (itN (stX6_plan_61 tu (nI i)) a.toNatClampNeg 1)) (2 + 1) 0 (σ.1, σ.2.1, σ.2.2.1, σ.2.2.2.1, σ.2.2.2.2)).2.2.1))]) dX6_plan_196 6 rfl (nI_inc _) (by decide) rfl ?_
    refine hg_goto C (tgt := 44) dX6_plan_199 (by decide) ?_
    have e9 : (stX6_plan_44 pe tu to so pg a) i σ = (((fuX6_plan_108 pe to so pg a (nI i) (itN (stX6_plan_61 tu (nI i)) a.toNatClampNeg 1)) (2 + 1) 0 (σ.1, σ.2.1, σ.2.2.1, σ.2.2.2.1, σ.2.2.2.2)).1, ((fuX6_plan_108 pe to so pg a (nI i) (itN (stX6_plan_61 tu (nI i)) a.toNatClampNeg 1)) (2 + 1) 0 (σ.1, σ.2.1, σ.2.2.1, σ.2.2.2.1, σ.2.2.2.2)).2.1, ((fuX6_plan_108 pe to so pg a (nI i) (itN (stX6_plan_61 tu (nI i)) a.toNatClampNeg 1)) (2 + 1) 0 (σ.1, σ.2.1, σ.2.2.1, σ.2.2.2.1, σ.2.2.2.2)).2.2.1, ((fuX6_plan_108 pe to so pg a (nI i) (itN (stX6_plan_61 tu (nI i)) a.toNatClampNeg 1)) (2 + 1) 0 (σ.1, σ.2.1, σ.2.2.1, σ.2.2.2.1, σ.2.2.2.2)).2.2.2.1, ((fuX6_plan_108 pe to so pg a (nI i) (itN (stX6_plan_61 tu (nI i)) a.toNatClampNeg 1)) (2 + 1) 0 (σ.1, σ.2.1, σ.2.2.1, σ.2.2.2.1, σ.2.2.2.2)).2.2.2.2) := hid_eq _
    have h9 := ih (i + 1) (((fuX6_plan_108 pe to so pg a (nI i) (itN (stX6_plan_61 tu (nI i)) a.toNatClampNeg 1)) (2 + 1) 0 (σ.1, σ.2.1, σ.2.2.1, σ.2.2.2.1, σ.2.2.2.2)).1, ((fuX6_plan_108 pe to so pg a (nI i) (itN (stX6_plan_61 tu (nI i)) a.toNatClampNeg 1)) (2 + 1) 0 (σ.1, σ.2.1, σ.2.2.1, σ.2.2.2.1, σ.2.2.2.2)).2.1, ((fuX6_plan_108 pe to so pg a (nI i) (itN (stX6_plan_61 tu (nI i)) a.toNatClampNeg 1)) (2 + 1) 0 (σ.1, σ.2.1, σ.2.2.1, σ.2.2.2.1, σ.2.2.2.2)).2.2.1, ((fuX6_plan_108 pe to so pg a (nI i) (itN (stX6_plan_61 tu (nI i)) a.toNatClampNeg 1)) (2 + 1) 0 (σ.1, σ.2.1, σ.2.2.1, σ.2.2.2.1, σ.2.2.2.2)).2.2.2.1, ((fuX6_plan_108 pe to so pg a (nI i) (itN (stX6_plan_61 tu (nI i)) a.toNatClampNeg 1)) (2 + 1) 0 (σ.1, σ.2.1, σ.2.2.1, σ.2.2.2.1, σ.2.2.2.2)).2.2.2.2) (by omega) (e9.symm.trans (congrArg ((stX6_plan_44 pe tu to so pg a) i) hσ))
    exact hg_sub [1, 2, 3, 4, 5, 6, 0] rfl h9
noncomputable def fX6_plan (pe : Int32) (tu : Int32) (sl : Int32) (to : Nat → Int32) (so : Nat → Int32) (pg : Nat → Int32) (tr : Nat → Int32) (a : Int32) (b : Int32) : Int32 × Int32 × (Nat → Int32) := hid (if (fX6_in a.toInt64 0 3) = 0 then ((-2), sl, tr) else if (fX6_in b.toInt64 0 2) = 0 then ((-2), sl, tr) else (if ((itN (stX6_plan_44 pe tu to so pg a) ((fX6_power 10 a).toNatClampNeg) ((-9), 0, 0, sl, tr)).1) = (-9) then ((-9) : Int32) else (if b = 0 then ((itN (stX6_plan_44 pe tu to so pg a) ((fX6_power 10 a).toNatClampNeg) ((-9), 0, 0, sl, tr)).1) else (if b = 1 then ((itN (stX6_plan_44 pe tu to so pg a) ((fX6_power 10 a).toNatClampNeg) ((-9), 0, 0, sl, tr)).2.1) else ((itN (stX6_plan_44 pe tu to so pg a) ((fX6_power 10 a).toNatClampNeg) ((-9), 0, 0, sl, tr)).2.2.1))), (itN (stX6_plan_44 pe tu to so pg a) ((fX6_power 10 a).toNatClampNeg) ((-9), 0, 0, sl, tr)).2.2.2.1, (itN (stX6_plan_44 pe tu to so pg a) ((fX6_power 10 a).toNatClampNeg) ((-9), 0, 0, sl, tr)).2.2.2.2))
set_option maxHeartbeats 4000000 in
set_option maxRecDepth 100000 in
theorem kX6_plan (l : Launch) (E : hE) (mm : Nat) (m1 : Nat) (m6 : Nat) (m7 : Nat) (ma : Nat) (mb : Nat) (mc : Nat) (md : Nat) (me : Nat) (mg : Nat) (mh : Nat) (mj : Nat) (mk : Nat) (ts : Int32) (pc : Int32) (pe : Int32) (tu : Int32) (rp : Int32) (rt : Int32) (ac : Int32) (sn : Int32) (sd : Int64) (sl : Int32) (to : Nat → Int32) (so : Nat → Int32) (pg : Nat → Int32) (tr : Nat → Int32) (a : Int32) (b : Int32) (hp7 : vp_in pe 7) (ht5 : vp_in tu 5) : hC l yX6_plan wsX6_plan rmX6_plan E [.ref mm, .int a, .int b] [(mm, .inr (6, [.int 0, .ref m1, .int ts, .int pc, .int pe, .int tu, .ref m6, .ref m7, .int rp, .int rt, .ref ma, .ref mb, .ref mc, .ref md, .ref me, .int ac, .ref mg, .ref mh, .int sn, .ref mj, .ref mk, .long sd, .int sl])), (m6, .inl (E.2.1.1, 36, .inl to)), (m7, .inl (E.2.1.1, 12, .inl so)), (mc, .inl (E.2.1.1, 21, .inl pg)), (md, .inl (E.2.1.1, 21, .inl tr))] (some (.int ((fX6_plan pe tu sl to so pg tr a b).1))) [(mm, .inr (6, [.int 0, .ref m1, .int ts, .int pc, .int pe, .int tu, .ref m6, .ref m7, .int rp, .int rt, .ref ma, .ref mb, .ref mc, .ref md, .ref me, .int ac, .ref mg, .ref mh, .int sn, .ref mj, .ref mk, .long sd, .int ((fX6_plan pe tu sl to so pg tr a b).2.1)])), (m6, .inl (E.2.1.1, 36, .inl to)), (m7, .inl (E.2.1.1, 12, .inl so)), (mc, .inl (E.2.1.1, 21, .inl pg)), (md, .inl (E.2.1.1, 21, .inl ((fX6_plan pe tu sl to so pg tr a b).2.2)))] := by
  refine hC_intro (cc := cX6_plan) (maxL := 10) (ret := (some .int)) (lv0 := [(0, .ref mm), (1, .int a), (2, .int b)]) (by decide) rfl (Nat.le_of_ble_eq_true rfl) rfl ?_
  intro p e s m below meth c A C
  refine hg_aload_n C dX6_plan_0 rfl 0 rfl ?_
  refine hg_iconst C (v := 0) dX6_plan_1 (by decide) ?_
  refine hg_put C (Cn := RX6) (T := TX6) (N := 23) (ws' := [(mm, .inr (6, [.int 0, .ref m1, .int ts, .int pc, .int pe, .int tu, .ref m6, .ref m7, .int rp, .int rt, .ref ma, .ref mb, .ref mc, .ref md, .ref me, .int ac, .ref mg, .ref mh, .int sn, .ref mj, .ref mk, .long sd, .int sl])), (m6, .inl (E.2.1.1, 36, .inl to)), (m7, .inl (E.2.1.1, 12, .inl so)), (mc, .inl (E.2.1.1, 21, .inl pg)), (md, .inl (E.2.1.1, 21, .inl tr))]) mrX6_plan_6 tyX6 tyX6_ok nmX6 0 rfl rfl 0 (by decide) mmX6_plan_f47 rfl rfl rfl rfl (Nat.le_of_ble_eq_true rfl) rfl dX6_plan_2 ?_
  refine hg_iload_n C dX6_plan_5 rfl 1 rfl ?_
  refine hg_i2l C dX6_plan_6 ?_
  refine hg_lconst C (v := 0) dX6_plan_7 rfl ?_
  refine hg_ldc2 C mmX6_plan_k140 dX6_plan_8 ?_
  refine hg_callS C (ws' := [(mm, .inr (6, [.int 0, .ref m1, .int ts, .int pc, .int pe, .int tu, .ref m6, .ref m7, .int rp, .int rt, .ref ma, .ref mb, .ref mc, .ref md, .ref me, .int ac, .ref mg, .ref mh, .int sn, .ref mj, .ref mk, .long sd, .int sl])), (m6, .inl (E.2.1.1, 36, .inl to)), (m7, .inl (E.2.1.1, 12, .inl so)), (mc, .inl (E.2.1.1, 21, .inl pg)), (md, .inl (E.2.1.1, 21, .inl tr))]) (rest := []) (kX6_in l E a.toInt64 0 3) hfX6_in gX6_plan_X6_in ⟨Nat.le_of_ble_eq_true rfl, Nat.le_of_ble_eq_true rfl⟩ ⟨Nat.zero_le _, Nat.zero_le _⟩ [] rfl (by decide) [] rfl rfl rfl rfl (Nat.le_of_ble_eq_true rfl) dX6_plan_11 ?_
  refine hg_if_eq C (tgt := 29) dX6_plan_14 (by decide) (fun c1 => ?_) (fun c1 => ?_)
  · refine hg_bipush C (v := (-2)) dX6_plan_29 (by decide) ?_
    have e9 : (fX6_plan pe tu sl to so pg tr a b) = ((-2), sl, tr) := (hid_eq _).trans ((if_pos c1).trans rfl)
    rw [e9]
    exact hg_iret C dX6_plan_31 rfl rfl
  · refine hg_iload_n C dX6_plan_17 rfl 2 rfl ?_
    refine hg_i2l C dX6_plan_18 ?_
    refine hg_lconst C (v := 0) dX6_plan_19 rfl ?_
    refine hg_ldc2 C mmX6_plan_k114 dX6_plan_20 ?_
    refine hg_callS C (ws' := [(mm, .inr (6, [.int 0, .ref m1, .int ts, .int pc, .int pe, .int tu, .ref m6, .ref m7, .int rp, .int rt, .ref ma, .ref mb, .ref mc, .ref md, .ref me, .int ac, .ref mg, .ref mh, .int sn, .ref mj, .ref mk, .long sd, .int sl])), (m6, .inl (E.2.1.1, 36, .inl to)), (m7, .inl (E.2.1.1, 12, .inl so)), (mc, .inl (E.2.1.1, 21, .inl pg)), (md, .inl (E.2.1.1, 21, .inl tr))]) (rest := []) (kX6_in l E b.toInt64 0 2) hfX6_in gX6_plan_X6_in ⟨Nat.le_of_ble_eq_true rfl, Nat.le_of_ble_eq_true rfl⟩ ⟨Nat.zero_le _, Nat.zero_le _⟩ [] rfl (by decide) [] rfl rfl rfl rfl (Nat.le_of_ble_eq_true rfl) dX6_plan_23 ?_
    refine hg_if_ne C (tgt := 32) dX6_plan_26 (by decide) (fun c2 => ?_) (fun c2 => ?_)
    · refine hg_bipush C (v := (-9)) dX6_plan_32 (by decide) ?_
      refine hg_istore_n C (lv' := [(3, .int (-9)), (0, .ref mm), (1, .int a), (2, .int b)]) dX6_plan_34 rfl (by decide) rfl ?_
      refine hg_iconst C (v := 0) dX6_plan_35 (by decide) ?_
      refine hg_istore C (lv' := [(4, .int 0), (3, .int (-9)), (0, .ref mm), (1, .int a), (2, .int b)]) dX6_plan_36 (by decide) rfl ?_
      refine hg_iconst C (v := 0) dX6_plan_38 (by decide) ?_
      refine hg_istore C (lv' := [(5, .int 0), (4, .int 0), (3, .int (-9)), (0, .ref mm), (1, .int a), (2, .int b)]) dX6_plan_39 (by decide) rfl ?_
      refine hg_iconst C (v := 0) dX6_plan_41 (by decide) ?_
      refine hg_istore C (lv' := [(6, .int 0), (5, .int 0), (4, .int 0), (3, .int (-9)), (0, .ref mm), (1, .int a), (2, .int b)]) dX6_plan_42 (by decide) rfl ?_
      refine hg_sub [4, 5, 6, 3, 2, 1, 0] rfl ?_
      refine lpX6_plan_44 C mm m1 m6 m7 ma mb mc md me mg mh mj mk ts pc pe tu rp rt ac sn sd sl to so pg tr a b hp7 ht5 (in_vp (b := 0) (q := 3) rfl rfl (by assumption) (by decide) (by decide)) ((-9), 0, 0, sl, tr) ?_ ((fX6_power 10 a).toNatClampNeg) 0 ((-9), 0, 0, sl, tr) (by omega) rfl
      refine hg_iload_n C dX6_plan_202 rfl 1 rfl ?_
      refine hg_bipush C (v := (-9)) dX6_plan_203 (by decide) ?_
      refine hg_join (J := 233) (v := if ((itN (stX6_plan_44 pe tu to so pg a) ((fX6_power 10 a).toNatClampNeg) ((-9), 0, 0, sl, tr)).1) = (-9) then ((-9) : Int32) else (if b = 0 then ((itN (stX6_plan_44 pe tu to so pg a) ((fX6_power 10 a).toNatClampNeg) ((-9), 0, 0, sl, tr)).1) else (if b = 1 then ((itN (stX6_plan_44 pe tu to so pg a) ((fX6_power 10 a).toNatClampNeg) ((-9), 0, 0, sl, tr)).2.1) else ((itN (stX6_plan_44 pe tu to so pg a) ((fX6_power 10 a).toNatClampNeg) ((-9), 0, 0, sl, tr)).2.2.1)))) (st1 := []) (fun jj => ?_) ?_
      · refine hg_icmp_ne C (tgt := 213) dX6_plan_205 (by decide) (fun c12 => ?_) (fun c12 => ?_)
        · refine hg_iload_n C dX6_plan_213 rfl 0 rfl ?_
          refine hg_join (J := 233) (v := if b = 0 then ((itN (stX6_plan_44 pe tu to so pg a) ((fX6_power 10 a).toNatClampNeg) ((-9), 0, 0, sl, tr)).1) else (if b = 1 then ((itN (stX6_plan_44 pe tu to so pg a) ((fX6_power 10 a).toNatClampNeg) ((-9), 0, 0, sl, tr)).2.1) else ((itN (stX6_plan_44 pe tu to so pg a) ((fX6_power 10 a).toNatClampNeg) ((-9), 0, 0, sl, tr)).2.2.1))) (st1 := []) (fun jj => ?_) ?_
          · refine hg_if_ne C (tgt := 221) dX6_plan_214 (by decide) (fun c13 => ?_) (fun c13 => ?_)
            · refine hg_iload_n C dX6_plan_221 rfl 0 rfl ?_
              refine hg_iconst C (v := 1) dX6_plan_222 (by decide) ?_
              refine hg_join (J := 233) (v := if b = 1 then ((itN (stX6_plan_44 pe tu to so pg a) ((fX6_power 10 a).toNatClampNeg) ((-9), 0, 0, sl, tr)).2.1) else ((itN (stX6_plan_44 pe tu to so pg a) ((fX6_power 10 a).toNatClampNeg) ((-9), 0, 0, sl, tr)).2.2.1)) (st1 := []) (fun jj => ?_) ?_
              · refine hg_icmp_ne C (tgt := 231) dX6_plan_223 (by decide) (fun c14 => ?_) (fun c14 => ?_)
                · refine hg_iload C dX6_plan_231 3 rfl ?_
                  exact hg_top (v := if b = 1 then ((itN (stX6_plan_44 pe tu to so pg a) ((fX6_power 10 a).toNatClampNeg) ((-9), 0, 0, sl, tr)).2.1) else ((itN (stX6_plan_44 pe tu to so pg a) ((fX6_power 10 a).toNatClampNeg) ((-9), 0, 0, sl, tr)).2.2.1)) (v' := (itN (stX6_plan_44 pe tu to so pg a) ((fX6_power 10 a).toNatClampNeg) ((-9), 0, 0, sl, tr)).2.2.1) ((if_neg c14).trans rfl) jj
                · refine hg_iload C dX6_plan_226 2 rfl ?_
                  refine hg_goto C (tgt := 233) dX6_plan_228 (by decide) ?_
                  exact hg_top (v := if b = 1 then ((itN (stX6_plan_44 pe tu to so pg a) ((fX6_power 10 a).toNatClampNeg) ((-9), 0, 0, sl, tr)).2.1) else ((itN (stX6_plan_44 pe tu to so pg a) ((fX6_power 10 a).toNatClampNeg) ((-9), 0, 0, sl, tr)).2.2.1)) (v' := (itN (stX6_plan_44 pe tu to so pg a) ((fX6_power 10 a).toNatClampNeg) ((-9), 0, 0, sl, tr)).2.1) ((if_pos c14).trans rfl) jj
              exact hg_top (v := if b = 0 then ((itN (stX6_plan_44 pe tu to so pg a) ((fX6_power 10 a).toNatClampNeg) ((-9), 0, 0, sl, tr)).1) else (if b = 1 then ((itN (stX6_plan_44 pe tu to so pg a) ((fX6_power 10 a).toNatClampNeg) ((-9), 0, 0, sl, tr)).2.1) else ((itN (stX6_plan_44 pe tu to so pg a) ((fX6_power 10 a).toNatClampNeg) ((-9), 0, 0, sl, tr)).2.2.1))) (v' := if b = 1 then ((itN (stX6_plan_44 pe tu to so pg a) ((fX6_power 10 a).toNatClampNeg) ((-9), 0, 0, sl, tr)).2.1) else ((itN (stX6_plan_44 pe tu to so pg a) ((fX6_power 10 a).toNatClampNeg) ((-9), 0, 0, sl, tr)).2.2.1)) ((if_neg c13).trans rfl) jj
            · refine hg_iload_n C dX6_plan_217 rfl 1 rfl ?_
              refine hg_goto C (tgt := 233) dX6_plan_218 (by decide) ?_
              exact hg_top (v := if b = 0 then ((itN (stX6_plan_44 pe tu to so pg a) ((fX6_power 10 a).toNatClampNeg) ((-9), 0, 0, sl, tr)).1) else (if b = 1 then ((itN (stX6_plan_44 pe tu to so pg a) ((fX6_power 10 a).toNatClampNeg) ((-9), 0, 0, sl, tr)).2.1) else ((itN (stX6_plan_44 pe tu to so pg a) ((fX6_power 10 a).toNatClampNeg) ((-9), 0, 0, sl, tr)).2.2.1))) (v' := (itN (stX6_plan_44 pe tu to so pg a) ((fX6_power 10 a).toNatClampNeg) ((-9), 0, 0, sl, tr)).1) ((if_pos c13).trans rfl) jj
          exact hg_top (v := if ((itN (stX6_plan_44 pe tu to so pg a) ((fX6_power 10 a).toNatClampNeg) ((-9), 0, 0, sl, tr)).1) = (-9) then ((-9) : Int32) else (if b = 0 then ((itN (stX6_plan_44 pe tu to so pg a) ((fX6_power 10 a).toNatClampNeg) ((-9), 0, 0, sl, tr)).1) else (if b = 1 then ((itN (stX6_plan_44 pe tu to so pg a) ((fX6_power 10 a).toNatClampNeg) ((-9), 0, 0, sl, tr)).2.1) else ((itN (stX6_plan_44 pe tu to so pg a) ((fX6_power 10 a).toNatClampNeg) ((-9), 0, 0, sl, tr)).2.2.1)))) (v' := if b = 0 then ((itN (stX6_plan_44 pe tu to so pg a) ((fX6_power 10 a).toNatClampNeg) ((-9), 0, 0, sl, tr)).1) else (if b = 1 then ((itN (stX6_plan_44 pe tu to so pg a) ((fX6_power 10 a).toNatClampNeg) ((-9), 0, 0, sl, tr)).2.1) else ((itN (stX6_plan_44 pe tu to so pg a) ((fX6_power 10 a).toNatClampNeg) ((-9), 0, 0, sl, tr)).2.2.1))) ((if_neg c12).trans rfl) jj
        · refine hg_bipush C (v := (-9)) dX6_plan_208 (by decide) ?_
          refine hg_goto C (tgt := 233) dX6_plan_210 (by decide) ?_
          exact hg_top (v := if ((itN (stX6_plan_44 pe tu to so pg a) ((fX6_power 10 a).toNatClampNeg) ((-9), 0, 0, sl, tr)).1) = (-9) then ((-9) : Int32) else (if b = 0 then ((itN (stX6_plan_44 pe tu to so pg a) ((fX6_power 10 a).toNatClampNeg) ((-9), 0, 0, sl, tr)).1) else (if b = 1 then ((itN (stX6_plan_44 pe tu to so pg a) ((fX6_power 10 a).toNatClampNeg) ((-9), 0, 0, sl, tr)).2.1) else ((itN (stX6_plan_44 pe tu to so pg a) ((fX6_power 10 a).toNatClampNeg) ((-9), 0, 0, sl, tr)).2.2.1)))) (v' := (-9)) ((if_pos c12).trans rfl) jj
      have e9 : (fX6_plan pe tu sl to so pg tr a b) = (if ((itN (stX6_plan_44 pe tu to so pg a) ((fX6_power 10 a).toNatClampNeg) ((-9), 0, 0, sl, tr)).1) = (-9) then ((-9) : Int32) else (if b = 0 then ((itN (stX6_plan_44 pe tu to so pg a) ((fX6_power 10 a).toNatClampNeg) ((-9), 0, 0, sl, tr)).1) else (if b = 1 then ((itN (stX6_plan_44 pe tu to so pg a) ((fX6_power 10 a).toNatClampNeg) ((-9), 0, 0, sl, tr)).2.1) else ((itN (stX6_plan_44 pe tu to so pg a) ((fX6_power 10 a).toNatClampNeg) ((-9), 0, 0, sl, tr)).2.2.1))), (itN (stX6_plan_44 pe tu to so pg a) ((fX6_power 10 a).toNatClampNeg) ((-9), 0, 0, sl, tr)).2.2.2.1, (itN (stX6_plan_44 pe tu to so pg a) ((fX6_power 10 a).toNatClampNeg) ((-9), 0, 0, sl, tr)).2.2.2.2) := (hid_eq _).trans ((if_neg c1).trans ((if_neg c2).trans rfl))
      rw [e9]
      exact hg_iret C dX6_plan_233 rfl rfl
    · refine hg_bipush C (v := (-2)) dX6_plan_29 (by decide) ?_
      have e9 : (fX6_plan pe tu sl to so pg tr a b) = ((-2), sl, tr) := (hid_eq _).trans ((if_neg c1).trans ((if_pos c2).trans rfl))
      rw [e9]
      exact hg_iret C dX6_plan_31 rfl rfl
