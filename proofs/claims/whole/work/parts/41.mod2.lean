theorem vp_ne {x : Int32} {n : Nat} (hn : n < 2 ^ 30) (h : vp_in x (n + 1)) (h1 : ¬ x = nI n) : vp_in x n := by
  obtain ⟨j, hj, rfl⟩ := vp_in_of h (by omega)
  refine vp_in_nI ?_ (by omega)
  rcases Nat.lt_or_ge j n with q | q
  · exact q
  · exact absurd (show nI j = nI n by rw [show j = n by omega]) h1
/-- where the reference's reader stands: within the text -/
def figP (pc ts : Int32) : Prop := ∃ j k : Nat, pc = nI j ∧ ts = nI k ∧ j ≤ k ∧ k ≤ 64
theorem fig_in {pc ts : Int32} (h : figP pc ts) (h1 : ¬ pc = ts) : vp_in pc 64 := by
  obtain ⟨j, k, rfl, rfl, h2, h3⟩ := h
  refine vp_in_nI ?_ (by decide)
  rcases Nat.lt_or_ge j k with q | q
  · omega
  · exact absurd (show nI j = nI k by rw [show j = k by omega]) h1
theorem fig_bk {pc ts : Int32} (h : figP pc ts) (h1 : ¬ pc = ts) : vp_in ((pc + 1) - 1) 64 := by
  rw [Int32.add_sub_cancel]
  exact fig_in h h1
theorem fig_s {pc ts : Int32} (h : figP pc ts) (h1 : ¬ pc = ts) : figP (pc + 1) ts := by
  obtain ⟨j, k, rfl, rfl, h2, h3⟩ := h
  refine ⟨j + 1, k, nI_1 j, rfl, ?_, h3⟩
  rcases Nat.lt_or_ge j k with q | q
  · omega
  · exact absurd (show nI j = nI k by rw [show j = k by omega]) h1
theorem fig_lt {pc ts : Int32} (h : figP pc ts) (h1 : ¬ ts ≤ pc) : ¬ pc = ts := fun e => h1 (by rw [e]; exact Int32.le_refl _)
theorem ix_6r {r : Int32} {k : Nat} (hr : vp_in r 6) (h : k < 6) : vp_in (6 * r + nI k) 36 := by
  obtain ⟨j, hj, rfl⟩ := vp_in_of hr (by decide)
  exact ix_6k hj h
theorem vp_cut {r N : Int32} {n m : Nat} (hN : N = nI m) (hm : m < 2 ^ 31) (h : vp_in r n) (h1 : ¬ N ≤ r) : vp_in r m := vp_of hN hm (fun q => h (Or.inl q)) h1

theorem mmX6_write_f47 : (Cond.fieldLink RX6 47 "HatRoundModel" "thrown" "I") ∈ wsX6_write := (List.mem_cons_of_mem _ (List.mem_append_left _ (List.mem_of_getElem? (i := 0) rfl)))
theorem mrX6_write_6 : ∀ w ∈ u_ws RX6 TX6 23, w ∈ wsX6_write := fun _ h => (List.mem_cons_of_mem _ (List.mem_append_right _ h))
theorem mmX6_write_k61 : (Cond.constantLong RX6 61 (255)) ∈ wsX6_write := (List.mem_cons_of_mem _ (List.mem_append_left _ (List.mem_of_getElem? (i := 1) rfl)))
theorem mmX6_write_f63 : (Cond.fieldLink RX6 63 "HatRoundModel" "textSize" "I") ∈ wsX6_write := (List.mem_cons_of_mem _ (List.mem_append_left _ (List.mem_of_getElem? (i := 2) rfl)))
theorem mmX6_write_f7 : (Cond.fieldLink RX6 7 "HatRoundModel" "text" "[I") ∈ wsX6_write := (List.mem_cons_of_mem _ (List.mem_append_left _ (List.mem_of_getElem? (i := 3) rfl)))
abbrev rmX6_write : Room := { frames := 1, cells := 0, slots := 0, locals := 25 }
theorem hfX6_write : hCF yX6_write wsX6_write rmX6_write cX6_write 2 (some .int) 1 := ⟨⟨_, rfl⟩, by decide +kernel, rfl, rfl⟩
noncomputable def fX6_write (ts : Int32) (tx : Nat → Int32) (a : Int32) : Int32 × Int32 × (Nat → Int32) := hid (if (fX6_in a.toInt64 0 255) = 0 then ((-2), ts, tx) else if ts = 64 then ((-4), ts, tx) else (ts + 1, ts + 1, upd tx ts.toNatClampNeg a))
set_option maxHeartbeats 4000000 in
set_option maxRecDepth 100000 in
theorem kX6_write (l : Launch) (E : hE) (mm : Nat) (m1 : Nat) (m6 : Nat) (m7 : Nat) (ma : Nat) (mb : Nat) (mc : Nat) (md : Nat) (me : Nat) (mg : Nat) (mh : Nat) (mj : Nat) (mk : Nat) (ts : Int32) (pc : Int32) (pe : Int32) (tu : Int32) (rp : Int32) (rt : Int32) (ac : Int32) (sn : Int32) (sd : Int64) (sl : Int32) (tx : Nat → Int32) (a : Int32) (hts : vp_in ts 65) : hC l yX6_write wsX6_write rmX6_write E [.ref mm, .int a] [(mm, .inr (6, [.int 0, .ref m1, .int ts, .int pc, .int pe, .int tu, .ref m6, .ref m7, .int rp, .int rt, .ref ma, .ref mb, .ref mc, .ref md, .ref me, .int ac, .ref mg, .ref mh, .int sn, .ref mj, .ref mk, .long sd, .int sl])), (m1, .inl (E.2.1.1, 64, .inl tx))] (some (.int ((fX6_write ts tx a).1))) [(mm, .inr (6, [.int 0, .ref m1, .int ((fX6_write ts tx a).2.1), .int pc, .int pe, .int tu, .ref m6, .ref m7, .int rp, .int rt, .ref ma, .ref mb, .ref mc, .ref md, .ref me, .int ac, .ref mg, .ref mh, .int sn, .ref mj, .ref mk, .long sd, .int sl])), (m1, .inl (E.2.1.1, 64, .inl ((fX6_write ts tx a).2.2)))] := by
  refine hC_intro (cc := cX6_write) (maxL := 2) (ret := (some .int)) (lv0 := [(0, .ref mm), (1, .int a)]) (by decide) rfl (Nat.le_of_ble_eq_true rfl) rfl ?_
  intro p e s m below meth c A C
  refine hg_aload_n C dX6_write_0 rfl 0 rfl ?_
  refine hg_iconst C (v := 0) dX6_write_1 (by decide) ?_
  refine hg_put C (Cn := RX6) (T := TX6) (N := 23) (ws' := [(mm, .inr (6, [.int 0, .ref m1, .int ts, .int pc, .int pe, .int tu, .ref m6, .ref m7, .int rp, .int rt, .ref ma, .ref mb, .ref mc, .ref md, .ref me, .int ac, .ref mg, .ref mh, .int sn, .ref mj, .ref mk, .long sd, .int sl])), (m1, .inl (E.2.1.1, 64, .inl tx))]) mrX6_write_6 tyX6 tyX6_ok nmX6 0 rfl rfl 0 (by decide) mmX6_write_f47 rfl rfl rfl rfl (Nat.le_of_ble_eq_true rfl) rfl dX6_write_2 ?_
  refine hg_iload_n C dX6_write_5 rfl 1 rfl ?_
  refine hg_i2l C dX6_write_6 ?_
  refine hg_lconst C (v := 0) dX6_write_7 rfl ?_
  refine hg_ldc2 C mmX6_write_k61 dX6_write_8 ?_
  refine hg_callS C (ws' := [(mm, .inr (6, [.int 0, .ref m1, .int ts, .int pc, .int pe, .int tu, .ref m6, .ref m7, .int rp, .int rt, .ref ma, .ref mb, .ref mc, .ref md, .ref me, .int ac, .ref mg, .ref mh, .int sn, .ref mj, .ref mk, .long sd, .int sl])), (m1, .inl (E.2.1.1, 64, .inl tx))]) (rest := []) (kX6_in l E a.toInt64 0 255) hfX6_in gX6_write_X6_in ⟨Nat.le_of_ble_eq_true rfl, Nat.le_of_ble_eq_true rfl⟩ ⟨Nat.zero_le _, Nat.zero_le _⟩ [] rfl (by decide) [] rfl rfl rfl rfl (Nat.le_of_ble_eq_true rfl) dX6_write_11 ?_
  refine hg_if_ne C (tgt := 20) dX6_write_14 (by decide) (fun c1 => ?_) (fun c1 => ?_)
  · refine hg_aload_n C dX6_write_20 rfl 0 rfl ?_
    refine hg_get C (Cn := RX6) (T := TX6) (N := 23) (v := .int ts) mrX6_write_6 0 rfl rfl 2 (by decide) mmX6_write_f63 rfl dX6_write_21 ?_
    refine hg_bipush C (v := 64) dX6_write_24 (by decide) ?_
    refine hg_icmp_ne C (tgt := 32) dX6_write_26 (by decide) (fun c2 => ?_) (fun c2 => ?_)
    · refine hg_aload_n C dX6_write_32 rfl 0 rfl ?_
      refine hg_get C (Cn := RX6) (T := TX6) (N := 23) (v := .ref m1) mrX6_write_6 0 rfl rfl 1 (by decide) mmX6_write_f7 rfl dX6_write_33 ?_
      refine hg_aload_n C dX6_write_36 rfl 0 rfl ?_
      refine hg_get C (Cn := RX6) (T := TX6) (N := 23) (v := .int ts) mrX6_write_6 0 rfl rfl 2 (by decide) mmX6_write_f63 rfl dX6_write_37 ?_
      refine hg_iload_n C dX6_write_40 rfl 1 rfl ?_
      refine hg_iast C (ws' := [(mm, .inr (6, [.int 0, .ref m1, .int ts, .int pc, .int pe, .int tu, .ref m6, .ref m7, .int rp, .int rt, .ref ma, .ref mb, .ref mc, .ref md, .ref me, .int ac, .ref mg, .ref mh, .int sn, .ref mj, .ref mk, .long sd, .int sl])), (m1, .inl (E.2.1.1, 64, .inl (upd tx ts.toNatClampNeg a)))]) 1 rfl (vp_ne (n := 64) (by decide) hts (by assumption)) rfl dX6_write_41 ?_
      refine hg_aload_n C dX6_write_42 rfl 0 rfl ?_
      refine hg_dup C dX6_write_43 rfl ?_
      refine hg_get C (Cn := RX6) (T := TX6) (N := 23) (v := .int ts) mrX6_write_6 0 rfl rfl 2 (by decide) mmX6_write_f63 rfl dX6_write_44 ?_
      refine hg_iconst C (v := 1) dX6_write_47 (by decide) ?_
      refine hg_iadd C dX6_write_48 ?_
      refine hg_put C (Cn := RX6) (T := TX6) (N := 23) (ws' := [(mm, .inr (6, [.int 0, .ref m1, .int (ts + 1), .int pc, .int pe, .int tu, .ref m6, .ref m7, .int rp, .int rt, .ref ma, .ref mb, .ref mc, .ref md, .ref me, .int ac, .ref mg, .ref mh, .int sn, .ref mj, .ref mk, .long sd, .int sl])), (m1, .inl (E.2.1.1, 64, .inl (upd tx ts.toNatClampNeg a)))]) mrX6_write_6 tyX6 tyX6_ok nmX6 0 rfl rfl 2 (by decide) mmX6_write_f63 rfl rfl rfl rfl (Nat.le_of_ble_eq_true rfl) rfl dX6_write_49 ?_
      refine hg_aload_n C dX6_write_52 rfl 0 rfl ?_
      refine hg_get C (Cn := RX6) (T := TX6) (N := 23) (v := .int (ts + 1)) mrX6_write_6 0 rfl rfl 2 (by decide) mmX6_write_f63 rfl dX6_write_53 ?_
      have e9 : (fX6_write ts tx a) = (ts + 1, ts + 1, upd tx ts.toNatClampNeg a) := (hid_eq _).trans ((if_neg c1).trans ((if_neg c2).trans rfl))
      rw [e9]
      exact hg_iret C dX6_write_56 rfl rfl
    · refine hg_bipush C (v := (-4)) dX6_write_29 (by decide) ?_
      have e9 : (fX6_write ts tx a) = ((-4), ts, tx) := (hid_eq _).trans ((if_neg c1).trans ((if_pos c2).trans rfl))
      rw [e9]
      exact hg_iret C dX6_write_31 rfl rfl
  · refine hg_bipush C (v := (-2)) dX6_write_17 (by decide) ?_
    have e9 : (fX6_write ts tx a) = ((-2), ts, tx) := (hid_eq _).trans ((if_pos c1).trans rfl)
    rw [e9]
    exact hg_iret C dX6_write_19 rfl rfl
theorem mmX6_wipe_f47 : (Cond.fieldLink RX6 47 "HatRoundModel" "thrown" "I") ∈ wsX6_wipe := (List.mem_cons_of_mem _ (List.mem_append_left _ (List.mem_of_getElem? (i := 0) rfl)))
theorem mrX6_wipe_6 : ∀ w ∈ u_ws RX6 TX6 23, w ∈ wsX6_wipe := fun _ h => (List.mem_cons_of_mem _ (List.mem_append_right _ h))
theorem mmX6_wipe_f63 : (Cond.fieldLink RX6 63 "HatRoundModel" "textSize" "I") ∈ wsX6_wipe := (List.mem_cons_of_mem _ (List.mem_append_left _ (List.mem_of_getElem? (i := 1) rfl)))
abbrev rmX6_wipe : Room := { frames := 0, cells := 0, slots := 0, locals := 0 }
theorem hfX6_wipe : hCF yX6_wipe wsX6_wipe rmX6_wipe cX6_wipe 2 (some .int) 0 := ⟨⟨_, rfl⟩, by decide +kernel, rfl, rfl⟩
noncomputable def fX6_wipe (ts : Int32) : Int32 × Int32 := hid ((ts, 0))
set_option maxHeartbeats 4000000 in
set_option maxRecDepth 100000 in
theorem kX6_wipe (l : Launch) (E : hE) (mm : Nat) (m1 : Nat) (m6 : Nat) (m7 : Nat) (ma : Nat) (mb : Nat) (mc : Nat) (md : Nat) (me : Nat) (mg : Nat) (mh : Nat) (mj : Nat) (mk : Nat) (ts : Int32) (pc : Int32) (pe : Int32) (tu : Int32) (rp : Int32) (rt : Int32) (ac : Int32) (sn : Int32) (sd : Int64) (sl : Int32) : hC l yX6_wipe wsX6_wipe rmX6_wipe E [.ref mm] [(mm, .inr (6, [.int 0, .ref m1, .int ts, .int pc, .int pe, .int tu, .ref m6, .ref m7, .int rp, .int rt, .ref ma, .ref mb, .ref mc, .ref md, .ref me, .int ac, .ref mg, .ref mh, .int sn, .ref mj, .ref mk, .long sd, .int sl]))] (some (.int ((fX6_wipe ts).1))) [(mm, .inr (6, [.int 0, .ref m1, .int ((fX6_wipe ts).2), .int pc, .int pe, .int tu, .ref m6, .ref m7, .int rp, .int rt, .ref ma, .ref mb, .ref mc, .ref md, .ref me, .int ac, .ref mg, .ref mh, .int sn, .ref mj, .ref mk, .long sd, .int sl]))] := by
  refine hC_intro (cc := cX6_wipe) (maxL := 2) (ret := (some .int)) (lv0 := [(0, .ref mm)]) (by decide) rfl (Nat.le_of_ble_eq_true rfl) rfl ?_
  intro p e s m below meth c A C
  refine hg_aload_n C dX6_wipe_0 rfl 0 rfl ?_
  refine hg_iconst C (v := 0) dX6_wipe_1 (by decide) ?_
  refine hg_put C (Cn := RX6) (T := TX6) (N := 23) (ws' := [(mm, .inr (6, [.int 0, .ref m1, .int ts, .int pc, .int pe, .int tu, .ref m6, .ref m7, .int rp, .int rt, .ref ma, .ref mb, .ref mc, .ref md, .ref me, .int ac, .ref mg, .ref mh, .int sn, .ref mj, .ref mk, .long sd, .int sl]))]) mrX6_wipe_6 tyX6 tyX6_ok nmX6 0 rfl rfl 0 (by decide) mmX6_wipe_f47 rfl rfl rfl rfl (Nat.le_of_ble_eq_true rfl) rfl dX6_wipe_2 ?_
  refine hg_aload_n C dX6_wipe_5 rfl 0 rfl ?_
  refine hg_get C (Cn := RX6) (T := TX6) (N := 23) (v := .int ts) mrX6_wipe_6 0 rfl rfl 2 (by decide) mmX6_wipe_f63 rfl dX6_wipe_6 ?_
  refine hg_istore_n C (lv' := [(1, .int ts), (0, .ref mm)]) dX6_wipe_9 rfl (by decide) rfl ?_
  refine hg_aload_n C dX6_wipe_10 rfl 1 rfl ?_
  refine hg_iconst C (v := 0) dX6_wipe_11 (by decide) ?_
  refine hg_put C (Cn := RX6) (T := TX6) (N := 23) (ws' := [(mm, .inr (6, [.int 0, .ref m1, .int 0, .int pc, .int pe, .int tu, .ref m6, .ref m7, .int rp, .int rt, .ref ma, .ref mb, .ref mc, .ref md, .ref me, .int ac, .ref mg, .ref mh, .int sn, .ref mj, .ref mk, .long sd, .int sl]))]) mrX6_wipe_6 tyX6 tyX6_ok nmX6 0 rfl rfl 2 (by decide) mmX6_wipe_f63 rfl rfl rfl rfl (Nat.le_of_ble_eq_true rfl) rfl dX6_wipe_12 ?_
  refine hg_iload_n C dX6_wipe_15 rfl 0 rfl ?_
  have e9 : (fX6_wipe ts) = (ts, 0) := hid_eq _
  rw [e9]
  exact hg_iret C dX6_wipe_16 rfl rfl
theorem mmX6_figure_f66 : (Cond.fieldLink RX6 66 "HatRoundModel" "place" "I") ∈ wsX6_figure := (List.mem_cons_of_mem _ (List.mem_append_left _ (List.mem_of_getElem? (i := 0) rfl)))
theorem mrX6_figure_6 : ∀ w ∈ u_ws RX6 TX6 23, w ∈ wsX6_figure := fun _ h => (List.mem_cons_of_mem _ (List.mem_append_right _ h))
theorem mmX6_figure_f63 : (Cond.fieldLink RX6 63 "HatRoundModel" "textSize" "I") ∈ wsX6_figure := (List.mem_cons_of_mem _ (List.mem_append_left _ (List.mem_of_getElem? (i := 1) rfl)))
theorem mmX6_figure_f7 : (Cond.fieldLink RX6 7 "HatRoundModel" "text" "[I") ∈ wsX6_figure := (List.mem_cons_of_mem _ (List.mem_append_left _ (List.mem_of_getElem? (i := 2) rfl)))
abbrev rmX6_figure : Room := { frames := 1, cells := 0, slots := 0, locals := 25 }
theorem hfX6_figure : hCF yX6_figure wsX6_figure rmX6_figure cX6_figure 3 (some .int) 2 := ⟨⟨_, rfl⟩, by decide +kernel, rfl, rfl⟩
noncomputable def fX6_figure (ts : Int32) (pc : Int32) (tx : Nat → Int32) (a : Int32) (b : Int32) : Int32 × Int32 := hid (if pc = ts then ((-9), pc) else if (fX6_in (((tx pc.toNatClampNeg) - 48).toInt64) a.toInt64 b.toInt64) = 0 then ((-9), pc) else ((tx ((pc + 1) - 1).toNatClampNeg) - 48, pc + 1))
set_option maxHeartbeats 4000000 in
set_option maxRecDepth 100000 in
theorem kX6_figure (l : Launch) (E : hE) (mm : Nat) (m1 : Nat) (m6 : Nat) (m7 : Nat) (ma : Nat) (mb : Nat) (mc : Nat) (md : Nat) (me : Nat) (mg : Nat) (mh : Nat) (mj : Nat) (mk : Nat) (ts : Int32) (pc : Int32) (pe : Int32) (tu : Int32) (rp : Int32) (rt : Int32) (ac : Int32) (sn : Int32) (sd : Int64) (sl : Int32) (tx : Nat → Int32) (a : Int32) (b : Int32) (hfg : figP pc ts) : hC l yX6_figure wsX6_figure rmX6_figure E [.ref mm, .int a, .int b] [(mm, .inr (6, [.int 0, .ref m1, .int ts, .int pc, .int pe, .int tu, .ref m6, .ref m7, .int rp, .int rt, .ref ma, .ref mb, .ref mc, .ref md, .ref me, .int ac, .ref mg, .ref mh, .int sn, .ref mj, .ref mk, .long sd, .int sl])), (m1, .inl (E.2.1.1, 64, .inl tx))] (some (.int ((fX6_figure ts pc tx a b).1))) [(mm, .inr (6, [.int 0, .ref m1, .int ts, .int ((fX6_figure ts pc tx a b).2), .int pe, .int tu, .ref m6, .ref m7, .int rp, .int rt, .ref ma, .ref mb, .ref mc, .ref md, .ref me, .int ac, .ref mg, .ref mh, .int sn, .ref mj, .ref mk, .long sd, .int sl])), (m1, .inl (E.2.1.1, 64, .inl tx))] := by
  refine hC_intro (cc := cX6_figure) (maxL := 3) (ret := (some .int)) (lv0 := [(0, .ref mm), (1, .int a), (2, .int b)]) (by decide) rfl (Nat.le_of_ble_eq_true rfl) rfl ?_
  intro p e s m below meth c A C
  refine hg_aload_n C dX6_figure_0 rfl 0 rfl ?_
  refine hg_get C (Cn := RX6) (T := TX6) (N := 23) (v := .int pc) mrX6_figure_6 0 rfl rfl 3 (by decide) mmX6_figure_f66 rfl dX6_figure_1 ?_
  refine hg_aload_n C dX6_figure_4 rfl 0 rfl ?_
  refine hg_get C (Cn := RX6) (T := TX6) (N := 23) (v := .int ts) mrX6_figure_6 0 rfl rfl 2 (by decide) mmX6_figure_f63 rfl dX6_figure_5 ?_
  refine hg_icmp_eq C (tgt := 34) dX6_figure_8 (by decide) (fun c1 => ?_) (fun c1 => ?_)
  · refine hg_bipush C (v := (-9)) dX6_figure_34 (by decide) ?_
    have e9 : (fX6_figure ts pc tx a b) = ((-9), pc) := (hid_eq _).trans ((if_pos c1).trans rfl)
    rw [e9]
    exact hg_iret C dX6_figure_36 rfl rfl
  · refine hg_aload_n C dX6_figure_11 rfl 0 rfl ?_
    refine hg_get C (Cn := RX6) (T := TX6) (N := 23) (v := .ref m1) mrX6_figure_6 0 rfl rfl 1 (by decide) mmX6_figure_f7 rfl dX6_figure_12 ?_
    refine hg_aload_n C dX6_figure_15 rfl 0 rfl ?_
    refine hg_get C (Cn := RX6) (T := TX6) (N := 23) (v := .int pc) mrX6_figure_6 0 rfl rfl 3 (by decide) mmX6_figure_f66 rfl dX6_figure_16 ?_
    refine hg_iald C 1 rfl (fig_in hfg (by assumption)) dX6_figure_19 ?_
    refine hg_bipush C (v := 48) dX6_figure_20 (by decide) ?_
    refine hg_isub C dX6_figure_22 ?_
    refine hg_i2l C dX6_figure_23 ?_
    refine hg_iload_n C dX6_figure_24 rfl 1 rfl ?_
    refine hg_i2l C dX6_figure_25 ?_
    refine hg_iload_n C dX6_figure_26 rfl 2 rfl ?_
    refine hg_i2l C dX6_figure_27 ?_
    refine hg_callS C (ws' := [(mm, .inr (6, [.int 0, .ref m1, .int ts, .int pc, .int pe, .int tu, .ref m6, .ref m7, .int rp, .int rt, .ref ma, .ref mb, .ref mc, .ref md, .ref me, .int ac, .ref mg, .ref mh, .int sn, .ref mj, .ref mk, .long sd, .int sl])), (m1, .inl (E.2.1.1, 64, .inl tx))]) (rest := []) (kX6_in l E (((tx pc.toNatClampNeg) - 48).toInt64) a.toInt64 b.toInt64) hfX6_in gX6_figure_X6_in ⟨Nat.le_of_ble_eq_true rfl, Nat.le_of_ble_eq_true rfl⟩ ⟨Nat.zero_le _, Nat.zero_le _⟩ [] rfl (by decide) [] rfl rfl rfl rfl (Nat.le_of_ble_eq_true rfl) dX6_figure_28 ?_
    refine hg_if_ne C (tgt := 37) dX6_figure_31 (by decide) (fun c2 => ?_) (fun c2 => ?_)
    · refine hg_aload_n C dX6_figure_37 rfl 0 rfl ?_
      refine hg_dup C dX6_figure_38 rfl ?_
      refine hg_get C (Cn := RX6) (T := TX6) (N := 23) (v := .int pc) mrX6_figure_6 0 rfl rfl 3 (by decide) mmX6_figure_f66 rfl dX6_figure_39 ?_
      refine hg_iconst C (v := 1) dX6_figure_42 (by decide) ?_
      refine hg_iadd C dX6_figure_43 ?_
      refine hg_put C (Cn := RX6) (T := TX6) (N := 23) (ws' := [(mm, .inr (6, [.int 0, .ref m1, .int ts, .int (pc + 1), .int pe, .int tu, .ref m6, .ref m7, .int rp, .int rt, .ref ma, .ref mb, .ref mc, .ref md, .ref me, .int ac, .ref mg, .ref mh, .int sn, .ref mj, .ref mk, .long sd, .int sl])), (m1, .inl (E.2.1.1, 64, .inl tx))]) mrX6_figure_6 tyX6 tyX6_ok nmX6 0 rfl rfl 3 (by decide) mmX6_figure_f66 rfl rfl rfl rfl (Nat.le_of_ble_eq_true rfl) rfl dX6_figure_44 ?_
      refine hg_aload_n C dX6_figure_47 rfl 0 rfl ?_
      refine hg_get C (Cn := RX6) (T := TX6) (N := 23) (v := .ref m1) mrX6_figure_6 0 rfl rfl 1 (by decide) mmX6_figure_f7 rfl dX6_figure_48 ?_
      refine hg_aload_n C dX6_figure_51 rfl 0 rfl ?_
      refine hg_get C (Cn := RX6) (T := TX6) (N := 23) (v := .int (pc + 1)) mrX6_figure_6 0 rfl rfl 3 (by decide) mmX6_figure_f66 rfl dX6_figure_52 ?_
      refine hg_iconst C (v := 1) dX6_figure_55 (by decide) ?_
      refine hg_isub C dX6_figure_56 ?_
      refine hg_iald C 1 rfl (fig_bk hfg (by assumption)) dX6_figure_57 ?_
      refine hg_bipush C (v := 48) dX6_figure_58 (by decide) ?_
      refine hg_isub C dX6_figure_60 ?_
      have e9 : (fX6_figure ts pc tx a b) = ((tx ((pc + 1) - 1).toNatClampNeg) - 48, pc + 1) := (hid_eq _).trans ((if_neg c1).trans ((if_neg c2).trans rfl))
      rw [e9]
      exact hg_iret C dX6_figure_61 rfl rfl
    · refine hg_bipush C (v := (-9)) dX6_figure_34 (by decide) ?_
      have e9 : (fX6_figure ts pc tx a b) = ((-9), pc) := (hid_eq _).trans ((if_neg c1).trans ((if_pos c2).trans rfl))
      rw [e9]
      exact hg_iret C dX6_figure_36 rfl rfl
theorem figN {ts pc a b : Int32} {tx : Nat → Int32} (h : figP pc ts) : figP (fX6_figure ts pc tx a b).2 ts := by
  unfold fX6_figure
  rw [hid_eq]
  split
  · exact h
  · split
    · exact h
    · exact fig_s h (by assumption)

theorem mmX6_readPerson_f77 : (Cond.fieldLink RX6 77 "HatRoundModel" "readPeople" "I") ∈ wsX6_readPerson := (List.mem_cons_of_mem _ (List.mem_append_left _ (List.mem_of_getElem? (i := 1) rfl)))
theorem mrX6_readPerson_6 : ∀ w ∈ u_ws RX6 TX6 23, w ∈ wsX6_readPerson := fun _ h => (List.mem_cons_of_mem _ (List.mem_append_right _ h))
theorem mmX6_readPerson_f19 : (Cond.fieldLink RX6 19 "HatRoundModel" "readTold" "[I") ∈ wsX6_readPerson := (List.mem_cons_of_mem _ (List.mem_append_left _ (List.mem_of_getElem? (i := 0) rfl)))
abbrev rmX6_readPerson : Room := { frames := 2, cells := 0, slots := 0, locals := 47 }
theorem hfX6_readPerson : hCF yX6_readPerson wsX6_readPerson rmX6_readPerson cX6_readPerson 3 (some .boolean) 0 := ⟨⟨_, rfl⟩, by decide +kernel, rfl, rfl⟩
noncomputable def frX6_readPerson_2 (ts : Int32) (rp : Int32) (tx : Nat → Int32) : Nat → Nat → (Int32 × (Nat → Int32)) → Int32 × Int32 × Int32 × (Nat → Int32)
  | 0, _, σ => (0, σ.1, rp, σ.2)
  | n + 1, i, σ => hid (if (6 : Int32) ≤ (nI i) then (1, σ.1, rp + 1, σ.2) else if ((fX6_figure ts σ.1 tx 0 (fX6_mostOf (nI i))).1) = (-9) then (0, (fX6_figure ts σ.1 tx 0 (fX6_mostOf (nI i))).2, rp, σ.2) else (frX6_readPerson_2 ts rp tx) n (i + 1) ((fX6_figure ts σ.1 tx 0 (fX6_mostOf (nI i))).2, upd σ.2 ((6 * rp) + (nI i)).toNatClampNeg ((fX6_figure ts σ.1 tx 0 (fX6_mostOf (nI i))).1)))
set_option maxHeartbeats 4000000 in
set_option maxRecDepth 100000 in
theorem lpX6_readPerson_2 {p : Program} {l : Launch} {e : Env} {s : State} {m : MethodId} {args : Array Value} {below : List Frame} {meth : Method} {c : Code} {E : hE} {A : Nat → Prop} (C : hX p s m args meth c E A cX6_readPerson 3 RX6 wsX6_readPerson (some .boolean)) (mm : Nat) (m1 : Nat) (m6 : Nat) (m7 : Nat) (ma : Nat) (mb : Nat) (mc : Nat) (md : Nat) (me : Nat) (mg : Nat) (mh : Nat) (mj : Nat) (mk : Nat) (ts : Int32) (pc : Int32) (pe : Int32) (tu : Int32) (rp : Int32) (rt : Int32) (ac : Int32) (sn : Int32) (sd : Int64) (sl : Int32) (tx : Nat → Int32) (rto : Nat → Int32) (hfg : figP pc ts) (hrp : vp_in rp 6) : ∀ (n i : Nat) (σ : Int32 × (Nat → Int32)), i + n = 6 + 1 → i ≤ 6 → figP σ.1 ts → hG p l e rmX6_readPerson s m args below meth c E A 3 (hQ E A below args s (some (.int (((frX6_readPerson_2 ts rp tx) n i σ).1))) [(mm, .inr (6, [.int 0, .ref m1, .int ts, .int (((frX6_readPerson_2 ts rp tx) n i σ).2.1), .int pe, .int tu, .ref m6, .ref m7, .int (((frX6_readPerson_2 ts rp tx) n i σ).2.2.1), .int rt, .ref ma, .ref mb, .ref mc, .ref md, .ref me, .int ac, .ref mg, .ref mh, .int sn, .ref mj, .ref mk, .long sd, .int sl])), (m1, .inl (E.2.1.1, 64, .inl tx)), (ma, .inl (E.2.1.1, 36, .inl (((frX6_readPerson_2 ts rp tx) n i σ).2.2.2)))]) 0 0 2 [(0, .ref mm), (1, .int (nI i))] [] [(mm, .inr (6, [.int 0, .ref m1, .int ts, .int σ.1, .int pe, .int tu, .ref m6, .ref m7, .int rp, .int rt, .ref ma, .ref mb, .ref mc, .ref md, .ref me, .int ac, .ref mg, .ref mh, .int sn, .ref mj, .ref mk, .long sd, .int sl])), (m1, .inl (E.2.1.1, 64, .inl tx)), (ma, .inl (E.2.1.1, 36, .inl σ.2))] := by
  intro n
  induction n with
  | zero =>
    intro i σ hi hiN hv
    exact absurd hi (by omega)
  | succ n ih =>
    intro i σ hi hiN hv
    refine hg_iload_n C dX6_readPerson_2 rfl 1 rfl ?_
    refine hg_bipush C (v := 6) dX6_readPerson_3 (by decide) ?_
    refine hg_icmp_ge C (tgt := 47) dX6_readPerson_5 (by decide) (fun c3 => ?_) (fun c3 => ?_)
    · refine hg_aload_n C dX6_readPerson_47 rfl 0 rfl ?_
      refine hg_dup C dX6_readPerson_48 rfl ?_
      refine hg_get C (Cn := RX6) (T := TX6) (N := 23) (v := .int rp) mrX6_readPerson_6 0 rfl rfl 8 (by decide) mmX6_readPerson_f77 rfl dX6_readPerson_49 ?_
      refine hg_iconst C (v := 1) dX6_readPerson_52 (by decide) ?_
      refine hg_iadd C dX6_readPerson_53 ?_
      refine hg_put C (Cn := RX6) (T := TX6) (N := 23) (ws' := [(mm, .inr (6, [.int 0, .ref m1, .int ts, .int σ.1, .int pe, .int tu, .ref m6, .ref m7, .int (rp + 1), .int rt, .ref ma, .ref mb, .ref mc, .ref md, .ref me, .int ac, .ref mg, .ref mh, .int sn, .ref mj, .ref mk, .long sd, .int sl])), (m1, .inl (E.2.1.1, 64, .inl tx)), (ma, .inl (E.2.1.1, 36, .inl σ.2))]) mrX6_readPerson_6 tyX6 tyX6_ok nmX6 0 rfl rfl 8 (by decide) mmX6_readPerson_f77 rfl rfl rfl rfl (Nat.le_of_ble_eq_true rfl) rfl dX6_readPerson_54 ?_
      refine hg_iconst C (v := 1) dX6_readPerson_57 (by decide) ?_
      have e9 : (frX6_readPerson_2 ts rp tx) (n + 1) i σ = (1, σ.1, rp + 1, σ.2) := (hid_eq _).trans ((if_pos c3).trans rfl)
      rw [e9]
      exact hg_zret C dX6_readPerson_58 rfl rfl rfl
    · refine hg_aload_n C dX6_readPerson_8 rfl 0 rfl ?_
      refine hg_iconst C (v := 0) dX6_readPerson_9 (by decide) ?_
      refine hg_iload_n C dX6_readPerson_10 rfl 1 rfl ?_
      refine hg_callS C (ws' := [(mm, .inr (6, [.int 0, .ref m1, .int ts, .int σ.1, .int pe, .int tu, .ref m6, .ref m7, .int rp, .int rt, .ref ma, .ref mb, .ref mc, .ref md, .ref me, .int ac, .ref mg, .ref mh, .int sn, .ref mj, .ref mk, .long sd, .int sl])), (m1, .inl (E.2.1.1, 64, .inl tx)), (ma, .inl (E.2.1.1, 36, .inl σ.2))]) (rest := [.int 0, .ref mm]) (kX6_mostOf l E (nI i)) hfX6_mostOf gX6_readPerson_X6_mostOf ⟨Nat.le_of_ble_eq_true rfl, Nat.le_of_ble_eq_true rfl⟩ ⟨Nat.zero_le _, Nat.zero_le _⟩ [] rfl (by decide) [] rfl rfl rfl rfl (Nat.le_of_ble_eq_true rfl) dX6_readPerson_11 ?_
      refine hg_callV C (ws' := [(mm, .inr (6, [.int 0, .ref m1, .int ts, .int ((fX6_figure ts σ.1 tx 0 (fX6_mostOf (nI i))).2), .int pe, .int tu, .ref m6, .ref m7, .int rp, .int rt, .ref ma, .ref mb, .ref mc, .ref md, .ref me, .int ac, .ref mg, .ref mh, .int sn, .ref mj, .ref mk, .long sd, .int sl])), (m1, .inl (E.2.1.1, 64, .inl tx)), (ma, .inl (E.2.1.1, 36, .inl σ.2))]) (rest := []) (kX6_figure l E mm m1 m6 m7 ma mb mc md me mg mh mj mk ts σ.1 pe tu rp rt ac sn sd sl tx 0 (fX6_mostOf (nI i)) hv) hfX6_figure gX6_readPerson_X6_figure ⟨Nat.le_of_ble_eq_true rfl, Nat.le_of_ble_eq_true rfl⟩ ⟨Nat.zero_le _, Nat.zero_le _⟩ [0, 1] rfl (by decide) [mm, m1] rfl rfl rfl 0 rfl rfl rfl rfl (Nat.le_of_ble_eq_true rfl) dX6_readPerson_14 ?_
      refine hg_istore_n C (lv' := [(2, .int ((fX6_figure ts σ.1 tx 0 (fX6_mostOf (nI i))).1)), (0, .ref mm), (1, .int (nI i))]) dX6_readPerson_17 rfl (by decide) rfl ?_
      refine hg_iload_n C dX6_readPerson_18 rfl 0 rfl ?_
      refine hg_bipush C (v := (-9)) dX6_readPerson_19 (by decide) ?_
      refine hg_icmp_ne C (tgt := 26) dX6_readPerson_21 (by decide) (fun c4 => ?_) (fun c4 => ?_)
      · refine hg_aload_n C dX6_readPerson_26 rfl 1 rfl ?_
        refine hg_get C (Cn := RX6) (T := TX6) (N := 23) (v := .ref ma) mrX6_readPerson_6 0 rfl rfl 10 (by decide) mmX6_readPerson_f19 rfl dX6_readPerson_27 ?_
        refine hg_bipush C (v := 6) dX6_readPerson_30 (by decide) ?_
        refine hg_aload_n C dX6_readPerson_32 rfl 1 rfl ?_
        refine hg_get C (Cn := RX6) (T := TX6) (N := 23) (v := .int rp) mrX6_readPerson_6 0 rfl rfl 8 (by decide) mmX6_readPerson_f77 rfl dX6_readPerson_33 ?_
        refine hg_imul C dX6_readPerson_36 ?_
        refine hg_iload_n C dX6_readPerson_37 rfl 2 rfl ?_
        refine hg_iadd C dX6_readPerson_38 ?_
        refine hg_iload_n C dX6_readPerson_39 rfl 0 rfl ?_
        refine hg_iast C (ws' := [(mm, .inr (6, [.int 0, .ref m1, .int ts, .int ((fX6_figure ts σ.1 tx 0 (fX6_mostOf (nI i))).2), .int pe, .int tu, .ref m6, .ref m7, .int rp, .int rt, .ref ma, .ref mb, .ref mc, .ref md, .ref me, .int ac, .ref mg, .ref mh, .int sn, .ref mj, .ref mk, .long sd, .int sl])), (m1, .inl (E.2.1.1, 64, .inl tx)), (ma, .inl (E.2.1.1, 36, .inl (upd σ.2 ((6 * rp) + (nI i)).toNatClampNeg ((fX6_figure ts σ.1 tx 0 (fX6_mostOf (nI i))).1))))]) 2 rfl (ix_6r hrp (lt_nI (by omega) (by assumption))) rfl dX6_readPerson_40 ?_
        refine hg_iinc C (v := nI (i + 1)) (lv' := [(1, .int (nI (i + 1))), (2, .int ((fX6_figure ts σ.1 tx 0 (fX6_mostOf (nI i))).1)), (0, .ref mm)]) dX6_readPerson_41 2 rfl (nI_inc _) (by decide) rfl ?_
        refine hg_goto C (tgt := 2) dX6_readPerson_44 (by decide) ?_
        have hlt : i < 6 := (lt_nI (by omega) (by assumption))
        have e9 : (frX6_readPerson_2 ts rp tx) (n + 1) i σ = (frX6_readPerson_2 ts rp tx) n (i + 1) ((fX6_figure ts σ.1 tx 0 (fX6_mostOf (nI i))).2, upd σ.2 ((6 * rp) + (nI i)).toNatClampNeg ((fX6_figure ts σ.1 tx 0 (fX6_mostOf (nI i))).1)) := (hid_eq _).trans ((if_neg c3).trans ((if_neg c4).trans rfl))
        rw [e9]
        exact hg_sub [2, 0] rfl (ih (i + 1) ((fX6_figure ts σ.1 tx 0 (fX6_mostOf (nI i))).2, upd σ.2 ((6 * rp) + (nI i)).toNatClampNeg ((fX6_figure ts σ.1 tx 0 (fX6_mostOf (nI i))).1)) (by omega) (by omega) (figN hv))
      · refine hg_iconst C (v := 0) dX6_readPerson_24 (by decide) ?_
        have e9 : (frX6_readPerson_2 ts rp tx) (n + 1) i σ = (0, (fX6_figure ts σ.1 tx 0 (fX6_mostOf (nI i))).2, rp, σ.2) := (hid_eq _).trans ((if_neg c3).trans ((if_pos c4).trans rfl))
        rw [e9]
        exact hg_zret C dX6_readPerson_25 rfl rfl rfl
noncomputable def fX6_readPerson (ts : Int32) (pc : Int32) (rp : Int32) (tx : Nat → Int32) (rto : Nat → Int32) : Int32 × Int32 × Int32 × (Nat → Int32) := hid ((frX6_readPerson_2 ts rp tx) (6 + 1) 0 (pc, rto))
set_option maxHeartbeats 4000000 in
set_option maxRecDepth 100000 in
theorem kX6_readPerson (l : Launch) (E : hE) (mm : Nat) (m1 : Nat) (m6 : Nat) (m7 : Nat) (ma : Nat) (mb : Nat) (mc : Nat) (md : Nat) (me : Nat) (mg : Nat) (mh : Nat) (mj : Nat) (mk : Nat) (ts : Int32) (pc : Int32) (pe : Int32) (tu : Int32) (rp : Int32) (rt : Int32) (ac : Int32) (sn : Int32) (sd : Int64) (sl : Int32) (tx : Nat → Int32) (rto : Nat → Int32) (hfg : figP pc ts) (hrp : vp_in rp 6) : hC l yX6_readPerson wsX6_readPerson rmX6_readPerson E [.ref mm] [(mm, .inr (6, [.int 0, .ref m1, .int ts, .int pc, .int pe, .int tu, .ref m6, .ref m7, .int rp, .int rt, .ref ma, .ref mb, .ref mc, .ref md, .ref me, .int ac, .ref mg, .ref mh, .int sn, .ref mj, .ref mk, .long sd, .int sl])), (m1, .inl (E.2.1.1, 64, .inl tx)), (ma, .inl (E.2.1.1, 36, .inl rto))] (some (.int ((fX6_readPerson ts pc rp tx rto).1))) [(mm, .inr (6, [.int 0, .ref m1, .int ts, .int ((fX6_readPerson ts pc rp tx rto).2.1), .int pe, .int tu, .ref m6, .ref m7, .int ((fX6_readPerson ts pc rp tx rto).2.2.1), .int rt, .ref ma, .ref mb, .ref mc, .ref md, .ref me, .int ac, .ref mg, .ref mh, .int sn, .ref mj, .ref mk, .long sd, .int sl])), (m1, .inl (E.2.1.1, 64, .inl tx)), (ma, .inl (E.2.1.1, 36, .inl ((fX6_readPerson ts pc rp tx rto).2.2.2)))] := by
  refine hC_intro (cc := cX6_readPerson) (maxL := 3) (ret := (some .boolean)) (lv0 := [(0, .ref mm)]) (by decide) rfl (Nat.le_of_ble_eq_true rfl) rfl ?_
  intro p e s m below meth c A C
  refine hg_iconst C (v := 0) dX6_readPerson_0 (by decide) ?_
  refine hg_istore_n C (lv' := [(1, .int 0), (0, .ref mm)]) dX6_readPerson_1 rfl (by decide) rfl ?_
  have e9 : (fX6_readPerson ts pc rp tx rto) = (frX6_readPerson_2 ts rp tx) (6 + 1) 0 (pc, rto) := hid_eq _
  rw [e9]
  refine hg_sub [1, 0] rfl ?_
  exact lpX6_readPerson_2 C mm m1 m6 m7 ma mb mc md me mg mh mj mk ts pc pe tu rp rt ac sn sd sl tx rto hfg hrp (6 + 1) 0 (pc, rto) (by omega) (by omega) hfg
theorem mmX6_readTune_f22 : (Cond.fieldLink RX6 22 "HatRoundModel" "readSong" "[I") ∈ wsX6_readTune := (List.mem_cons_of_mem _ (List.mem_append_left _ (List.mem_of_getElem? (i := 0) rfl)))
theorem mrX6_readTune_6 : ∀ w ∈ u_ws RX6 TX6 23, w ∈ wsX6_readTune := fun _ h => (List.mem_cons_of_mem _ (List.mem_append_right _ h))
theorem mmX6_readTune_f80 : (Cond.fieldLink RX6 80 "HatRoundModel" "readTunes" "I") ∈ wsX6_readTune := (List.mem_cons_of_mem _ (List.mem_append_left _ (List.mem_of_getElem? (i := 1) rfl)))
abbrev rmX6_readTune : Room := { frames := 2, cells := 0, slots := 0, locals := 47 }
theorem hfX6_readTune : hCF yX6_readTune wsX6_readTune rmX6_readTune cX6_readTune 4 (some .boolean) 0 := ⟨⟨_, rfl⟩, by decide +kernel, rfl, rfl⟩
noncomputable def fX6_readTune (ts : Int32) (pc : Int32) (rt : Int32) (tx : Nat → Int32) (rso : Nat → Int32) : Int32 × Int32 × Int32 × (Nat → Int32) := hid (if ((fX6_figure ts pc tx 0 2).1) = (-9) then (0, (fX6_figure ts pc tx 0 2).2, rt, rso) else if ((fX6_figure ts ((fX6_figure ts pc tx 0 2).2) tx 1 9).1) = (-9) then (0, (fX6_figure ts ((fX6_figure ts pc tx 0 2).2) tx 1 9).2, rt, rso) else if ((fX6_figure ts ((fX6_figure ts ((fX6_figure ts pc tx 0 2).2) tx 1 9).2) tx 0 9).1) = (-9) then (0, (fX6_figure ts ((fX6_figure ts ((fX6_figure ts pc tx 0 2).2) tx 1 9).2) tx 0 9).2, rt, rso) else (1, (fX6_figure ts ((fX6_figure ts ((fX6_figure ts pc tx 0 2).2) tx 1 9).2) tx 0 9).2, rt + 1, upd (upd (upd rso (3 * rt).toNatClampNeg ((fX6_figure ts pc tx 0 2).1)) ((3 * rt) + 1).toNatClampNeg ((fX6_figure ts ((fX6_figure ts pc tx 0 2).2) tx 1 9).1)) ((3 * rt) + 2).toNatClampNeg ((fX6_figure ts ((fX6_figure ts ((fX6_figure ts pc tx 0 2).2) tx 1 9).2) tx 0 9).1)))
set_option maxHeartbeats 4000000 in
set_option maxRecDepth 100000 in
theorem kX6_readTune (l : Launch) (E : hE) (mm : Nat) (m1 : Nat) (m6 : Nat) (m7 : Nat) (ma : Nat) (mb : Nat) (mc : Nat) (md : Nat) (me : Nat) (mg : Nat) (mh : Nat) (mj : Nat) (mk : Nat) (ts : Int32) (pc : Int32) (pe : Int32) (tu : Int32) (rp : Int32) (rt : Int32) (ac : Int32) (sn : Int32) (sd : Int64) (sl : Int32) (tx : Nat → Int32) (rso : Nat → Int32) (hfg : figP pc ts) (hrt : vp_in rt 4) : hC l yX6_readTune wsX6_readTune rmX6_readTune E [.ref mm] [(mm, .inr (6, [.int 0, .ref m1, .int ts, .int pc, .int pe, .int tu, .ref m6, .ref m7, .int rp, .int rt, .ref ma, .ref mb, .ref mc, .ref md, .ref me, .int ac, .ref mg, .ref mh, .int sn, .ref mj, .ref mk, .long sd, .int sl])), (m1, .inl (E.2.1.1, 64, .inl tx)), (mb, .inl (E.2.1.1, 12, .inl rso))] (some (.int ((fX6_readTune ts pc rt tx rso).1))) [(mm, .inr (6, [.int 0, .ref m1, .int ts, .int ((fX6_readTune ts pc rt tx rso).2.1), .int pe, .int tu, .ref m6, .ref m7, .int rp, .int ((fX6_readTune ts pc rt tx rso).2.2.1), .ref ma, .ref mb, .ref mc, .ref md, .ref me, .int ac, .ref mg, .ref mh, .int sn, .ref mj, .ref mk, .long sd, .int sl])), (m1, .inl (E.2.1.1, 64, .inl tx)), (mb, .inl (E.2.1.1, 12, .inl ((fX6_readTune ts pc rt tx rso).2.2.2)))] := by
  refine hC_intro (cc := cX6_readTune) (maxL := 4) (ret := (some .boolean)) (lv0 := [(0, .ref mm)]) (by decide) rfl (Nat.le_of_ble_eq_true rfl) rfl ?_
  intro p e s m below meth c A C
  refine hg_aload_n C dX6_readTune_0 rfl 0 rfl ?_
  refine hg_iconst C (v := 0) dX6_readTune_1 (by decide) ?_
  refine hg_iconst C (v := 2) dX6_readTune_2 (by decide) ?_
  refine hg_callV C (ws' := [(mm, .inr (6, [.int 0, .ref m1, .int ts, .int ((fX6_figure ts pc tx 0 2).2), .int pe, .int tu, .ref m6, .ref m7, .int rp, .int rt, .ref ma, .ref mb, .ref mc, .ref md, .ref me, .int ac, .ref mg, .ref mh, .int sn, .ref mj, .ref mk, .long sd, .int sl])), (m1, .inl (E.2.1.1, 64, .inl tx)), (mb, .inl (E.2.1.1, 12, .inl rso))]) (rest := []) (kX6_figure l E mm m1 m6 m7 ma mb mc md me mg mh mj mk ts pc pe tu rp rt ac sn sd sl tx 0 2 hfg) hfX6_figure gX6_readTune_X6_figure ⟨Nat.le_of_ble_eq_true rfl, Nat.le_of_ble_eq_true rfl⟩ ⟨Nat.zero_le _, Nat.zero_le _⟩ [0, 1] rfl (by decide) [mm, m1] rfl rfl rfl 0 rfl rfl rfl rfl (Nat.le_of_ble_eq_true rfl) dX6_readTune_3 ?_
  refine hg_istore_n C (lv' := [(1, .int ((fX6_figure ts pc tx 0 2).1)), (0, .ref mm)]) dX6_readTune_6 rfl (by decide) rfl ?_
  refine hg_iload_n C dX6_readTune_7 rfl 0 rfl ?_
  refine hg_bipush C (v := (-9)) dX6_readTune_8 (by decide) ?_
  refine hg_icmp_ne C (tgt := 18) dX6_readTune_10 (by decide) (fun c1 => ?_) (fun c1 => ?_)
  · refine hg_aload_n C dX6_readTune_18 rfl 1 rfl ?_
    refine hg_iconst C (v := 1) dX6_readTune_19 (by decide) ?_
    refine hg_bipush C (v := 9) dX6_readTune_20 (by decide) ?_
    refine hg_callV C (ws' := [(mm, .inr (6, [.int 0, .ref m1, .int ts, .int ((fX6_figure ts ((fX6_figure ts pc tx 0 2).2) tx 1 9).2), .int pe, .int tu, .ref m6, .ref m7, .int rp, .int rt, .ref ma, .ref mb, .ref mc, .ref md, .ref me, .int ac, .ref mg, .ref mh, .int sn, .ref mj, .ref mk, .long sd, .int sl])), (m1, .inl (E.2.1.1, 64, .inl tx)), (mb, .inl (E.2.1.1, 12, .inl rso))]) (rest := []) (kX6_figure l E mm m1 m6 m7 ma mb mc md me mg mh mj mk ts ((fX6_figure ts pc tx 0 2).2) pe tu rp rt ac sn sd sl tx 1 9 (figN hfg)) hfX6_figure gX6_readTune_X6_figure ⟨Nat.le_of_ble_eq_true rfl, Nat.le_of_ble_eq_true rfl⟩ ⟨Nat.zero_le _, Nat.zero_le _⟩ [0, 1] rfl (by decide) [mm, m1] rfl rfl rfl 0 rfl rfl rfl rfl (Nat.le_of_ble_eq_true rfl) dX6_readTune_22 ?_
    refine hg_istore_n C (lv' := [(2, .int ((fX6_figure ts ((fX6_figure ts pc tx 0 2).2) tx 1 9).1)), (1, .int ((fX6_figure ts pc tx 0 2).1)), (0, .ref mm)]) dX6_readTune_25 rfl (by decide) rfl ?_
    refine hg_iload_n C dX6_readTune_26 rfl 0 rfl ?_
    refine hg_bipush C (v := (-9)) dX6_readTune_27 (by decide) ?_
    refine hg_icmp_ne C (tgt := 37) dX6_readTune_29 (by decide) (fun c2 => ?_) (fun c2 => ?_)
    · refine hg_aload_n C dX6_readTune_37 rfl 2 rfl ?_
      refine hg_iconst C (v := 0) dX6_readTune_38 (by decide) ?_
      refine hg_bipush C (v := 9) dX6_readTune_39 (by decide) ?_
      refine hg_callV C (ws' := [(mm, .inr (6, [.int 0, .ref m1, .int ts, .int ((fX6_figure ts ((fX6_figure ts ((fX6_figure ts pc tx 0 2).2) tx 1 9).2) tx 0 9).2), .int pe, .int tu, .ref m6, .ref m7, .int rp, .int rt, .ref ma, .ref mb, .ref mc, .ref md, .ref me, .int ac, .ref mg, .ref mh, .int sn, .ref mj, .ref mk, .long sd, .int sl])), (m1, .inl (E.2.1.1, 64, .inl tx)), (mb, .inl (E.2.1.1, 12, .inl rso))]) (rest := []) (kX6_figure l E mm m1 m6 m7 ma mb mc md me mg mh mj mk ts ((fX6_figure ts ((fX6_figure ts pc tx 0 2).2) tx 1 9).2) pe tu rp rt ac sn sd sl tx 0 9 (figN (figN hfg))) hfX6_figure gX6_readTune_X6_figure ⟨Nat.le_of_ble_eq_true rfl, Nat.le_of_ble_eq_true rfl⟩ ⟨Nat.zero_le _, Nat.zero_le _⟩ [0, 1] rfl (by decide) [mm, m1] rfl rfl rfl 0 rfl rfl rfl rfl (Nat.le_of_ble_eq_true rfl) dX6_readTune_41 ?_
      refine hg_istore_n C (lv' := [(3, .int ((fX6_figure ts ((fX6_figure ts ((fX6_figure ts pc tx 0 2).2) tx 1 9).2) tx 0 9).1)), (2, .int ((fX6_figure ts ((fX6_figure ts pc tx 0 2).2) tx 1 9).1)), (1, .int ((fX6_figure ts pc tx 0 2).1)), (0, .ref mm)]) dX6_readTune_44 rfl (by decide) rfl ?_
      refine hg_iload_n C dX6_readTune_45 rfl 0 rfl ?_
      refine hg_bipush C (v := (-9)) dX6_readTune_46 (by decide) ?_
      refine hg_icmp_ne C (tgt := 53) dX6_readTune_48 (by decide) (fun c3 => ?_) (fun c3 => ?_)
      · refine hg_aload_n C dX6_readTune_53 rfl 3 rfl ?_
        refine hg_get C (Cn := RX6) (T := TX6) (N := 23) (v := .ref mb) mrX6_readTune_6 0 rfl rfl 11 (by decide) mmX6_readTune_f22 rfl dX6_readTune_54 ?_
        refine hg_iconst C (v := 3) dX6_readTune_57 (by decide) ?_
        refine hg_aload_n C dX6_readTune_58 rfl 3 rfl ?_
        refine hg_get C (Cn := RX6) (T := TX6) (N := 23) (v := .int rt) mrX6_readTune_6 0 rfl rfl 9 (by decide) mmX6_readTune_f80 rfl dX6_readTune_59 ?_
        refine hg_imul C dX6_readTune_62 ?_
        refine hg_iload_n C dX6_readTune_63 rfl 2 rfl ?_
        refine hg_iast C (ws' := [(mm, .inr (6, [.int 0, .ref m1, .int ts, .int ((fX6_figure ts ((fX6_figure ts ((fX6_figure ts pc tx 0 2).2) tx 1 9).2) tx 0 9).2), .int pe, .int tu, .ref m6, .ref m7, .int rp, .int rt, .ref ma, .ref mb, .ref mc, .ref md, .ref me, .int ac, .ref mg, .ref mh, .int sn, .ref mj, .ref mk, .long sd, .int sl])), (m1, .inl (E.2.1.1, 64, .inl tx)), (mb, .inl (E.2.1.1, 12, .inl (upd rso (3 * rt).toNatClampNeg ((fX6_figure ts pc tx 0 2).1))))]) 2 rfl (ix_3 hrt) rfl dX6_readTune_64 ?_
        refine hg_aload_n C dX6_readTune_65 rfl 3 rfl ?_
        refine hg_get C (Cn := RX6) (T := TX6) (N := 23) (v := .ref mb) mrX6_readTune_6 0 rfl rfl 11 (by decide) mmX6_readTune_f22 rfl dX6_readTune_66 ?_
        refine hg_iconst C (v := 3) dX6_readTune_69 (by decide) ?_
        refine hg_aload_n C dX6_readTune_70 rfl 3 rfl ?_
        refine hg_get C (Cn := RX6) (T := TX6) (N := 23) (v := .int rt) mrX6_readTune_6 0 rfl rfl 9 (by decide) mmX6_readTune_f80 rfl dX6_readTune_71 ?_
        refine hg_imul C dX6_readTune_74 ?_
        refine hg_iconst C (v := 1) dX6_readTune_75 (by decide) ?_
        refine hg_iadd C dX6_readTune_76 ?_
        refine hg_iload_n C dX6_readTune_77 rfl 1 rfl ?_
        refine hg_iast C (ws' := [(mm, .inr (6, [.int 0, .ref m1, .int ts, .int ((fX6_figure ts ((fX6_figure ts ((fX6_figure ts pc tx 0 2).2) tx 1 9).2) tx 0 9).2), .int pe, .int tu, .ref m6, .ref m7, .int rp, .int rt, .ref ma, .ref mb, .ref mc, .ref md, .ref me, .int ac, .ref mg, .ref mh, .int sn, .ref mj, .ref mk, .long sd, .int sl])), (m1, .inl (E.2.1.1, 64, .inl tx)), (mb, .inl (E.2.1.1, 12, .inl (upd (upd rso (3 * rt).toNatClampNeg ((fX6_figure ts pc tx 0 2).1)) ((3 * rt) + 1).toNatClampNeg ((fX6_figure ts ((fX6_figure ts pc tx 0 2).2) tx 1 9).1))))]) 2 rfl (ix_31 hrt) rfl dX6_readTune_78 ?_
        refine hg_aload_n C dX6_readTune_79 rfl 3 rfl ?_
        refine hg_get C (Cn := RX6) (T := TX6) (N := 23) (v := .ref mb) mrX6_readTune_6 0 rfl rfl 11 (by decide) mmX6_readTune_f22 rfl dX6_readTune_80 ?_
        refine hg_iconst C (v := 3) dX6_readTune_83 (by decide) ?_
        refine hg_aload_n C dX6_readTune_84 rfl 3 rfl ?_
        refine hg_get C (Cn := RX6) (T := TX6) (N := 23) (v := .int rt) mrX6_readTune_6 0 rfl rfl 9 (by decide) mmX6_readTune_f80 rfl dX6_readTune_85 ?_
        refine hg_imul C dX6_readTune_88 ?_
        refine hg_iconst C (v := 2) dX6_readTune_89 (by decide) ?_
        refine hg_iadd C dX6_readTune_90 ?_
        refine hg_iload_n C dX6_readTune_91 rfl 0 rfl ?_
        refine hg_iast C (ws' := [(mm, .inr (6, [.int 0, .ref m1, .int ts, .int ((fX6_figure ts ((fX6_figure ts ((fX6_figure ts pc tx 0 2).2) tx 1 9).2) tx 0 9).2), .int pe, .int tu, .ref m6, .ref m7, .int rp, .int rt, .ref ma, .ref mb, .ref mc, .ref md, .ref me, .int ac, .ref mg, .ref mh, .int sn, .ref mj, .ref mk, .long sd, .int sl])), (m1, .inl (E.2.1.1, 64, .inl tx)), (mb, .inl (E.2.1.1, 12, .inl (upd (upd (upd rso (3 * rt).toNatClampNeg ((fX6_figure ts pc tx 0 2).1)) ((3 * rt) + 1).toNatClampNeg ((fX6_figure ts ((fX6_figure ts pc tx 0 2).2) tx 1 9).1)) ((3 * rt) + 2).toNatClampNeg ((fX6_figure ts ((fX6_figure ts ((fX6_figure ts pc tx 0 2).2) tx 1 9).2) tx 0 9).1))))]) 2 rfl (ix_32 hrt) rfl dX6_readTune_92 ?_
        refine hg_aload_n C dX6_readTune_93 rfl 3 rfl ?_
        refine hg_dup C dX6_readTune_94 rfl ?_
        refine hg_get C (Cn := RX6) (T := TX6) (N := 23) (v := .int rt) mrX6_readTune_6 0 rfl rfl 9 (by decide) mmX6_readTune_f80 rfl dX6_readTune_95 ?_
        refine hg_iconst C (v := 1) dX6_readTune_98 (by decide) ?_
        refine hg_iadd C dX6_readTune_99 ?_
        refine hg_put C (Cn := RX6) (T := TX6) (N := 23) (ws' := [(mm, .inr (6, [.int 0, .ref m1, .int ts, .int ((fX6_figure ts ((fX6_figure ts ((fX6_figure ts pc tx 0 2).2) tx 1 9).2) tx 0 9).2), .int pe, .int tu, .ref m6, .ref m7, .int rp, .int (rt + 1), .ref ma, .ref mb, .ref mc, .ref md, .ref me, .int ac, .ref mg, .ref mh, .int sn, .ref mj, .ref mk, .long sd, .int sl])), (m1, .inl (E.2.1.1, 64, .inl tx)), (mb, .inl (E.2.1.1, 12, .inl (upd (upd (upd rso (3 * rt).toNatClampNeg ((fX6_figure ts pc tx 0 2).1)) ((3 * rt) + 1).toNatClampNeg ((fX6_figure ts ((fX6_figure ts pc tx 0 2).2) tx 1 9).1)) ((3 * rt) + 2).toNatClampNeg ((fX6_figure ts ((fX6_figure ts ((fX6_figure ts pc tx 0 2).2) tx 1 9).2) tx 0 9).1))))]) mrX6_readTune_6 tyX6 tyX6_ok nmX6 0 rfl rfl 9 (by decide) mmX6_readTune_f80 rfl rfl rfl rfl (Nat.le_of_ble_eq_true rfl) rfl dX6_readTune_100 ?_
        refine hg_iconst C (v := 1) dX6_readTune_103 (by decide) ?_
        have e9 : (fX6_readTune ts pc rt tx rso) = (1, (fX6_figure ts ((fX6_figure ts ((fX6_figure ts pc tx 0 2).2) tx 1 9).2) tx 0 9).2, rt + 1, upd (upd (upd rso (3 * rt).toNatClampNeg ((fX6_figure ts pc tx 0 2).1)) ((3 * rt) + 1).toNatClampNeg ((fX6_figure ts ((fX6_figure ts pc tx 0 2).2) tx 1 9).1)) ((3 * rt) + 2).toNatClampNeg ((fX6_figure ts ((fX6_figure ts ((fX6_figure ts pc tx 0 2).2) tx 1 9).2) tx 0 9).1)) := (hid_eq _).trans ((if_neg c1).trans ((if_neg c2).trans ((if_neg c3).trans rfl)))
        rw [e9]
        exact hg_zret C dX6_readTune_104 rfl rfl rfl
      · refine hg_iconst C (v := 0) dX6_readTune_51 (by decide) ?_
        have e9 : (fX6_readTune ts pc rt tx rso) = (0, (fX6_figure ts ((fX6_figure ts ((fX6_figure ts pc tx 0 2).2) tx 1 9).2) tx 0 9).2, rt, rso) := (hid_eq _).trans ((if_neg c1).trans ((if_neg c2).trans ((if_pos c3).trans rfl)))
        rw [e9]
        exact hg_zret C dX6_readTune_52 rfl rfl rfl
    · refine hg_bipush C (v := (-9)) dX6_readTune_32 (by decide) ?_
      refine hg_goto C (tgt := 44) dX6_readTune_34 (by decide) ?_
      refine hg_istore_n C (lv' := [(3, .int (-9)), (2, .int ((fX6_figure ts ((fX6_figure ts pc tx 0 2).2) tx 1 9).1)), (1, .int ((fX6_figure ts pc tx 0 2).1)), (0, .ref mm)]) dX6_readTune_44 rfl (by decide) rfl ?_
      refine hg_iload_n C dX6_readTune_45 rfl 0 rfl ?_
      refine hg_bipush C (v := (-9)) dX6_readTune_46 (by decide) ?_
      refine hg_icmp_ne C (tgt := 53) dX6_readTune_48 (by decide) (fun h => absurd h (by decide)) (fun _ => ?_)
      refine hg_iconst C (v := 0) dX6_readTune_51 (by decide) ?_
      have e9 : (fX6_readTune ts pc rt tx rso) = (0, (fX6_figure ts ((fX6_figure ts pc tx 0 2).2) tx 1 9).2, rt, rso) := (hid_eq _).trans ((if_neg c1).trans ((if_pos c2).trans rfl))
      rw [e9]
      exact hg_zret C dX6_readTune_52 rfl rfl rfl
  · refine hg_bipush C (v := (-9)) dX6_readTune_13 (by decide) ?_
    refine hg_goto C (tgt := 25) dX6_readTune_15 (by decide) ?_
    refine hg_istore_n C (lv' := [(2, .int (-9)), (1, .int ((fX6_figure ts pc tx 0 2).1)), (0, .ref mm)]) dX6_readTune_25 rfl (by decide) rfl ?_
    refine hg_iload_n C dX6_readTune_26 rfl 0 rfl ?_
    refine hg_bipush C (v := (-9)) dX6_readTune_27 (by decide) ?_
    refine hg_icmp_ne C (tgt := 37) dX6_readTune_29 (by decide) (fun h => absurd h (by decide)) (fun _ => ?_)
    refine hg_bipush C (v := (-9)) dX6_readTune_32 (by decide) ?_
    refine hg_goto C (tgt := 44) dX6_readTune_34 (by decide) ?_
    refine hg_istore_n C (lv' := [(3, .int (-9)), (2, .int (-9)), (1, .int ((fX6_figure ts pc tx 0 2).1)), (0, .ref mm)]) dX6_readTune_44 rfl (by decide) rfl ?_
    refine hg_iload_n C dX6_readTune_45 rfl 0 rfl ?_
    refine hg_bipush C (v := (-9)) dX6_readTune_46 (by decide) ?_
    refine hg_icmp_ne C (tgt := 53) dX6_readTune_48 (by decide) (fun h => absurd h (by decide)) (fun _ => ?_)
    refine hg_iconst C (v := 0) dX6_readTune_51 (by decide) ?_
    have e9 : (fX6_readTune ts pc rt tx rso) = (0, (fX6_figure ts pc tx 0 2).2, rt, rso) := (hid_eq _).trans ((if_pos c1).trans rfl)
    rw [e9]
    exact hg_zret C dX6_readTune_52 rfl rfl rfl
theorem rb_P (ts rp : Int32) (tx : Nat → Int32) : ∀ (n i : Nat) (σ : Int32 × (Nat → Int32)), (frX6_readPerson_2 ts rp tx n i σ).1 = 0 ∨ (frX6_readPerson_2 ts rp tx n i σ).1 = 1
  | 0, _, _ => Or.inl rfl
  | n + 1, i, σ => by
    unfold frX6_readPerson_2
    rw [hid_eq]
    split
    · exact Or.inr rfl
    · split
      · exact Or.inl rfl
      · exact rb_P ts rp tx n (i + 1) _
theorem rb_p (ts pc rp : Int32) (tx rto : Nat → Int32) : (fX6_readPerson ts pc rp tx rto).1 = 0 ∨ (fX6_readPerson ts pc rp tx rto).1 = 1 := by
  unfold fX6_readPerson
  rw [hid_eq]
  exact rb_P _ _ _ _ _ _
theorem rb_t (ts pc rt : Int32) (tx rso : Nat → Int32) : (fX6_readTune ts pc rt tx rso).1 = 0 ∨ (fX6_readTune ts pc rt tx rso).1 = 1 := by
  unfold fX6_readTune
  rw [hid_eq]
  (repeat' split) <;> first | exact Or.inl rfl | exact Or.inr rfl

theorem mmX6_readPart_f7 : (Cond.fieldLink RX6 7 "HatRoundModel" "text" "[I") ∈ wsX6_readPart := (List.mem_cons_of_mem _ (List.mem_append_left _ (List.mem_append_left _ (List.mem_of_getElem? (i := 0) rfl))))
theorem mrX6_readPart_6 : ∀ w ∈ u_ws RX6 TX6 23, w ∈ wsX6_readPart := fun _ h => (List.mem_cons_of_mem _ (List.mem_append_right _ h))
theorem mmX6_readPart_f66 : (Cond.fieldLink RX6 66 "HatRoundModel" "place" "I") ∈ wsX6_readPart := (List.mem_cons_of_mem _ (List.mem_append_left _ (List.mem_append_left _ (List.mem_of_getElem? (i := 1) rfl))))
theorem mmX6_readPart_f80 : (Cond.fieldLink RX6 80 "HatRoundModel" "readTunes" "I") ∈ wsX6_readPart := (List.mem_cons_of_mem _ (List.mem_append_left _ (List.mem_append_left _ (List.mem_of_getElem? (i := 3) rfl))))
theorem mmX6_readPart_f77 : (Cond.fieldLink RX6 77 "HatRoundModel" "readPeople" "I") ∈ wsX6_readPart := (List.mem_cons_of_mem _ (List.mem_append_left _ (List.mem_append_left _ (List.mem_of_getElem? (i := 2) rfl))))
abbrev rmX6_readPart : Room := { frames := 3, cells := 0, slots := 0, locals := 70 }
theorem hfX6_readPart : hCF yX6_readPart wsX6_readPart rmX6_readPart cX6_readPart 2 (some .boolean) 0 := ⟨⟨_, rfl⟩, by decide +kernel, rfl, rfl⟩
noncomputable def fX6_readPart (ts : Int32) (pc : Int32) (rp : Int32) (rt : Int32) (tx : Nat → Int32) (rto : Nat → Int32) (rso : Nat → Int32) : Int32 × Int32 × Int32 × Int32 × (Nat → Int32) × (Nat → Int32) := hid (if (tx pc.toNatClampNeg) = 80 then (if (6 : Int32) ≤ rp then (if (tx pc.toNatClampNeg) = 84 then (if (4 : Int32) ≤ rt then (0, pc, rp, rt, rto, rso) else ((fX6_readTune ts (pc + 1) rt tx rso).1, (fX6_readTune ts (pc + 1) rt tx rso).2.1, rp, (fX6_readTune ts (pc + 1) rt tx rso).2.2.1, rto, (fX6_readTune ts (pc + 1) rt tx rso).2.2.2)) else (0, pc, rp, rt, rto, rso)) else ((fX6_readPerson ts (pc + 1) rp tx rto).1, (fX6_readPerson ts (pc + 1) rp tx rto).2.1, (fX6_readPerson ts (pc + 1) rp tx rto).2.2.1, rt, (fX6_readPerson ts (pc + 1) rp tx rto).2.2.2, rso)) else if (tx pc.toNatClampNeg) = 84 then (if (4 : Int32) ≤ rt then (0, pc, rp, rt, rto, rso) else ((fX6_readTune ts (pc + 1) rt tx rso).1, (fX6_readTune ts (pc + 1) rt tx rso).2.1, rp, (fX6_readTune ts (pc + 1) rt tx rso).2.2.1, rto, (fX6_readTune ts (pc + 1) rt tx rso).2.2.2)) else (0, pc, rp, rt, rto, rso))
set_option maxHeartbeats 4000000 in
set_option maxRecDepth 100000 in
theorem kX6_readPart (l : Launch) (E : hE) (mm : Nat) (m1 : Nat) (m6 : Nat) (m7 : Nat) (ma : Nat) (mb : Nat) (mc : Nat) (md : Nat) (me : Nat) (mg : Nat) (mh : Nat) (mj : Nat) (mk : Nat) (ts : Int32) (pc : Int32) (pe : Int32) (tu : Int32) (rp : Int32) (rt : Int32) (ac : Int32) (sn : Int32) (sd : Int64) (sl : Int32) (tx : Nat → Int32) (rto : Nat → Int32) (rso : Nat → Int32) (hfg : figP pc ts) (hpl : ¬ pc = ts) (hrp : vp_in rp 7) (hrt : vp_in rt 5) : hC l yX6_readPart wsX6_readPart rmX6_readPart E [.ref mm] [(mm, .inr (6, [.int 0, .ref m1, .int ts, .int pc, .int pe, .int tu, .ref m6, .ref m7, .int rp, .int rt, .ref ma, .ref mb, .ref mc, .ref md, .ref me, .int ac, .ref mg, .ref mh, .int sn, .ref mj, .ref mk, .long sd, .int sl])), (m1, .inl (E.2.1.1, 64, .inl tx)), (ma, .inl (E.2.1.1, 36, .inl rto)), (mb, .inl (E.2.1.1, 12, .inl rso))] (some (.int ((fX6_readPart ts pc rp rt tx rto rso).1))) [(mm, .inr (6, [.int 0, .ref m1, .int ts, .int ((fX6_readPart ts pc rp rt tx rto rso).2.1), .int pe, .int tu, .ref m6, .ref m7, .int ((fX6_readPart ts pc rp rt tx rto rso).2.2.1), .int ((fX6_readPart ts pc rp rt tx rto rso).2.2.2.1), .ref ma, .ref mb, .ref mc, .ref md, .ref me, .int ac, .ref mg, .ref mh, .int sn, .ref mj, .ref mk, .long sd, .int sl])), (m1, .inl (E.2.1.1, 64, .inl tx)), (ma, .inl (E.2.1.1, 36, .inl ((fX6_readPart ts pc rp rt tx rto rso).2.2.2.2.1))), (mb, .inl (E.2.1.1, 12, .inl ((fX6_readPart ts pc rp rt tx rto rso).2.2.2.2.2)))] := by
  refine hC_intro (cc := cX6_readPart) (maxL := 2) (ret := (some .boolean)) (lv0 := [(0, .ref mm)]) (by decide) rfl (Nat.le_of_ble_eq_true rfl) rfl ?_
  intro p e s m below meth c A C
  refine hg_aload_n C dX6_readPart_0 rfl 0 rfl ?_
  refine hg_get C (Cn := RX6) (T := TX6) (N := 23) (v := .ref m1) mrX6_readPart_6 0 rfl rfl 1 (by decide) mmX6_readPart_f7 rfl dX6_readPart_1 ?_
  refine hg_aload_n C dX6_readPart_4 rfl 0 rfl ?_
  refine hg_get C (Cn := RX6) (T := TX6) (N := 23) (v := .int pc) mrX6_readPart_6 0 rfl rfl 3 (by decide) mmX6_readPart_f66 rfl dX6_readPart_5 ?_
  refine hg_iald C 1 rfl (fig_in hfg hpl) dX6_readPart_8 ?_
  refine hg_istore_n C (lv' := [(1, .int (tx pc.toNatClampNeg)), (0, .ref mm)]) dX6_readPart_9 rfl (by decide) rfl ?_
  refine hg_iload_n C dX6_readPart_10 rfl 0 rfl ?_
  refine hg_bipush C (v := 80) dX6_readPart_11 (by decide) ?_
  refine hg_icmp_ne C (tgt := 40) dX6_readPart_13 (by decide) (fun c1 => ?_) (fun c1 => ?_)
  · refine hg_iload_n C dX6_readPart_40 rfl 0 rfl ?_
    refine hg_bipush C (v := 84) dX6_readPart_41 (by decide) ?_
    refine hg_icmp_ne C (tgt := 69) dX6_readPart_43 (by decide) (fun c2 => ?_) (fun c2 => ?_)
    · refine hg_iconst C (v := 0) dX6_readPart_69 (by decide) ?_
      have e9 : (fX6_readPart ts pc rp rt tx rto rso) = (0, pc, rp, rt, rto, rso) := (hid_eq _).trans ((if_neg c1).trans ((if_neg c2).trans rfl))
      rw [e9]
      exact hg_zret C dX6_readPart_70 rfl rfl rfl
    · refine hg_aload_n C dX6_readPart_46 rfl 1 rfl ?_
      refine hg_get C (Cn := RX6) (T := TX6) (N := 23) (v := .int rt) mrX6_readPart_6 0 rfl rfl 9 (by decide) mmX6_readPart_f80 rfl dX6_readPart_47 ?_
      refine hg_iconst C (v := 4) dX6_readPart_50 (by decide) ?_
      refine hg_icmp_ge C (tgt := 69) dX6_readPart_51 (by decide) (fun c3 => ?_) (fun c3 => ?_)
      · refine hg_iconst C (v := 0) dX6_readPart_69 (by decide) ?_
        have e9 : (fX6_readPart ts pc rp rt tx rto rso) = (0, pc, rp, rt, rto, rso) := (hid_eq _).trans ((if_neg c1).trans ((if_pos c2).trans ((if_pos c3).trans rfl)))
        rw [e9]
        exact hg_zret C dX6_readPart_70 rfl rfl rfl
      · refine hg_aload_n C dX6_readPart_54 rfl 1 rfl ?_
        refine hg_dup C dX6_readPart_55 rfl ?_
        refine hg_get C (Cn := RX6) (T := TX6) (N := 23) (v := .int pc) mrX6_readPart_6 0 rfl rfl 3 (by decide) mmX6_readPart_f66 rfl dX6_readPart_56 ?_
        refine hg_iconst C (v := 1) dX6_readPart_59 (by decide) ?_
        refine hg_iadd C dX6_readPart_60 ?_
        refine hg_put C (Cn := RX6) (T := TX6) (N := 23) (ws' := [(mm, .inr (6, [.int 0, .ref m1, .int ts, .int (pc + 1), .int pe, .int tu, .ref m6, .ref m7, .int rp, .int rt, .ref ma, .ref mb, .ref mc, .ref md, .ref me, .int ac, .ref mg, .ref mh, .int sn, .ref mj, .ref mk, .long sd, .int sl])), (m1, .inl (E.2.1.1, 64, .inl tx)), (ma, .inl (E.2.1.1, 36, .inl rto)), (mb, .inl (E.2.1.1, 12, .inl rso))]) mrX6_readPart_6 tyX6 tyX6_ok nmX6 0 rfl rfl 3 (by decide) mmX6_readPart_f66 rfl rfl rfl rfl (Nat.le_of_ble_eq_true rfl) rfl dX6_readPart_61 ?_
        refine hg_aload_n C dX6_readPart_64 rfl 1 rfl ?_
        refine hg_callV C (ws' := [(mm, .inr (6, [.int 0, .ref m1, .int ts, .int ((fX6_readTune ts (pc + 1) rt tx rso).2.1), .int pe, .int tu, .ref m6, .ref m7, .int rp, .int ((fX6_readTune ts (pc + 1) rt tx rso).2.2.1), .ref ma, .ref mb, .ref mc, .ref md, .ref me, .int ac, .ref mg, .ref mh, .int sn, .ref mj, .ref mk, .long sd, .int sl])), (m1, .inl (E.2.1.1, 64, .inl tx)), (ma, .inl (E.2.1.1, 36, .inl rto)), (mb, .inl (E.2.1.1, 12, .inl ((fX6_readTune ts (pc + 1) rt tx rso).2.2.2)))]) (rest := []) (kX6_readTune l E mm m1 m6 m7 ma mb mc md me mg mh mj mk ts (pc + 1) pe tu rp rt ac sn sd sl tx rso (fig_s hfg hpl) (vp_cut (N := 4) rfl (by decide) hrt (by assumption))) hfX6_readTune gX6_readPart_X6_readTune ⟨Nat.le_of_ble_eq_true rfl, Nat.le_of_ble_eq_true rfl⟩ ⟨Nat.zero_le _, Nat.zero_le _⟩ [0, 1, 3] rfl (by decide) [mm, m1, mb] rfl rfl rfl 0 rfl rfl rfl rfl (Nat.le_of_ble_eq_true rfl) dX6_readPart_65 ?_
        have e9 : (fX6_readPart ts pc rp rt tx rto rso) = ((fX6_readTune ts (pc + 1) rt tx rso).1, (fX6_readTune ts (pc + 1) rt tx rso).2.1, rp, (fX6_readTune ts (pc + 1) rt tx rso).2.2.1, rto, (fX6_readTune ts (pc + 1) rt tx rso).2.2.2) := (hid_eq _).trans ((if_neg c1).trans ((if_pos c2).trans ((if_neg c3).trans rfl)))
        rw [e9]
        exact hg_zret C dX6_readPart_68 (nar01 (rb_t _ _ _ _ _)) rfl rfl
  · refine hg_aload_n C dX6_readPart_16 rfl 1 rfl ?_
    refine hg_get C (Cn := RX6) (T := TX6) (N := 23) (v := .int rp) mrX6_readPart_6 0 rfl rfl 8 (by decide) mmX6_readPart_f77 rfl dX6_readPart_17 ?_
    refine hg_bipush C (v := 6) dX6_readPart_20 (by decide) ?_
    refine hg_icmp_ge C (tgt := 40) dX6_readPart_22 (by decide) (fun c4 => ?_) (fun c4 => ?_)
    · refine hg_iload_n C dX6_readPart_40 rfl 0 rfl ?_
      refine hg_bipush C (v := 84) dX6_readPart_41 (by decide) ?_
      refine hg_icmp_ne C (tgt := 69) dX6_readPart_43 (by decide) (fun c5 => ?_) (fun c5 => ?_)
      · refine hg_iconst C (v := 0) dX6_readPart_69 (by decide) ?_
        have e9 : (fX6_readPart ts pc rp rt tx rto rso) = (0, pc, rp, rt, rto, rso) := (hid_eq _).trans ((if_pos c1).trans ((if_pos c4).trans ((if_neg c5).trans rfl)))
        rw [e9]
        exact hg_zret C dX6_readPart_70 rfl rfl rfl
      · refine hg_aload_n C dX6_readPart_46 rfl 1 rfl ?_
        refine hg_get C (Cn := RX6) (T := TX6) (N := 23) (v := .int rt) mrX6_readPart_6 0 rfl rfl 9 (by decide) mmX6_readPart_f80 rfl dX6_readPart_47 ?_
        refine hg_iconst C (v := 4) dX6_readPart_50 (by decide) ?_
        refine hg_icmp_ge C (tgt := 69) dX6_readPart_51 (by decide) (fun c6 => ?_) (fun c6 => ?_)
        · refine hg_iconst C (v := 0) dX6_readPart_69 (by decide) ?_
          have e9 : (fX6_readPart ts pc rp rt tx rto rso) = (0, pc, rp, rt, rto, rso) := (hid_eq _).trans ((if_pos c1).trans ((if_pos c4).trans ((if_pos c5).trans ((if_pos c6).trans rfl))))
          rw [e9]
          exact hg_zret C dX6_readPart_70 rfl rfl rfl
        · refine hg_aload_n C dX6_readPart_54 rfl 1 rfl ?_
          refine hg_dup C dX6_readPart_55 rfl ?_
          refine hg_get C (Cn := RX6) (T := TX6) (N := 23) (v := .int pc) mrX6_readPart_6 0 rfl rfl 3 (by decide) mmX6_readPart_f66 rfl dX6_readPart_56 ?_
          refine hg_iconst C (v := 1) dX6_readPart_59 (by decide) ?_
          refine hg_iadd C dX6_readPart_60 ?_
          refine hg_put C (Cn := RX6) (T := TX6) (N := 23) (ws' := [(mm, .inr (6, [.int 0, .ref m1, .int ts, .int (pc + 1), .int pe, .int tu, .ref m6, .ref m7, .int rp, .int rt, .ref ma, .ref mb, .ref mc, .ref md, .ref me, .int ac, .ref mg, .ref mh, .int sn, .ref mj, .ref mk, .long sd, .int sl])), (m1, .inl (E.2.1.1, 64, .inl tx)), (ma, .inl (E.2.1.1, 36, .inl rto)), (mb, .inl (E.2.1.1, 12, .inl rso))]) mrX6_readPart_6 tyX6 tyX6_ok nmX6 0 rfl rfl 3 (by decide) mmX6_readPart_f66 rfl rfl rfl rfl (Nat.le_of_ble_eq_true rfl) rfl dX6_readPart_61 ?_
          refine hg_aload_n C dX6_readPart_64 rfl 1 rfl ?_
          refine hg_callV C (ws' := [(mm, .inr (6, [.int 0, .ref m1, .int ts, .int ((fX6_readTune ts (pc + 1) rt tx rso).2.1), .int pe, .int tu, .ref m6, .ref m7, .int rp, .int ((fX6_readTune ts (pc + 1) rt tx rso).2.2.1), .ref ma, .ref mb, .ref mc, .ref md, .ref me, .int ac, .ref mg, .ref mh, .int sn, .ref mj, .ref mk, .long sd, .int sl])), (m1, .inl (E.2.1.1, 64, .inl tx)), (ma, .inl (E.2.1.1, 36, .inl rto)), (mb, .inl (E.2.1.1, 12, .inl ((fX6_readTune ts (pc + 1) rt tx rso).2.2.2)))]) (rest := []) (kX6_readTune l E mm m1 m6 m7 ma mb mc md me mg mh mj mk ts (pc + 1) pe tu rp rt ac sn sd sl tx rso (fig_s hfg hpl) (vp_cut (N := 4) rfl (by decide) hrt (by assumption))) hfX6_readTune gX6_readPart_X6_readTune ⟨Nat.le_of_ble_eq_true rfl, Nat.le_of_ble_eq_true rfl⟩ ⟨Nat.zero_le _, Nat.zero_le _⟩ [0, 1, 3] rfl (by decide) [mm, m1, mb] rfl rfl rfl 0 rfl rfl rfl rfl (Nat.le_of_ble_eq_true rfl) dX6_readPart_65 ?_
          have e9 : (fX6_readPart ts pc rp rt tx rto rso) = ((fX6_readTune ts (pc + 1) rt tx rso).1, (fX6_readTune ts (pc + 1) rt tx rso).2.1, rp, (fX6_readTune ts (pc + 1) rt tx rso).2.2.1, rto, (fX6_readTune ts (pc + 1) rt tx rso).2.2.2) := (hid_eq _).trans ((if_pos c1).trans ((if_pos c4).trans ((if_pos c5).trans ((if_neg c6).trans rfl))))
          rw [e9]
          exact hg_zret C dX6_readPart_68 (nar01 (rb_t _ _ _ _ _)) rfl rfl
    · refine hg_aload_n C dX6_readPart_25 rfl 1 rfl ?_
      refine hg_dup C dX6_readPart_26 rfl ?_
      refine hg_get C (Cn := RX6) (T := TX6) (N := 23) (v := .int pc) mrX6_readPart_6 0 rfl rfl 3 (by decide) mmX6_readPart_f66 rfl dX6_readPart_27 ?_
      refine hg_iconst C (v := 1) dX6_readPart_30 (by decide) ?_
      refine hg_iadd C dX6_readPart_31 ?_
      refine hg_put C (Cn := RX6) (T := TX6) (N := 23) (ws' := [(mm, .inr (6, [.int 0, .ref m1, .int ts, .int (pc + 1), .int pe, .int tu, .ref m6, .ref m7, .int rp, .int rt, .ref ma, .ref mb, .ref mc, .ref md, .ref me, .int ac, .ref mg, .ref mh, .int sn, .ref mj, .ref mk, .long sd, .int sl])), (m1, .inl (E.2.1.1, 64, .inl tx)), (ma, .inl (E.2.1.1, 36, .inl rto)), (mb, .inl (E.2.1.1, 12, .inl rso))]) mrX6_readPart_6 tyX6 tyX6_ok nmX6 0 rfl rfl 3 (by decide) mmX6_readPart_f66 rfl rfl rfl rfl (Nat.le_of_ble_eq_true rfl) rfl dX6_readPart_32 ?_
      refine hg_aload_n C dX6_readPart_35 rfl 1 rfl ?_
      refine hg_callV C (ws' := [(mm, .inr (6, [.int 0, .ref m1, .int ts, .int ((fX6_readPerson ts (pc + 1) rp tx rto).2.1), .int pe, .int tu, .ref m6, .ref m7, .int ((fX6_readPerson ts (pc + 1) rp tx rto).2.2.1), .int rt, .ref ma, .ref mb, .ref mc, .ref md, .ref me, .int ac, .ref mg, .ref mh, .int sn, .ref mj, .ref mk, .long sd, .int sl])), (m1, .inl (E.2.1.1, 64, .inl tx)), (ma, .inl (E.2.1.1, 36, .inl ((fX6_readPerson ts (pc + 1) rp tx rto).2.2.2))), (mb, .inl (E.2.1.1, 12, .inl rso))]) (rest := []) (kX6_readPerson l E mm m1 m6 m7 ma mb mc md me mg mh mj mk ts (pc + 1) pe tu rp rt ac sn sd sl tx rto (fig_s hfg hpl) (vp_cut (N := 6) rfl (by decide) hrp (by assumption))) hfX6_readPerson gX6_readPart_X6_readPerson ⟨Nat.le_of_ble_eq_true rfl, Nat.le_of_ble_eq_true rfl⟩ ⟨Nat.zero_le _, Nat.zero_le _⟩ [0, 1, 2] rfl (by decide) [mm, m1, ma] rfl rfl rfl 0 rfl rfl rfl rfl (Nat.le_of_ble_eq_true rfl) dX6_readPart_36 ?_
      have e9 : (fX6_readPart ts pc rp rt tx rto rso) = ((fX6_readPerson ts (pc + 1) rp tx rto).1, (fX6_readPerson ts (pc + 1) rp tx rto).2.1, (fX6_readPerson ts (pc + 1) rp tx rto).2.2.1, rt, (fX6_readPerson ts (pc + 1) rp tx rto).2.2.2, rso) := (hid_eq _).trans ((if_pos c1).trans ((if_neg c4).trans rfl))
      rw [e9]
      exact hg_zret C dX6_readPart_39 (nar01 (rb_p _ _ _ _ _)) rfl rfl
