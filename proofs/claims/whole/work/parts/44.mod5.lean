theorem goA_in {tu a : Int32} (ht : vp_in tu 5) (h : fX6_noTune tu a = 0) : vp_in a 4 := nt_in ht h
theorem dc_at {a : Int32} (ha : vp_in a 10) {i : Nat} (hi : i < a.toNatClampNeg) : dcr (a - 1) i = nI (a.toNatClampNeg - 1 - i) := by
  refine fa_at ha (fun h => ?_) (by omega)
  have : a.toNatClampNeg ≤ 0 := by
    obtain ⟨j, hj, rfl⟩ := vp_in_of ha (by decide)
    rw [nI_clamp (by omega)]
    exact (nI_leI (by omega) (by decide)).mp (show nI j ≤ nI 0 from h)
  omega
theorem dc_end {a : Int32} (ha : vp_in a 10) : dcr (a - 1) a.toNatClampNeg = -1 := by
  obtain ⟨j, hj, rfl⟩ := vp_in_of ha (by decide)
  rw [nI_clamp (by omega)]
  match j, hj with
  | 0, _ => rfl
  | j + 1, hj =>
    show dcr (nI (j + 1) - 1) j + (-1) = -1
    rw [show nI (j + 1) - 1 = nI j from pk_sub (a := j + 1) (b := 1) (by omega), dcr_nI j j (Nat.le_refl _), Nat.sub_self]
    rfl
theorem dc_done {a : Int32} (ha : vp_in a 10) : dcr (a - 1) a.toNatClampNeg < 0 := by
  rw [dc_end ha]
  decide
theorem dc_cont {a : Int32} (ha : vp_in a 10) {i : Nat} (hi : i < a.toNatClampNeg) : ¬ dcr (a - 1) i < 0 := by
  rw [dc_at ha hi]
  have := vp_cl ha
  exact nI_pos (by omega)
theorem dc_lt {a : Int32} (ha : vp_in a 10) {i : Nat} (hi : i ≤ a.toNatClampNeg) (h : ¬ dcr (a - 1) i < 0) : i < a.toNatClampNeg := by
  rcases Nat.lt_or_ge i a.toNatClampNeg with q | q
  · exact q
  · exfalso
    have e : i = a.toNatClampNeg := by omega
    rw [e] at h
    exact h (dc_done ha)
theorem pw10 : ∀ n : Nat, itN (stX6_power_4 10) n 1 = nI (10 ^ n)
  | 0 => rfl
  | n + 1 => by
    show stX6_power_4 10 n (itN (stX6_power_4 10) n 1) = _
    unfold stX6_power_4
    rw [hid_eq]
    have := pw10 n
    unfold stX6_power_4 at this
    rw [this, show (10 : Int32) = nI 10 from rfl, pk_mul, Nat.pow_succ]
theorem pw_eq (x : Int32) : fX6_power 10 x = nI (10 ^ x.toNatClampNeg) := by
  unfold fX6_power
  rw [hid_eq]
  exact pw10 _
theorem pw_ne {x : Int32} (h : x.toNatClampNeg ≤ 9) : ¬ fX6_power 10 x = 0 := by
  rw [pw_eq]
  have h1 : 10 ^ x.toNatClampNeg ≤ 10 ^ 9 := Nat.pow_le_pow_right (by decide) h
  have h2 : 0 < 10 ^ x.toNatClampNeg := Nat.pow_pos (by decide)
  exact nI_ne0 h2 (Nat.lt_of_le_of_lt h1 (by decide))
theorem pw_dc {a : Int32} (ha : vp_in a 10) {i : Nat} (hi : i < a.toNatClampNeg) : ¬ fX6_power 10 (dcr (a - 1) i) = 0 := by
  refine pw_ne ?_
  have := vp_cl ha
  rw [dc_at ha hi, nI_clamp (by omega)]
  omega
theorem pw_i {a : Int32} (ha : vp_in a 10) {i : Nat} (hi : i < a.toNatClampNeg) : ¬ fX6_power 10 (nI i) = 0 := by
  refine pw_ne ?_
  have := vp_cl ha
  rw [nI_clamp (by omega)]
  omega
theorem pw_j {a : Int32} (ha : vp_in a 10) {i : Nat} (hi : i < a.toNatClampNeg) : ¬ fX6_power 10 ((a - 1) - nI i) = 0 := by
  refine pw_ne ?_
  have := vp_cl ha
  obtain ⟨j, hj, rfl⟩ := vp_in_of ha (by decide)
  rw [nI_clamp (by omega)] at hi
  rw [show nI j - 1 = nI (j - 1) from pk_sub (b := 1) (by omega), pk_sub (by omega), nI_clamp (by omega)]
  omega
theorem in_vp {a b q : Int32} {b' q' : Int64} (hb' : b' = b.toInt64) (hq' : q' = q.toInt64) (h : ¬ fX6_in a.toInt64 b' q' = 0) (hb : 0 ≤ b) (hq : q ≤ 9) : vp_in a 10 := by
  subst hb' hq'
  rw [in_eq] at h
  exact isW_vp h hb hq
theorem in_20 {a : Int32} : a.toNatClampNeg < 2 ^ 31 := cl_lt a

theorem mmX6_tune_f47 : (Cond.fieldLink RX6 47 "HatRoundModel" "thrown" "I") ∈ wsX6_tune := (List.mem_cons_of_mem _ (List.mem_append_left _ (List.mem_of_getElem? (i := 0) rfl)))
theorem mrX6_tune_6 : ∀ w ∈ u_ws RX6 TX6 23, w ∈ wsX6_tune := fun _ h => (List.mem_cons_of_mem _ (List.mem_append_right _ h))
theorem mmX6_tune_k114 : (Cond.constantLong RX6 114 (2)) ∈ wsX6_tune := (List.mem_cons_of_mem _ (List.mem_append_left _ (List.mem_of_getElem? (i := 1) rfl)))
theorem mmX6_tune_f25 : (Cond.fieldLink RX6 25 "HatRoundModel" "page" "[I") ∈ wsX6_tune := (List.mem_cons_of_mem _ (List.mem_append_left _ (List.mem_of_getElem? (i := 3) rfl)))
theorem mmX6_tune_f16 : (Cond.fieldLink RX6 16 "HatRoundModel" "song" "[I") ∈ wsX6_tune := (List.mem_cons_of_mem _ (List.mem_append_left _ (List.mem_of_getElem? (i := 2) rfl)))
abbrev rmX6_tune : Room := { frames := 2, cells := 0, slots := 0, locals := 46 }
theorem hfX6_tune : hCF yX6_tune wsX6_tune rmX6_tune cX6_tune 3 (some .int) 2 := ⟨⟨_, rfl⟩, by decide +kernel, rfl, rfl⟩
noncomputable def fX6_tune (tu : Int32) (so : Nat → Int32) (pg : Nat → Int32) (a : Int32) (b : Int32) : Int32 := hid (if (fX6_noTune tu a) = 0 then if (fX6_in b.toInt64 0 2) = 0 then (if b = 3 then (pg (17 + a).toNatClampNeg) else ((-2) : Int32)) else (so ((3 * a) + b).toNatClampNeg) else (-1))
set_option maxHeartbeats 4000000 in
set_option maxRecDepth 100000 in
theorem kX6_tune (l : Launch) (E : hE) (mm : Nat) (m1 : Nat) (m6 : Nat) (m7 : Nat) (ma : Nat) (mb : Nat) (mc : Nat) (md : Nat) (me : Nat) (mg : Nat) (mh : Nat) (mj : Nat) (mk : Nat) (ts : Int32) (pc : Int32) (pe : Int32) (tu : Int32) (rp : Int32) (rt : Int32) (ac : Int32) (sn : Int32) (sd : Int64) (sl : Int32) (so : Nat → Int32) (pg : Nat → Int32) (a : Int32) (b : Int32) (ht5 : vp_in tu 5) : hC l yX6_tune wsX6_tune rmX6_tune E [.ref mm, .int a, .int b] [(mm, .inr (6, [.int 0, .ref m1, .int ts, .int pc, .int pe, .int tu, .ref m6, .ref m7, .int rp, .int rt, .ref ma, .ref mb, .ref mc, .ref md, .ref me, .int ac, .ref mg, .ref mh, .int sn, .ref mj, .ref mk, .long sd, .int sl])), (m7, .inl (E.2.1.1, 12, .inl so)), (mc, .inl (E.2.1.1, 21, .inl pg))] (some (.int (fX6_tune tu so pg a b))) [(mm, .inr (6, [.int 0, .ref m1, .int ts, .int pc, .int pe, .int tu, .ref m6, .ref m7, .int rp, .int rt, .ref ma, .ref mb, .ref mc, .ref md, .ref me, .int ac, .ref mg, .ref mh, .int sn, .ref mj, .ref mk, .long sd, .int sl])), (m7, .inl (E.2.1.1, 12, .inl so)), (mc, .inl (E.2.1.1, 21, .inl pg))] := by
  refine hC_intro (cc := cX6_tune) (maxL := 3) (ret := (some .int)) (lv0 := [(0, .ref mm), (1, .int a), (2, .int b)]) (by decide) rfl (Nat.le_of_ble_eq_true rfl) rfl ?_
  intro p e s m below meth c A C
  refine hg_aload_n C dX6_tune_0 rfl 0 rfl ?_
  refine hg_iconst C (v := 0) dX6_tune_1 (by decide) ?_
  refine hg_put C (Cn := RX6) (T := TX6) (N := 23) (ws' := [(mm, .inr (6, [.int 0, .ref m1, .int ts, .int pc, .int pe, .int tu, .ref m6, .ref m7, .int rp, .int rt, .ref ma, .ref mb, .ref mc, .ref md, .ref me, .int ac, .ref mg, .ref mh, .int sn, .ref mj, .ref mk, .long sd, .int sl])), (m7, .inl (E.2.1.1, 12, .inl so)), (mc, .inl (E.2.1.1, 21, .inl pg))]) mrX6_tune_6 tyX6 tyX6_ok nmX6 0 rfl rfl 0 (by decide) mmX6_tune_f47 rfl rfl rfl rfl (Nat.le_of_ble_eq_true rfl) rfl dX6_tune_2 ?_
  refine hg_aload_n C dX6_tune_5 rfl 0 rfl ?_
  refine hg_iload_n C dX6_tune_6 rfl 1 rfl ?_
  refine hg_callV C (ws' := [(mm, .inr (6, [.int 0, .ref m1, .int ts, .int pc, .int pe, .int tu, .ref m6, .ref m7, .int rp, .int rt, .ref ma, .ref mb, .ref mc, .ref md, .ref me, .int ac, .ref mg, .ref mh, .int sn, .ref mj, .ref mk, .long sd, .int sl])), (m7, .inl (E.2.1.1, 12, .inl so)), (mc, .inl (E.2.1.1, 21, .inl pg))]) (rest := []) (kX6_noTune l E mm m1 m6 m7 ma mb mc md me mg mh mj mk ts pc pe tu rp rt ac sn sd sl a) hfX6_noTune gX6_tune_X6_noTune ⟨Nat.le_of_ble_eq_true rfl, Nat.le_of_ble_eq_true rfl⟩ ⟨Nat.zero_le _, Nat.zero_le _⟩ [0] rfl (by decide) [mm] rfl rfl rfl 0 rfl rfl rfl rfl (Nat.le_of_ble_eq_true rfl) dX6_tune_7 ?_
  refine hg_if_eq C (tgt := 15) dX6_tune_10 (by decide) (fun c1 => ?_) (fun c1 => ?_)
  · refine hg_iload_n C dX6_tune_15 rfl 2 rfl ?_
    refine hg_i2l C dX6_tune_16 ?_
    refine hg_lconst C (v := 0) dX6_tune_17 rfl ?_
    refine hg_ldc2 C mmX6_tune_k114 dX6_tune_18 ?_
    refine hg_callS C (ws' := [(mm, .inr (6, [.int 0, .ref m1, .int ts, .int pc, .int pe, .int tu, .ref m6, .ref m7, .int rp, .int rt, .ref ma, .ref mb, .ref mc, .ref md, .ref me, .int ac, .ref mg, .ref mh, .int sn, .ref mj, .ref mk, .long sd, .int sl])), (m7, .inl (E.2.1.1, 12, .inl so)), (mc, .inl (E.2.1.1, 21, .inl pg))]) (rest := []) (kX6_in l E b.toInt64 0 2) hfX6_in gX6_tune_X6_in ⟨Nat.le_of_ble_eq_true rfl, Nat.le_of_ble_eq_true rfl⟩ ⟨Nat.zero_le _, Nat.zero_le _⟩ [] rfl (by decide) [] rfl rfl rfl rfl (Nat.le_of_ble_eq_true rfl) dX6_tune_21 ?_
    refine hg_join (J := 59) (v := if (fX6_in b.toInt64 0 2) = 0 then (if b = 3 then (pg (17 + a).toNatClampNeg) else ((-2) : Int32)) else (so ((3 * a) + b).toNatClampNeg)) (st1 := []) (fun jj => ?_) ?_
    · refine hg_if_eq C (tgt := 40) dX6_tune_24 (by decide) (fun c2 => ?_) (fun c2 => ?_)
      · refine hg_iload_n C dX6_tune_40 rfl 2 rfl ?_
        refine hg_iconst C (v := 3) dX6_tune_41 (by decide) ?_
        refine hg_join (J := 59) (v := if b = 3 then (pg (17 + a).toNatClampNeg) else ((-2) : Int32)) (st1 := []) (fun jj => ?_) ?_
        · refine hg_icmp_ne C (tgt := 57) dX6_tune_42 (by decide) (fun c3 => ?_) (fun c3 => ?_)
          · refine hg_bipush C (v := (-2)) dX6_tune_57 (by decide) ?_
            exact hg_top (v := if b = 3 then (pg (17 + a).toNatClampNeg) else ((-2) : Int32)) (v' := (-2)) ((if_neg c3).trans rfl) jj
          · refine hg_aload_n C dX6_tune_45 rfl 0 rfl ?_
            refine hg_get C (Cn := RX6) (T := TX6) (N := 23) (v := .ref mc) mrX6_tune_6 0 rfl rfl 12 (by decide) mmX6_tune_f25 rfl dX6_tune_46 ?_
            refine hg_bipush C (v := 17) dX6_tune_49 (by decide) ?_
            refine hg_iload_n C dX6_tune_51 rfl 1 rfl ?_
            refine hg_iadd C dX6_tune_52 ?_
            refine hg_iald C 2 rfl (ix_17 (nt_in ht5 (by assumption))) dX6_tune_53 ?_
            refine hg_goto C (tgt := 59) dX6_tune_54 (by decide) ?_
            exact hg_top (v := if b = 3 then (pg (17 + a).toNatClampNeg) else ((-2) : Int32)) (v' := pg (17 + a).toNatClampNeg) ((if_pos c3).trans rfl) jj
        exact hg_top (v := if (fX6_in b.toInt64 0 2) = 0 then (if b = 3 then (pg (17 + a).toNatClampNeg) else ((-2) : Int32)) else (so ((3 * a) + b).toNatClampNeg)) (v' := if b = 3 then (pg (17 + a).toNatClampNeg) else ((-2) : Int32)) ((if_pos c2).trans rfl) jj
      · refine hg_aload_n C dX6_tune_27 rfl 0 rfl ?_
        refine hg_get C (Cn := RX6) (T := TX6) (N := 23) (v := .ref m7) mrX6_tune_6 0 rfl rfl 7 (by decide) mmX6_tune_f16 rfl dX6_tune_28 ?_
        refine hg_iconst C (v := 3) dX6_tune_31 (by decide) ?_
        refine hg_iload_n C dX6_tune_32 rfl 1 rfl ?_
        refine hg_imul C dX6_tune_33 ?_
        refine hg_iload_n C dX6_tune_34 rfl 2 rfl ?_
        refine hg_iadd C dX6_tune_35 ?_
        refine hg_iald C 1 rfl (ix_3w (nt_in ht5 (by assumption)) (by assumption)) dX6_tune_36 ?_
        refine hg_goto C (tgt := 59) dX6_tune_37 (by decide) ?_
        exact hg_top (v := if (fX6_in b.toInt64 0 2) = 0 then (if b = 3 then (pg (17 + a).toNatClampNeg) else ((-2) : Int32)) else (so ((3 * a) + b).toNatClampNeg)) (v' := so ((3 * a) + b).toNatClampNeg) ((if_neg c2).trans rfl) jj
    have e9 : (fX6_tune tu so pg a b) = if (fX6_in b.toInt64 0 2) = 0 then (if b = 3 then (pg (17 + a).toNatClampNeg) else ((-2) : Int32)) else (so ((3 * a) + b).toNatClampNeg) := (hid_eq _).trans ((if_pos c1).trans rfl)
    rw [e9]
    exact hg_iret C dX6_tune_59 rfl rfl
  · refine hg_iconst C (v := (-1)) dX6_tune_13 (by decide) ?_
    have e9 : (fX6_tune tu so pg a b) = (-1) := (hid_eq _).trans ((if_neg c1).trans rfl)
    rw [e9]
    exact hg_iret C dX6_tune_14 rfl rfl
theorem mmX6_play_f47 : (Cond.fieldLink RX6 47 "HatRoundModel" "thrown" "I") ∈ wsX6_play := (List.mem_cons_of_mem _ (List.mem_append_left _ (List.mem_append_left _ (List.mem_of_getElem? (i := 0) rfl))))
theorem mrX6_play_6 : ∀ w ∈ u_ws RX6 TX6 23, w ∈ wsX6_play := fun _ h => (List.mem_cons_of_mem _ (List.mem_append_right _ h))
theorem mmX6_play_f25 : (Cond.fieldLink RX6 25 "HatRoundModel" "page" "[I") ∈ wsX6_play := (List.mem_cons_of_mem _ (List.mem_append_left _ (List.mem_append_left _ (List.mem_of_getElem? (i := 1) rfl))))
abbrev rmX6_play : Room := { frames := 2, cells := 0, slots := 0, locals := 46 }
theorem hfX6_play : hCF yX6_play wsX6_play rmX6_play cX6_play 2 (some .int) 1 := ⟨⟨_, rfl⟩, by decide +kernel, rfl, rfl⟩
noncomputable def fX6_play (pe : Int32) (tu : Int32) (ac : Int32) (to : Nat → Int32) (so : Nat → Int32) (pg : Nat → Int32) (bk : Nat → Int32) (a : Int32) : Int32 × Int32 × (Nat → Int32) × (Nat → Int32) := hid (if (fX6_noTune tu a) = 0 then ((fX6_goPlay pe to so pg a).1, (fX6_note ac pg bk).1, (fX6_goPlay pe to so pg a).2, (fX6_note ac pg bk).2) else ((-1), ac, pg, bk))
set_option maxHeartbeats 4000000 in
set_option maxRecDepth 100000 in
theorem kX6_play (l : Launch) (E : hE) (mm : Nat) (m1 : Nat) (m6 : Nat) (m7 : Nat) (ma : Nat) (mb : Nat) (mc : Nat) (md : Nat) (me : Nat) (mg : Nat) (mh : Nat) (mj : Nat) (mk : Nat) (ts : Int32) (pc : Int32) (pe : Int32) (tu : Int32) (rp : Int32) (rt : Int32) (ac : Int32) (sn : Int32) (sd : Int64) (sl : Int32) (to : Nat → Int32) (so : Nat → Int32) (pg : Nat → Int32) (bk : Nat → Int32) (a : Int32) (hp7 : vp_in pe 7) (ht5 : vp_in tu 5) (hac : vp_in ac 13) : hC l yX6_play wsX6_play rmX6_play E [.ref mm, .int a] [(mm, .inr (6, [.int 0, .ref m1, .int ts, .int pc, .int pe, .int tu, .ref m6, .ref m7, .int rp, .int rt, .ref ma, .ref mb, .ref mc, .ref md, .ref me, .int ac, .ref mg, .ref mh, .int sn, .ref mj, .ref mk, .long sd, .int sl])), (m6, .inl (E.2.1.1, 36, .inl to)), (m7, .inl (E.2.1.1, 12, .inl so)), (mc, .inl (E.2.1.1, 21, .inl pg)), (me, .inl (E.2.1.1, 252, .inl bk))] (some (.int ((fX6_play pe tu ac to so pg bk a).1))) [(mm, .inr (6, [.int 0, .ref m1, .int ts, .int pc, .int pe, .int tu, .ref m6, .ref m7, .int rp, .int rt, .ref ma, .ref mb, .ref mc, .ref md, .ref me, .int ((fX6_play pe tu ac to so pg bk a).2.1), .ref mg, .ref mh, .int sn, .ref mj, .ref mk, .long sd, .int sl])), (m6, .inl (E.2.1.1, 36, .inl to)), (m7, .inl (E.2.1.1, 12, .inl so)), (mc, .inl (E.2.1.1, 21, .inl ((fX6_play pe tu ac to so pg bk a).2.2.1))), (me, .inl (E.2.1.1, 252, .inl ((fX6_play pe tu ac to so pg bk a).2.2.2)))] := by
  refine hC_intro (cc := cX6_play) (maxL := 2) (ret := (some .int)) (lv0 := [(0, .ref mm), (1, .int a)]) (by decide) rfl (Nat.le_of_ble_eq_true rfl) rfl ?_
  intro p e s m below meth c A C
  refine hg_aload_n C dX6_play_0 rfl 0 rfl ?_
  refine hg_iconst C (v := 0) dX6_play_1 (by decide) ?_
  refine hg_put C (Cn := RX6) (T := TX6) (N := 23) (ws' := [(mm, .inr (6, [.int 0, .ref m1, .int ts, .int pc, .int pe, .int tu, .ref m6, .ref m7, .int rp, .int rt, .ref ma, .ref mb, .ref mc, .ref md, .ref me, .int ac, .ref mg, .ref mh, .int sn, .ref mj, .ref mk, .long sd, .int sl])), (m6, .inl (E.2.1.1, 36, .inl to)), (m7, .inl (E.2.1.1, 12, .inl so)), (mc, .inl (E.2.1.1, 21, .inl pg)), (me, .inl (E.2.1.1, 252, .inl bk))]) mrX6_play_6 tyX6 tyX6_ok nmX6 0 rfl rfl 0 (by decide) mmX6_play_f47 rfl rfl rfl rfl (Nat.le_of_ble_eq_true rfl) rfl dX6_play_2 ?_
  refine hg_aload_n C dX6_play_5 rfl 0 rfl ?_
  refine hg_iload_n C dX6_play_6 rfl 1 rfl ?_
  refine hg_callV C (ws' := [(mm, .inr (6, [.int 0, .ref m1, .int ts, .int pc, .int pe, .int tu, .ref m6, .ref m7, .int rp, .int rt, .ref ma, .ref mb, .ref mc, .ref md, .ref me, .int ac, .ref mg, .ref mh, .int sn, .ref mj, .ref mk, .long sd, .int sl])), (m6, .inl (E.2.1.1, 36, .inl to)), (m7, .inl (E.2.1.1, 12, .inl so)), (mc, .inl (E.2.1.1, 21, .inl pg)), (me, .inl (E.2.1.1, 252, .inl bk))]) (rest := []) (kX6_noTune l E mm m1 m6 m7 ma mb mc md me mg mh mj mk ts pc pe tu rp rt ac sn sd sl a) hfX6_noTune gX6_play_X6_noTune ⟨Nat.le_of_ble_eq_true rfl, Nat.le_of_ble_eq_true rfl⟩ ⟨Nat.zero_le _, Nat.zero_le _⟩ [0] rfl (by decide) [mm] rfl rfl rfl 0 rfl rfl rfl rfl (Nat.le_of_ble_eq_true rfl) dX6_play_7 ?_
  refine hg_if_eq C (tgt := 15) dX6_play_10 (by decide) (fun c1 => ?_) (fun c1 => ?_)
  · refine hg_aload_n C dX6_play_15 rfl 0 rfl ?_
    refine hg_callV C (ws' := [(mm, .inr (6, [.int 0, .ref m1, .int ts, .int pc, .int pe, .int tu, .ref m6, .ref m7, .int rp, .int rt, .ref ma, .ref mb, .ref mc, .ref md, .ref me, .int ((fX6_note ac pg bk).1), .ref mg, .ref mh, .int sn, .ref mj, .ref mk, .long sd, .int sl])), (m6, .inl (E.2.1.1, 36, .inl to)), (m7, .inl (E.2.1.1, 12, .inl so)), (mc, .inl (E.2.1.1, 21, .inl pg)), (me, .inl (E.2.1.1, 252, .inl ((fX6_note ac pg bk).2)))]) (rest := []) (kX6_note l E mm m1 m6 m7 ma mb mc md me mg mh mj mk ts pc pe tu rp rt ac sn sd sl pg bk hac) hfX6_note gX6_play_X6_note ⟨Nat.le_of_ble_eq_true rfl, Nat.le_of_ble_eq_true rfl⟩ ⟨Nat.zero_le _, Nat.zero_le _⟩ [0, 3, 4] rfl (by decide) [mm, mc, me] rfl rfl rfl 0 rfl rfl rfl rfl (Nat.le_of_ble_eq_true rfl) dX6_play_16 ?_
    refine hg_aload_n C dX6_play_19 rfl 0 rfl ?_
    refine hg_aload_n C dX6_play_20 rfl 0 rfl ?_
    refine hg_get C (Cn := RX6) (T := TX6) (N := 23) (v := .ref mc) mrX6_play_6 0 rfl rfl 12 (by decide) mmX6_play_f25 rfl dX6_play_21 ?_
    refine hg_iload_n C dX6_play_24 rfl 1 rfl ?_
    refine hg_callV C (ws' := [(mm, .inr (6, [.int 0, .ref m1, .int ts, .int pc, .int pe, .int tu, .ref m6, .ref m7, .int rp, .int rt, .ref ma, .ref mb, .ref mc, .ref md, .ref me, .int ((fX6_note ac pg bk).1), .ref mg, .ref mh, .int sn, .ref mj, .ref mk, .long sd, .int sl])), (m6, .inl (E.2.1.1, 36, .inl to)), (m7, .inl (E.2.1.1, 12, .inl so)), (mc, .inl (E.2.1.1, 21, .inl ((fX6_goPlay pe to so pg a).2))), (me, .inl (E.2.1.1, 252, .inl ((fX6_note ac pg bk).2)))]) (rest := []) (kX6_goPlay l E mm m1 m6 m7 ma mb mc md me mg mh mj mk ts pc pe tu rp rt ((fX6_note ac pg bk).1) sn sd sl to so mc pg a (Nat.le_of_lt_succ (vp_cl hp7)) (nt_in ht5 (by assumption))) hfX6_goPlay gX6_play_X6_goPlay ⟨Nat.le_of_ble_eq_true rfl, Nat.le_of_ble_eq_true rfl⟩ ⟨Nat.zero_le _, Nat.zero_le _⟩ [0, 1, 2, 3] rfl (by decide) [mm, m6, m7, mc] rfl rfl rfl 0 rfl rfl rfl rfl (Nat.le_of_ble_eq_true rfl) dX6_play_25 ?_
    have e9 : (fX6_play pe tu ac to so pg bk a) = ((fX6_goPlay pe to so pg a).1, (fX6_note ac pg bk).1, (fX6_goPlay pe to so pg a).2, (fX6_note ac pg bk).2) := (hid_eq _).trans ((if_pos c1).trans rfl)
    rw [e9]
    exact hg_iret C dX6_play_28 rfl rfl
  · refine hg_iconst C (v := (-1)) dX6_play_13 (by decide) ?_
    have e9 : (fX6_play pe tu ac to so pg bk a) = ((-1), ac, pg, bk) := (hid_eq _).trans ((if_neg c1).trans rfl)
    rw [e9]
    exact hg_iret C dX6_play_14 rfl rfl
theorem mmX6_round_f47 : (Cond.fieldLink RX6 47 "HatRoundModel" "thrown" "I") ∈ wsX6_round := (List.mem_cons_of_mem _ (List.mem_append_left _ (List.mem_append_left _ (List.mem_of_getElem? (i := 0) rfl))))
theorem mrX6_round_6 : ∀ w ∈ u_ws RX6 TX6 23, w ∈ wsX6_round := fun _ h => (List.mem_cons_of_mem _ (List.mem_append_right _ h))
theorem mmX6_round_f25 : (Cond.fieldLink RX6 25 "HatRoundModel" "page" "[I") ∈ wsX6_round := (List.mem_cons_of_mem _ (List.mem_append_left _ (List.mem_append_left _ (List.mem_of_getElem? (i := 1) rfl))))
abbrev rmX6_round : Room := { frames := 2, cells := 0, slots := 0, locals := 49 }
theorem hfX6_round : hCF yX6_round wsX6_round rmX6_round cX6_round 2 (some .int) 1 := ⟨⟨_, rfl⟩, by decide +kernel, rfl, rfl⟩
noncomputable def fX6_round (pe : Int32) (ac : Int32) (sl : Int32) (to : Nat → Int32) (pg : Nat → Int32) (bk : Nat → Int32) (a : Int32) : Int32 × Int32 × Int32 × (Nat → Int32) × (Nat → Int32) := hid (if (fX6_in a.toInt64 0 1) = 0 then ((-2), ac, sl, pg, bk) else ((fX6_goRound pe to pg a).1, (fX6_note ac pg bk).1, (fX6_goRound pe to pg a).2.1, (fX6_goRound pe to pg a).2.2, (fX6_note ac pg bk).2))
set_option maxHeartbeats 4000000 in
set_option maxRecDepth 100000 in
theorem kX6_round (l : Launch) (E : hE) (mm : Nat) (m1 : Nat) (m6 : Nat) (m7 : Nat) (ma : Nat) (mb : Nat) (mc : Nat) (md : Nat) (me : Nat) (mg : Nat) (mh : Nat) (mj : Nat) (mk : Nat) (ts : Int32) (pc : Int32) (pe : Int32) (tu : Int32) (rp : Int32) (rt : Int32) (ac : Int32) (sn : Int32) (sd : Int64) (sl : Int32) (to : Nat → Int32) (so : Nat → Int32) (pg : Nat → Int32) (bk : Nat → Int32) (a : Int32) (hp7 : vp_in pe 7) (hac : vp_in ac 13) : hC l yX6_round wsX6_round rmX6_round E [.ref mm, .int a] [(mm, .inr (6, [.int 0, .ref m1, .int ts, .int pc, .int pe, .int tu, .ref m6, .ref m7, .int rp, .int rt, .ref ma, .ref mb, .ref mc, .ref md, .ref me, .int ac, .ref mg, .ref mh, .int sn, .ref mj, .ref mk, .long sd, .int sl])), (m6, .inl (E.2.1.1, 36, .inl to)), (m7, .inl (E.2.1.1, 12, .inl so)), (mc, .inl (E.2.1.1, 21, .inl pg)), (me, .inl (E.2.1.1, 252, .inl bk))] (some (.int ((fX6_round pe ac sl to pg bk a).1))) [(mm, .inr (6, [.int 0, .ref m1, .int ts, .int pc, .int pe, .int tu, .ref m6, .ref m7, .int rp, .int rt, .ref ma, .ref mb, .ref mc, .ref md, .ref me, .int ((fX6_round pe ac sl to pg bk a).2.1), .ref mg, .ref mh, .int sn, .ref mj, .ref mk, .long sd, .int ((fX6_round pe ac sl to pg bk a).2.2.1)])), (m6, .inl (E.2.1.1, 36, .inl to)), (m7, .inl (E.2.1.1, 12, .inl so)), (mc, .inl (E.2.1.1, 21, .inl ((fX6_round pe ac sl to pg bk a).2.2.2.1))), (me, .inl (E.2.1.1, 252, .inl ((fX6_round pe ac sl to pg bk a).2.2.2.2)))] := by
  refine hC_intro (cc := cX6_round) (maxL := 2) (ret := (some .int)) (lv0 := [(0, .ref mm), (1, .int a)]) (by decide) rfl (Nat.le_of_ble_eq_true rfl) rfl ?_
  intro p e s m below meth c A C
  refine hg_aload_n C dX6_round_0 rfl 0 rfl ?_
  refine hg_iconst C (v := 0) dX6_round_1 (by decide) ?_
  refine hg_put C (Cn := RX6) (T := TX6) (N := 23) (ws' := [(mm, .inr (6, [.int 0, .ref m1, .int ts, .int pc, .int pe, .int tu, .ref m6, .ref m7, .int rp, .int rt, .ref ma, .ref mb, .ref mc, .ref md, .ref me, .int ac, .ref mg, .ref mh, .int sn, .ref mj, .ref mk, .long sd, .int sl])), (m6, .inl (E.2.1.1, 36, .inl to)), (m7, .inl (E.2.1.1, 12, .inl so)), (mc, .inl (E.2.1.1, 21, .inl pg)), (me, .inl (E.2.1.1, 252, .inl bk))]) mrX6_round_6 tyX6 tyX6_ok nmX6 0 rfl rfl 0 (by decide) mmX6_round_f47 rfl rfl rfl rfl (Nat.le_of_ble_eq_true rfl) rfl dX6_round_2 ?_
  refine hg_iload_n C dX6_round_5 rfl 1 rfl ?_
  refine hg_i2l C dX6_round_6 ?_
  refine hg_lconst C (v := 0) dX6_round_7 rfl ?_
  refine hg_lconst C (v := 1) dX6_round_8 rfl ?_
  refine hg_callS C (ws' := [(mm, .inr (6, [.int 0, .ref m1, .int ts, .int pc, .int pe, .int tu, .ref m6, .ref m7, .int rp, .int rt, .ref ma, .ref mb, .ref mc, .ref md, .ref me, .int ac, .ref mg, .ref mh, .int sn, .ref mj, .ref mk, .long sd, .int sl])), (m6, .inl (E.2.1.1, 36, .inl to)), (m7, .inl (E.2.1.1, 12, .inl so)), (mc, .inl (E.2.1.1, 21, .inl pg)), (me, .inl (E.2.1.1, 252, .inl bk))]) (rest := []) (kX6_in l E a.toInt64 0 1) hfX6_in gX6_round_X6_in ⟨Nat.le_of_ble_eq_true rfl, Nat.le_of_ble_eq_true rfl⟩ ⟨Nat.zero_le _, Nat.zero_le _⟩ [] rfl (by decide) [] rfl rfl rfl rfl (Nat.le_of_ble_eq_true rfl) dX6_round_9 ?_
  refine hg_if_ne C (tgt := 18) dX6_round_12 (by decide) (fun c1 => ?_) (fun c1 => ?_)
  · refine hg_aload_n C dX6_round_18 rfl 0 rfl ?_
    refine hg_callV C (ws' := [(mm, .inr (6, [.int 0, .ref m1, .int ts, .int pc, .int pe, .int tu, .ref m6, .ref m7, .int rp, .int rt, .ref ma, .ref mb, .ref mc, .ref md, .ref me, .int ((fX6_note ac pg bk).1), .ref mg, .ref mh, .int sn, .ref mj, .ref mk, .long sd, .int sl])), (m6, .inl (E.2.1.1, 36, .inl to)), (m7, .inl (E.2.1.1, 12, .inl so)), (mc, .inl (E.2.1.1, 21, .inl pg)), (me, .inl (E.2.1.1, 252, .inl ((fX6_note ac pg bk).2)))]) (rest := []) (kX6_note l E mm m1 m6 m7 ma mb mc md me mg mh mj mk ts pc pe tu rp rt ac sn sd sl pg bk hac) hfX6_note gX6_round_X6_note ⟨Nat.le_of_ble_eq_true rfl, Nat.le_of_ble_eq_true rfl⟩ ⟨Nat.zero_le _, Nat.zero_le _⟩ [0, 3, 4] rfl (by decide) [mm, mc, me] rfl rfl rfl 0 rfl rfl rfl rfl (Nat.le_of_ble_eq_true rfl) dX6_round_19 ?_
    refine hg_aload_n C dX6_round_22 rfl 0 rfl ?_
    refine hg_aload_n C dX6_round_23 rfl 0 rfl ?_
    refine hg_get C (Cn := RX6) (T := TX6) (N := 23) (v := .ref mc) mrX6_round_6 0 rfl rfl 12 (by decide) mmX6_round_f25 rfl dX6_round_24 ?_
    refine hg_iload_n C dX6_round_27 rfl 1 rfl ?_
    refine hg_callV C (ws' := [(mm, .inr (6, [.int 0, .ref m1, .int ts, .int pc, .int pe, .int tu, .ref m6, .ref m7, .int rp, .int rt, .ref ma, .ref mb, .ref mc, .ref md, .ref me, .int ((fX6_note ac pg bk).1), .ref mg, .ref mh, .int sn, .ref mj, .ref mk, .long sd, .int ((fX6_goRound pe to pg a).2.1)])), (m6, .inl (E.2.1.1, 36, .inl to)), (m7, .inl (E.2.1.1, 12, .inl so)), (mc, .inl (E.2.1.1, 21, .inl ((fX6_goRound pe to pg a).2.2))), (me, .inl (E.2.1.1, 252, .inl ((fX6_note ac pg bk).2)))]) (rest := []) (kX6_goRound l E mm m1 m6 m7 ma mb mc md me mg mh mj mk ts pc pe tu rp rt ((fX6_note ac pg bk).1) sn sd sl to so mc pg a (Nat.le_of_lt_succ (vp_cl hp7))) hfX6_goRound gX6_round_X6_goRound ⟨Nat.le_of_ble_eq_true rfl, Nat.le_of_ble_eq_true rfl⟩ ⟨Nat.zero_le _, Nat.zero_le _⟩ [0, 1, 2, 3] rfl (by decide) [mm, m6, m7, mc] rfl rfl rfl 0 rfl rfl rfl rfl (Nat.le_of_ble_eq_true rfl) dX6_round_28 ?_
    have e9 : (fX6_round pe ac sl to pg bk a) = ((fX6_goRound pe to pg a).1, (fX6_note ac pg bk).1, (fX6_goRound pe to pg a).2.1, (fX6_goRound pe to pg a).2.2, (fX6_note ac pg bk).2) := (hid_eq _).trans ((if_neg c1).trans rfl)
    rw [e9]
    exact hg_iret C dX6_round_31 rfl rfl
  · refine hg_bipush C (v := (-2)) dX6_round_15 (by decide) ?_
    have e9 : (fX6_round pe ac sl to pg bk a) = ((-2), ac, sl, pg, bk) := (hid_eq _).trans ((if_pos c1).trans rfl)
    rw [e9]
    exact hg_iret C dX6_round_17 rfl rfl
theorem mmX6_bait_f47 : (Cond.fieldLink RX6 47 "HatRoundModel" "thrown" "I") ∈ wsX6_bait := (List.mem_cons_of_mem _ (List.mem_append_left _ (List.mem_of_getElem? (i := 0) rfl)))
theorem mrX6_bait_6 : ∀ w ∈ u_ws RX6 TX6 23, w ∈ wsX6_bait := fun _ h => (List.mem_cons_of_mem _ (List.mem_append_right _ h))
theorem mmX6_bait_k135 : (Cond.constantLong RX6 135 (9)) ∈ wsX6_bait := (List.mem_cons_of_mem _ (List.mem_append_left _ (List.mem_of_getElem? (i := 1) rfl)))
theorem mmX6_bait_f25 : (Cond.fieldLink RX6 25 "HatRoundModel" "page" "[I") ∈ wsX6_bait := (List.mem_cons_of_mem _ (List.mem_append_left _ (List.mem_of_getElem? (i := 2) rfl)))
abbrev rmX6_bait : Room := { frames := 1, cells := 0, slots := 0, locals := 25 }
theorem hfX6_bait : hCF yX6_bait wsX6_bait rmX6_bait cX6_bait 3 (some .int) 1 := ⟨⟨_, rfl⟩, by decide +kernel, rfl, rfl⟩
noncomputable def fX6_bait (ac : Int32) (pg : Nat → Int32) (bk : Nat → Int32) (a : Int32) : Int32 × Int32 × (Nat → Int32) × (Nat → Int32) := hid (if (fX6_in a.toInt64 0 9) = 0 then ((-2), ac, pg, bk) else if (pg (16 : Int32).toNatClampNeg) = a then ((-3), ac, pg, bk) else (pg (16 : Int32).toNatClampNeg, (fX6_note ac pg bk).1, upd pg (16 : Int32).toNatClampNeg a, (fX6_note ac pg bk).2))
set_option maxHeartbeats 4000000 in
set_option maxRecDepth 100000 in
theorem kX6_bait (l : Launch) (E : hE) (mm : Nat) (m1 : Nat) (m6 : Nat) (m7 : Nat) (ma : Nat) (mb : Nat) (mc : Nat) (md : Nat) (me : Nat) (mg : Nat) (mh : Nat) (mj : Nat) (mk : Nat) (ts : Int32) (pc : Int32) (pe : Int32) (tu : Int32) (rp : Int32) (rt : Int32) (ac : Int32) (sn : Int32) (sd : Int64) (sl : Int32) (pg : Nat → Int32) (bk : Nat → Int32) (a : Int32) (hac : vp_in ac 13) : hC l yX6_bait wsX6_bait rmX6_bait E [.ref mm, .int a] [(mm, .inr (6, [.int 0, .ref m1, .int ts, .int pc, .int pe, .int tu, .ref m6, .ref m7, .int rp, .int rt, .ref ma, .ref mb, .ref mc, .ref md, .ref me, .int ac, .ref mg, .ref mh, .int sn, .ref mj, .ref mk, .long sd, .int sl])), (mc, .inl (E.2.1.1, 21, .inl pg)), (me, .inl (E.2.1.1, 252, .inl bk))] (some (.int ((fX6_bait ac pg bk a).1))) [(mm, .inr (6, [.int 0, .ref m1, .int ts, .int pc, .int pe, .int tu, .ref m6, .ref m7, .int rp, .int rt, .ref ma, .ref mb, .ref mc, .ref md, .ref me, .int ((fX6_bait ac pg bk a).2.1), .ref mg, .ref mh, .int sn, .ref mj, .ref mk, .long sd, .int sl])), (mc, .inl (E.2.1.1, 21, .inl ((fX6_bait ac pg bk a).2.2.1))), (me, .inl (E.2.1.1, 252, .inl ((fX6_bait ac pg bk a).2.2.2)))] := by
  refine hC_intro (cc := cX6_bait) (maxL := 3) (ret := (some .int)) (lv0 := [(0, .ref mm), (1, .int a)]) (by decide) rfl (Nat.le_of_ble_eq_true rfl) rfl ?_
  intro p e s m below meth c A C
  refine hg_aload_n C dX6_bait_0 rfl 0 rfl ?_
  refine hg_iconst C (v := 0) dX6_bait_1 (by decide) ?_
  refine hg_put C (Cn := RX6) (T := TX6) (N := 23) (ws' := [(mm, .inr (6, [.int 0, .ref m1, .int ts, .int pc, .int pe, .int tu, .ref m6, .ref m7, .int rp, .int rt, .ref ma, .ref mb, .ref mc, .ref md, .ref me, .int ac, .ref mg, .ref mh, .int sn, .ref mj, .ref mk, .long sd, .int sl])), (mc, .inl (E.2.1.1, 21, .inl pg)), (me, .inl (E.2.1.1, 252, .inl bk))]) mrX6_bait_6 tyX6 tyX6_ok nmX6 0 rfl rfl 0 (by decide) mmX6_bait_f47 rfl rfl rfl rfl (Nat.le_of_ble_eq_true rfl) rfl dX6_bait_2 ?_
  refine hg_iload_n C dX6_bait_5 rfl 1 rfl ?_
  refine hg_i2l C dX6_bait_6 ?_
  refine hg_lconst C (v := 0) dX6_bait_7 rfl ?_
  refine hg_ldc2 C mmX6_bait_k135 dX6_bait_8 ?_
  refine hg_callS C (ws' := [(mm, .inr (6, [.int 0, .ref m1, .int ts, .int pc, .int pe, .int tu, .ref m6, .ref m7, .int rp, .int rt, .ref ma, .ref mb, .ref mc, .ref md, .ref me, .int ac, .ref mg, .ref mh, .int sn, .ref mj, .ref mk, .long sd, .int sl])), (mc, .inl (E.2.1.1, 21, .inl pg)), (me, .inl (E.2.1.1, 252, .inl bk))]) (rest := []) (kX6_in l E a.toInt64 0 9) hfX6_in gX6_bait_X6_in ⟨Nat.le_of_ble_eq_true rfl, Nat.le_of_ble_eq_true rfl⟩ ⟨Nat.zero_le _, Nat.zero_le _⟩ [] rfl (by decide) [] rfl rfl rfl rfl (Nat.le_of_ble_eq_true rfl) dX6_bait_11 ?_
  refine hg_if_ne C (tgt := 20) dX6_bait_14 (by decide) (fun c1 => ?_) (fun c1 => ?_)
  · refine hg_aload_n C dX6_bait_20 rfl 0 rfl ?_
    refine hg_get C (Cn := RX6) (T := TX6) (N := 23) (v := .ref mc) mrX6_bait_6 0 rfl rfl 12 (by decide) mmX6_bait_f25 rfl dX6_bait_21 ?_
    refine hg_bipush C (v := 16) dX6_bait_24 (by decide) ?_
    refine hg_iald C 1 rfl (by unfold vp_in; decide) dX6_bait_26 ?_
    refine hg_istore_n C (lv' := [(2, .int (pg (16 : Int32).toNatClampNeg)), (0, .ref mm), (1, .int a)]) dX6_bait_27 rfl (by decide) rfl ?_
    refine hg_iload_n C dX6_bait_28 rfl 0 rfl ?_
    refine hg_iload_n C dX6_bait_29 rfl 2 rfl ?_
    refine hg_icmp_ne C (tgt := 36) dX6_bait_30 (by decide) (fun c2 => ?_) (fun c2 => ?_)
    · refine hg_aload_n C dX6_bait_36 rfl 1 rfl ?_
      refine hg_callV C (ws' := [(mm, .inr (6, [.int 0, .ref m1, .int ts, .int pc, .int pe, .int tu, .ref m6, .ref m7, .int rp, .int rt, .ref ma, .ref mb, .ref mc, .ref md, .ref me, .int ((fX6_note ac pg bk).1), .ref mg, .ref mh, .int sn, .ref mj, .ref mk, .long sd, .int sl])), (mc, .inl (E.2.1.1, 21, .inl pg)), (me, .inl (E.2.1.1, 252, .inl ((fX6_note ac pg bk).2)))]) (rest := []) (kX6_note l E mm m1 m6 m7 ma mb mc md me mg mh mj mk ts pc pe tu rp rt ac sn sd sl pg bk hac) hfX6_note gX6_bait_X6_note ⟨Nat.le_of_ble_eq_true rfl, Nat.le_of_ble_eq_true rfl⟩ ⟨Nat.zero_le _, Nat.zero_le _⟩ [0, 1, 2] rfl (by decide) [mm, mc, me] rfl rfl rfl 0 rfl rfl rfl rfl (Nat.le_of_ble_eq_true rfl) dX6_bait_37 ?_
      refine hg_aload_n C dX6_bait_40 rfl 1 rfl ?_
      refine hg_get C (Cn := RX6) (T := TX6) (N := 23) (v := .ref mc) mrX6_bait_6 0 rfl rfl 12 (by decide) mmX6_bait_f25 rfl dX6_bait_41 ?_
      refine hg_bipush C (v := 16) dX6_bait_44 (by decide) ?_
      refine hg_iload_n C dX6_bait_46 rfl 2 rfl ?_
      refine hg_iast C (ws' := [(mm, .inr (6, [.int 0, .ref m1, .int ts, .int pc, .int pe, .int tu, .ref m6, .ref m7, .int rp, .int rt, .ref ma, .ref mb, .ref mc, .ref md, .ref me, .int ((fX6_note ac pg bk).1), .ref mg, .ref mh, .int sn, .ref mj, .ref mk, .long sd, .int sl])), (mc, .inl (E.2.1.1, 21, .inl (upd pg (16 : Int32).toNatClampNeg a))), (me, .inl (E.2.1.1, 252, .inl ((fX6_note ac pg bk).2)))]) 1 rfl (by unfold vp_in; decide) rfl dX6_bait_47 ?_
      refine hg_iload_n C dX6_bait_48 rfl 0 rfl ?_
      have e9 : (fX6_bait ac pg bk a) = (pg (16 : Int32).toNatClampNeg, (fX6_note ac pg bk).1, upd pg (16 : Int32).toNatClampNeg a, (fX6_note ac pg bk).2) := (hid_eq _).trans ((if_neg c1).trans ((if_neg c2).trans rfl))
      rw [e9]
      exact hg_iret C dX6_bait_49 rfl rfl
    · refine hg_bipush C (v := (-3)) dX6_bait_33 (by decide) ?_
      have e9 : (fX6_bait ac pg bk a) = ((-3), ac, pg, bk) := (hid_eq _).trans ((if_neg c1).trans ((if_pos c2).trans rfl))
      rw [e9]
      exact hg_iret C dX6_bait_35 rfl rfl
  · refine hg_bipush C (v := (-2)) dX6_bait_17 (by decide) ?_
    have e9 : (fX6_bait ac pg bk a) = ((-2), ac, pg, bk) := (hid_eq _).trans ((if_pos c1).trans rfl)
    rw [e9]
    exact hg_iret C dX6_bait_19 rfl rfl
theorem mmX6_undo_f47 : (Cond.fieldLink RX6 47 "HatRoundModel" "thrown" "I") ∈ wsX6_undo := (List.mem_cons_of_mem _ (List.mem_append_left _ (List.mem_of_getElem? (i := 0) rfl)))
theorem mrX6_undo_6 : ∀ w ∈ u_ws RX6 TX6 23, w ∈ wsX6_undo := fun _ h => (List.mem_cons_of_mem _ (List.mem_append_right _ h))
theorem mmX6_undo_f97 : (Cond.fieldLink RX6 97 "HatRoundModel" "acts" "I") ∈ wsX6_undo := (List.mem_cons_of_mem _ (List.mem_append_left _ (List.mem_of_getElem? (i := 1) rfl)))
theorem mmX6_undo_f25 : (Cond.fieldLink RX6 25 "HatRoundModel" "page" "[I") ∈ wsX6_undo := (List.mem_cons_of_mem _ (List.mem_append_left _ (List.mem_of_getElem? (i := 2) rfl)))
theorem mmX6_undo_f31 : (Cond.fieldLink RX6 31 "HatRoundModel" "book" "[I") ∈ wsX6_undo := (List.mem_cons_of_mem _ (List.mem_append_left _ (List.mem_of_getElem? (i := 3) rfl)))
abbrev rmX6_undo : Room := { frames := 0, cells := 0, slots := 0, locals := 0 }
theorem hfX6_undo : hCF yX6_undo wsX6_undo rmX6_undo cX6_undo 2 (some .int) 0 := ⟨⟨_, rfl⟩, by decide +kernel, rfl, rfl⟩
noncomputable def stX6_undo_27 (bk : Nat → Int32) (v0_15 : Int32) (i : Nat) (σ : (Nat → Int32)) : (Nat → Int32) := hid (upd σ (nI i).toNatClampNeg (bk ((21 * v0_15) + (nI i)).toNatClampNeg))
set_option maxHeartbeats 4000000 in
set_option maxRecDepth 100000 in
theorem lpX6_undo_27 {p : Program} {l : Launch} {e : Env} {s : State} {m : MethodId} {args : Array Value} {below : List Frame} {meth : Method} {c : Code} {E : hE} {A : Nat → Prop} {Q : State → Prop} (C : hX p s m args meth c E A cX6_undo 2 RX6 wsX6_undo (some .int)) (mm : Nat) (m1 : Nat) (m6 : Nat) (m7 : Nat) (ma : Nat) (mb : Nat) (mc : Nat) (md : Nat) (me : Nat) (mg : Nat) (mh : Nat) (mj : Nat) (mk : Nat) (ts : Int32) (pc : Int32) (pe : Int32) (tu : Int32) (rp : Int32) (rt : Int32) (ac : Int32) (sn : Int32) (sd : Int64) (sl : Int32) (pg : Nat → Int32) (bk : Nat → Int32) (v0_15 : Int32) (hac : vp_in ac 13) (hc2 : vp_in v0_15 12) (σ0 : (Nat → Int32)) (k : hG p l e rmX6_undo s m args below meth c E A 2 Q 0 0 59 [(0, .ref mm)] [] [(mm, .inr (6, [.int 0, .ref m1, .int ts, .int pc, .int pe, .int tu, .ref m6, .ref m7, .int rp, .int rt, .ref ma, .ref mb, .ref mc, .ref md, .ref me, .int v0_15, .ref mg, .ref mh, .int sn, .ref mj, .ref mk, .long sd, .int sl])), (mc, .inl (E.2.1.1, 21, .inl (itN (stX6_undo_27 bk v0_15) 21 σ0))), (me, .inl (E.2.1.1, 252, .inl bk))]) : ∀ (n i : Nat) (σ : (Nat → Int32)), i + n = 21 → σ = itN (stX6_undo_27 bk v0_15) i σ0 → hG p l e rmX6_undo s m args below meth c E A 2 Q 0 0 27 [(0, .ref mm), (1, .int (nI i))] [] [(mm, .inr (6, [.int 0, .ref m1, .int ts, .int pc, .int pe, .int tu, .ref m6, .ref m7, .int rp, .int rt, .ref ma, .ref mb, .ref mc, .ref md, .ref me, .int v0_15, .ref mg, .ref mh, .int sn, .ref mj, .ref mk, .long sd, .int sl])), (mc, .inl (E.2.1.1, 21, .inl σ)), (me, .inl (E.2.1.1, 252, .inl bk))] := by
  intro n
  induction n with
  | zero =>
    intro i σ hi hσ
    have hi : i = 21 := by omega
    rw [hi] at hσ
    rw [hi]
    subst hσ
    refine hg_iload_n C dX6_undo_27 rfl 1 rfl ?_
    refine hg_bipush C (v := 21) dX6_undo_28 (by decide) ?_
    refine hg_icmp_ge C (tgt := 59) dX6_undo_30 (by decide) (fun _ => ?_) (fun h => absurd (by decide) h)
    exact hg_sub [0] rfl k
  | succ n ih =>
    intro i σ hi hσ
    have hlt : i < 21 := by omega
    refine hg_iload_n C dX6_undo_27 rfl 1 rfl ?_
    refine hg_bipush C (v := 21) dX6_undo_28 (by decide) ?_
    refine hg_icmp_ge C (tgt := 59) dX6_undo_30 (by decide) (fun h => absurd h (nI_ge hlt (by decide))) (fun _ => ?_)
    refine hg_aload_n C dX6_undo_33 rfl 0 rfl ?_
    refine hg_get C (Cn := RX6) (T := TX6) (N := 23) (v := .ref mc) mrX6_undo_6 0 rfl rfl 12 (by decide) mmX6_undo_f25 rfl dX6_undo_34 ?_
    refine hg_iload_n C dX6_undo_37 rfl 1 rfl ?_
    refine hg_aload_n C dX6_undo_38 rfl 0 rfl ?_
    refine hg_get C (Cn := RX6) (T := TX6) (N := 23) (v := .ref me) mrX6_undo_6 0 rfl rfl 14 (by decide) mmX6_undo_f31 rfl dX6_undo_39 ?_
    refine hg_bipush C (v := 21) dX6_undo_42 (by decide) ?_
    refine hg_aload_n C dX6_undo_44 rfl 0 rfl ?_
    refine hg_get C (Cn := RX6) (T := TX6) (N := 23) (v := .int v0_15) mrX6_undo_6 0 rfl rfl 15 (by decide) mmX6_undo_f97 rfl dX6_undo_45 ?_
    refine hg_imul C dX6_undo_48 ?_
    refine hg_iload_n C dX6_undo_49 rfl 1 rfl ?_
    refine hg_iadd C dX6_undo_50 ?_
    refine hg_iald C 2 rfl (ix_21 hc2 hlt) dX6_undo_51 ?_
    refine hg_iast C (ws' := [(mm, .inr (6, [.int 0, .ref m1, .int ts, .int pc, .int pe, .int tu, .ref m6, .ref m7, .int rp, .int rt, .ref ma, .ref mb, .ref mc, .ref md, .ref me, .int v0_15, .ref mg, .ref mh, .int sn, .ref mj, .ref mk, .long sd, .int sl])), (mc, .inl (E.2.1.1, 21, .inl (upd σ (nI i).toNatClampNeg (bk ((21 * v0_15) + (nI i)).toNatClampNeg)))), (me, .inl (E.2.1.1, 252, .inl bk))]) 1 rfl (vp_in_nI (by omega) (by decide)) rfl dX6_undo_52 ?_
    refine hg_iinc C (v := nI (i + 1)) (lv' := [(1, .int (nI (i + 1))), (0, .ref mm)]) dX6_undo_53 1 rfl (nI_inc _) (by decide) rfl ?_
    refine hg_goto C (tgt := 27) dX6_undo_56 (by decide) ?_
    have e9 : (stX6_undo_27 bk v0_15) i σ = upd σ (nI i).toNatClampNeg (bk ((21 * v0_15) + (nI i)).toNatClampNeg) := hid_eq _
    have h9 := ih (i + 1) (upd σ (nI i).toNatClampNeg (bk ((21 * v0_15) + (nI i)).toNatClampNeg)) (by omega) (e9.symm.trans (congrArg ((stX6_undo_27 bk v0_15) i) hσ))
    exact hg_sub [1, 0] rfl h9
noncomputable def fX6_undo (ac : Int32) (pg : Nat → Int32) (bk : Nat → Int32) : Int32 × Int32 × (Nat → Int32) := hid (if ac = 0 then ((-3), ac, pg) else (ac - 1, ac - 1, (itN (stX6_undo_27 bk (ac - 1)) 21 pg)))
set_option maxHeartbeats 4000000 in
set_option maxRecDepth 100000 in
theorem kX6_undo (l : Launch) (E : hE) (mm : Nat) (m1 : Nat) (m6 : Nat) (m7 : Nat) (ma : Nat) (mb : Nat) (mc : Nat) (md : Nat) (me : Nat) (mg : Nat) (mh : Nat) (mj : Nat) (mk : Nat) (ts : Int32) (pc : Int32) (pe : Int32) (tu : Int32) (rp : Int32) (rt : Int32) (ac : Int32) (sn : Int32) (sd : Int64) (sl : Int32) (pg : Nat → Int32) (bk : Nat → Int32) (hac : vp_in ac 13) : hC l yX6_undo wsX6_undo rmX6_undo E [.ref mm] [(mm, .inr (6, [.int 0, .ref m1, .int ts, .int pc, .int pe, .int tu, .ref m6, .ref m7, .int rp, .int rt, .ref ma, .ref mb, .ref mc, .ref md, .ref me, .int ac, .ref mg, .ref mh, .int sn, .ref mj, .ref mk, .long sd, .int sl])), (mc, .inl (E.2.1.1, 21, .inl pg)), (me, .inl (E.2.1.1, 252, .inl bk))] (some (.int ((fX6_undo ac pg bk).1))) [(mm, .inr (6, [.int 0, .ref m1, .int ts, .int pc, .int pe, .int tu, .ref m6, .ref m7, .int rp, .int rt, .ref ma, .ref mb, .ref mc, .ref md, .ref me, .int ((fX6_undo ac pg bk).2.1), .ref mg, .ref mh, .int sn, .ref mj, .ref mk, .long sd, .int sl])), (mc, .inl (E.2.1.1, 21, .inl ((fX6_undo ac pg bk).2.2))), (me, .inl (E.2.1.1, 252, .inl bk))] := by
  refine hC_intro (cc := cX6_undo) (maxL := 2) (ret := (some .int)) (lv0 := [(0, .ref mm)]) (by decide) rfl (Nat.le_of_ble_eq_true rfl) rfl ?_
  intro p e s m below meth c A C
  refine hg_aload_n C dX6_undo_0 rfl 0 rfl ?_
  refine hg_iconst C (v := 0) dX6_undo_1 (by decide) ?_
  refine hg_put C (Cn := RX6) (T := TX6) (N := 23) (ws' := [(mm, .inr (6, [.int 0, .ref m1, .int ts, .int pc, .int pe, .int tu, .ref m6, .ref m7, .int rp, .int rt, .ref ma, .ref mb, .ref mc, .ref md, .ref me, .int ac, .ref mg, .ref mh, .int sn, .ref mj, .ref mk, .long sd, .int sl])), (mc, .inl (E.2.1.1, 21, .inl pg)), (me, .inl (E.2.1.1, 252, .inl bk))]) mrX6_undo_6 tyX6 tyX6_ok nmX6 0 rfl rfl 0 (by decide) mmX6_undo_f47 rfl rfl rfl rfl (Nat.le_of_ble_eq_true rfl) rfl dX6_undo_2 ?_
  refine hg_aload_n C dX6_undo_5 rfl 0 rfl ?_
  refine hg_get C (Cn := RX6) (T := TX6) (N := 23) (v := .int ac) mrX6_undo_6 0 rfl rfl 15 (by decide) mmX6_undo_f97 rfl dX6_undo_6 ?_
  refine hg_if_ne C (tgt := 15) dX6_undo_9 (by decide) (fun c1 => ?_) (fun c1 => ?_)
  · refine hg_aload_n C dX6_undo_15 rfl 0 rfl ?_
    refine hg_dup C dX6_undo_16 rfl ?_
    refine hg_get C (Cn := RX6) (T := TX6) (N := 23) (v := .int ac) mrX6_undo_6 0 rfl rfl 15 (by decide) mmX6_undo_f97 rfl dX6_undo_17 ?_
    refine hg_iconst C (v := 1) dX6_undo_20 (by decide) ?_
    refine hg_isub C dX6_undo_21 ?_
    refine hg_put C (Cn := RX6) (T := TX6) (N := 23) (ws' := [(mm, .inr (6, [.int 0, .ref m1, .int ts, .int pc, .int pe, .int tu, .ref m6, .ref m7, .int rp, .int rt, .ref ma, .ref mb, .ref mc, .ref md, .ref me, .int (ac - 1), .ref mg, .ref mh, .int sn, .ref mj, .ref mk, .long sd, .int sl])), (mc, .inl (E.2.1.1, 21, .inl pg)), (me, .inl (E.2.1.1, 252, .inl bk))]) mrX6_undo_6 tyX6 tyX6_ok nmX6 0 rfl rfl 15 (by decide) mmX6_undo_f97 rfl rfl rfl rfl (Nat.le_of_ble_eq_true rfl) rfl dX6_undo_22 ?_
    refine hg_iconst C (v := 0) dX6_undo_25 (by decide) ?_
    refine hg_istore_n C (lv' := [(1, .int 0), (0, .ref mm)]) dX6_undo_26 rfl (by decide) rfl ?_
    refine hg_sub [1, 0] rfl ?_
    refine lpX6_undo_27 C mm m1 m6 m7 ma mb mc md me mg mh mj mk ts pc pe tu rp rt ac sn sd sl pg bk (ac - 1) hac (ac_pos hac (by assumption)) pg ?_ 21 0 pg (by omega) rfl
    refine hg_aload_n C dX6_undo_59 rfl 0 rfl ?_
    refine hg_get C (Cn := RX6) (T := TX6) (N := 23) (v := .int (ac - 1)) mrX6_undo_6 0 rfl rfl 15 (by decide) mmX6_undo_f97 rfl dX6_undo_60 ?_
    have e9 : (fX6_undo ac pg bk) = (ac - 1, ac - 1, (itN (stX6_undo_27 bk (ac - 1)) 21 pg)) := (hid_eq _).trans ((if_neg c1).trans rfl)
    rw [e9]
    exact hg_iret C dX6_undo_63 rfl rfl
  · refine hg_bipush C (v := (-3)) dX6_undo_12 (by decide) ?_
    have e9 : (fX6_undo ac pg bk) = ((-3), ac, pg) := (hid_eq _).trans ((if_pos c1).trans rfl)
    rw [e9]
    exact hg_iret C dX6_undo_14 rfl rfl
theorem mmX6_would_f47 : (Cond.fieldLink RX6 47 "HatRoundModel" "thrown" "I") ∈ wsX6_would := (List.mem_cons_of_mem _ (List.mem_append_left _ (List.mem_of_getElem? (i := 0) rfl)))
theorem mrX6_would_6 : ∀ w ∈ u_ws RX6 TX6 23, w ∈ wsX6_would := fun _ h => (List.mem_cons_of_mem _ (List.mem_append_right _ h))
theorem mmX6_would_f28 : (Cond.fieldLink RX6 28 "HatRoundModel" "trial" "[I") ∈ wsX6_would := (List.mem_cons_of_mem _ (List.mem_append_left _ (List.mem_of_getElem? (i := 1) rfl)))
theorem mmX6_would_f123 : (Cond.fieldLink RX6 123 "HatRoundModel" "slipped" "I") ∈ wsX6_would := (List.mem_cons_of_mem _ (List.mem_append_left _ (List.mem_of_getElem? (i := 2) rfl)))
abbrev rmX6_would : Room := { frames := 2, cells := 0, slots := 0, locals := 49 }
theorem hfX6_would : hCF yX6_would wsX6_would rmX6_would cX6_would 4 (some .int) 2 := ⟨⟨_, rfl⟩, by decide +kernel, rfl, rfl⟩
noncomputable def fX6_would (pe : Int32) (sl : Int32) (to : Nat → Int32) (pg : Nat → Int32) (tr : Nat → Int32) (a : Int32) (b : Int32) : Int32 × Int32 × (Nat → Int32) := hid (if (fX6_in a.toInt64 0 1) = 0 then ((-2), sl, tr) else if (fX6_in b.toInt64 0 1) = 0 then ((-2), sl, tr) else (if b = 0 then ((fX6_goRound pe to (fX6_begin pg tr) a).1) else ((fX6_goRound pe to (fX6_begin pg tr) a).2.1), (fX6_goRound pe to (fX6_begin pg tr) a).2.1, (fX6_goRound pe to (fX6_begin pg tr) a).2.2))
set_option maxHeartbeats 4000000 in
set_option maxRecDepth 100000 in
theorem kX6_would (l : Launch) (E : hE) (mm : Nat) (m1 : Nat) (m6 : Nat) (m7 : Nat) (ma : Nat) (mb : Nat) (mc : Nat) (md : Nat) (me : Nat) (mg : Nat) (mh : Nat) (mj : Nat) (mk : Nat) (ts : Int32) (pc : Int32) (pe : Int32) (tu : Int32) (rp : Int32) (rt : Int32) (ac : Int32) (sn : Int32) (sd : Int64) (sl : Int32) (to : Nat → Int32) (so : Nat → Int32) (pg : Nat → Int32) (tr : Nat → Int32) (a : Int32) (b : Int32) (hp7 : vp_in pe 7) : hC l yX6_would wsX6_would rmX6_would E [.ref mm, .int a, .int b] [(mm, .inr (6, [.int 0, .ref m1, .int ts, .int pc, .int pe, .int tu, .ref m6, .ref m7, .int rp, .int rt, .ref ma, .ref mb, .ref mc, .ref md, .ref me, .int ac, .ref mg, .ref mh, .int sn, .ref mj, .ref mk, .long sd, .int sl])), (m6, .inl (E.2.1.1, 36, .inl to)), (m7, .inl (E.2.1.1, 12, .inl so)), (mc, .inl (E.2.1.1, 21, .inl pg)), (md, .inl (E.2.1.1, 21, .inl tr))] (some (.int ((fX6_would pe sl to pg tr a b).1))) [(mm, .inr (6, [.int 0, .ref m1, .int ts, .int pc, .int pe, .int tu, .ref m6, .ref m7, .int rp, .int rt, .ref ma, .ref mb, .ref mc, .ref md, .ref me, .int ac, .ref mg, .ref mh, .int sn, .ref mj, .ref mk, .long sd, .int ((fX6_would pe sl to pg tr a b).2.1)])), (m6, .inl (E.2.1.1, 36, .inl to)), (m7, .inl (E.2.1.1, 12, .inl so)), (mc, .inl (E.2.1.1, 21, .inl pg)), (md, .inl (E.2.1.1, 21, .inl ((fX6_would pe sl to pg tr a b).2.2)))] := by
  refine hC_intro (cc := cX6_would) (maxL := 4) (ret := (some .int)) (lv0 := [(0, .ref mm), (1, .int a), (2, .int b)]) (by decide) rfl (Nat.le_of_ble_eq_true rfl) rfl ?_
  intro p e s m below meth c A C
  refine hg_aload_n C dX6_would_0 rfl 0 rfl ?_
  refine hg_iconst C (v := 0) dX6_would_1 (by decide) ?_
  refine hg_put C (Cn := RX6) (T := TX6) (N := 23) (ws' := [(mm, .inr (6, [.int 0, .ref m1, .int ts, .int pc, .int pe, .int tu, .ref m6, .ref m7, .int rp, .int rt, .ref ma, .ref mb, .ref mc, .ref md, .ref me, .int ac, .ref mg, .ref mh, .int sn, .ref mj, .ref mk, .long sd, .int sl])), (m6, .inl (E.2.1.1, 36, .inl to)), (m7, .inl (E.2.1.1, 12, .inl so)), (mc, .inl (E.2.1.1, 21, .inl pg)), (md, .inl (E.2.1.1, 21, .inl tr))]) mrX6_would_6 tyX6 tyX6_ok nmX6 0 rfl rfl 0 (by decide) mmX6_would_f47 rfl rfl rfl rfl (Nat.le_of_ble_eq_true rfl) rfl dX6_would_2 ?_
  refine hg_iload_n C dX6_would_5 rfl 1 rfl ?_
  refine hg_i2l C dX6_would_6 ?_
  refine hg_lconst C (v := 0) dX6_would_7 rfl ?_
  refine hg_lconst C (v := 1) dX6_would_8 rfl ?_
  refine hg_callS C (ws' := [(mm, .inr (6, [.int 0, .ref m1, .int ts, .int pc, .int pe, .int tu, .ref m6, .ref m7, .int rp, .int rt, .ref ma, .ref mb, .ref mc, .ref md, .ref me, .int ac, .ref mg, .ref mh, .int sn, .ref mj, .ref mk, .long sd, .int sl])), (m6, .inl (E.2.1.1, 36, .inl to)), (m7, .inl (E.2.1.1, 12, .inl so)), (mc, .inl (E.2.1.1, 21, .inl pg)), (md, .inl (E.2.1.1, 21, .inl tr))]) (rest := []) (kX6_in l E a.toInt64 0 1) hfX6_in gX6_would_X6_in ⟨Nat.le_of_ble_eq_true rfl, Nat.le_of_ble_eq_true rfl⟩ ⟨Nat.zero_le _, Nat.zero_le _⟩ [] rfl (by decide) [] rfl rfl rfl rfl (Nat.le_of_ble_eq_true rfl) dX6_would_9 ?_
  refine hg_if_eq C (tgt := 25) dX6_would_12 (by decide) (fun c1 => ?_) (fun c1 => ?_)
  · refine hg_bipush C (v := (-2)) dX6_would_25 (by decide) ?_
    have e9 : (fX6_would pe sl to pg tr a b) = ((-2), sl, tr) := (hid_eq _).trans ((if_pos c1).trans rfl)
    rw [e9]
    exact hg_iret C dX6_would_27 rfl rfl
  · refine hg_iload_n C dX6_would_15 rfl 2 rfl ?_
    refine hg_i2l C dX6_would_16 ?_
    refine hg_lconst C (v := 0) dX6_would_17 rfl ?_
    refine hg_lconst C (v := 1) dX6_would_18 rfl ?_
    refine hg_callS C (ws' := [(mm, .inr (6, [.int 0, .ref m1, .int ts, .int pc, .int pe, .int tu, .ref m6, .ref m7, .int rp, .int rt, .ref ma, .ref mb, .ref mc, .ref md, .ref me, .int ac, .ref mg, .ref mh, .int sn, .ref mj, .ref mk, .long sd, .int sl])), (m6, .inl (E.2.1.1, 36, .inl to)), (m7, .inl (E.2.1.1, 12, .inl so)), (mc, .inl (E.2.1.1, 21, .inl pg)), (md, .inl (E.2.1.1, 21, .inl tr))]) (rest := []) (kX6_in l E b.toInt64 0 1) hfX6_in gX6_would_X6_in ⟨Nat.le_of_ble_eq_true rfl, Nat.le_of_ble_eq_true rfl⟩ ⟨Nat.zero_le _, Nat.zero_le _⟩ [] rfl (by decide) [] rfl rfl rfl rfl (Nat.le_of_ble_eq_true rfl) dX6_would_19 ?_
    refine hg_if_ne C (tgt := 28) dX6_would_22 (by decide) (fun c2 => ?_) (fun c2 => ?_)
    · refine hg_aload_n C dX6_would_28 rfl 0 rfl ?_
      refine hg_callV C (ws' := [(mm, .inr (6, [.int 0, .ref m1, .int ts, .int pc, .int pe, .int tu, .ref m6, .ref m7, .int rp, .int rt, .ref ma, .ref mb, .ref mc, .ref md, .ref me, .int ac, .ref mg, .ref mh, .int sn, .ref mj, .ref mk, .long sd, .int sl])), (m6, .inl (E.2.1.1, 36, .inl to)), (m7, .inl (E.2.1.1, 12, .inl so)), (mc, .inl (E.2.1.1, 21, .inl pg)), (md, .inl (E.2.1.1, 21, .inl (fX6_begin pg tr)))]) (rest := []) (kX6_begin l E mm m1 m6 m7 ma mb mc md me mg mh mj mk ts pc pe tu rp rt ac sn sd sl pg tr) hfX6_begin gX6_would_X6_begin ⟨Nat.le_of_ble_eq_true rfl, Nat.le_of_ble_eq_true rfl⟩ ⟨Nat.zero_le _, Nat.zero_le _⟩ [0, 3, 4] rfl (by decide) [mm, mc, md] rfl rfl rfl 0 rfl rfl rfl rfl (Nat.le_of_ble_eq_true rfl) dX6_would_29 ?_
      refine hg_aload_n C dX6_would_32 rfl 0 rfl ?_
      refine hg_aload_n C dX6_would_33 rfl 0 rfl ?_
      refine hg_get C (Cn := RX6) (T := TX6) (N := 23) (v := .ref md) mrX6_would_6 0 rfl rfl 13 (by decide) mmX6_would_f28 rfl dX6_would_34 ?_
      refine hg_iload_n C dX6_would_37 rfl 1 rfl ?_
      refine hg_callV C (ws' := [(mm, .inr (6, [.int 0, .ref m1, .int ts, .int pc, .int pe, .int tu, .ref m6, .ref m7, .int rp, .int rt, .ref ma, .ref mb, .ref mc, .ref md, .ref me, .int ac, .ref mg, .ref mh, .int sn, .ref mj, .ref mk, .long sd, .int ((fX6_goRound pe to (fX6_begin pg tr) a).2.1)])), (m6, .inl (E.2.1.1, 36, .inl to)), (m7, .inl (E.2.1.1, 12, .inl so)), (mc, .inl (E.2.1.1, 21, .inl pg)), (md, .inl (E.2.1.1, 21, .inl ((fX6_goRound pe to (fX6_begin pg tr) a).2.2)))]) (rest := []) (kX6_goRound l E mm m1 m6 m7 ma mb mc md me mg mh mj mk ts pc pe tu rp rt ac sn sd sl to so md (fX6_begin pg tr) a (Nat.le_of_lt_succ (vp_cl hp7))) hfX6_goRound gX6_would_X6_goRound ⟨Nat.le_of_ble_eq_true rfl, Nat.le_of_ble_eq_true rfl⟩ ⟨Nat.zero_le _, Nat.zero_le _⟩ [0, 1, 2, 4] rfl (by decide) [mm, m6, m7, md] rfl rfl rfl 0 rfl rfl rfl rfl (Nat.le_of_ble_eq_true rfl) dX6_would_38 ?_
      refine hg_istore_n C (lv' := [(3, .int ((fX6_goRound pe to (fX6_begin pg tr) a).1)), (0, .ref mm), (1, .int a), (2, .int b)]) dX6_would_41 rfl (by decide) rfl ?_
      refine hg_iload_n C dX6_would_42 rfl 3 rfl ?_
      refine hg_join (J := 54) (v := if b = 0 then ((fX6_goRound pe to (fX6_begin pg tr) a).1) else ((fX6_goRound pe to (fX6_begin pg tr) a).2.1)) (st1 := []) (fun jj => ?_) ?_
      · refine hg_if_ne C (tgt := 50) dX6_would_43 (by decide) (fun c3 => ?_) (fun c3 => ?_)
        · refine hg_aload_n C dX6_would_50 rfl 1 rfl ?_
          refine hg_get C (Cn := RX6) (T := TX6) (N := 23) (v := .int ((fX6_goRound pe to (fX6_begin pg tr) a).2.1)) mrX6_would_6 0 rfl rfl 22 (by decide) mmX6_would_f123 rfl dX6_would_51 ?_
          exact hg_top (v := if b = 0 then ((fX6_goRound pe to (fX6_begin pg tr) a).1) else ((fX6_goRound pe to (fX6_begin pg tr) a).2.1)) (v' := (fX6_goRound pe to (fX6_begin pg tr) a).2.1) ((if_neg c3).trans rfl) jj
        · refine hg_iload_n C dX6_would_46 rfl 0 rfl ?_
          refine hg_goto C (tgt := 54) dX6_would_47 (by decide) ?_
          exact hg_top (v := if b = 0 then ((fX6_goRound pe to (fX6_begin pg tr) a).1) else ((fX6_goRound pe to (fX6_begin pg tr) a).2.1)) (v' := (fX6_goRound pe to (fX6_begin pg tr) a).1) ((if_pos c3).trans rfl) jj
      have e9 : (fX6_would pe sl to pg tr a b) = (if b = 0 then ((fX6_goRound pe to (fX6_begin pg tr) a).1) else ((fX6_goRound pe to (fX6_begin pg tr) a).2.1), (fX6_goRound pe to (fX6_begin pg tr) a).2.1, (fX6_goRound pe to (fX6_begin pg tr) a).2.2) := (hid_eq _).trans ((if_neg c1).trans ((if_neg c2).trans rfl))
      rw [e9]
      exact hg_iret C dX6_would_54 rfl rfl
    · refine hg_bipush C (v := (-2)) dX6_would_25 (by decide) ?_
      have e9 : (fX6_would pe sl to pg tr a b) = ((-2), sl, tr) := (hid_eq _).trans ((if_neg c1).trans ((if_pos c2).trans rfl))
      rw [e9]
      exact hg_iret C dX6_would_27 rfl rfl
abbrev rmX6_goAct : Room := { frames := 2, cells := 0, slots := 0, locals := 49 }
theorem hfX6_goAct : hCF yX6_goAct wsX6_goAct rmX6_goAct cX6_goAct 3 (some .boolean) 2 := ⟨⟨_, rfl⟩, by decide +kernel, rfl, rfl⟩
noncomputable def fX6_goAct (pe : Int32) (tu : Int32) (sl : Int32) (to : Nat → Int32) (so : Nat → Int32) (pg : Nat → Int32) (a : Int32) : Int32 × Int32 × (Nat → Int32) := hid (if (4 : Int32) ≤ a then (if a ≤ 5 then (if (4 : Int32) ≤ a then (1, (fX6_goRound pe to pg (a - 4)).2.1, (fX6_goRound pe to pg (a - 4)).2.2) else (1, sl, (fX6_goPlay pe to so pg a).2)) else (0, sl, pg)) else if (fX6_noTune tu a) = 0 then (if (4 : Int32) ≤ a then (1, (fX6_goRound pe to pg (a - 4)).2.1, (fX6_goRound pe to pg (a - 4)).2.2) else (1, sl, (fX6_goPlay pe to so pg a).2)) else (0, sl, pg))
set_option maxHeartbeats 4000000 in
set_option maxRecDepth 100000 in
theorem kX6_goAct (l : Launch) (E : hE) (mm : Nat) (m1 : Nat) (m6 : Nat) (m7 : Nat) (ma : Nat) (mb : Nat) (mc : Nat) (md : Nat) (me : Nat) (mg : Nat) (mh : Nat) (mj : Nat) (mk : Nat) (ts : Int32) (pc : Int32) (pe : Int32) (tu : Int32) (rp : Int32) (rt : Int32) (ac : Int32) (sn : Int32) (sd : Int64) (sl : Int32) (to : Nat → Int32) (so : Nat → Int32) (pp : Nat) (pg : Nat → Int32) (a : Int32) (hp7 : vp_in pe 7) (ht5 : vp_in tu 5) : hC l yX6_goAct wsX6_goAct rmX6_goAct E [.ref mm, .ref pp, .int a] [(mm, .inr (6, [.int 0, .ref m1, .int ts, .int pc, .int pe, .int tu, .ref m6, .ref m7, .int rp, .int rt, .ref ma, .ref mb, .ref mc, .ref md, .ref me, .int ac, .ref mg, .ref mh, .int sn, .ref mj, .ref mk, .long sd, .int sl])), (m6, .inl (E.2.1.1, 36, .inl to)), (m7, .inl (E.2.1.1, 12, .inl so)), (pp, .inl (E.2.1.1, 21, .inl pg))] (some (.int ((fX6_goAct pe tu sl to so pg a).1))) [(mm, .inr (6, [.int 0, .ref m1, .int ts, .int pc, .int pe, .int tu, .ref m6, .ref m7, .int rp, .int rt, .ref ma, .ref mb, .ref mc, .ref md, .ref me, .int ac, .ref mg, .ref mh, .int sn, .ref mj, .ref mk, .long sd, .int ((fX6_goAct pe tu sl to so pg a).2.1)])), (m6, .inl (E.2.1.1, 36, .inl to)), (m7, .inl (E.2.1.1, 12, .inl so)), (pp, .inl (E.2.1.1, 21, .inl ((fX6_goAct pe tu sl to so pg a).2.2)))] := by
  refine hC_intro (cc := cX6_goAct) (maxL := 3) (ret := (some .boolean)) (lv0 := [(0, .ref mm), (1, .ref pp), (2, .int a)]) (by decide) rfl (Nat.le_of_ble_eq_true rfl) rfl ?_
  intro p e s m below meth c A C
  refine hg_iload_n C dX6_goAct_0 rfl 2 rfl ?_
  refine hg_iconst C (v := 4) dX6_goAct_1 (by decide) ?_
  refine hg_icmp_ge C (tgt := 16) dX6_goAct_2 (by decide) (fun c1 => ?_) (fun c1 => ?_)
  · refine hg_iload_n C dX6_goAct_16 rfl 2 rfl ?_
    refine hg_iconst C (v := 5) dX6_goAct_17 (by decide) ?_
    refine hg_icmp_le C (tgt := 23) dX6_goAct_18 (by decide) (fun c2 => ?_) (fun c2 => ?_)
    · refine hg_iload_n C dX6_goAct_23 rfl 2 rfl ?_
      refine hg_iconst C (v := 4) dX6_goAct_24 (by decide) ?_
      refine hg_icmp_ge C (tgt := 38) dX6_goAct_25 (by decide) (fun c3 => ?_) (fun c3 => ?_)
      · refine hg_aload_n C dX6_goAct_38 rfl 0 rfl ?_
        refine hg_aload_n C dX6_goAct_39 rfl 1 rfl ?_
        refine hg_iload_n C dX6_goAct_40 rfl 2 rfl ?_
        refine hg_iconst C (v := 4) dX6_goAct_41 (by decide) ?_
        refine hg_isub C dX6_goAct_42 ?_
        refine hg_callV C (ws' := [(mm, .inr (6, [.int 0, .ref m1, .int ts, .int pc, .int pe, .int tu, .ref m6, .ref m7, .int rp, .int rt, .ref ma, .ref mb, .ref mc, .ref md, .ref me, .int ac, .ref mg, .ref mh, .int sn, .ref mj, .ref mk, .long sd, .int ((fX6_goRound pe to pg (a - 4)).2.1)])), (m6, .inl (E.2.1.1, 36, .inl to)), (m7, .inl (E.2.1.1, 12, .inl so)), (pp, .inl (E.2.1.1, 21, .inl ((fX6_goRound pe to pg (a - 4)).2.2)))]) (rest := []) (kX6_goRound l E mm m1 m6 m7 ma mb mc md me mg mh mj mk ts pc pe tu rp rt ac sn sd sl to so pp pg (a - 4) (Nat.le_of_lt_succ (vp_cl hp7))) hfX6_goRound gX6_goAct_X6_goRound ⟨Nat.le_of_ble_eq_true rfl, Nat.le_of_ble_eq_true rfl⟩ ⟨Nat.zero_le _, Nat.zero_le _⟩ [0, 1, 2, 3] rfl (by decide) [mm, m6, m7, pp] rfl rfl rfl 0 rfl rfl rfl rfl (Nat.le_of_ble_eq_true rfl) dX6_goAct_43 ?_
        refine hg_pop C dX6_goAct_46 rfl ?_
        refine hg_iconst C (v := 1) dX6_goAct_47 (by decide) ?_
        have e9 : (fX6_goAct pe tu sl to so pg a) = (1, (fX6_goRound pe to pg (a - 4)).2.1, (fX6_goRound pe to pg (a - 4)).2.2) := (hid_eq _).trans ((if_pos c1).trans ((if_pos c2).trans ((if_pos c3).trans rfl)))
        rw [e9]
        exact hg_zret C dX6_goAct_48 rfl rfl rfl
      · refine hg_aload_n C dX6_goAct_28 rfl 0 rfl ?_
        refine hg_aload_n C dX6_goAct_29 rfl 1 rfl ?_
        refine hg_iload_n C dX6_goAct_30 rfl 2 rfl ?_
        refine hg_callV C (ws' := [(mm, .inr (6, [.int 0, .ref m1, .int ts, .int pc, .int pe, .int tu, .ref m6, .ref m7, .int rp, .int rt, .ref ma, .ref mb, .ref mc, .ref md, .ref me, .int ac, .ref mg, .ref mh, .int sn, .ref mj, .ref mk, .long sd, .int sl])), (m6, .inl (E.2.1.1, 36, .inl to)), (m7, .inl (E.2.1.1, 12, .inl so)), (pp, .inl (E.2.1.1, 21, .inl ((fX6_goPlay pe to so pg a).2)))]) (rest := []) (kX6_goPlay l E mm m1 m6 m7 ma mb mc md me mg mh mj mk ts pc pe tu rp rt ac sn sd sl to so pp pg a (Nat.le_of_lt_succ (vp_cl hp7)) (by first | exact nt_in ht5 (by assumption) | contradiction)) hfX6_goPlay gX6_goAct_X6_goPlay ⟨Nat.le_of_ble_eq_true rfl, Nat.le_of_ble_eq_true rfl⟩ ⟨Nat.zero_le _, Nat.zero_le _⟩ [0, 1, 2, 3] rfl (by decide) [mm, m6, m7, pp] rfl rfl rfl 0 rfl rfl rfl rfl (Nat.le_of_ble_eq_true rfl) dX6_goAct_31 ?_
        refine hg_pop C dX6_goAct_34 rfl ?_
        refine hg_goto C (tgt := 47) dX6_goAct_35 (by decide) ?_
        refine hg_iconst C (v := 1) dX6_goAct_47 (by decide) ?_
        have e9 : (fX6_goAct pe tu sl to so pg a) = (1, sl, (fX6_goPlay pe to so pg a).2) := (hid_eq _).trans ((if_pos c1).trans ((if_pos c2).trans ((if_neg c3).trans rfl)))
        rw [e9]
        exact hg_zret C dX6_goAct_48 rfl rfl rfl
    · refine hg_iconst C (v := 0) dX6_goAct_21 (by decide) ?_
      have e9 : (fX6_goAct pe tu sl to so pg a) = (0, sl, pg) := (hid_eq _).trans ((if_pos c1).trans ((if_neg c2).trans rfl))
      rw [e9]
      exact hg_zret C dX6_goAct_22 rfl rfl rfl
  · refine hg_aload_n C dX6_goAct_5 rfl 0 rfl ?_
    refine hg_iload_n C dX6_goAct_6 rfl 2 rfl ?_
    refine hg_callV C (ws' := [(mm, .inr (6, [.int 0, .ref m1, .int ts, .int pc, .int pe, .int tu, .ref m6, .ref m7, .int rp, .int rt, .ref ma, .ref mb, .ref mc, .ref md, .ref me, .int ac, .ref mg, .ref mh, .int sn, .ref mj, .ref mk, .long sd, .int sl])), (m6, .inl (E.2.1.1, 36, .inl to)), (m7, .inl (E.2.1.1, 12, .inl so)), (pp, .inl (E.2.1.1, 21, .inl pg))]) (rest := []) (kX6_noTune l E mm m1 m6 m7 ma mb mc md me mg mh mj mk ts pc pe tu rp rt ac sn sd sl a) hfX6_noTune gX6_goAct_X6_noTune ⟨Nat.le_of_ble_eq_true rfl, Nat.le_of_ble_eq_true rfl⟩ ⟨Nat.zero_le _, Nat.zero_le _⟩ [0] rfl (by decide) [mm] rfl rfl rfl 0 rfl rfl rfl rfl (Nat.le_of_ble_eq_true rfl) dX6_goAct_7 ?_
    refine hg_if_eq C (tgt := 23) dX6_goAct_10 (by decide) (fun c4 => ?_) (fun c4 => ?_)
    · refine hg_iload_n C dX6_goAct_23 rfl 2 rfl ?_
      refine hg_iconst C (v := 4) dX6_goAct_24 (by decide) ?_
      refine hg_icmp_ge C (tgt := 38) dX6_goAct_25 (by decide) (fun c5 => ?_) (fun c5 => ?_)
      · refine hg_aload_n C dX6_goAct_38 rfl 0 rfl ?_
        refine hg_aload_n C dX6_goAct_39 rfl 1 rfl ?_
        refine hg_iload_n C dX6_goAct_40 rfl 2 rfl ?_
        refine hg_iconst C (v := 4) dX6_goAct_41 (by decide) ?_
        refine hg_isub C dX6_goAct_42 ?_
        refine hg_callV C (ws' := [(mm, .inr (6, [.int 0, .ref m1, .int ts, .int pc, .int pe, .int tu, .ref m6, .ref m7, .int rp, .int rt, .ref ma, .ref mb, .ref mc, .ref md, .ref me, .int ac, .ref mg, .ref mh, .int sn, .ref mj, .ref mk, .long sd, .int ((fX6_goRound pe to pg (a - 4)).2.1)])), (m6, .inl (E.2.1.1, 36, .inl to)), (m7, .inl (E.2.1.1, 12, .inl so)), (pp, .inl (E.2.1.1, 21, .inl ((fX6_goRound pe to pg (a - 4)).2.2)))]) (rest := []) (kX6_goRound l E mm m1 m6 m7 ma mb mc md me mg mh mj mk ts pc pe tu rp rt ac sn sd sl to so pp pg (a - 4) (Nat.le_of_lt_succ (vp_cl hp7))) hfX6_goRound gX6_goAct_X6_goRound ⟨Nat.le_of_ble_eq_true rfl, Nat.le_of_ble_eq_true rfl⟩ ⟨Nat.zero_le _, Nat.zero_le _⟩ [0, 1, 2, 3] rfl (by decide) [mm, m6, m7, pp] rfl rfl rfl 0 rfl rfl rfl rfl (Nat.le_of_ble_eq_true rfl) dX6_goAct_43 ?_
        refine hg_pop C dX6_goAct_46 rfl ?_
        refine hg_iconst C (v := 1) dX6_goAct_47 (by decide) ?_
        have e9 : (fX6_goAct pe tu sl to so pg a) = (1, (fX6_goRound pe to pg (a - 4)).2.1, (fX6_goRound pe to pg (a - 4)).2.2) := (hid_eq _).trans ((if_neg c1).trans ((if_pos c4).trans ((if_pos c5).trans rfl)))
        rw [e9]
        exact hg_zret C dX6_goAct_48 rfl rfl rfl
      · refine hg_aload_n C dX6_goAct_28 rfl 0 rfl ?_
        refine hg_aload_n C dX6_goAct_29 rfl 1 rfl ?_
        refine hg_iload_n C dX6_goAct_30 rfl 2 rfl ?_
        refine hg_callV C (ws' := [(mm, .inr (6, [.int 0, .ref m1, .int ts, .int pc, .int pe, .int tu, .ref m6, .ref m7, .int rp, .int rt, .ref ma, .ref mb, .ref mc, .ref md, .ref me, .int ac, .ref mg, .ref mh, .int sn, .ref mj, .ref mk, .long sd, .int sl])), (m6, .inl (E.2.1.1, 36, .inl to)), (m7, .inl (E.2.1.1, 12, .inl so)), (pp, .inl (E.2.1.1, 21, .inl ((fX6_goPlay pe to so pg a).2)))]) (rest := []) (kX6_goPlay l E mm m1 m6 m7 ma mb mc md me mg mh mj mk ts pc pe tu rp rt ac sn sd sl to so pp pg a (Nat.le_of_lt_succ (vp_cl hp7)) (by first | exact nt_in ht5 (by assumption) | contradiction)) hfX6_goPlay gX6_goAct_X6_goPlay ⟨Nat.le_of_ble_eq_true rfl, Nat.le_of_ble_eq_true rfl⟩ ⟨Nat.zero_le _, Nat.zero_le _⟩ [0, 1, 2, 3] rfl (by decide) [mm, m6, m7, pp] rfl rfl rfl 0 rfl rfl rfl rfl (Nat.le_of_ble_eq_true rfl) dX6_goAct_31 ?_
        refine hg_pop C dX6_goAct_34 rfl ?_
        refine hg_goto C (tgt := 47) dX6_goAct_35 (by decide) ?_
        refine hg_iconst C (v := 1) dX6_goAct_47 (by decide) ?_
        have e9 : (fX6_goAct pe tu sl to so pg a) = (1, sl, (fX6_goPlay pe to so pg a).2) := (hid_eq _).trans ((if_neg c1).trans ((if_pos c4).trans ((if_neg c5).trans rfl)))
        rw [e9]
        exact hg_zret C dX6_goAct_48 rfl rfl rfl
    · refine hg_goto C (tgt := 21) dX6_goAct_13 (by decide) ?_
      refine hg_iconst C (v := 0) dX6_goAct_21 (by decide) ?_
      have e9 : (fX6_goAct pe tu sl to so pg a) = (0, sl, pg) := (hid_eq _).trans ((if_neg c1).trans ((if_neg c4).trans rfl))
      rw [e9]
      exact hg_zret C dX6_goAct_22 rfl rfl rfl
