theorem cmp_lt {x y : Int64} : lg_cmp x y < 0 ↔ x < y := by
  unfold lg_cmp
  by_cases h1 : x > y
  · rw [if_pos h1]
    exact ⟨fun h => absurd h (by decide), fun h => absurd (Int64.lt_trans h h1) (Int64.lt_irrefl)⟩
  · rw [if_neg h1]
    by_cases h2 : x = y
    · rw [if_pos h2]
      exact ⟨fun h => absurd h (by decide), fun h => absurd (h2 ▸ h) (Int64.lt_irrefl)⟩
    · rw [if_neg h2]
      refine ⟨fun _ => ?_, fun _ => by decide⟩
      exact Int64.lt_of_le_of_ne (Int64.not_lt.mp h1) h2
theorem cmp_gt {x y : Int64} : 0 < lg_cmp x y ↔ y < x := by
  unfold lg_cmp
  by_cases h1 : x > y
  · rw [if_pos h1]
    exact ⟨fun _ => h1, fun _ => by decide⟩
  · rw [if_neg h1]
    by_cases h2 : x = y
    · rw [if_pos h2]
      exact ⟨fun h => absurd h (by decide), fun h => absurd h h1⟩
    · rw [if_neg h2]
      exact ⟨fun h => absurd h (by decide), fun h => absurd h h1⟩
theorem l64_lt {a b : Int32} : a.toInt64 < b.toInt64 ↔ a < b := by
  rw [Int64.lt_iff_toInt_lt, Int32.lt_iff_toInt_lt, Int32.toInt_toInt64, Int32.toInt_toInt64]
theorem in_eq (a b q : Int32) : fX6_in a.toInt64 b.toInt64 q.toInt64 = fX5_isWithin a b q := by
  unfold fX6_in fX5_isWithin
  rw [hid_eq, hid_eq]
  by_cases h1 : a < b
  · rw [if_pos h1, if_pos (cmp_lt.mpr (l64_lt.mpr h1))]
  · rw [if_neg h1, if_neg (fun h => h1 (l64_lt.mp (cmp_lt.mp h)))]
    by_cases h2 : q < a
    · rw [if_pos h2, if_pos (cmp_gt.mpr (l64_lt.mpr h2))]
    · rw [if_neg h2, if_neg (fun h => h2 (l64_lt.mp (cmp_gt.mp h)))]
theorem noT_eq (tu a : Int32) : fX6_noTune tu a = if fX5_isWithin a 0 (tu - 1) = 0 then 1 else 0 := by
  unfold fX6_noTune
  rw [hid_eq, show (0 : Int64) = (0 : Int32).toInt64 from rfl, in_eq]
theorem noO_eq (pe a : Int32) : fX6_noOne pe a = if fX5_isWithin a 0 (pe - 1) = 0 then 1 else 0 := by
  unfold fX6_noOne
  rw [hid_eq, show (0 : Int64) = (0 : Int32).toInt64 from rfl, in_eq]
theorem isW_n {a x : Int32} {n : Nat} (hx : vp_in x (n + 1)) (hn : n < 1000) (h : ¬ fX5_isWithin a 0 (x - 1) = 0) : vp_in a n := by
  obtain ⟨h1, h2⟩ := isW_in h
  obtain ⟨k, hk, rfl⟩ := vp_in_of hx (by omega)
  obtain ⟨j, hj, rfl⟩ := nI_of h1
  rcases Nat.eq_zero_or_pos k with rfl | q
  · exfalso
    have h3 : ¬ nI j < 0 := h1
    exact h2 (Int32.lt_of_lt_of_le (show nI 0 - 1 < 0 by decide) (Int32.not_lt.mp h3))
  · rw [show nI k - 1 = nI (k - 1) from pk_sub (b := 1) q] at h2
    have := lt_nI2 hj h2
    exact vp_in_nI (by omega) (by omega)
theorem nt_in {tu a : Int32} (htu : vp_in tu 5) (h : fX6_noTune tu a = 0) : vp_in a 4 := by
  rw [noT_eq] at h
  refine isW_n htu (by decide) (fun h1 => ?_)
  rw [if_pos h1] at h
  exact absurd h (by decide)
theorem no_in {pe a : Int32} (hpe : vp_in pe 7) (h : fX6_noOne pe a = 0) : vp_in a 6 := by
  rw [noO_eq] at h
  refine isW_n hpe (by decide) (fun h1 => ?_)
  rw [if_pos h1] at h
  exact absurd h (by decide)
theorem in_01 {a : Int32} (h : ¬ fX6_in a.toInt64 0 1 = 0) : a = 0 ∨ a = 1 := by
  rw [show (0 : Int64) = (0 : Int32).toInt64 from rfl, show (1 : Int64) = (1 : Int32).toInt64 from rfl, in_eq] at h
  obtain ⟨h1, h2⟩ := isW_in h
  obtain ⟨j, hj, rfl⟩ := nI_of h1
  have := lt_nI2 (N := 1) hj h2
  rcases (show j = 0 ∨ j = 1 by omega) with rfl | rfl
  · exact Or.inl rfl
  · exact Or.inr rfl
theorem vp_01 {a : Int32} (h : ¬ fX6_in a.toInt64 0 1 = 0) : vp_in a 2 := by
  rcases in_01 h with rfl | rfl <;> (unfold vp_in; decide)
theorem ix_k2 {a : Int32} {k : Nat} (h : ¬ fX6_in a.toInt64 0 1 = 0) (hk : k < 21) : vp_in (21 * a + nI k) 42 := by
  rcases in_01 h with rfl | rfl
  · rw [show (21 : Int32) * 0 = nI 0 from rfl, nI_add]
    exact vp_in_nI (by omega) (by decide)
  · rw [show (21 : Int32) * 1 = nI 21 from rfl, nI_add]
    exact vp_in_nI (by omega) (by decide)
theorem ix_pp {a : Int32} (h : vp_in a 6) : vp_in (6 + a) 21 := by
  obtain ⟨j, hj, rfl⟩ := vp_in_of h (by decide)
  exact ix_6 hj
theorem ix_21a {a : Int32} (h : vp_in a 6) : vp_in a 21 := by
  obtain ⟨j, hj, rfl⟩ := vp_in_of h (by decide)
  exact vp_in_nI (by omega) (by decide)
theorem ix_6p {a : Int32} (h : vp_in a 6) {c : Nat} (hc : c < 6) {x : Int32} (hx : x = nI c) : vp_in (6 * a + x) 36 := by
  obtain ⟨j, hj, rfl⟩ := vp_in_of h (by decide)
  subst hx
  exact ix_6k hj hc
theorem ix_3w {a b : Int32} (h : vp_in a 4) (hb : ¬ fX6_in b.toInt64 0 2 = 0) : vp_in (3 * a + b) 12 := by
  rw [show (0 : Int64) = (0 : Int32).toInt64 from rfl, show (2 : Int64) = (2 : Int32).toInt64 from rfl, in_eq] at hb
  obtain ⟨h1, h2⟩ := isW_in hb
  obtain ⟨k, hk, rfl⟩ := nI_of h1
  have := lt_nI2 (N := 2) hk h2
  obtain ⟨j, hj, rfl⟩ := vp_in_of h (by decide)
  rw [show (3 : Int32) * nI j = nI (3 * j) from pk_mul 3 j, nI_add]
  exact vp_in_nI (by omega) (by decide)
theorem ac_pos {c : Int32} (h : vp_in c 13) (h1 : ¬ c = 0) : vp_in (c - 1) 12 := by
  obtain ⟨j, hj, rfl⟩ := vp_in_of h (by decide)
  have : j ≠ 0 := fun q => h1 (by rw [q]; rfl)
  rw [show nI j - 1 = nI (j - 1) from pk_sub (b := 1) (by omega)]
  exact vp_in_nI (by omega) (by decide)
theorem sn_in {c : Int32} (h : vp_in c 7) (h1 : ¬ c = 6) : vp_in c 6 := vp_ne (n := 6) (by decide) h h1

theorem mmX6_about_f47 : (Cond.fieldLink RX6 47 "HatRoundModel" "thrown" "I") ∈ wsX6_about := (List.mem_cons_of_mem _ (List.mem_append_left _ (List.mem_of_getElem? (i := 0) rfl)))
theorem mrX6_about_6 : ∀ w ∈ u_ws RX6 TX6 23, w ∈ wsX6_about := fun _ h => (List.mem_cons_of_mem _ (List.mem_append_right _ h))
theorem mmX6_about_f51 : (Cond.fieldLink RX6 51 "HatRoundModel" "people" "I") ∈ wsX6_about := (List.mem_cons_of_mem _ (List.mem_append_left _ (List.mem_of_getElem? (i := 1) rfl)))
theorem mmX6_about_f58 : (Cond.fieldLink RX6 58 "HatRoundModel" "tunes" "I") ∈ wsX6_about := (List.mem_cons_of_mem _ (List.mem_append_left _ (List.mem_of_getElem? (i := 2) rfl)))
theorem mmX6_about_f25 : (Cond.fieldLink RX6 25 "HatRoundModel" "page" "[I") ∈ wsX6_about := (List.mem_cons_of_mem _ (List.mem_append_left _ (List.mem_of_getElem? (i := 3) rfl)))
theorem mmX6_about_f97 : (Cond.fieldLink RX6 97 "HatRoundModel" "acts" "I") ∈ wsX6_about := (List.mem_cons_of_mem _ (List.mem_append_left _ (List.mem_of_getElem? (i := 4) rfl)))
theorem mmX6_about_f100 : (Cond.fieldLink RX6 100 "HatRoundModel" "seen" "I") ∈ wsX6_about := (List.mem_cons_of_mem _ (List.mem_append_left _ (List.mem_of_getElem? (i := 5) rfl)))
theorem mmX6_about_f63 : (Cond.fieldLink RX6 63 "HatRoundModel" "textSize" "I") ∈ wsX6_about := (List.mem_cons_of_mem _ (List.mem_append_left _ (List.mem_of_getElem? (i := 6) rfl)))
abbrev rmX6_about : Room := { frames := 0, cells := 0, slots := 0, locals := 0 }
theorem hfX6_about : hCF yX6_about wsX6_about rmX6_about cX6_about 2 (some .int) 1 := ⟨⟨_, rfl⟩, by decide +kernel, rfl, rfl⟩
noncomputable def fX6_about (ts : Int32) (pe : Int32) (tu : Int32) (ac : Int32) (sn : Int32) (pg : Nat → Int32) (a : Int32) : Int32 := hid (if a = 0 then pe else if a = 1 then tu else if a = 2 then pg (14 : Int32).toNatClampNeg else if a = 3 then pg (15 : Int32).toNatClampNeg else if a = 4 then pg (16 : Int32).toNatClampNeg else if a = 5 then pg (12 : Int32).toNatClampNeg else if a = 6 then pg (13 : Int32).toNatClampNeg else if a = 7 then ac else if a = 8 then sn else if a = 9 then ts else (-2))
set_option maxHeartbeats 4000000 in
set_option maxRecDepth 100000 in
theorem kX6_about (l : Launch) (E : hE) (mm : Nat) (m1 : Nat) (m6 : Nat) (m7 : Nat) (ma : Nat) (mb : Nat) (mc : Nat) (md : Nat) (me : Nat) (mg : Nat) (mh : Nat) (mj : Nat) (mk : Nat) (ts : Int32) (pc : Int32) (pe : Int32) (tu : Int32) (rp : Int32) (rt : Int32) (ac : Int32) (sn : Int32) (sd : Int64) (sl : Int32) (pg : Nat → Int32) (a : Int32) : hC l yX6_about wsX6_about rmX6_about E [.ref mm, .int a] [(mm, .inr (6, [.int 0, .ref m1, .int ts, .int pc, .int pe, .int tu, .ref m6, .ref m7, .int rp, .int rt, .ref ma, .ref mb, .ref mc, .ref md, .ref me, .int ac, .ref mg, .ref mh, .int sn, .ref mj, .ref mk, .long sd, .int sl])), (mc, .inl (E.2.1.1, 21, .inl pg))] (some (.int (fX6_about ts pe tu ac sn pg a))) [(mm, .inr (6, [.int 0, .ref m1, .int ts, .int pc, .int pe, .int tu, .ref m6, .ref m7, .int rp, .int rt, .ref ma, .ref mb, .ref mc, .ref md, .ref me, .int ac, .ref mg, .ref mh, .int sn, .ref mj, .ref mk, .long sd, .int sl])), (mc, .inl (E.2.1.1, 21, .inl pg))] := by
  refine hC_intro (cc := cX6_about) (maxL := 2) (ret := (some .int)) (lv0 := [(0, .ref mm), (1, .int a)]) (by decide) rfl (Nat.le_of_ble_eq_true rfl) rfl ?_
  intro p e s m below meth c A C
  refine hg_aload_n C dX6_about_0 rfl 0 rfl ?_
  refine hg_iconst C (v := 0) dX6_about_1 (by decide) ?_
  refine hg_put C (Cn := RX6) (T := TX6) (N := 23) (ws' := [(mm, .inr (6, [.int 0, .ref m1, .int ts, .int pc, .int pe, .int tu, .ref m6, .ref m7, .int rp, .int rt, .ref ma, .ref mb, .ref mc, .ref md, .ref me, .int ac, .ref mg, .ref mh, .int sn, .ref mj, .ref mk, .long sd, .int sl])), (mc, .inl (E.2.1.1, 21, .inl pg))]) mrX6_about_6 tyX6 tyX6_ok nmX6 0 rfl rfl 0 (by decide) mmX6_about_f47 rfl rfl rfl rfl (Nat.le_of_ble_eq_true rfl) rfl dX6_about_2 ?_
  refine hg_iload_n C dX6_about_5 rfl 1 rfl ?_
  by_cases c1 : a = 0
  · refine hg_tabIn C (off := 54) (tgt := 60) dX6_about_6 (by rw [c1]; decide) (by rw [c1]; decide) (by rw [c1]; rfl) (by decide) ?_
    refine hg_aload_n C dX6_about_60 rfl 0 rfl ?_
    refine hg_get C (Cn := RX6) (T := TX6) (N := 23) (v := .int pe) mrX6_about_6 0 rfl rfl 4 (by decide) mmX6_about_f51 rfl dX6_about_61 ?_
    have e9 : (fX6_about ts pe tu ac sn pg a) = pe := (hid_eq _).trans ((if_pos c1).trans rfl)
    rw [e9]
    exact hg_iret C dX6_about_64 rfl rfl
  · by_cases c2 : a = 1
    · refine hg_tabIn C (off := 59) (tgt := 65) dX6_about_6 (by rw [c2]; decide) (by rw [c2]; decide) (by rw [c2]; rfl) (by decide) ?_
      refine hg_aload_n C dX6_about_65 rfl 0 rfl ?_
      refine hg_get C (Cn := RX6) (T := TX6) (N := 23) (v := .int tu) mrX6_about_6 0 rfl rfl 5 (by decide) mmX6_about_f58 rfl dX6_about_66 ?_
      have e9 : (fX6_about ts pe tu ac sn pg a) = tu := (hid_eq _).trans ((if_neg c1).trans ((if_pos c2).trans rfl))
      rw [e9]
      exact hg_iret C dX6_about_69 rfl rfl
    · by_cases c3 : a = 2
      · refine hg_tabIn C (off := 64) (tgt := 70) dX6_about_6 (by rw [c3]; decide) (by rw [c3]; decide) (by rw [c3]; rfl) (by decide) ?_
        refine hg_aload_n C dX6_about_70 rfl 0 rfl ?_
        refine hg_get C (Cn := RX6) (T := TX6) (N := 23) (v := .ref mc) mrX6_about_6 0 rfl rfl 12 (by decide) mmX6_about_f25 rfl dX6_about_71 ?_
        refine hg_bipush C (v := 14) dX6_about_74 (by decide) ?_
        refine hg_iald C 1 rfl (by unfold vp_in; decide) dX6_about_76 ?_
        have e9 : (fX6_about ts pe tu ac sn pg a) = pg (14 : Int32).toNatClampNeg := (hid_eq _).trans ((if_neg c1).trans ((if_neg c2).trans ((if_pos c3).trans rfl)))
        rw [e9]
        exact hg_iret C dX6_about_77 rfl rfl
      · by_cases c4 : a = 3
        · refine hg_tabIn C (off := 72) (tgt := 78) dX6_about_6 (by rw [c4]; decide) (by rw [c4]; decide) (by rw [c4]; rfl) (by decide) ?_
          refine hg_aload_n C dX6_about_78 rfl 0 rfl ?_
          refine hg_get C (Cn := RX6) (T := TX6) (N := 23) (v := .ref mc) mrX6_about_6 0 rfl rfl 12 (by decide) mmX6_about_f25 rfl dX6_about_79 ?_
          refine hg_bipush C (v := 15) dX6_about_82 (by decide) ?_
          refine hg_iald C 1 rfl (by unfold vp_in; decide) dX6_about_84 ?_
          have e9 : (fX6_about ts pe tu ac sn pg a) = pg (15 : Int32).toNatClampNeg := (hid_eq _).trans ((if_neg c1).trans ((if_neg c2).trans ((if_neg c3).trans ((if_pos c4).trans rfl))))
          rw [e9]
          exact hg_iret C dX6_about_85 rfl rfl
        · by_cases c5 : a = 4
          · refine hg_tabIn C (off := 80) (tgt := 86) dX6_about_6 (by rw [c5]; decide) (by rw [c5]; decide) (by rw [c5]; rfl) (by decide) ?_
            refine hg_aload_n C dX6_about_86 rfl 0 rfl ?_
            refine hg_get C (Cn := RX6) (T := TX6) (N := 23) (v := .ref mc) mrX6_about_6 0 rfl rfl 12 (by decide) mmX6_about_f25 rfl dX6_about_87 ?_
            refine hg_bipush C (v := 16) dX6_about_90 (by decide) ?_
            refine hg_iald C 1 rfl (by unfold vp_in; decide) dX6_about_92 ?_
            have e9 : (fX6_about ts pe tu ac sn pg a) = pg (16 : Int32).toNatClampNeg := (hid_eq _).trans ((if_neg c1).trans ((if_neg c2).trans ((if_neg c3).trans ((if_neg c4).trans ((if_pos c5).trans rfl)))))
            rw [e9]
            exact hg_iret C dX6_about_93 rfl rfl
          · by_cases c6 : a = 5
            · refine hg_tabIn C (off := 88) (tgt := 94) dX6_about_6 (by rw [c6]; decide) (by rw [c6]; decide) (by rw [c6]; rfl) (by decide) ?_
              refine hg_aload_n C dX6_about_94 rfl 0 rfl ?_
              refine hg_get C (Cn := RX6) (T := TX6) (N := 23) (v := .ref mc) mrX6_about_6 0 rfl rfl 12 (by decide) mmX6_about_f25 rfl dX6_about_95 ?_
              refine hg_bipush C (v := 12) dX6_about_98 (by decide) ?_
              refine hg_iald C 1 rfl (by unfold vp_in; decide) dX6_about_100 ?_
              have e9 : (fX6_about ts pe tu ac sn pg a) = pg (12 : Int32).toNatClampNeg := (hid_eq _).trans ((if_neg c1).trans ((if_neg c2).trans ((if_neg c3).trans ((if_neg c4).trans ((if_neg c5).trans ((if_pos c6).trans rfl))))))
              rw [e9]
              exact hg_iret C dX6_about_101 rfl rfl
            · by_cases c7 : a = 6
              · refine hg_tabIn C (off := 96) (tgt := 102) dX6_about_6 (by rw [c7]; decide) (by rw [c7]; decide) (by rw [c7]; rfl) (by decide) ?_
                refine hg_aload_n C dX6_about_102 rfl 0 rfl ?_
                refine hg_get C (Cn := RX6) (T := TX6) (N := 23) (v := .ref mc) mrX6_about_6 0 rfl rfl 12 (by decide) mmX6_about_f25 rfl dX6_about_103 ?_
                refine hg_bipush C (v := 13) dX6_about_106 (by decide) ?_
                refine hg_iald C 1 rfl (by unfold vp_in; decide) dX6_about_108 ?_
                have e9 : (fX6_about ts pe tu ac sn pg a) = pg (13 : Int32).toNatClampNeg := (hid_eq _).trans ((if_neg c1).trans ((if_neg c2).trans ((if_neg c3).trans ((if_neg c4).trans ((if_neg c5).trans ((if_neg c6).trans ((if_pos c7).trans rfl)))))))
                rw [e9]
                exact hg_iret C dX6_about_109 rfl rfl
              · by_cases c8 : a = 7
                · refine hg_tabIn C (off := 104) (tgt := 110) dX6_about_6 (by rw [c8]; decide) (by rw [c8]; decide) (by rw [c8]; rfl) (by decide) ?_
                  refine hg_aload_n C dX6_about_110 rfl 0 rfl ?_
                  refine hg_get C (Cn := RX6) (T := TX6) (N := 23) (v := .int ac) mrX6_about_6 0 rfl rfl 15 (by decide) mmX6_about_f97 rfl dX6_about_111 ?_
                  have e9 : (fX6_about ts pe tu ac sn pg a) = ac := (hid_eq _).trans ((if_neg c1).trans ((if_neg c2).trans ((if_neg c3).trans ((if_neg c4).trans ((if_neg c5).trans ((if_neg c6).trans ((if_neg c7).trans ((if_pos c8).trans rfl))))))))
                  rw [e9]
                  exact hg_iret C dX6_about_114 rfl rfl
                · by_cases c9 : a = 8
                  · refine hg_tabIn C (off := 109) (tgt := 115) dX6_about_6 (by rw [c9]; decide) (by rw [c9]; decide) (by rw [c9]; rfl) (by decide) ?_
                    refine hg_aload_n C dX6_about_115 rfl 0 rfl ?_
                    refine hg_get C (Cn := RX6) (T := TX6) (N := 23) (v := .int sn) mrX6_about_6 0 rfl rfl 18 (by decide) mmX6_about_f100 rfl dX6_about_116 ?_
                    have e9 : (fX6_about ts pe tu ac sn pg a) = sn := (hid_eq _).trans ((if_neg c1).trans ((if_neg c2).trans ((if_neg c3).trans ((if_neg c4).trans ((if_neg c5).trans ((if_neg c6).trans ((if_neg c7).trans ((if_neg c8).trans ((if_pos c9).trans rfl)))))))))
                    rw [e9]
                    exact hg_iret C dX6_about_119 rfl rfl
                  · by_cases c10 : a = 9
                    · refine hg_tabIn C (off := 114) (tgt := 120) dX6_about_6 (by rw [c10]; decide) (by rw [c10]; decide) (by rw [c10]; rfl) (by decide) ?_
                      refine hg_aload_n C dX6_about_120 rfl 0 rfl ?_
                      refine hg_get C (Cn := RX6) (T := TX6) (N := 23) (v := .int ts) mrX6_about_6 0 rfl rfl 2 (by decide) mmX6_about_f63 rfl dX6_about_121 ?_
                      have e9 : (fX6_about ts pe tu ac sn pg a) = ts := (hid_eq _).trans ((if_neg c1).trans ((if_neg c2).trans ((if_neg c3).trans ((if_neg c4).trans ((if_neg c5).trans ((if_neg c6).trans ((if_neg c7).trans ((if_neg c8).trans ((if_neg c9).trans ((if_pos c10).trans rfl))))))))))
                      rw [e9]
                      exact hg_iret C dX6_about_124 rfl rfl
                    · refine hg_tabOut C (tgt := 125) dX6_about_6 (tab_out 9 (by decide) (fun k hk => by match k, hk with | 0, _ => exact c1 | 1, _ => exact c2 | 2, _ => exact c3 | 3, _ => exact c4 | 4, _ => exact c5 | 5, _ => exact c6 | 6, _ => exact c7 | 7, _ => exact c8 | 8, _ => exact c9 | 9, _ => exact c10 | k + 10, hk => exact absurd hk (by omega))) (by decide) ?_
                      refine hg_bipush C (v := (-2)) dX6_about_125 (by decide) ?_
                      have e9 : (fX6_about ts pe tu ac sn pg a) = (-2) := (hid_eq _).trans ((if_neg c1).trans ((if_neg c2).trans ((if_neg c3).trans ((if_neg c4).trans ((if_neg c5).trans ((if_neg c6).trans ((if_neg c7).trans ((if_neg c8).trans ((if_neg c9).trans ((if_neg c10).trans rfl))))))))))
                      rw [e9]
                      exact hg_iret C dX6_about_127 rfl rfl
theorem mmX6_person_f47 : (Cond.fieldLink RX6 47 "HatRoundModel" "thrown" "I") ∈ wsX6_person := (List.mem_cons_of_mem _ (List.mem_append_left _ (List.mem_of_getElem? (i := 0) rfl)))
theorem mrX6_person_6 : ∀ w ∈ u_ws RX6 TX6 23, w ∈ wsX6_person := fun _ h => (List.mem_cons_of_mem _ (List.mem_append_right _ h))
theorem mmX6_person_f13 : (Cond.fieldLink RX6 13 "HatRoundModel" "told" "[I") ∈ wsX6_person := (List.mem_cons_of_mem _ (List.mem_append_left _ (List.mem_of_getElem? (i := 1) rfl)))
theorem mmX6_person_f25 : (Cond.fieldLink RX6 25 "HatRoundModel" "page" "[I") ∈ wsX6_person := (List.mem_cons_of_mem _ (List.mem_append_left _ (List.mem_of_getElem? (i := 2) rfl)))
abbrev rmX6_person : Room := { frames := 2, cells := 0, slots := 0, locals := 46 }
theorem hfX6_person : hCF yX6_person wsX6_person rmX6_person cX6_person 3 (some .int) 2 := ⟨⟨_, rfl⟩, by decide +kernel, rfl, rfl⟩
noncomputable def fX6_person (pe : Int32) (to : Nat → Int32) (pg : Nat → Int32) (a : Int32) (b : Int32) : Int32 := hid (if (fX6_noOne pe a) = 0 then (if b = 0 then to ((6 * a) + b).toNatClampNeg else if b = 1 then pg a.toNatClampNeg else if b = 2 then if (0 : Int32) ≤ (pg (6 + a).toNatClampNeg) then (pg (6 + a).toNatClampNeg) else ((-9) : Int32) else if b = 3 then to ((6 * a) + b).toNatClampNeg else if b = 4 then to ((6 * a) + b).toNatClampNeg else if b = 5 then to ((6 * a) + b).toNatClampNeg else if b = 6 then fX6_giftOf pg a else (-2)) else (-1))
set_option maxHeartbeats 4000000 in
set_option maxRecDepth 100000 in
theorem kX6_person (l : Launch) (E : hE) (mm : Nat) (m1 : Nat) (m6 : Nat) (m7 : Nat) (ma : Nat) (mb : Nat) (mc : Nat) (md : Nat) (me : Nat) (mg : Nat) (mh : Nat) (mj : Nat) (mk : Nat) (ts : Int32) (pc : Int32) (pe : Int32) (tu : Int32) (rp : Int32) (rt : Int32) (ac : Int32) (sn : Int32) (sd : Int64) (sl : Int32) (to : Nat → Int32) (pg : Nat → Int32) (a : Int32) (b : Int32) (hp7 : vp_in pe 7) : hC l yX6_person wsX6_person rmX6_person E [.ref mm, .int a, .int b] [(mm, .inr (6, [.int 0, .ref m1, .int ts, .int pc, .int pe, .int tu, .ref m6, .ref m7, .int rp, .int rt, .ref ma, .ref mb, .ref mc, .ref md, .ref me, .int ac, .ref mg, .ref mh, .int sn, .ref mj, .ref mk, .long sd, .int sl])), (m6, .inl (E.2.1.1, 36, .inl to)), (mc, .inl (E.2.1.1, 21, .inl pg))] (some (.int (fX6_person pe to pg a b))) [(mm, .inr (6, [.int 0, .ref m1, .int ts, .int pc, .int pe, .int tu, .ref m6, .ref m7, .int rp, .int rt, .ref ma, .ref mb, .ref mc, .ref md, .ref me, .int ac, .ref mg, .ref mh, .int sn, .ref mj, .ref mk, .long sd, .int sl])), (m6, .inl (E.2.1.1, 36, .inl to)), (mc, .inl (E.2.1.1, 21, .inl pg))] := by
  refine hC_intro (cc := cX6_person) (maxL := 3) (ret := (some .int)) (lv0 := [(0, .ref mm), (1, .int a), (2, .int b)]) (by decide) rfl (Nat.le_of_ble_eq_true rfl) rfl ?_
  intro p e s m below meth c A C
  refine hg_aload_n C dX6_person_0 rfl 0 rfl ?_
  refine hg_iconst C (v := 0) dX6_person_1 (by decide) ?_
  refine hg_put C (Cn := RX6) (T := TX6) (N := 23) (ws' := [(mm, .inr (6, [.int 0, .ref m1, .int ts, .int pc, .int pe, .int tu, .ref m6, .ref m7, .int rp, .int rt, .ref ma, .ref mb, .ref mc, .ref md, .ref me, .int ac, .ref mg, .ref mh, .int sn, .ref mj, .ref mk, .long sd, .int sl])), (m6, .inl (E.2.1.1, 36, .inl to)), (mc, .inl (E.2.1.1, 21, .inl pg))]) mrX6_person_6 tyX6 tyX6_ok nmX6 0 rfl rfl 0 (by decide) mmX6_person_f47 rfl rfl rfl rfl (Nat.le_of_ble_eq_true rfl) rfl dX6_person_2 ?_
  refine hg_aload_n C dX6_person_5 rfl 0 rfl ?_
  refine hg_iload_n C dX6_person_6 rfl 1 rfl ?_
  refine hg_callV C (ws' := [(mm, .inr (6, [.int 0, .ref m1, .int ts, .int pc, .int pe, .int tu, .ref m6, .ref m7, .int rp, .int rt, .ref ma, .ref mb, .ref mc, .ref md, .ref me, .int ac, .ref mg, .ref mh, .int sn, .ref mj, .ref mk, .long sd, .int sl])), (m6, .inl (E.2.1.1, 36, .inl to)), (mc, .inl (E.2.1.1, 21, .inl pg))]) (rest := []) (kX6_noOne l E mm m1 m6 m7 ma mb mc md me mg mh mj mk ts pc pe tu rp rt ac sn sd sl a) hfX6_noOne gX6_person_X6_noOne ⟨Nat.le_of_ble_eq_true rfl, Nat.le_of_ble_eq_true rfl⟩ ⟨Nat.zero_le _, Nat.zero_le _⟩ [0] rfl (by decide) [mm] rfl rfl rfl 0 rfl rfl rfl rfl (Nat.le_of_ble_eq_true rfl) dX6_person_7 ?_
  refine hg_if_eq C (tgt := 15) dX6_person_10 (by decide) (fun c1 => ?_) (fun c1 => ?_)
  · refine hg_iload_n C dX6_person_15 rfl 2 rfl ?_
    by_cases c2 : b = 0
    · refine hg_tabIn C (off := 44) (tgt := 60) dX6_person_16 (by rw [c2]; decide) (by rw [c2]; decide) (by rw [c2]; rfl) (by decide) ?_
      refine hg_aload_n C dX6_person_60 rfl 0 rfl ?_
      refine hg_get C (Cn := RX6) (T := TX6) (N := 23) (v := .ref m6) mrX6_person_6 0 rfl rfl 6 (by decide) mmX6_person_f13 rfl dX6_person_61 ?_
      refine hg_bipush C (v := 6) dX6_person_64 (by decide) ?_
      refine hg_iload_n C dX6_person_66 rfl 1 rfl ?_
      refine hg_imul C dX6_person_67 ?_
      refine hg_iload_n C dX6_person_68 rfl 2 rfl ?_
      refine hg_iadd C dX6_person_69 ?_
      refine hg_iald C 1 rfl (by first | exact ix_6p (no_in hp7 (by assumption)) (c := 0) (by decide) (by assumption) | exact ix_6p (no_in hp7 (by assumption)) (c := 3) (by decide) (by assumption) | exact ix_6p (no_in hp7 (by assumption)) (c := 4) (by decide) (by assumption) | exact ix_6p (no_in hp7 (by assumption)) (c := 5) (by decide) (by assumption)) dX6_person_70 ?_
      have e9 : (fX6_person pe to pg a b) = to ((6 * a) + b).toNatClampNeg := (hid_eq _).trans ((if_pos c1).trans ((if_pos c2).trans rfl))
      rw [e9]
      exact hg_iret C dX6_person_71 rfl rfl
    · by_cases c3 : b = 1
      · refine hg_tabIn C (off := 56) (tgt := 72) dX6_person_16 (by rw [c3]; decide) (by rw [c3]; decide) (by rw [c3]; rfl) (by decide) ?_
        refine hg_aload_n C dX6_person_72 rfl 0 rfl ?_
        refine hg_get C (Cn := RX6) (T := TX6) (N := 23) (v := .ref mc) mrX6_person_6 0 rfl rfl 12 (by decide) mmX6_person_f25 rfl dX6_person_73 ?_
        refine hg_iload_n C dX6_person_76 rfl 1 rfl ?_
        refine hg_iald C 2 rfl (ix_21a (no_in hp7 (by assumption))) dX6_person_77 ?_
        have e9 : (fX6_person pe to pg a b) = pg a.toNatClampNeg := (hid_eq _).trans ((if_pos c1).trans ((if_neg c2).trans ((if_pos c3).trans rfl)))
        rw [e9]
        exact hg_iret C dX6_person_78 rfl rfl
      · by_cases c4 : b = 2
        · refine hg_tabIn C (off := 63) (tgt := 79) dX6_person_16 (by rw [c4]; decide) (by rw [c4]; decide) (by rw [c4]; rfl) (by decide) ?_
          refine hg_aload_n C dX6_person_79 rfl 0 rfl ?_
          refine hg_get C (Cn := RX6) (T := TX6) (N := 23) (v := .ref mc) mrX6_person_6 0 rfl rfl 12 (by decide) mmX6_person_f25 rfl dX6_person_80 ?_
          refine hg_bipush C (v := 6) dX6_person_83 (by decide) ?_
          refine hg_iload_n C dX6_person_85 rfl 1 rfl ?_
          refine hg_iadd C dX6_person_86 ?_
          refine hg_iald C 2 rfl (ix_pp (no_in hp7 (by assumption))) dX6_person_87 ?_
          refine hg_join (J := 105) (v := if (0 : Int32) ≤ (pg (6 + a).toNatClampNeg) then (pg (6 + a).toNatClampNeg) else ((-9) : Int32)) (st1 := []) (fun jj => ?_) ?_
          · refine hg_if_ge C (tgt := 96) dX6_person_88 (by decide) (fun c5 => ?_) (fun c5 => ?_)
            · refine hg_aload_n C dX6_person_96 rfl 0 rfl ?_
              refine hg_get C (Cn := RX6) (T := TX6) (N := 23) (v := .ref mc) mrX6_person_6 0 rfl rfl 12 (by decide) mmX6_person_f25 rfl dX6_person_97 ?_
              refine hg_bipush C (v := 6) dX6_person_100 (by decide) ?_
              refine hg_iload_n C dX6_person_102 rfl 1 rfl ?_
              refine hg_iadd C dX6_person_103 ?_
              refine hg_iald C 2 rfl (ix_pp (no_in hp7 (by assumption))) dX6_person_104 ?_
              exact hg_top (v := if (0 : Int32) ≤ (pg (6 + a).toNatClampNeg) then (pg (6 + a).toNatClampNeg) else ((-9) : Int32)) (v' := pg (6 + a).toNatClampNeg) ((if_pos c5).trans rfl) jj
            · refine hg_bipush C (v := (-9)) dX6_person_91 (by decide) ?_
              refine hg_goto C (tgt := 105) dX6_person_93 (by decide) ?_
              exact hg_top (v := if (0 : Int32) ≤ (pg (6 + a).toNatClampNeg) then (pg (6 + a).toNatClampNeg) else ((-9) : Int32)) (v' := (-9)) ((if_neg c5).trans rfl) jj
          have e9 : (fX6_person pe to pg a b) = if (0 : Int32) ≤ (pg (6 + a).toNatClampNeg) then (pg (6 + a).toNatClampNeg) else ((-9) : Int32) := (hid_eq _).trans ((if_pos c1).trans ((if_neg c2).trans ((if_neg c3).trans ((if_pos c4).trans rfl))))
          rw [e9]
          exact hg_iret C dX6_person_105 rfl rfl
        · by_cases c6 : b = 3
          · refine hg_tabIn C (off := 44) (tgt := 60) dX6_person_16 (by rw [c6]; decide) (by rw [c6]; decide) (by rw [c6]; rfl) (by decide) ?_
            refine hg_aload_n C dX6_person_60 rfl 0 rfl ?_
            refine hg_get C (Cn := RX6) (T := TX6) (N := 23) (v := .ref m6) mrX6_person_6 0 rfl rfl 6 (by decide) mmX6_person_f13 rfl dX6_person_61 ?_
            refine hg_bipush C (v := 6) dX6_person_64 (by decide) ?_
            refine hg_iload_n C dX6_person_66 rfl 1 rfl ?_
            refine hg_imul C dX6_person_67 ?_
            refine hg_iload_n C dX6_person_68 rfl 2 rfl ?_
            refine hg_iadd C dX6_person_69 ?_
            refine hg_iald C 1 rfl (by first | exact ix_6p (no_in hp7 (by assumption)) (c := 0) (by decide) (by assumption) | exact ix_6p (no_in hp7 (by assumption)) (c := 3) (by decide) (by assumption) | exact ix_6p (no_in hp7 (by assumption)) (c := 4) (by decide) (by assumption) | exact ix_6p (no_in hp7 (by assumption)) (c := 5) (by decide) (by assumption)) dX6_person_70 ?_
            have e9 : (fX6_person pe to pg a b) = to ((6 * a) + b).toNatClampNeg := (hid_eq _).trans ((if_pos c1).trans ((if_neg c2).trans ((if_neg c3).trans ((if_neg c4).trans ((if_pos c6).trans rfl)))))
            rw [e9]
            exact hg_iret C dX6_person_71 rfl rfl
          · by_cases c7 : b = 4
            · refine hg_tabIn C (off := 44) (tgt := 60) dX6_person_16 (by rw [c7]; decide) (by rw [c7]; decide) (by rw [c7]; rfl) (by decide) ?_
              refine hg_aload_n C dX6_person_60 rfl 0 rfl ?_
              refine hg_get C (Cn := RX6) (T := TX6) (N := 23) (v := .ref m6) mrX6_person_6 0 rfl rfl 6 (by decide) mmX6_person_f13 rfl dX6_person_61 ?_
              refine hg_bipush C (v := 6) dX6_person_64 (by decide) ?_
              refine hg_iload_n C dX6_person_66 rfl 1 rfl ?_
              refine hg_imul C dX6_person_67 ?_
              refine hg_iload_n C dX6_person_68 rfl 2 rfl ?_
              refine hg_iadd C dX6_person_69 ?_
              refine hg_iald C 1 rfl (by first | exact ix_6p (no_in hp7 (by assumption)) (c := 0) (by decide) (by assumption) | exact ix_6p (no_in hp7 (by assumption)) (c := 3) (by decide) (by assumption) | exact ix_6p (no_in hp7 (by assumption)) (c := 4) (by decide) (by assumption) | exact ix_6p (no_in hp7 (by assumption)) (c := 5) (by decide) (by assumption)) dX6_person_70 ?_
              have e9 : (fX6_person pe to pg a b) = to ((6 * a) + b).toNatClampNeg := (hid_eq _).trans ((if_pos c1).trans ((if_neg c2).trans ((if_neg c3).trans ((if_neg c4).trans ((if_neg c6).trans ((if_pos c7).trans rfl))))))
              rw [e9]
              exact hg_iret C dX6_person_71 rfl rfl
            · by_cases c8 : b = 5
              · refine hg_tabIn C (off := 44) (tgt := 60) dX6_person_16 (by rw [c8]; decide) (by rw [c8]; decide) (by rw [c8]; rfl) (by decide) ?_
                refine hg_aload_n C dX6_person_60 rfl 0 rfl ?_
                refine hg_get C (Cn := RX6) (T := TX6) (N := 23) (v := .ref m6) mrX6_person_6 0 rfl rfl 6 (by decide) mmX6_person_f13 rfl dX6_person_61 ?_
                refine hg_bipush C (v := 6) dX6_person_64 (by decide) ?_
                refine hg_iload_n C dX6_person_66 rfl 1 rfl ?_
                refine hg_imul C dX6_person_67 ?_
                refine hg_iload_n C dX6_person_68 rfl 2 rfl ?_
                refine hg_iadd C dX6_person_69 ?_
                refine hg_iald C 1 rfl (by first | exact ix_6p (no_in hp7 (by assumption)) (c := 0) (by decide) (by assumption) | exact ix_6p (no_in hp7 (by assumption)) (c := 3) (by decide) (by assumption) | exact ix_6p (no_in hp7 (by assumption)) (c := 4) (by decide) (by assumption) | exact ix_6p (no_in hp7 (by assumption)) (c := 5) (by decide) (by assumption)) dX6_person_70 ?_
                have e9 : (fX6_person pe to pg a b) = to ((6 * a) + b).toNatClampNeg := (hid_eq _).trans ((if_pos c1).trans ((if_neg c2).trans ((if_neg c3).trans ((if_neg c4).trans ((if_neg c6).trans ((if_neg c7).trans ((if_pos c8).trans rfl)))))))
                rw [e9]
                exact hg_iret C dX6_person_71 rfl rfl
              · by_cases c9 : b = 6
                · refine hg_tabIn C (off := 90) (tgt := 106) dX6_person_16 (by rw [c9]; decide) (by rw [c9]; decide) (by rw [c9]; rfl) (by decide) ?_
                  refine hg_aload_n C dX6_person_106 rfl 0 rfl ?_
                  refine hg_get C (Cn := RX6) (T := TX6) (N := 23) (v := .ref mc) mrX6_person_6 0 rfl rfl 12 (by decide) mmX6_person_f25 rfl dX6_person_107 ?_
                  refine hg_iload_n C dX6_person_110 rfl 1 rfl ?_
                  refine hg_callS C (ws' := [(mm, .inr (6, [.int 0, .ref m1, .int ts, .int pc, .int pe, .int tu, .ref m6, .ref m7, .int rp, .int rt, .ref ma, .ref mb, .ref mc, .ref md, .ref me, .int ac, .ref mg, .ref mh, .int sn, .ref mj, .ref mk, .long sd, .int sl])), (m6, .inl (E.2.1.1, 36, .inl to)), (mc, .inl (E.2.1.1, 21, .inl pg))]) (rest := []) (kX6_giftOf l E mc pg a (ix_21a (no_in hp7 (by assumption)))) hfX6_giftOf gX6_person_X6_giftOf ⟨Nat.le_of_ble_eq_true rfl, Nat.le_of_ble_eq_true rfl⟩ ⟨Nat.zero_le _, Nat.zero_le _⟩ [2] rfl (by decide) [mc] rfl rfl rfl rfl (Nat.le_of_ble_eq_true rfl) dX6_person_111 ?_
                  have e9 : (fX6_person pe to pg a b) = fX6_giftOf pg a := (hid_eq _).trans ((if_pos c1).trans ((if_neg c2).trans ((if_neg c3).trans ((if_neg c4).trans ((if_neg c6).trans ((if_neg c7).trans ((if_neg c8).trans ((if_pos c9).trans rfl))))))))
                  rw [e9]
                  exact hg_iret C dX6_person_114 rfl rfl
                · refine hg_tabOut C (tgt := 115) dX6_person_16 (tab_out 6 (by decide) (fun k hk => by match k, hk with | 0, _ => exact c2 | 1, _ => exact c3 | 2, _ => exact c4 | 3, _ => exact c6 | 4, _ => exact c7 | 5, _ => exact c8 | 6, _ => exact c9 | k + 7, hk => exact absurd hk (by omega))) (by decide) ?_
                  refine hg_bipush C (v := (-2)) dX6_person_115 (by decide) ?_
                  have e9 : (fX6_person pe to pg a b) = (-2) := (hid_eq _).trans ((if_pos c1).trans ((if_neg c2).trans ((if_neg c3).trans ((if_neg c4).trans ((if_neg c6).trans ((if_neg c7).trans ((if_neg c8).trans ((if_neg c9).trans rfl))))))))
                  rw [e9]
                  exact hg_iret C dX6_person_117 rfl rfl
  · refine hg_iconst C (v := (-1)) dX6_person_13 (by decide) ?_
    have e9 : (fX6_person pe to pg a b) = (-1) := (hid_eq _).trans ((if_neg c1).trans rfl)
    rw [e9]
    exact hg_iret C dX6_person_14 rfl rfl
