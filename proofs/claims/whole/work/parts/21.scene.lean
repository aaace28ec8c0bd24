theorem isW_pos {a b : Int32} (h : ¬ fX5_isWithin a 0 b = 0) : ¬ a < 0 := fun h1 => h ((hid_eq _).trans (if_pos h1))
theorem ht_in {tu a : Int32} (h : ¬ fX2_hasTune tu a = 0) (h4 : a < 4) : vp_in a 4 := by
  rw [show fX2_hasTune tu a = fX5_isWithin a 0 (tu - 1) from hid_eq _] at h
  have h0 : ¬ a < 0 := isW_pos h
  exact vp_of (N := 4) rfl (by decide) h0 (Int32.not_le.mpr h4)

theorem mmX3_copy_f9 : (Cond.fieldLink RX3 9 "HatRound$Scene" "minute" "I") ∈ wsX3_copy := (List.mem_cons_of_mem _ (List.mem_append_left _ (List.mem_of_getElem? (i := 0) rfl)))
theorem mrX3_copy_3 : ∀ w ∈ u_ws RX3 TX3 9, w ∈ wsX3_copy := fun _ h => (List.mem_cons_of_mem _ (List.mem_append_right _ h))
theorem mmX3_copy_f15 : (Cond.fieldLink RX3 15 "HatRound$Scene" "hat" "I") ∈ wsX3_copy := (List.mem_cons_of_mem _ (List.mem_append_left _ (List.mem_of_getElem? (i := 1) rfl)))
theorem mmX3_copy_f18 : (Cond.fieldLink RX3 18 "HatRound$Scene" "bait" "I") ∈ wsX3_copy := (List.mem_cons_of_mem _ (List.mem_append_left _ (List.mem_of_getElem? (i := 2) rfl)))
theorem mmX3_copy_f21 : (Cond.fieldLink RX3 21 "HatRound$Scene" "standing" "I") ∈ wsX3_copy := (List.mem_cons_of_mem _ (List.mem_append_left _ (List.mem_of_getElem? (i := 3) rfl)))
theorem mmX3_copy_f24 : (Cond.fieldLink RX3 24 "HatRound$Scene" "waiting" "I") ∈ wsX3_copy := (List.mem_cons_of_mem _ (List.mem_append_left _ (List.mem_of_getElem? (i := 4) rfl)))
theorem mmX3_copy_f27 : (Cond.fieldLink RX3 27 "HatRound$Scene" "mood" "[I") ∈ wsX3_copy := (List.mem_cons_of_mem _ (List.mem_append_left _ (List.mem_of_getElem? (i := 5) rfl)))
theorem mmX3_copy_j41 : (Cond.methodLink RX3 41 arraycopyName) ∈ wsX3_copy := (List.mem_cons_of_mem _ (List.mem_append_left _ (List.mem_of_getElem? (i := 6) rfl)))
theorem mmX3_copy_jn : (Cond.native arraycopyName) ∈ wsX3_copy := (List.mem_cons_of_mem _ (List.mem_append_left _ (List.mem_of_getElem? (i := 7) rfl)))
theorem mmX3_copy_jsc : (Cond.static arraycopyName) ∈ wsX3_copy := (List.mem_cons_of_mem _ (List.mem_append_left _ (List.mem_of_getElem? (i := 8) rfl)))
theorem mmX3_copy_jis : (Cond.initialized "java/lang/System") ∈ wsX3_copy := (List.mem_cons_of_mem _ (List.mem_append_left _ (List.mem_of_getElem? (i := 9) rfl)))
theorem mmX3_copy_f31 : (Cond.fieldLink RX3 31 "HatRound$Scene" "patience" "[I") ∈ wsX3_copy := (List.mem_cons_of_mem _ (List.mem_append_left _ (List.mem_of_getElem? (i := 10) rfl)))
theorem mmX3_copy_f34 : (Cond.fieldLink RX3 34 "HatRound$Scene" "played" "[I") ∈ wsX3_copy := (List.mem_cons_of_mem _ (List.mem_append_left _ (List.mem_of_getElem? (i := 11) rfl)))
abbrev rmX3_copy : Room := { frames := 1, cells := 0, slots := 0, locals := 26 }
theorem hfX3_copy : hCF yX3_copy wsX3_copy rmX3_copy cX3_copy 2 none 1 := ⟨⟨_, rfl⟩, by decide +kernel, rfl, rfl⟩
def fX3_copy (omi : Int32) (oha : Int32) (oba : Int32) (osg : Int32) (owg : Int32) (omo : Nat → Int32) (opa : Nat → Int32) (opl : Nat → Int32) : Int32 × Int32 × Int32 × Int32 × Int32 × (Nat → Int32) × (Nat → Int32) × (Nat → Int32) := (omi, oha, oba, osg, owg, omo, opa, opl)
set_option maxHeartbeats 4000000 in
set_option maxRecDepth 100000 in
theorem kX3_copy (l : Launch) (E : hE) (fa : Nat) (sa : Nat) (sb : Nat) (sd : Nat) (se : Nat) (mi : Int32) (ha : Int32) (ba : Int32) (sg : Int32) (wg : Int32) (mo : Nat → Int32) (pa : Nat → Int32) (pl : Nat → Int32) (oa : Nat) (ob : Nat) (od : Nat) (oe : Nat) (omi : Int32) (oha : Int32) (oba : Int32) (osg : Int32) (owg : Int32) (omo : Nat → Int32) (opa : Nat → Int32) (opl : Nat → Int32) : hC l yX3_copy wsX3_copy rmX3_copy E [.ref sa, .ref oa] [(sa, .inr (3, [.ref fa, .int mi, .int ha, .int ba, .int sg, .int wg, .ref sb, .ref sd, .ref se])), (sb, .inl (E.2.1.1, 6, .inl mo)), (sd, .inl (E.2.1.1, 6, .inl pa)), (se, .inl (E.2.1.1, 4, .inl pl)), (oa, .inr (3, [.ref fa, .int omi, .int oha, .int oba, .int osg, .int owg, .ref ob, .ref od, .ref oe])), (ob, .inl (E.2.1.1, 6, .inl omo)), (od, .inl (E.2.1.1, 6, .inl opa)), (oe, .inl (E.2.1.1, 4, .inl opl))] none [(sa, .inr (3, [.ref fa, .int ((fX3_copy omi oha oba osg owg omo opa opl).1), .int ((fX3_copy omi oha oba osg owg omo opa opl).2.1), .int ((fX3_copy omi oha oba osg owg omo opa opl).2.2.1), .int ((fX3_copy omi oha oba osg owg omo opa opl).2.2.2.1), .int ((fX3_copy omi oha oba osg owg omo opa opl).2.2.2.2.1), .ref sb, .ref sd, .ref se])), (sb, .inl (E.2.1.1, 6, .inl ((fX3_copy omi oha oba osg owg omo opa opl).2.2.2.2.2.1))), (sd, .inl (E.2.1.1, 6, .inl ((fX3_copy omi oha oba osg owg omo opa opl).2.2.2.2.2.2.1))), (se, .inl (E.2.1.1, 4, .inl ((fX3_copy omi oha oba osg owg omo opa opl).2.2.2.2.2.2.2))), (oa, .inr (3, [.ref fa, .int omi, .int oha, .int oba, .int osg, .int owg, .ref ob, .ref od, .ref oe])), (ob, .inl (E.2.1.1, 6, .inl omo)), (od, .inl (E.2.1.1, 6, .inl opa)), (oe, .inl (E.2.1.1, 4, .inl opl))] := by
  refine hC_intro (cc := cX3_copy) (maxL := 2) (ret := none) (lv0 := [(0, .ref sa), (1, .ref oa)]) (by decide) rfl (Nat.le_of_ble_eq_true rfl) rfl ?_
  intro p e s m below meth c A C
  refine hg_aload_n C dX3_copy_0 rfl 0 rfl ?_
  refine hg_aload_n C dX3_copy_1 rfl 1 rfl ?_
  refine hg_get C (Cn := RX3) (T := TX3) (N := 9) (v := .int omi) mrX3_copy_3 4 rfl rfl 1 (by decide) mmX3_copy_f9 rfl dX3_copy_2 ?_
  refine hg_put C (Cn := RX3) (T := TX3) (N := 9) (ws' := [(sa, .inr (3, [.ref fa, .int omi, .int ha, .int ba, .int sg, .int wg, .ref sb, .ref sd, .ref se])), (sb, .inl (E.2.1.1, 6, .inl mo)), (sd, .inl (E.2.1.1, 6, .inl pa)), (se, .inl (E.2.1.1, 4, .inl pl)), (oa, .inr (3, [.ref fa, .int omi, .int oha, .int oba, .int osg, .int owg, .ref ob, .ref od, .ref oe])), (ob, .inl (E.2.1.1, 6, .inl omo)), (od, .inl (E.2.1.1, 6, .inl opa)), (oe, .inl (E.2.1.1, 4, .inl opl))]) mrX3_copy_3 tyX3 tyX3_ok nmX3 0 rfl rfl 1 (by decide) mmX3_copy_f9 rfl rfl rfl rfl (Nat.le_of_ble_eq_true rfl) rfl dX3_copy_5 ?_
  refine hg_aload_n C dX3_copy_8 rfl 0 rfl ?_
  refine hg_aload_n C dX3_copy_9 rfl 1 rfl ?_
  refine hg_get C (Cn := RX3) (T := TX3) (N := 9) (v := .int oha) mrX3_copy_3 4 rfl rfl 2 (by decide) mmX3_copy_f15 rfl dX3_copy_10 ?_
  refine hg_put C (Cn := RX3) (T := TX3) (N := 9) (ws' := [(sa, .inr (3, [.ref fa, .int omi, .int oha, .int ba, .int sg, .int wg, .ref sb, .ref sd, .ref se])), (sb, .inl (E.2.1.1, 6, .inl mo)), (sd, .inl (E.2.1.1, 6, .inl pa)), (se, .inl (E.2.1.1, 4, .inl pl)), (oa, .inr (3, [.ref fa, .int omi, .int oha, .int oba, .int osg, .int owg, .ref ob, .ref od, .ref oe])), (ob, .inl (E.2.1.1, 6, .inl omo)), (od, .inl (E.2.1.1, 6, .inl opa)), (oe, .inl (E.2.1.1, 4, .inl opl))]) mrX3_copy_3 tyX3 tyX3_ok nmX3 0 rfl rfl 2 (by decide) mmX3_copy_f15 rfl rfl rfl rfl (Nat.le_of_ble_eq_true rfl) rfl dX3_copy_13 ?_
  refine hg_aload_n C dX3_copy_16 rfl 0 rfl ?_
  refine hg_aload_n C dX3_copy_17 rfl 1 rfl ?_
  refine hg_get C (Cn := RX3) (T := TX3) (N := 9) (v := .int oba) mrX3_copy_3 4 rfl rfl 3 (by decide) mmX3_copy_f18 rfl dX3_copy_18 ?_
  refine hg_put C (Cn := RX3) (T := TX3) (N := 9) (ws' := [(sa, .inr (3, [.ref fa, .int omi, .int oha, .int oba, .int sg, .int wg, .ref sb, .ref sd, .ref se])), (sb, .inl (E.2.1.1, 6, .inl mo)), (sd, .inl (E.2.1.1, 6, .inl pa)), (se, .inl (E.2.1.1, 4, .inl pl)), (oa, .inr (3, [.ref fa, .int omi, .int oha, .int oba, .int osg, .int owg, .ref ob, .ref od, .ref oe])), (ob, .inl (E.2.1.1, 6, .inl omo)), (od, .inl (E.2.1.1, 6, .inl opa)), (oe, .inl (E.2.1.1, 4, .inl opl))]) mrX3_copy_3 tyX3 tyX3_ok nmX3 0 rfl rfl 3 (by decide) mmX3_copy_f18 rfl rfl rfl rfl (Nat.le_of_ble_eq_true rfl) rfl dX3_copy_21 ?_
  refine hg_aload_n C dX3_copy_24 rfl 0 rfl ?_
  refine hg_aload_n C dX3_copy_25 rfl 1 rfl ?_
  refine hg_get C (Cn := RX3) (T := TX3) (N := 9) (v := .int osg) mrX3_copy_3 4 rfl rfl 4 (by decide) mmX3_copy_f21 rfl dX3_copy_26 ?_
  refine hg_put C (Cn := RX3) (T := TX3) (N := 9) (ws' := [(sa, .inr (3, [.ref fa, .int omi, .int oha, .int oba, .int osg, .int wg, .ref sb, .ref sd, .ref se])), (sb, .inl (E.2.1.1, 6, .inl mo)), (sd, .inl (E.2.1.1, 6, .inl pa)), (se, .inl (E.2.1.1, 4, .inl pl)), (oa, .inr (3, [.ref fa, .int omi, .int oha, .int oba, .int osg, .int owg, .ref ob, .ref od, .ref oe])), (ob, .inl (E.2.1.1, 6, .inl omo)), (od, .inl (E.2.1.1, 6, .inl opa)), (oe, .inl (E.2.1.1, 4, .inl opl))]) mrX3_copy_3 tyX3 tyX3_ok nmX3 0 rfl rfl 4 (by decide) mmX3_copy_f21 rfl rfl rfl rfl (Nat.le_of_ble_eq_true rfl) rfl dX3_copy_29 ?_
  refine hg_aload_n C dX3_copy_32 rfl 0 rfl ?_
  refine hg_aload_n C dX3_copy_33 rfl 1 rfl ?_
  refine hg_get C (Cn := RX3) (T := TX3) (N := 9) (v := .int owg) mrX3_copy_3 4 rfl rfl 5 (by decide) mmX3_copy_f24 rfl dX3_copy_34 ?_
  refine hg_put C (Cn := RX3) (T := TX3) (N := 9) (ws' := [(sa, .inr (3, [.ref fa, .int omi, .int oha, .int oba, .int osg, .int owg, .ref sb, .ref sd, .ref se])), (sb, .inl (E.2.1.1, 6, .inl mo)), (sd, .inl (E.2.1.1, 6, .inl pa)), (se, .inl (E.2.1.1, 4, .inl pl)), (oa, .inr (3, [.ref fa, .int omi, .int oha, .int oba, .int osg, .int owg, .ref ob, .ref od, .ref oe])), (ob, .inl (E.2.1.1, 6, .inl omo)), (od, .inl (E.2.1.1, 6, .inl opa)), (oe, .inl (E.2.1.1, 4, .inl opl))]) mrX3_copy_3 tyX3 tyX3_ok nmX3 0 rfl rfl 5 (by decide) mmX3_copy_f24 rfl rfl rfl rfl (Nat.le_of_ble_eq_true rfl) rfl dX3_copy_37 ?_
  refine hg_aload_n C dX3_copy_40 rfl 1 rfl ?_
  refine hg_get C (Cn := RX3) (T := TX3) (N := 9) (v := .ref ob) mrX3_copy_3 4 rfl rfl 6 (by decide) mmX3_copy_f27 rfl dX3_copy_41 ?_
  refine hg_iconst C (v := 0) dX3_copy_44 (by decide) ?_
  refine hg_aload_n C dX3_copy_45 rfl 0 rfl ?_
  refine hg_get C (Cn := RX3) (T := TX3) (N := 9) (v := .ref sb) mrX3_copy_3 0 rfl rfl 6 (by decide) mmX3_copy_f27 rfl dX3_copy_46 ?_
  refine hg_iconst C (v := 0) dX3_copy_49 (by decide) ?_
  refine hg_bipush C (v := 6) dX3_copy_50 (by decide) ?_
  refine hg_copyi C mmX3_copy_j41 mmX3_copy_jn mmX3_copy_jsc mmX3_copy_jis (ws' := [(sa, .inr (3, [.ref fa, .int omi, .int oha, .int oba, .int osg, .int owg, .ref sb, .ref sd, .ref se])), (sb, .inl (E.2.1.1, 6, .inl omo)), (sd, .inl (E.2.1.1, 6, .inl pa)), (se, .inl (E.2.1.1, 4, .inl pl)), (oa, .inr (3, [.ref fa, .int omi, .int oha, .int oba, .int osg, .int owg, .ref ob, .ref od, .ref oe])), (ob, .inl (E.2.1.1, 6, .inl omo)), (od, .inl (E.2.1.1, 6, .inl opa)), (oe, .inl (E.2.1.1, 4, .inl opl))]) 5 1 rfl rfl (by decide) (by decide) (Nat.le_of_ble_eq_true rfl) (Nat.le_of_ble_eq_true rfl) rfl dX3_copy_52 ?_
  refine hg_aload_n C dX3_copy_55 rfl 1 rfl ?_
  refine hg_get C (Cn := RX3) (T := TX3) (N := 9) (v := .ref od) mrX3_copy_3 4 rfl rfl 7 (by decide) mmX3_copy_f31 rfl dX3_copy_56 ?_
  refine hg_iconst C (v := 0) dX3_copy_59 (by decide) ?_
  refine hg_aload_n C dX3_copy_60 rfl 0 rfl ?_
  refine hg_get C (Cn := RX3) (T := TX3) (N := 9) (v := .ref sd) mrX3_copy_3 0 rfl rfl 7 (by decide) mmX3_copy_f31 rfl dX3_copy_61 ?_
  refine hg_iconst C (v := 0) dX3_copy_64 (by decide) ?_
  refine hg_bipush C (v := 6) dX3_copy_65 (by decide) ?_
  refine hg_copyi C mmX3_copy_j41 mmX3_copy_jn mmX3_copy_jsc mmX3_copy_jis (ws' := [(sa, .inr (3, [.ref fa, .int omi, .int oha, .int oba, .int osg, .int owg, .ref sb, .ref sd, .ref se])), (sb, .inl (E.2.1.1, 6, .inl omo)), (sd, .inl (E.2.1.1, 6, .inl opa)), (se, .inl (E.2.1.1, 4, .inl pl)), (oa, .inr (3, [.ref fa, .int omi, .int oha, .int oba, .int osg, .int owg, .ref ob, .ref od, .ref oe])), (ob, .inl (E.2.1.1, 6, .inl omo)), (od, .inl (E.2.1.1, 6, .inl opa)), (oe, .inl (E.2.1.1, 4, .inl opl))]) 6 2 rfl rfl (by decide) (by decide) (Nat.le_of_ble_eq_true rfl) (Nat.le_of_ble_eq_true rfl) rfl dX3_copy_67 ?_
  refine hg_aload_n C dX3_copy_70 rfl 1 rfl ?_
  refine hg_get C (Cn := RX3) (T := TX3) (N := 9) (v := .ref oe) mrX3_copy_3 4 rfl rfl 8 (by decide) mmX3_copy_f34 rfl dX3_copy_71 ?_
  refine hg_iconst C (v := 0) dX3_copy_74 (by decide) ?_
  refine hg_aload_n C dX3_copy_75 rfl 0 rfl ?_
  refine hg_get C (Cn := RX3) (T := TX3) (N := 9) (v := .ref se) mrX3_copy_3 0 rfl rfl 8 (by decide) mmX3_copy_f34 rfl dX3_copy_76 ?_
  refine hg_iconst C (v := 0) dX3_copy_79 (by decide) ?_
  refine hg_iconst C (v := 4) dX3_copy_80 (by decide) ?_
  refine hg_copyi C mmX3_copy_j41 mmX3_copy_jn mmX3_copy_jsc mmX3_copy_jis (ws' := [(sa, .inr (3, [.ref fa, .int omi, .int oha, .int oba, .int osg, .int owg, .ref sb, .ref sd, .ref se])), (sb, .inl (E.2.1.1, 6, .inl omo)), (sd, .inl (E.2.1.1, 6, .inl opa)), (se, .inl (E.2.1.1, 4, .inl opl)), (oa, .inr (3, [.ref fa, .int omi, .int oha, .int oba, .int osg, .int owg, .ref ob, .ref od, .ref oe])), (ob, .inl (E.2.1.1, 6, .inl omo)), (od, .inl (E.2.1.1, 6, .inl opa)), (oe, .inl (E.2.1.1, 4, .inl opl))]) 7 3 rfl rfl (by decide) (by decide) (Nat.le_of_ble_eq_true rfl) (Nat.le_of_ble_eq_true rfl) rfl dX3_copy_81 ?_
  have e9 : (fX3_copy omi oha oba osg owg omo opa opl) = (omi, oha, oba, osg, owg, omo, opa, opl) := rfl
  rw [e9]
  exact hg_vret C dX3_copy_84 rfl rfl
noncomputable def gX3_copy_s (T : Sc) : Sc := ((fX3_copy T.1 T.2.1 T.2.2.1 T.2.2.2.1 T.2.2.2.2.1 T.2.2.2.2.2.1 T.2.2.2.2.2.2.1 T.2.2.2.2.2.2.2).1, (fX3_copy T.1 T.2.1 T.2.2.1 T.2.2.2.1 T.2.2.2.2.1 T.2.2.2.2.2.1 T.2.2.2.2.2.2.1 T.2.2.2.2.2.2.2).2.1, (fX3_copy T.1 T.2.1 T.2.2.1 T.2.2.2.1 T.2.2.2.2.1 T.2.2.2.2.2.1 T.2.2.2.2.2.2.1 T.2.2.2.2.2.2.2).2.2.1, (fX3_copy T.1 T.2.1 T.2.2.1 T.2.2.2.1 T.2.2.2.2.1 T.2.2.2.2.2.1 T.2.2.2.2.2.2.1 T.2.2.2.2.2.2.2).2.2.2.1, (fX3_copy T.1 T.2.1 T.2.2.1 T.2.2.2.1 T.2.2.2.2.1 T.2.2.2.2.2.1 T.2.2.2.2.2.2.1 T.2.2.2.2.2.2.2).2.2.2.2.1, (fX3_copy T.1 T.2.1 T.2.2.1 T.2.2.2.1 T.2.2.2.2.1 T.2.2.2.2.2.1 T.2.2.2.2.2.2.1 T.2.2.2.2.2.2.2).2.2.2.2.2.1, (fX3_copy T.1 T.2.1 T.2.2.1 T.2.2.2.1 T.2.2.2.2.1 T.2.2.2.2.2.1 T.2.2.2.2.2.2.1 T.2.2.2.2.2.2.2).2.2.2.2.2.2.1, (fX3_copy T.1 T.2.1 T.2.2.1 T.2.2.2.1 T.2.2.2.2.1 T.2.2.2.2.2.1 T.2.2.2.2.2.2.1 T.2.2.2.2.2.2.2).2.2.2.2.2.2.2)
theorem ksX3_copy (l : Launch) (E : hE) (fa : Nat) (sa : Nat) (sb : Nat) (sd : Nat) (se : Nat) (oa : Nat) (ob : Nat) (od : Nat) (oe : Nat) (S : Sc) (T : Sc) : hC l yX3_copy wsX3_copy rmX3_copy E [.ref sa, .ref oa] [(sa, .inr (3, [.ref fa, .int S.1, .int S.2.1, .int S.2.2.1, .int S.2.2.2.1, .int S.2.2.2.2.1, .ref sb, .ref sd, .ref se])), (sb, .inl (E.2.1.1, 6, .inl S.2.2.2.2.2.1)), (sd, .inl (E.2.1.1, 6, .inl S.2.2.2.2.2.2.1)), (se, .inl (E.2.1.1, 4, .inl S.2.2.2.2.2.2.2)), (oa, .inr (3, [.ref fa, .int T.1, .int T.2.1, .int T.2.2.1, .int T.2.2.2.1, .int T.2.2.2.2.1, .ref ob, .ref od, .ref oe])), (ob, .inl (E.2.1.1, 6, .inl T.2.2.2.2.2.1)), (od, .inl (E.2.1.1, 6, .inl T.2.2.2.2.2.2.1)), (oe, .inl (E.2.1.1, 4, .inl T.2.2.2.2.2.2.2))] none [(sa, .inr (3, [.ref fa, .int ((T).1), .int ((T).2.1), .int ((T).2.2.1), .int ((T).2.2.2.1), .int ((T).2.2.2.2.1), .ref sb, .ref sd, .ref se])), (sb, .inl (E.2.1.1, 6, .inl ((T).2.2.2.2.2.1))), (sd, .inl (E.2.1.1, 6, .inl ((T).2.2.2.2.2.2.1))), (se, .inl (E.2.1.1, 4, .inl ((T).2.2.2.2.2.2.2))), (oa, .inr (3, [.ref fa, .int T.1, .int T.2.1, .int T.2.2.1, .int T.2.2.2.1, .int T.2.2.2.2.1, .ref ob, .ref od, .ref oe])), (ob, .inl (E.2.1.1, 6, .inl T.2.2.2.2.2.1)), (od, .inl (E.2.1.1, 6, .inl T.2.2.2.2.2.2.1)), (oe, .inl (E.2.1.1, 4, .inl T.2.2.2.2.2.2.2))] := kX3_copy l E fa sa sb sd se S.1 S.2.1 S.2.2.1 S.2.2.2.1 S.2.2.2.2.1 S.2.2.2.2.2.1 S.2.2.2.2.2.2.1 S.2.2.2.2.2.2.2 oa ob od oe T.1 T.2.1 T.2.2.1 T.2.2.2.1 T.2.2.2.2.1 T.2.2.2.2.2.1 T.2.2.2.2.2.2.1 T.2.2.2.2.2.2.2
theorem mmX3_ringSize_f21 : (Cond.fieldLink RX3 21 "HatRound$Scene" "standing" "I") ∈ wsX3_ringSize := (List.mem_cons_of_mem _ (List.mem_append_left _ (List.mem_of_getElem? (i := 0) rfl)))
theorem mrX3_ringSize_3 : ∀ w ∈ u_ws RX3 TX3 9, w ∈ wsX3_ringSize := fun _ h => (List.mem_cons_of_mem _ (List.mem_append_right _ h))
abbrev rmX3_ringSize : Room := { frames := 1, cells := 0, slots := 0, locals := 20 }
theorem hfX3_ringSize : hCF yX3_ringSize wsX3_ringSize rmX3_ringSize cX3_ringSize 1 (some .int) 0 := ⟨⟨_, rfl⟩, by decide +kernel, rfl, rfl⟩
noncomputable def fX3_ringSize (sg : Int32) : Int32 := hid (fJ6_bitCount_0f7a4 sg)
set_option maxHeartbeats 4000000 in
set_option maxRecDepth 100000 in
theorem kX3_ringSize (l : Launch) (E : hE) (fa : Nat) (sa : Nat) (sb : Nat) (sd : Nat) (se : Nat) (mi : Int32) (ha : Int32) (ba : Int32) (sg : Int32) (wg : Int32) (mo : Nat → Int32) (pa : Nat → Int32) (pl : Nat → Int32) : hC l yX3_ringSize wsX3_ringSize rmX3_ringSize E [.ref sa] [(sa, .inr (3, [.ref fa, .int mi, .int ha, .int ba, .int sg, .int wg, .ref sb, .ref sd, .ref se])), (sb, .inl (E.2.1.1, 6, .inl mo)), (sd, .inl (E.2.1.1, 6, .inl pa)), (se, .inl (E.2.1.1, 4, .inl pl))] (some (.int (fX3_ringSize sg))) [(sa, .inr (3, [.ref fa, .int mi, .int ha, .int ba, .int sg, .int wg, .ref sb, .ref sd, .ref se])), (sb, .inl (E.2.1.1, 6, .inl mo)), (sd, .inl (E.2.1.1, 6, .inl pa)), (se, .inl (E.2.1.1, 4, .inl pl))] := by
  refine hC_intro (cc := cX3_ringSize) (maxL := 1) (ret := (some .int)) (lv0 := [(0, .ref sa)]) (by decide) rfl (Nat.le_of_ble_eq_true rfl) rfl ?_
  intro p e s m below meth c A C
  refine hg_aload_n C dX3_ringSize_0 rfl 0 rfl ?_
  refine hg_get C (Cn := RX3) (T := TX3) (N := 9) (v := .int sg) mrX3_ringSize_3 0 rfl rfl 4 (by decide) mmX3_ringSize_f21 rfl dX3_ringSize_1 ?_
  refine hg_callS C (ws' := [(sa, .inr (3, [.ref fa, .int mi, .int ha, .int ba, .int sg, .int wg, .ref sb, .ref sd, .ref se])), (sb, .inl (E.2.1.1, 6, .inl mo)), (sd, .inl (E.2.1.1, 6, .inl pa)), (se, .inl (E.2.1.1, 4, .inl pl))]) (rest := []) (kJ6_bitCount_0f7a4 l E sg) hfJ6_bitCount_0f7a4 gX3_ringSize_J6_bitCount_0f7a4 ⟨Nat.le_of_ble_eq_true rfl, Nat.le_of_ble_eq_true rfl⟩ ⟨Nat.zero_le _, Nat.zero_le _⟩ [] rfl (by decide) [] rfl rfl rfl rfl (Nat.le_of_ble_eq_true rfl) dX3_ringSize_4 ?_
  have e9 : (fX3_ringSize sg) = fJ6_bitCount_0f7a4 sg := hid_eq _
  rw [e9]
  exact hg_iret C dX3_ringSize_7 rfl rfl
noncomputable def gX3_ringSize_s (S : Sc) : Int32 := fX3_ringSize S.2.2.2.1
theorem ksX3_ringSize (l : Launch) (E : hE) (fa : Nat) (sa : Nat) (sb : Nat) (sd : Nat) (se : Nat) (S : Sc) : hC l yX3_ringSize wsX3_ringSize rmX3_ringSize E [.ref sa] [(sa, .inr (3, [.ref fa, .int S.1, .int S.2.1, .int S.2.2.1, .int S.2.2.2.1, .int S.2.2.2.2.1, .ref sb, .ref sd, .ref se])), (sb, .inl (E.2.1.1, 6, .inl S.2.2.2.2.2.1)), (sd, .inl (E.2.1.1, 6, .inl S.2.2.2.2.2.2.1)), (se, .inl (E.2.1.1, 4, .inl S.2.2.2.2.2.2.2))] (some (.int (gX3_ringSize_s S))) [(sa, .inr (3, [.ref fa, .int S.1, .int S.2.1, .int S.2.2.1, .int S.2.2.2.1, .int S.2.2.2.2.1, .ref sb, .ref sd, .ref se])), (sb, .inl (E.2.1.1, 6, .inl S.2.2.2.2.2.1)), (sd, .inl (E.2.1.1, 6, .inl S.2.2.2.2.2.2.1)), (se, .inl (E.2.1.1, 4, .inl S.2.2.2.2.2.2.2))] := kX3_ringSize l E fa sa sb sd se S.1 S.2.1 S.2.2.1 S.2.2.2.1 S.2.2.2.2.1 S.2.2.2.2.2.1 S.2.2.2.2.2.2.1 S.2.2.2.2.2.2.2
theorem mmX3_areStanding_f21 : (Cond.fieldLink RX3 21 "HatRound$Scene" "standing" "I") ∈ wsX3_areStanding := (List.mem_cons_of_mem _ (List.mem_append_left _ (List.mem_of_getElem? (i := 0) rfl)))
theorem mrX3_areStanding_3 : ∀ w ∈ u_ws RX3 TX3 9, w ∈ wsX3_areStanding := fun _ h => (List.mem_cons_of_mem _ (List.mem_append_right _ h))
abbrev rmX3_areStanding : Room := { frames := 0, cells := 0, slots := 0, locals := 0 }
theorem hfX3_areStanding : hCF yX3_areStanding wsX3_areStanding rmX3_areStanding cX3_areStanding 2 (some .boolean) 1 := ⟨⟨_, rfl⟩, by decide +kernel, rfl, rfl⟩
noncomputable def fX3_areStanding (sg : Int32) (a : Int32) : Int32 := hid (if (a &&& (sg ^^^ (-1))) = 0 then 1 else 0)
set_option maxHeartbeats 4000000 in
set_option maxRecDepth 100000 in
theorem kX3_areStanding (l : Launch) (E : hE) (fa : Nat) (sa : Nat) (sb : Nat) (sd : Nat) (se : Nat) (mi : Int32) (ha : Int32) (ba : Int32) (sg : Int32) (wg : Int32) (mo : Nat → Int32) (pa : Nat → Int32) (pl : Nat → Int32) (a : Int32) : hC l yX3_areStanding wsX3_areStanding rmX3_areStanding E [.ref sa, .int a] [(sa, .inr (3, [.ref fa, .int mi, .int ha, .int ba, .int sg, .int wg, .ref sb, .ref sd, .ref se])), (sb, .inl (E.2.1.1, 6, .inl mo)), (sd, .inl (E.2.1.1, 6, .inl pa)), (se, .inl (E.2.1.1, 4, .inl pl))] (some (.int (fX3_areStanding sg a))) [(sa, .inr (3, [.ref fa, .int mi, .int ha, .int ba, .int sg, .int wg, .ref sb, .ref sd, .ref se])), (sb, .inl (E.2.1.1, 6, .inl mo)), (sd, .inl (E.2.1.1, 6, .inl pa)), (se, .inl (E.2.1.1, 4, .inl pl))] := by
  refine hC_intro (cc := cX3_areStanding) (maxL := 2) (ret := (some .boolean)) (lv0 := [(0, .ref sa), (1, .int a)]) (by decide) rfl (Nat.le_of_ble_eq_true rfl) rfl ?_
  intro p e s m below meth c A C
  refine hg_iload_n C dX3_areStanding_0 rfl 1 rfl ?_
  refine hg_aload_n C dX3_areStanding_1 rfl 0 rfl ?_
  refine hg_get C (Cn := RX3) (T := TX3) (N := 9) (v := .int sg) mrX3_areStanding_3 0 rfl rfl 4 (by decide) mmX3_areStanding_f21 rfl dX3_areStanding_2 ?_
  refine hg_iconst C (v := (-1)) dX3_areStanding_5 (by decide) ?_
  refine hg_ixor C dX3_areStanding_6 ?_
  refine hg_iand C dX3_areStanding_7 ?_
  refine hg_if_ne C (tgt := 15) dX3_areStanding_8 (by decide) (fun c1 => ?_) (fun c1 => ?_)
  · refine hg_iconst C (v := 0) dX3_areStanding_15 (by decide) ?_
    have e9 : (fX3_areStanding sg a) = 0 := (hid_eq _).trans ((if_neg c1).trans rfl)
    rw [e9]
    exact hg_zret C dX3_areStanding_16 rfl rfl rfl
  · refine hg_iconst C (v := 1) dX3_areStanding_11 (by decide) ?_
    refine hg_goto C (tgt := 16) dX3_areStanding_12 (by decide) ?_
    have e9 : (fX3_areStanding sg a) = 1 := (hid_eq _).trans ((if_pos c1).trans rfl)
    rw [e9]
    exact hg_zret C dX3_areStanding_16 rfl rfl rfl
theorem bbX3_areStanding (sg : Int32) (a : Int32) : (fX3_areStanding sg a) = 0 ∨ (fX3_areStanding sg a) = 1 := by
  unfold fX3_areStanding
  rw [hid_eq]
  (repeat' split) <;> first | exact Or.inl rfl | exact Or.inr rfl
noncomputable def gX3_areStanding_s (a : Int32) (S : Sc) : Int32 := fX3_areStanding S.2.2.2.1 a
theorem ksX3_areStanding (l : Launch) (E : hE) (fa : Nat) (sa : Nat) (sb : Nat) (sd : Nat) (se : Nat) (a : Int32) (S : Sc) : hC l yX3_areStanding wsX3_areStanding rmX3_areStanding E [.ref sa, .int a] [(sa, .inr (3, [.ref fa, .int S.1, .int S.2.1, .int S.2.2.1, .int S.2.2.2.1, .int S.2.2.2.2.1, .ref sb, .ref sd, .ref se])), (sb, .inl (E.2.1.1, 6, .inl S.2.2.2.2.2.1)), (sd, .inl (E.2.1.1, 6, .inl S.2.2.2.2.2.2.1)), (se, .inl (E.2.1.1, 4, .inl S.2.2.2.2.2.2.2))] (some (.int (gX3_areStanding_s a S))) [(sa, .inr (3, [.ref fa, .int S.1, .int S.2.1, .int S.2.2.1, .int S.2.2.2.1, .int S.2.2.2.2.1, .ref sb, .ref sd, .ref se])), (sb, .inl (E.2.1.1, 6, .inl S.2.2.2.2.2.1)), (sd, .inl (E.2.1.1, 6, .inl S.2.2.2.2.2.2.1)), (se, .inl (E.2.1.1, 4, .inl S.2.2.2.2.2.2.2))] := kX3_areStanding l E fa sa sb sd se S.1 S.2.1 S.2.2.1 S.2.2.2.1 S.2.2.2.2.1 S.2.2.2.2.2.1 S.2.2.2.2.2.2.1 S.2.2.2.2.2.2.2 a
theorem mmX3_moodOf_f27 : (Cond.fieldLink RX3 27 "HatRound$Scene" "mood" "[I") ∈ wsX3_moodOf := (List.mem_cons_of_mem _ (List.mem_append_left _ (List.mem_of_getElem? (i := 0) rfl)))
theorem mrX3_moodOf_3 : ∀ w ∈ u_ws RX3 TX3 9, w ∈ wsX3_moodOf := fun _ h => (List.mem_cons_of_mem _ (List.mem_append_right _ h))
abbrev rmX3_moodOf : Room := { frames := 0, cells := 0, slots := 0, locals := 0 }
theorem hfX3_moodOf : hCF yX3_moodOf wsX3_moodOf rmX3_moodOf cX3_moodOf 2 (some .int) 1 := ⟨⟨_, rfl⟩, by decide +kernel, rfl, rfl⟩
noncomputable def fX3_moodOf (mo : Nat → Int32) (a : Int32) : Int32 := hid (if a < 0 then (0 : Int32) else (if (6 : Int32) ≤ a then (0 : Int32) else (mo a.toNatClampNeg)))
set_option maxHeartbeats 4000000 in
set_option maxRecDepth 100000 in
theorem kX3_moodOf (l : Launch) (E : hE) (fa : Nat) (sa : Nat) (sb : Nat) (sd : Nat) (se : Nat) (mi : Int32) (ha : Int32) (ba : Int32) (sg : Int32) (wg : Int32) (mo : Nat → Int32) (pa : Nat → Int32) (pl : Nat → Int32) (a : Int32) : hC l yX3_moodOf wsX3_moodOf rmX3_moodOf E [.ref sa, .int a] [(sa, .inr (3, [.ref fa, .int mi, .int ha, .int ba, .int sg, .int wg, .ref sb, .ref sd, .ref se])), (sb, .inl (E.2.1.1, 6, .inl mo)), (sd, .inl (E.2.1.1, 6, .inl pa)), (se, .inl (E.2.1.1, 4, .inl pl))] (some (.int (fX3_moodOf mo a))) [(sa, .inr (3, [.ref fa, .int mi, .int ha, .int ba, .int sg, .int wg, .ref sb, .ref sd, .ref se])), (sb, .inl (E.2.1.1, 6, .inl mo)), (sd, .inl (E.2.1.1, 6, .inl pa)), (se, .inl (E.2.1.1, 4, .inl pl))] := by
  refine hC_intro (cc := cX3_moodOf) (maxL := 2) (ret := (some .int)) (lv0 := [(0, .ref sa), (1, .int a)]) (by decide) rfl (Nat.le_of_ble_eq_true rfl) rfl ?_
  intro p e s m below meth c A C
  refine hg_iload_n C dX3_moodOf_0 rfl 1 rfl ?_
  refine hg_join (J := 20) (v := if a < 0 then (0 : Int32) else (if (6 : Int32) ≤ a then (0 : Int32) else (mo a.toNatClampNeg))) (st1 := []) (fun jj => ?_) ?_
  · refine hg_if_lt C (tgt := 19) dX3_moodOf_1 (by decide) (fun c1 => ?_) (fun c1 => ?_)
    · refine hg_iconst C (v := 0) dX3_moodOf_19 (by decide) ?_
      exact hg_top (v := if a < 0 then (0 : Int32) else (if (6 : Int32) ≤ a then (0 : Int32) else (mo a.toNatClampNeg))) (v' := 0) ((if_pos c1).trans rfl) jj
    · refine hg_iload_n C dX3_moodOf_4 rfl 1 rfl ?_
      refine hg_bipush C (v := 6) dX3_moodOf_5 (by decide) ?_
      refine hg_join (J := 20) (v := if (6 : Int32) ≤ a then (0 : Int32) else (mo a.toNatClampNeg)) (st1 := []) (fun jj => ?_) ?_
      · refine hg_icmp_ge C (tgt := 19) dX3_moodOf_7 (by decide) (fun c2 => ?_) (fun c2 => ?_)
        · refine hg_iconst C (v := 0) dX3_moodOf_19 (by decide) ?_
          exact hg_top (v := if (6 : Int32) ≤ a then (0 : Int32) else (mo a.toNatClampNeg)) (v' := 0) ((if_pos c2).trans rfl) jj
        · refine hg_aload_n C dX3_moodOf_10 rfl 0 rfl ?_
          refine hg_get C (Cn := RX3) (T := TX3) (N := 9) (v := .ref sb) mrX3_moodOf_3 0 rfl rfl 6 (by decide) mmX3_moodOf_f27 rfl dX3_moodOf_11 ?_
          refine hg_iload_n C dX3_moodOf_14 rfl 1 rfl ?_
          refine hg_iald C 1 rfl (vp_of (N := 6) (n := 6) rfl (by decide) (by assumption) (by assumption)) dX3_moodOf_15 ?_
          refine hg_goto C (tgt := 20) dX3_moodOf_16 (by decide) ?_
          exact hg_top (v := if (6 : Int32) ≤ a then (0 : Int32) else (mo a.toNatClampNeg)) (v' := mo a.toNatClampNeg) ((if_neg c2).trans rfl) jj
      exact hg_top (v := if a < 0 then (0 : Int32) else (if (6 : Int32) ≤ a then (0 : Int32) else (mo a.toNatClampNeg))) (v' := if (6 : Int32) ≤ a then (0 : Int32) else (mo a.toNatClampNeg)) ((if_neg c1).trans rfl) jj
  have e9 : (fX3_moodOf mo a) = if a < 0 then (0 : Int32) else (if (6 : Int32) ≤ a then (0 : Int32) else (mo a.toNatClampNeg)) := hid_eq _
  rw [e9]
  exact hg_iret C dX3_moodOf_20 rfl rfl
noncomputable def gX3_moodOf_s (a : Int32) (S : Sc) : Int32 := fX3_moodOf S.2.2.2.2.2.1 a
theorem ksX3_moodOf (l : Launch) (E : hE) (fa : Nat) (sa : Nat) (sb : Nat) (sd : Nat) (se : Nat) (a : Int32) (S : Sc) : hC l yX3_moodOf wsX3_moodOf rmX3_moodOf E [.ref sa, .int a] [(sa, .inr (3, [.ref fa, .int S.1, .int S.2.1, .int S.2.2.1, .int S.2.2.2.1, .int S.2.2.2.2.1, .ref sb, .ref sd, .ref se])), (sb, .inl (E.2.1.1, 6, .inl S.2.2.2.2.2.1)), (sd, .inl (E.2.1.1, 6, .inl S.2.2.2.2.2.2.1)), (se, .inl (E.2.1.1, 4, .inl S.2.2.2.2.2.2.2))] (some (.int (gX3_moodOf_s a S))) [(sa, .inr (3, [.ref fa, .int S.1, .int S.2.1, .int S.2.2.1, .int S.2.2.2.1, .int S.2.2.2.2.1, .ref sb, .ref sd, .ref se])), (sb, .inl (E.2.1.1, 6, .inl S.2.2.2.2.2.1)), (sd, .inl (E.2.1.1, 6, .inl S.2.2.2.2.2.2.1)), (se, .inl (E.2.1.1, 4, .inl S.2.2.2.2.2.2.2))] := kX3_moodOf l E fa sa sb sd se S.1 S.2.1 S.2.2.1 S.2.2.2.1 S.2.2.2.2.1 S.2.2.2.2.2.1 S.2.2.2.2.2.2.1 S.2.2.2.2.2.2.2 a
theorem mmX3_patienceOf_f31 : (Cond.fieldLink RX3 31 "HatRound$Scene" "patience" "[I") ∈ wsX3_patienceOf := (List.mem_cons_of_mem _ (List.mem_append_left _ (List.mem_of_getElem? (i := 0) rfl)))
theorem mrX3_patienceOf_3 : ∀ w ∈ u_ws RX3 TX3 9, w ∈ wsX3_patienceOf := fun _ h => (List.mem_cons_of_mem _ (List.mem_append_right _ h))
abbrev rmX3_patienceOf : Room := { frames := 0, cells := 0, slots := 0, locals := 0 }
theorem hfX3_patienceOf : hCF yX3_patienceOf wsX3_patienceOf rmX3_patienceOf cX3_patienceOf 2 (some .int) 1 := ⟨⟨_, rfl⟩, by decide +kernel, rfl, rfl⟩
noncomputable def fX3_patienceOf (pa : Nat → Int32) (a : Int32) : Int32 := hid (if a < 0 then (0 : Int32) else (if (6 : Int32) ≤ a then (0 : Int32) else (pa a.toNatClampNeg)))
set_option maxHeartbeats 4000000 in
set_option maxRecDepth 100000 in
theorem kX3_patienceOf (l : Launch) (E : hE) (fa : Nat) (sa : Nat) (sb : Nat) (sd : Nat) (se : Nat) (mi : Int32) (ha : Int32) (ba : Int32) (sg : Int32) (wg : Int32) (mo : Nat → Int32) (pa : Nat → Int32) (pl : Nat → Int32) (a : Int32) : hC l yX3_patienceOf wsX3_patienceOf rmX3_patienceOf E [.ref sa, .int a] [(sa, .inr (3, [.ref fa, .int mi, .int ha, .int ba, .int sg, .int wg, .ref sb, .ref sd, .ref se])), (sb, .inl (E.2.1.1, 6, .inl mo)), (sd, .inl (E.2.1.1, 6, .inl pa)), (se, .inl (E.2.1.1, 4, .inl pl))] (some (.int (fX3_patienceOf pa a))) [(sa, .inr (3, [.ref fa, .int mi, .int ha, .int ba, .int sg, .int wg, .ref sb, .ref sd, .ref se])), (sb, .inl (E.2.1.1, 6, .inl mo)), (sd, .inl (E.2.1.1, 6, .inl pa)), (se, .inl (E.2.1.1, 4, .inl pl))] := by
  refine hC_intro (cc := cX3_patienceOf) (maxL := 2) (ret := (some .int)) (lv0 := [(0, .ref sa), (1, .int a)]) (by decide) rfl (Nat.le_of_ble_eq_true rfl) rfl ?_
  intro p e s m below meth c A C
  refine hg_iload_n C dX3_patienceOf_0 rfl 1 rfl ?_
  refine hg_join (J := 20) (v := if a < 0 then (0 : Int32) else (if (6 : Int32) ≤ a then (0 : Int32) else (pa a.toNatClampNeg))) (st1 := []) (fun jj => ?_) ?_
  · refine hg_if_lt C (tgt := 19) dX3_patienceOf_1 (by decide) (fun c1 => ?_) (fun c1 => ?_)
    · refine hg_iconst C (v := 0) dX3_patienceOf_19 (by decide) ?_
      exact hg_top (v := if a < 0 then (0 : Int32) else (if (6 : Int32) ≤ a then (0 : Int32) else (pa a.toNatClampNeg))) (v' := 0) ((if_pos c1).trans rfl) jj
    · refine hg_iload_n C dX3_patienceOf_4 rfl 1 rfl ?_
      refine hg_bipush C (v := 6) dX3_patienceOf_5 (by decide) ?_
      refine hg_join (J := 20) (v := if (6 : Int32) ≤ a then (0 : Int32) else (pa a.toNatClampNeg)) (st1 := []) (fun jj => ?_) ?_
      · refine hg_icmp_ge C (tgt := 19) dX3_patienceOf_7 (by decide) (fun c2 => ?_) (fun c2 => ?_)
        · refine hg_iconst C (v := 0) dX3_patienceOf_19 (by decide) ?_
          exact hg_top (v := if (6 : Int32) ≤ a then (0 : Int32) else (pa a.toNatClampNeg)) (v' := 0) ((if_pos c2).trans rfl) jj
        · refine hg_aload_n C dX3_patienceOf_10 rfl 0 rfl ?_
          refine hg_get C (Cn := RX3) (T := TX3) (N := 9) (v := .ref sd) mrX3_patienceOf_3 0 rfl rfl 7 (by decide) mmX3_patienceOf_f31 rfl dX3_patienceOf_11 ?_
          refine hg_iload_n C dX3_patienceOf_14 rfl 1 rfl ?_
          refine hg_iald C 2 rfl (vp_of (N := 6) (n := 6) rfl (by decide) (by assumption) (by assumption)) dX3_patienceOf_15 ?_
          refine hg_goto C (tgt := 20) dX3_patienceOf_16 (by decide) ?_
          exact hg_top (v := if (6 : Int32) ≤ a then (0 : Int32) else (pa a.toNatClampNeg)) (v' := pa a.toNatClampNeg) ((if_neg c2).trans rfl) jj
      exact hg_top (v := if a < 0 then (0 : Int32) else (if (6 : Int32) ≤ a then (0 : Int32) else (pa a.toNatClampNeg))) (v' := if (6 : Int32) ≤ a then (0 : Int32) else (pa a.toNatClampNeg)) ((if_neg c1).trans rfl) jj
  have e9 : (fX3_patienceOf pa a) = if a < 0 then (0 : Int32) else (if (6 : Int32) ≤ a then (0 : Int32) else (pa a.toNatClampNeg)) := hid_eq _
  rw [e9]
  exact hg_iret C dX3_patienceOf_20 rfl rfl
noncomputable def gX3_patienceOf_s (a : Int32) (S : Sc) : Int32 := fX3_patienceOf S.2.2.2.2.2.2.1 a
theorem ksX3_patienceOf (l : Launch) (E : hE) (fa : Nat) (sa : Nat) (sb : Nat) (sd : Nat) (se : Nat) (a : Int32) (S : Sc) : hC l yX3_patienceOf wsX3_patienceOf rmX3_patienceOf E [.ref sa, .int a] [(sa, .inr (3, [.ref fa, .int S.1, .int S.2.1, .int S.2.2.1, .int S.2.2.2.1, .int S.2.2.2.2.1, .ref sb, .ref sd, .ref se])), (sb, .inl (E.2.1.1, 6, .inl S.2.2.2.2.2.1)), (sd, .inl (E.2.1.1, 6, .inl S.2.2.2.2.2.2.1)), (se, .inl (E.2.1.1, 4, .inl S.2.2.2.2.2.2.2))] (some (.int (gX3_patienceOf_s a S))) [(sa, .inr (3, [.ref fa, .int S.1, .int S.2.1, .int S.2.2.1, .int S.2.2.2.1, .int S.2.2.2.2.1, .ref sb, .ref sd, .ref se])), (sb, .inl (E.2.1.1, 6, .inl S.2.2.2.2.2.1)), (sd, .inl (E.2.1.1, 6, .inl S.2.2.2.2.2.2.1)), (se, .inl (E.2.1.1, 4, .inl S.2.2.2.2.2.2.2))] := kX3_patienceOf l E fa sa sb sd se S.1 S.2.1 S.2.2.1 S.2.2.2.1 S.2.2.2.2.1 S.2.2.2.2.2.1 S.2.2.2.2.2.2.1 S.2.2.2.2.2.2.2 a
theorem mmX3_timesPlayed_f34 : (Cond.fieldLink RX3 34 "HatRound$Scene" "played" "[I") ∈ wsX3_timesPlayed := (List.mem_cons_of_mem _ (List.mem_append_left _ (List.mem_of_getElem? (i := 0) rfl)))
theorem mrX3_timesPlayed_3 : ∀ w ∈ u_ws RX3 TX3 9, w ∈ wsX3_timesPlayed := fun _ h => (List.mem_cons_of_mem _ (List.mem_append_right _ h))
abbrev rmX3_timesPlayed : Room := { frames := 0, cells := 0, slots := 0, locals := 0 }
theorem hfX3_timesPlayed : hCF yX3_timesPlayed wsX3_timesPlayed rmX3_timesPlayed cX3_timesPlayed 2 (some .int) 1 := ⟨⟨_, rfl⟩, by decide +kernel, rfl, rfl⟩
noncomputable def fX3_timesPlayed (pl : Nat → Int32) (a : Int32) : Int32 := hid (if a < 0 then (0 : Int32) else (if (4 : Int32) ≤ a then (0 : Int32) else (pl a.toNatClampNeg)))
set_option maxHeartbeats 4000000 in
set_option maxRecDepth 100000 in
theorem kX3_timesPlayed (l : Launch) (E : hE) (fa : Nat) (sa : Nat) (sb : Nat) (sd : Nat) (se : Nat) (mi : Int32) (ha : Int32) (ba : Int32) (sg : Int32) (wg : Int32) (mo : Nat → Int32) (pa : Nat → Int32) (pl : Nat → Int32) (a : Int32) : hC l yX3_timesPlayed wsX3_timesPlayed rmX3_timesPlayed E [.ref sa, .int a] [(sa, .inr (3, [.ref fa, .int mi, .int ha, .int ba, .int sg, .int wg, .ref sb, .ref sd, .ref se])), (sb, .inl (E.2.1.1, 6, .inl mo)), (sd, .inl (E.2.1.1, 6, .inl pa)), (se, .inl (E.2.1.1, 4, .inl pl))] (some (.int (fX3_timesPlayed pl a))) [(sa, .inr (3, [.ref fa, .int mi, .int ha, .int ba, .int sg, .int wg, .ref sb, .ref sd, .ref se])), (sb, .inl (E.2.1.1, 6, .inl mo)), (sd, .inl (E.2.1.1, 6, .inl pa)), (se, .inl (E.2.1.1, 4, .inl pl))] := by
  refine hC_intro (cc := cX3_timesPlayed) (maxL := 2) (ret := (some .int)) (lv0 := [(0, .ref sa), (1, .int a)]) (by decide) rfl (Nat.le_of_ble_eq_true rfl) rfl ?_
  intro p e s m below meth c A C
  refine hg_iload_n C dX3_timesPlayed_0 rfl 1 rfl ?_
  refine hg_join (J := 19) (v := if a < 0 then (0 : Int32) else (if (4 : Int32) ≤ a then (0 : Int32) else (pl a.toNatClampNeg))) (st1 := []) (fun jj => ?_) ?_
  · refine hg_if_lt C (tgt := 18) dX3_timesPlayed_1 (by decide) (fun c1 => ?_) (fun c1 => ?_)
    · refine hg_iconst C (v := 0) dX3_timesPlayed_18 (by decide) ?_
      exact hg_top (v := if a < 0 then (0 : Int32) else (if (4 : Int32) ≤ a then (0 : Int32) else (pl a.toNatClampNeg))) (v' := 0) ((if_pos c1).trans rfl) jj
    · refine hg_iload_n C dX3_timesPlayed_4 rfl 1 rfl ?_
      refine hg_iconst C (v := 4) dX3_timesPlayed_5 (by decide) ?_
      refine hg_join (J := 19) (v := if (4 : Int32) ≤ a then (0 : Int32) else (pl a.toNatClampNeg)) (st1 := []) (fun jj => ?_) ?_
      · refine hg_icmp_ge C (tgt := 18) dX3_timesPlayed_6 (by decide) (fun c2 => ?_) (fun c2 => ?_)
        · refine hg_iconst C (v := 0) dX3_timesPlayed_18 (by decide) ?_
          exact hg_top (v := if (4 : Int32) ≤ a then (0 : Int32) else (pl a.toNatClampNeg)) (v' := 0) ((if_pos c2).trans rfl) jj
        · refine hg_aload_n C dX3_timesPlayed_9 rfl 0 rfl ?_
          refine hg_get C (Cn := RX3) (T := TX3) (N := 9) (v := .ref se) mrX3_timesPlayed_3 0 rfl rfl 8 (by decide) mmX3_timesPlayed_f34 rfl dX3_timesPlayed_10 ?_
          refine hg_iload_n C dX3_timesPlayed_13 rfl 1 rfl ?_
          refine hg_iald C 3 rfl (vp_of (N := 4) (n := 4) rfl (by decide) (by assumption) (by assumption)) dX3_timesPlayed_14 ?_
          refine hg_goto C (tgt := 19) dX3_timesPlayed_15 (by decide) ?_
          exact hg_top (v := if (4 : Int32) ≤ a then (0 : Int32) else (pl a.toNatClampNeg)) (v' := pl a.toNatClampNeg) ((if_neg c2).trans rfl) jj
      exact hg_top (v := if a < 0 then (0 : Int32) else (if (4 : Int32) ≤ a then (0 : Int32) else (pl a.toNatClampNeg))) (v' := if (4 : Int32) ≤ a then (0 : Int32) else (pl a.toNatClampNeg)) ((if_neg c1).trans rfl) jj
  have e9 : (fX3_timesPlayed pl a) = if a < 0 then (0 : Int32) else (if (4 : Int32) ≤ a then (0 : Int32) else (pl a.toNatClampNeg)) := hid_eq _
  rw [e9]
  exact hg_iret C dX3_timesPlayed_19 rfl rfl
noncomputable def gX3_timesPlayed_s (a : Int32) (S : Sc) : Int32 := fX3_timesPlayed S.2.2.2.2.2.2.2 a
theorem ksX3_timesPlayed (l : Launch) (E : hE) (fa : Nat) (sa : Nat) (sb : Nat) (sd : Nat) (se : Nat) (a : Int32) (S : Sc) : hC l yX3_timesPlayed wsX3_timesPlayed rmX3_timesPlayed E [.ref sa, .int a] [(sa, .inr (3, [.ref fa, .int S.1, .int S.2.1, .int S.2.2.1, .int S.2.2.2.1, .int S.2.2.2.2.1, .ref sb, .ref sd, .ref se])), (sb, .inl (E.2.1.1, 6, .inl S.2.2.2.2.2.1)), (sd, .inl (E.2.1.1, 6, .inl S.2.2.2.2.2.2.1)), (se, .inl (E.2.1.1, 4, .inl S.2.2.2.2.2.2.2))] (some (.int (gX3_timesPlayed_s a S))) [(sa, .inr (3, [.ref fa, .int S.1, .int S.2.1, .int S.2.2.1, .int S.2.2.2.1, .int S.2.2.2.2.1, .ref sb, .ref sd, .ref se])), (sb, .inl (E.2.1.1, 6, .inl S.2.2.2.2.2.1)), (sd, .inl (E.2.1.1, 6, .inl S.2.2.2.2.2.2.1)), (se, .inl (E.2.1.1, 4, .inl S.2.2.2.2.2.2.2))] := kX3_timesPlayed l E fa sa sb sd se S.1 S.2.1 S.2.2.1 S.2.2.2.1 S.2.2.2.2.1 S.2.2.2.2.2.1 S.2.2.2.2.2.2.1 S.2.2.2.2.2.2.2 a
theorem mmX3_giftOf_f18 : (Cond.fieldLink RX3 18 "HatRound$Scene" "bait" "I") ∈ wsX3_giftOf := (List.mem_cons_of_mem _ (List.mem_append_left _ (List.mem_of_getElem? (i := 0) rfl)))
theorem mrX3_giftOf_3 : ∀ w ∈ u_ws RX3 TX3 9, w ∈ wsX3_giftOf := fun _ h => (List.mem_cons_of_mem _ (List.mem_append_right _ h))
theorem mmX3_giftOf_j72 : (Cond.methodLink RX3 72 Lib.Math.min.name) ∈ wsX3_giftOf := (List.mem_cons_of_mem _ (List.mem_append_left _ (List.mem_of_getElem? (i := 1) rfl)))
theorem mmX3_giftOf_jsmin : (Cond.static Lib.Math.min.name) ∈ wsX3_giftOf := (List.mem_cons_of_mem _ (List.mem_append_left _ (List.mem_of_getElem? (i := 2) rfl)))
theorem mmX3_giftOf_jim : (Cond.initialized "java/lang/Math") ∈ wsX3_giftOf := (List.mem_cons_of_mem _ (List.mem_append_left _ (List.mem_of_getElem? (i := 3) rfl)))
theorem mmX3_giftOf_jcmin : (Cond.code Lib.Math.min.name Lib.Math.min.code 2 (some .int)) ∈ wsX3_giftOf := (List.mem_cons_of_mem _ (List.mem_append_left _ (List.mem_of_getElem? (i := 4) rfl)))
abbrev rmX3_giftOf : Room := { frames := 1, cells := 0, slots := 0, locals := 21 }
theorem hfX3_giftOf : hCF yX3_giftOf wsX3_giftOf rmX3_giftOf cX3_giftOf 2 (some .int) 1 := ⟨⟨_, rfl⟩, by decide +kernel, rfl, rfl⟩
noncomputable def fX3_giftOf (ba : Int32) (mo : Nat → Int32) (a : Int32) : Int32 := hid (if (ba + 1) < ((fX3_moodOf mo a) / 2) then (ba + 1) else ((fX3_moodOf mo a) / 2))
set_option maxHeartbeats 4000000 in
set_option maxRecDepth 100000 in
theorem kX3_giftOf (l : Launch) (E : hE) (fa : Nat) (sa : Nat) (sb : Nat) (sd : Nat) (se : Nat) (mi : Int32) (ha : Int32) (ba : Int32) (sg : Int32) (wg : Int32) (mo : Nat → Int32) (pa : Nat → Int32) (pl : Nat → Int32) (a : Int32) : hC l yX3_giftOf wsX3_giftOf rmX3_giftOf E [.ref sa, .int a] [(sa, .inr (3, [.ref fa, .int mi, .int ha, .int ba, .int sg, .int wg, .ref sb, .ref sd, .ref se])), (sb, .inl (E.2.1.1, 6, .inl mo)), (sd, .inl (E.2.1.1, 6, .inl pa)), (se, .inl (E.2.1.1, 4, .inl pl))] (some (.int (fX3_giftOf ba mo a))) [(sa, .inr (3, [.ref fa, .int mi, .int ha, .int ba, .int sg, .int wg, .ref sb, .ref sd, .ref se])), (sb, .inl (E.2.1.1, 6, .inl mo)), (sd, .inl (E.2.1.1, 6, .inl pa)), (se, .inl (E.2.1.1, 4, .inl pl))] := by
  refine hC_intro (cc := cX3_giftOf) (maxL := 2) (ret := (some .int)) (lv0 := [(0, .ref sa), (1, .int a)]) (by decide) rfl (Nat.le_of_ble_eq_true rfl) rfl ?_
  intro p e s m below meth c A C
  refine hg_aload_n C dX3_giftOf_0 rfl 0 rfl ?_
  refine hg_iload_n C dX3_giftOf_1 rfl 1 rfl ?_
  refine hg_callV C (ws' := [(sa, .inr (3, [.ref fa, .int mi, .int ha, .int ba, .int sg, .int wg, .ref sb, .ref sd, .ref se])), (sb, .inl (E.2.1.1, 6, .inl mo)), (sd, .inl (E.2.1.1, 6, .inl pa)), (se, .inl (E.2.1.1, 4, .inl pl))]) (rest := []) (kX3_moodOf l E fa sa sb sd se mi ha ba sg wg mo pa pl a) hfX3_moodOf gX3_giftOf_X3_moodOf ⟨Nat.le_of_ble_eq_true rfl, Nat.le_of_ble_eq_true rfl⟩ ⟨Nat.zero_le _, Nat.zero_le _⟩ [0, 1, 2, 3] rfl (by decide) [sa, sb, sd, se] rfl rfl rfl 0 rfl rfl rfl rfl (Nat.le_of_ble_eq_true rfl) dX3_giftOf_2 ?_
  refine hg_iconst C (v := 2) dX3_giftOf_5 (by decide) ?_
  refine hg_idiv C dX3_giftOf_6 (by decide) ?_
  refine hg_aload_n C dX3_giftOf_7 rfl 0 rfl ?_
  refine hg_get C (Cn := RX3) (T := TX3) (N := 9) (v := .int ba) mrX3_giftOf_3 0 rfl rfl 3 (by decide) mmX3_giftOf_f18 rfl dX3_giftOf_8 ?_
  refine hg_iconst C (v := 1) dX3_giftOf_11 (by decide) ?_
  refine hg_iadd C dX3_giftOf_12 ?_
  refine hg_mmin C mmX3_giftOf_j72 mmX3_giftOf_jsmin mmX3_giftOf_jim mmX3_giftOf_jcmin (Nat.le_of_ble_eq_true rfl) (Nat.le_of_ble_eq_true rfl) ⟨Nat.zero_le _, Nat.zero_le _⟩ dX3_giftOf_13 ?_
  have e9 : (fX3_giftOf ba mo a) = if (ba + 1) < ((fX3_moodOf mo a) / 2) then (ba + 1) else ((fX3_moodOf mo a) / 2) := hid_eq _
  rw [e9]
  exact hg_iret C dX3_giftOf_16 rfl rfl
noncomputable def gX3_giftOf_s (a : Int32) (S : Sc) : Int32 := fX3_giftOf S.2.2.1 S.2.2.2.2.2.1 a
theorem ksX3_giftOf (l : Launch) (E : hE) (fa : Nat) (sa : Nat) (sb : Nat) (sd : Nat) (se : Nat) (a : Int32) (S : Sc) : hC l yX3_giftOf wsX3_giftOf rmX3_giftOf E [.ref sa, .int a] [(sa, .inr (3, [.ref fa, .int S.1, .int S.2.1, .int S.2.2.1, .int S.2.2.2.1, .int S.2.2.2.2.1, .ref sb, .ref sd, .ref se])), (sb, .inl (E.2.1.1, 6, .inl S.2.2.2.2.2.1)), (sd, .inl (E.2.1.1, 6, .inl S.2.2.2.2.2.2.1)), (se, .inl (E.2.1.1, 4, .inl S.2.2.2.2.2.2.2))] (some (.int (gX3_giftOf_s a S))) [(sa, .inr (3, [.ref fa, .int S.1, .int S.2.1, .int S.2.2.1, .int S.2.2.2.1, .int S.2.2.2.2.1, .ref sb, .ref sd, .ref se])), (sb, .inl (E.2.1.1, 6, .inl S.2.2.2.2.2.1)), (sd, .inl (E.2.1.1, 6, .inl S.2.2.2.2.2.2.1)), (se, .inl (E.2.1.1, 4, .inl S.2.2.2.2.2.2.2))] := kX3_giftOf l E fa sa sb sd se S.1 S.2.1 S.2.2.1 S.2.2.2.1 S.2.2.2.2.1 S.2.2.2.2.2.1 S.2.2.2.2.2.2.1 S.2.2.2.2.2.2.2 a
theorem nmX3_77 : (RX3, 77, yX5_has, RX5) ∈ hNM := by decide +kernel
theorem mmX3_giftsOf_wi5 : (Cond.initialized RX5) ∈ wsX3_giftsOf := (List.mem_cons_of_mem _ (List.mem_append_left _ (List.mem_of_getElem? (i := 1) rfl)))
theorem mmX3_giftsOf_wsX5_has : (Cond.static yX5_has) ∈ wsX3_giftsOf := (List.mem_cons_of_mem _ (List.mem_append_left _ (List.mem_of_getElem? (i := 0) rfl)))
abbrev rmX3_giftsOf : Room := { frames := 2, cells := 0, slots := 0, locals := 42 }
theorem hfX3_giftsOf : hCF yX3_giftsOf wsX3_giftsOf rmX3_giftsOf cX3_giftsOf 4 (some .int) 1 := ⟨⟨_, rfl⟩, by decide +kernel, rfl, rfl⟩
noncomputable def stX3_giftsOf_4 (ba : Int32) (mo : Nat → Int32) (a : Int32) (i : Nat) (σ : Int32) : Int32 := hid (σ + (if (fX5_has a (nI i)) = 0 then (0 : Int32) else (fX3_giftOf ba mo (nI i))))
set_option maxHeartbeats 4000000 in
set_option maxRecDepth 100000 in
theorem lpX3_giftsOf_4 {p : Program} {l : Launch} {e : Env} {s : State} {m : MethodId} {args : Array Value} {below : List Frame} {meth : Method} {c : Code} {E : hE} {A : Nat → Prop} {Q : State → Prop} (C : hX p s m args meth c E A cX3_giftsOf 4 RX3 wsX3_giftsOf (some .int)) (fa : Nat) (sa : Nat) (sb : Nat) (sd : Nat) (se : Nat) (mi : Int32) (ha : Int32) (ba : Int32) (sg : Int32) (wg : Int32) (mo : Nat → Int32) (pa : Nat → Int32) (pl : Nat → Int32) (a : Int32) (σ0 : Int32) (k : hG p l e rmX3_giftsOf s m args below meth c E A 4 Q 0 0 36 [(2, .int (itN (stX3_giftsOf_4 ba mo a) 6 σ0))] [] [(sa, .inr (3, [.ref fa, .int mi, .int ha, .int ba, .int sg, .int wg, .ref sb, .ref sd, .ref se])), (sb, .inl (E.2.1.1, 6, .inl mo)), (sd, .inl (E.2.1.1, 6, .inl pa)), (se, .inl (E.2.1.1, 4, .inl pl))]) : ∀ (n i : Nat) (σ : Int32), i + n = 6 → σ = itN (stX3_giftsOf_4 ba mo a) i σ0 → hG p l e rmX3_giftsOf s m args below meth c E A 4 Q 0 0 4 [(0, .ref sa), (1, .int a), (2, .int σ), (3, .int (nI i))] [] [(sa, .inr (3, [.ref fa, .int mi, .int ha, .int ba, .int sg, .int wg, .ref sb, .ref sd, .ref se])), (sb, .inl (E.2.1.1, 6, .inl mo)), (sd, .inl (E.2.1.1, 6, .inl pa)), (se, .inl (E.2.1.1, 4, .inl pl))] := by
  intro n
  induction n with
  | zero =>
    intro i σ hi hσ
    have hi : i = 6 := by omega
    rw [hi] at hσ
    rw [hi]
    subst hσ
    refine hg_iload_n C dX3_giftsOf_4 rfl 3 rfl ?_
    refine hg_bipush C (v := 6) dX3_giftsOf_5 (by decide) ?_
    refine hg_icmp_ge C (tgt := 36) dX3_giftsOf_7 (by decide) (fun _ => ?_) (fun h => absurd (by decide) h)
    exact hg_sub [2] rfl k
  | succ n ih =>
    intro i σ hi hσ
    have hlt : i < 6 := by omega
    refine hg_iload_n C dX3_giftsOf_4 rfl 3 rfl ?_
    refine hg_bipush C (v := 6) dX3_giftsOf_5 (by decide) ?_
    refine hg_icmp_ge C (tgt := 36) dX3_giftsOf_7 (by decide) (fun h => absurd h (nI_ge hlt (by decide))) (fun _ => ?_)
    refine hg_iload_n C dX3_giftsOf_10 rfl 2 rfl ?_
    refine hg_iload_n C dX3_giftsOf_11 rfl 1 rfl ?_
    refine hg_iload_n C dX3_giftsOf_12 rfl 3 rfl ?_
    refine hg_callN C (ws' := [(sa, .inr (3, [.ref fa, .int mi, .int ha, .int ba, .int sg, .int wg, .ref sb, .ref sd, .ref se])), (sb, .inl (E.2.1.1, 6, .inl mo)), (sd, .inl (E.2.1.1, 6, .inl pa)), (se, .inl (E.2.1.1, 4, .inl pl))]) (rest := [.int σ]) (kX5_has l E a (nI i)) hfX5_has gX3_giftsOf_X5_has_n77 nmX3_77 mmX3_giftsOf_wi5 mmX3_giftsOf_wsX5_has ⟨Nat.le_of_ble_eq_true rfl, Nat.le_of_ble_eq_true rfl⟩ ⟨Nat.zero_le _, Nat.zero_le _⟩ [] rfl (by decide) [] rfl rfl rfl rfl (Nat.le_of_ble_eq_true rfl) dX3_giftsOf_13 ?_
    refine hg_join (J := 28) (v := if (fX5_has a (nI i)) = 0 then (0 : Int32) else (fX3_giftOf ba mo (nI i))) (st1 := [.int σ]) (fun jj => ?_) ?_
    · refine hg_if_eq C (tgt := 27) dX3_giftsOf_16 (by decide) (fun c2 => ?_) (fun c2 => ?_)
      · refine hg_iconst C (v := 0) dX3_giftsOf_27 (by decide) ?_
        exact hg_top (v := if (fX5_has a (nI i)) = 0 then (0 : Int32) else (fX3_giftOf ba mo (nI i))) (v' := 0) ((if_pos c2).trans rfl) jj
      · refine hg_aload_n C dX3_giftsOf_19 rfl 0 rfl ?_
        refine hg_iload_n C dX3_giftsOf_20 rfl 3 rfl ?_
        refine hg_callV C (ws' := [(sa, .inr (3, [.ref fa, .int mi, .int ha, .int ba, .int sg, .int wg, .ref sb, .ref sd, .ref se])), (sb, .inl (E.2.1.1, 6, .inl mo)), (sd, .inl (E.2.1.1, 6, .inl pa)), (se, .inl (E.2.1.1, 4, .inl pl))]) (rest := [.int σ]) (kX3_giftOf l E fa sa sb sd se mi ha ba sg wg mo pa pl (nI i)) hfX3_giftOf gX3_giftsOf_X3_giftOf ⟨Nat.le_of_ble_eq_true rfl, Nat.le_of_ble_eq_true rfl⟩ ⟨Nat.zero_le _, Nat.zero_le _⟩ [0, 1, 2, 3] rfl (by decide) [sa, sb, sd, se] rfl rfl rfl 0 rfl rfl rfl rfl (Nat.le_of_ble_eq_true rfl) dX3_giftsOf_21 ?_
        refine hg_goto C (tgt := 28) dX3_giftsOf_24 (by decide) ?_
        exact hg_top (v := if (fX5_has a (nI i)) = 0 then (0 : Int32) else (fX3_giftOf ba mo (nI i))) (v' := fX3_giftOf ba mo (nI i)) ((if_neg c2).trans rfl) jj
    refine hg_iadd C dX3_giftsOf_28 ?_
    refine hg_istore_n C (lv' := [(2, .int (σ + (if (fX5_has a (nI i)) = 0 then (0 : Int32) else (fX3_giftOf ba mo (nI i))))), (0, .ref sa), (1, .int a), (3, .int (nI i))]) dX3_giftsOf_29 rfl (by decide) rfl ?_
    refine hg_iinc C (v := nI (i + 1)) (lv' := [(3, .int (nI (i + 1))), (2, .int (σ + (if (fX5_has a (nI i)) = 0 then (0 : Int32) else (fX3_giftOf ba mo (nI i))))), (0, .ref sa), (1, .int a)]) dX3_giftsOf_30 3 rfl (nI_inc _) (by decide) rfl ?_
    refine hg_goto C (tgt := 4) dX3_giftsOf_33 (by decide) ?_
    have e9 : (stX3_giftsOf_4 ba mo a) i σ = σ + (if (fX5_has a (nI i)) = 0 then (0 : Int32) else (fX3_giftOf ba mo (nI i))) := hid_eq _
    have h9 := ih (i + 1) (σ + (if (fX5_has a (nI i)) = 0 then (0 : Int32) else (fX3_giftOf ba mo (nI i)))) (by omega) (e9.symm.trans (congrArg ((stX3_giftsOf_4 ba mo a) i) hσ))
    exact hg_sub [2, 3, 1, 0] rfl h9
noncomputable def fX3_giftsOf (ba : Int32) (mo : Nat → Int32) (a : Int32) : Int32 := hid ((itN (stX3_giftsOf_4 ba mo a) 6 0))
set_option maxHeartbeats 4000000 in
set_option maxRecDepth 100000 in
theorem kX3_giftsOf (l : Launch) (E : hE) (fa : Nat) (sa : Nat) (sb : Nat) (sd : Nat) (se : Nat) (mi : Int32) (ha : Int32) (ba : Int32) (sg : Int32) (wg : Int32) (mo : Nat → Int32) (pa : Nat → Int32) (pl : Nat → Int32) (a : Int32) : hC l yX3_giftsOf wsX3_giftsOf rmX3_giftsOf E [.ref sa, .int a] [(sa, .inr (3, [.ref fa, .int mi, .int ha, .int ba, .int sg, .int wg, .ref sb, .ref sd, .ref se])), (sb, .inl (E.2.1.1, 6, .inl mo)), (sd, .inl (E.2.1.1, 6, .inl pa)), (se, .inl (E.2.1.1, 4, .inl pl))] (some (.int (fX3_giftsOf ba mo a))) [(sa, .inr (3, [.ref fa, .int mi, .int ha, .int ba, .int sg, .int wg, .ref sb, .ref sd, .ref se])), (sb, .inl (E.2.1.1, 6, .inl mo)), (sd, .inl (E.2.1.1, 6, .inl pa)), (se, .inl (E.2.1.1, 4, .inl pl))] := by
  refine hC_intro (cc := cX3_giftsOf) (maxL := 4) (ret := (some .int)) (lv0 := [(0, .ref sa), (1, .int a)]) (by decide) rfl (Nat.le_of_ble_eq_true rfl) rfl ?_
  intro p e s m below meth c A C
  refine hg_iconst C (v := 0) dX3_giftsOf_0 (by decide) ?_
  refine hg_istore_n C (lv' := [(2, .int 0), (0, .ref sa), (1, .int a)]) dX3_giftsOf_1 rfl (by decide) rfl ?_
  refine hg_iconst C (v := 0) dX3_giftsOf_2 (by decide) ?_
  refine hg_istore_n C (lv' := [(3, .int 0), (2, .int 0), (0, .ref sa), (1, .int a)]) dX3_giftsOf_3 rfl (by decide) rfl ?_
  refine hg_sub [2, 3, 1, 0] rfl ?_
  refine lpX3_giftsOf_4 C fa sa sb sd se mi ha ba sg wg mo pa pl a 0 ?_ 6 0 0 (by omega) rfl
  refine hg_iload_n C dX3_giftsOf_36 rfl 0 rfl ?_
  have e9 : (fX3_giftsOf ba mo a) = (itN (stX3_giftsOf_4 ba mo a) 6 0) := hid_eq _
  rw [e9]
  exact hg_iret C dX3_giftsOf_37 rfl rfl
noncomputable def gX3_giftsOf_s (a : Int32) (S : Sc) : Int32 := fX3_giftsOf S.2.2.1 S.2.2.2.2.2.1 a
theorem ksX3_giftsOf (l : Launch) (E : hE) (fa : Nat) (sa : Nat) (sb : Nat) (sd : Nat) (se : Nat) (a : Int32) (S : Sc) : hC l yX3_giftsOf wsX3_giftsOf rmX3_giftsOf E [.ref sa, .int a] [(sa, .inr (3, [.ref fa, .int S.1, .int S.2.1, .int S.2.2.1, .int S.2.2.2.1, .int S.2.2.2.2.1, .ref sb, .ref sd, .ref se])), (sb, .inl (E.2.1.1, 6, .inl S.2.2.2.2.2.1)), (sd, .inl (E.2.1.1, 6, .inl S.2.2.2.2.2.2.1)), (se, .inl (E.2.1.1, 4, .inl S.2.2.2.2.2.2.2))] (some (.int (gX3_giftsOf_s a S))) [(sa, .inr (3, [.ref fa, .int S.1, .int S.2.1, .int S.2.2.1, .int S.2.2.2.1, .int S.2.2.2.2.1, .ref sb, .ref sd, .ref se])), (sb, .inl (E.2.1.1, 6, .inl S.2.2.2.2.2.1)), (sd, .inl (E.2.1.1, 6, .inl S.2.2.2.2.2.2.1)), (se, .inl (E.2.1.1, 4, .inl S.2.2.2.2.2.2.2))] := kX3_giftsOf l E fa sa sb sd se S.1 S.2.1 S.2.2.1 S.2.2.2.1 S.2.2.2.2.1 S.2.2.2.2.2.1 S.2.2.2.2.2.2.1 S.2.2.2.2.2.2.2 a
theorem mmX3_letCome_f24 : (Cond.fieldLink RX3 24 "HatRound$Scene" "waiting" "I") ∈ wsX3_letCome := (List.mem_cons_of_mem _ (List.mem_append_left _ (List.mem_append_left _ (List.mem_append_left _ (List.mem_of_getElem? (i := 0) rfl)))))
theorem mrX3_letCome_3 : ∀ w ∈ u_ws RX3 TX3 9, w ∈ wsX3_letCome := fun _ h => (List.mem_cons_of_mem _ (List.mem_append_left _ (List.mem_append_right _ h)))
theorem mmX3_letCome_wi5 : (Cond.initialized RX5) ∈ wsX3_letCome := (List.mem_cons_of_mem _ (List.mem_append_left _ (List.mem_append_left _ (List.mem_append_left _ (List.mem_of_getElem? (i := 4) rfl)))))
theorem mmX3_letCome_wsX5_has : (Cond.static yX5_has) ∈ wsX3_letCome := (List.mem_cons_of_mem _ (List.mem_append_left _ (List.mem_append_left _ (List.mem_append_left _ (List.mem_of_getElem? (i := 3) rfl)))))
theorem mmX3_letCome_f37 : (Cond.fieldLink RX3 37 "HatRound$Scene" "facts" "LHatRound$Facts;") ∈ wsX3_letCome := (List.mem_cons_of_mem _ (List.mem_append_left _ (List.mem_append_left _ (List.mem_append_left _ (List.mem_of_getElem? (i := 1) rfl)))))
theorem mmX3_letCome_f21 : (Cond.fieldLink RX3 21 "HatRound$Scene" "standing" "I") ∈ wsX3_letCome := (List.mem_cons_of_mem _ (List.mem_append_left _ (List.mem_append_left _ (List.mem_append_left _ (List.mem_of_getElem? (i := 2) rfl)))))
abbrev rmX3_letCome : Room := { frames := 2, cells := 0, slots := 0, locals := 46 }
theorem hfX3_letCome : hCF yX3_letCome wsX3_letCome rmX3_letCome cX3_letCome 2 none 0 := ⟨⟨_, rfl⟩, by decide +kernel, rfl, rfl⟩
noncomputable def stX3_letCome_2 (pf : Nat → Int32) (i : Nat) (σ : Int32 × Int32) : Int32 × Int32 := hid (if (fX5_has σ.2 (nI i)) = 0 then (σ.1, σ.2) else if (fX3_ringSize σ.1) < (fX2_ofPerson pf (nI i) 5) then (σ.1, σ.2) else (σ.1 ||| (1 <<< ((nI i) &&& 31)), σ.2 &&& ((1 <<< ((nI i) &&& 31)) ^^^ (-1))))
set_option maxHeartbeats 4000000 in
set_option maxRecDepth 100000 in
theorem lpX3_letCome_2 {p : Program} {l : Launch} {e : Env} {s : State} {m : MethodId} {args : Array Value} {below : List Frame} {meth : Method} {c : Code} {E : hE} {A : Nat → Prop} {Q : State → Prop} (C : hX p s m args meth c E A cX3_letCome 2 RX3 wsX3_letCome none) (fa : Nat) (fb : Nat) (fc : Nat) (pe : Int32) (tu : Int32) (pf : Nat → Int32) (tf : Nat → Int32) (sa : Nat) (sb : Nat) (sd : Nat) (se : Nat) (mi : Int32) (ha : Int32) (ba : Int32) (sg : Int32) (wg : Int32) (mo : Nat → Int32) (pa : Nat → Int32) (pl : Nat → Int32) (σ0 : Int32 × Int32) (k : hG p l e rmX3_letCome s m args below meth c E A 2 Q 0 0 67 [] [] [(fa, .inr (2, [.int pe, .int tu, .ref fb, .ref fc])), (fb, .inl (E.2.1.1, 36, .inl pf)), (fc, .inl (E.2.1.1, 12, .inl tf)), (sa, .inr (3, [.ref fa, .int mi, .int ha, .int ba, .int ((itN (stX3_letCome_2 pf) 6 σ0).1), .int ((itN (stX3_letCome_2 pf) 6 σ0).2), .ref sb, .ref sd, .ref se])), (sb, .inl (E.2.1.1, 6, .inl mo)), (sd, .inl (E.2.1.1, 6, .inl pa)), (se, .inl (E.2.1.1, 4, .inl pl))]) : ∀ (n i : Nat) (σ : Int32 × Int32), i + n = 6 → σ = itN (stX3_letCome_2 pf) i σ0 → hG p l e rmX3_letCome s m args below meth c E A 2 Q 0 0 2 [(0, .ref sa), (1, .int (nI i))] [] [(fa, .inr (2, [.int pe, .int tu, .ref fb, .ref fc])), (fb, .inl (E.2.1.1, 36, .inl pf)), (fc, .inl (E.2.1.1, 12, .inl tf)), (sa, .inr (3, [.ref fa, .int mi, .int ha, .int ba, .int σ.1, .int σ.2, .ref sb, .ref sd, .ref se])), (sb, .inl (E.2.1.1, 6, .inl mo)), (sd, .inl (E.2.1.1, 6, .inl pa)), (se, .inl (E.2.1.1, 4, .inl pl))] := by
  intro n
  induction n with
  | zero =>
    intro i σ hi hσ
    have hi : i = 6 := by omega
    rw [hi] at hσ
    rw [hi]
    subst hσ
    refine hg_iload_n C dX3_letCome_2 rfl 1 rfl ?_
    refine hg_bipush C (v := 6) dX3_letCome_3 (by decide) ?_
    refine hg_icmp_ge C (tgt := 67) dX3_letCome_5 (by decide) (fun _ => ?_) (fun h => absurd (by decide) h)
    exact hg_sub [] rfl k
  | succ n ih =>
    intro i σ hi hσ
    have hlt : i < 6 := by omega
    refine hg_iload_n C dX3_letCome_2 rfl 1 rfl ?_
    refine hg_bipush C (v := 6) dX3_letCome_3 (by decide) ?_
    refine hg_icmp_ge C (tgt := 67) dX3_letCome_5 (by decide) (fun h => absurd h (nI_ge hlt (by decide))) (fun _ => ?_)
    refine hg_aload_n C dX3_letCome_8 rfl 0 rfl ?_
    refine hg_get C (Cn := RX3) (T := TX3) (N := 9) (v := .int σ.2) mrX3_letCome_3 3 rfl rfl 5 (by decide) mmX3_letCome_f24 rfl dX3_letCome_9 ?_
    refine hg_iload_n C dX3_letCome_12 rfl 1 rfl ?_
    refine hg_callN C (ws' := [(fa, .inr (2, [.int pe, .int tu, .ref fb, .ref fc])), (fb, .inl (E.2.1.1, 36, .inl pf)), (fc, .inl (E.2.1.1, 12, .inl tf)), (sa, .inr (3, [.ref fa, .int mi, .int ha, .int ba, .int σ.1, .int σ.2, .ref sb, .ref sd, .ref se])), (sb, .inl (E.2.1.1, 6, .inl mo)), (sd, .inl (E.2.1.1, 6, .inl pa)), (se, .inl (E.2.1.1, 4, .inl pl))]) (rest := []) (kX5_has l E σ.2 (nI i)) hfX5_has gX3_letCome_X5_has_n77 nmX3_77 mmX3_letCome_wi5 mmX3_letCome_wsX5_has ⟨Nat.le_of_ble_eq_true rfl, Nat.le_of_ble_eq_true rfl⟩ ⟨Nat.zero_le _, Nat.zero_le _⟩ [] rfl (by decide) [] rfl rfl rfl rfl (Nat.le_of_ble_eq_true rfl) dX3_letCome_13 ?_
    refine hg_if_eq C (tgt := 61) dX3_letCome_16 (by decide) (fun c3 => ?_) (fun c3 => ?_)
    · refine hg_iinc C (v := nI (i + 1)) (lv' := [(1, .int (nI (i + 1))), (0, .ref sa)]) dX3_letCome_61 1 rfl (nI_inc _) (by decide) rfl ?_
      refine hg_goto C (tgt := 2) dX3_letCome_64 (by decide) ?_
      have e9 : (stX3_letCome_2 pf) i σ = (σ.1, σ.2) := (hid_eq _).trans ((if_pos c3).trans rfl)
      have h9 := ih (i + 1) (σ.1, σ.2) (by omega) (e9.symm.trans (congrArg ((stX3_letCome_2 pf) i) hσ))
      exact hg_sub [1, 0] rfl h9
    · refine hg_aload_n C dX3_letCome_19 rfl 0 rfl ?_
      refine hg_callV C (ws' := [(fa, .inr (2, [.int pe, .int tu, .ref fb, .ref fc])), (fb, .inl (E.2.1.1, 36, .inl pf)), (fc, .inl (E.2.1.1, 12, .inl tf)), (sa, .inr (3, [.ref fa, .int mi, .int ha, .int ba, .int σ.1, .int σ.2, .ref sb, .ref sd, .ref se])), (sb, .inl (E.2.1.1, 6, .inl mo)), (sd, .inl (E.2.1.1, 6, .inl pa)), (se, .inl (E.2.1.1, 4, .inl pl))]) (rest := []) (kX3_ringSize l E fa sa sb sd se mi ha ba σ.1 σ.2 mo pa pl) hfX3_ringSize gX3_letCome_X3_ringSize ⟨Nat.le_of_ble_eq_true rfl, Nat.le_of_ble_eq_true rfl⟩ ⟨Nat.zero_le _, Nat.zero_le _⟩ [3, 4, 5, 6] rfl (by decide) [sa, sb, sd, se] rfl rfl rfl 3 rfl rfl rfl rfl (Nat.le_of_ble_eq_true rfl) dX3_letCome_20 ?_
      refine hg_aload_n C dX3_letCome_23 rfl 0 rfl ?_
      refine hg_get C (Cn := RX3) (T := TX3) (N := 9) (v := .ref fa) mrX3_letCome_3 3 rfl rfl 0 (by decide) mmX3_letCome_f37 rfl dX3_letCome_24 ?_
      refine hg_iload_n C dX3_letCome_27 rfl 1 rfl ?_
      refine hg_iconst C (v := 5) dX3_letCome_28 (by decide) ?_
      refine hg_callV C (ws' := [(fa, .inr (2, [.int pe, .int tu, .ref fb, .ref fc])), (fb, .inl (E.2.1.1, 36, .inl pf)), (fc, .inl (E.2.1.1, 12, .inl tf)), (sa, .inr (3, [.ref fa, .int mi, .int ha, .int ba, .int σ.1, .int σ.2, .ref sb, .ref sd, .ref se])), (sb, .inl (E.2.1.1, 6, .inl mo)), (sd, .inl (E.2.1.1, 6, .inl pa)), (se, .inl (E.2.1.1, 4, .inl pl))]) (rest := [.int (fX3_ringSize σ.1)]) (kX2_ofPerson l E fa fb fc pe tu pf tf (nI i) 5) hfX2_ofPerson gX3_letCome_X2_ofPerson ⟨Nat.le_of_ble_eq_true rfl, Nat.le_of_ble_eq_true rfl⟩ ⟨Nat.zero_le _, Nat.zero_le _⟩ [0, 1, 2] rfl (by decide) [fa, fb, fc] rfl rfl rfl 0 rfl rfl rfl rfl (Nat.le_of_ble_eq_true rfl) dX3_letCome_29 ?_
      refine hg_icmp_lt C (tgt := 61) dX3_letCome_32 (by decide) (fun c4 => ?_) (fun c4 => ?_)
      · refine hg_iinc C (v := nI (i + 1)) (lv' := [(1, .int (nI (i + 1))), (0, .ref sa)]) dX3_letCome_61 1 rfl (nI_inc _) (by decide) rfl ?_
        refine hg_goto C (tgt := 2) dX3_letCome_64 (by decide) ?_
        have e9 : (stX3_letCome_2 pf) i σ = (σ.1, σ.2) := (hid_eq _).trans ((if_neg c3).trans ((if_pos c4).trans rfl))
        have h9 := ih (i + 1) (σ.1, σ.2) (by omega) (e9.symm.trans (congrArg ((stX3_letCome_2 pf) i) hσ))
        exact hg_sub [1, 0] rfl h9
      · refine hg_aload_n C dX3_letCome_35 rfl 0 rfl ?_
        refine hg_dup C dX3_letCome_36 rfl ?_
        refine hg_get C (Cn := RX3) (T := TX3) (N := 9) (v := .int σ.2) mrX3_letCome_3 3 rfl rfl 5 (by decide) mmX3_letCome_f24 rfl dX3_letCome_37 ?_
        refine hg_iconst C (v := 1) dX3_letCome_40 (by decide) ?_
        refine hg_iload_n C dX3_letCome_41 rfl 1 rfl ?_
        refine hg_ishl C dX3_letCome_42 ?_
        refine hg_iconst C (v := (-1)) dX3_letCome_43 (by decide) ?_
        refine hg_ixor C dX3_letCome_44 ?_
        refine hg_iand C dX3_letCome_45 ?_
        refine hg_put C (Cn := RX3) (T := TX3) (N := 9) (ws' := [(fa, .inr (2, [.int pe, .int tu, .ref fb, .ref fc])), (fb, .inl (E.2.1.1, 36, .inl pf)), (fc, .inl (E.2.1.1, 12, .inl tf)), (sa, .inr (3, [.ref fa, .int mi, .int ha, .int ba, .int σ.1, .int (σ.2 &&& ((1 <<< ((nI i) &&& 31)) ^^^ (-1))), .ref sb, .ref sd, .ref se])), (sb, .inl (E.2.1.1, 6, .inl mo)), (sd, .inl (E.2.1.1, 6, .inl pa)), (se, .inl (E.2.1.1, 4, .inl pl))]) mrX3_letCome_3 tyX3 tyX3_ok nmX3 3 rfl rfl 5 (by decide) mmX3_letCome_f24 rfl rfl rfl rfl (Nat.le_of_ble_eq_true rfl) rfl dX3_letCome_46 ?_
        refine hg_aload_n C dX3_letCome_49 rfl 0 rfl ?_
        refine hg_dup C dX3_letCome_50 rfl ?_
        refine hg_get C (Cn := RX3) (T := TX3) (N := 9) (v := .int σ.1) mrX3_letCome_3 3 rfl rfl 4 (by decide) mmX3_letCome_f21 rfl dX3_letCome_51 ?_
        refine hg_iconst C (v := 1) dX3_letCome_54 (by decide) ?_
        refine hg_iload_n C dX3_letCome_55 rfl 1 rfl ?_
        refine hg_ishl C dX3_letCome_56 ?_
        refine hg_ior C dX3_letCome_57 ?_
        refine hg_put C (Cn := RX3) (T := TX3) (N := 9) (ws' := [(fa, .inr (2, [.int pe, .int tu, .ref fb, .ref fc])), (fb, .inl (E.2.1.1, 36, .inl pf)), (fc, .inl (E.2.1.1, 12, .inl tf)), (sa, .inr (3, [.ref fa, .int mi, .int ha, .int ba, .int (σ.1 ||| (1 <<< ((nI i) &&& 31))), .int (σ.2 &&& ((1 <<< ((nI i) &&& 31)) ^^^ (-1))), .ref sb, .ref sd, .ref se])), (sb, .inl (E.2.1.1, 6, .inl mo)), (sd, .inl (E.2.1.1, 6, .inl pa)), (se, .inl (E.2.1.1, 4, .inl pl))]) mrX3_letCome_3 tyX3 tyX3_ok nmX3 3 rfl rfl 4 (by decide) mmX3_letCome_f21 rfl rfl rfl rfl (Nat.le_of_ble_eq_true rfl) rfl dX3_letCome_58 ?_
        refine hg_iinc C (v := nI (i + 1)) (lv' := [(1, .int (nI (i + 1))), (0, .ref sa)]) dX3_letCome_61 1 rfl (nI_inc _) (by decide) rfl ?_
        refine hg_goto C (tgt := 2) dX3_letCome_64 (by decide) ?_
        have e9 : (stX3_letCome_2 pf) i σ = (σ.1 ||| (1 <<< ((nI i) &&& 31)), σ.2 &&& ((1 <<< ((nI i) &&& 31)) ^^^ (-1))) := (hid_eq _).trans ((if_neg c3).trans ((if_neg c4).trans rfl))
        have h9 := ih (i + 1) (σ.1 ||| (1 <<< ((nI i) &&& 31)), σ.2 &&& ((1 <<< ((nI i) &&& 31)) ^^^ (-1))) (by omega) (e9.symm.trans (congrArg ((stX3_letCome_2 pf) i) hσ))
        exact hg_sub [1, 0] rfl h9
noncomputable def fX3_letCome (pf : Nat → Int32) (sg : Int32) (wg : Int32) : Int32 × Int32 := hid (((itN (stX3_letCome_2 pf) 6 (sg, wg)).1, (itN (stX3_letCome_2 pf) 6 (sg, wg)).2))
set_option maxHeartbeats 4000000 in
set_option maxRecDepth 100000 in
theorem kX3_letCome (l : Launch) (E : hE) (fa : Nat) (fb : Nat) (fc : Nat) (pe : Int32) (tu : Int32) (pf : Nat → Int32) (tf : Nat → Int32) (sa : Nat) (sb : Nat) (sd : Nat) (se : Nat) (mi : Int32) (ha : Int32) (ba : Int32) (sg : Int32) (wg : Int32) (mo : Nat → Int32) (pa : Nat → Int32) (pl : Nat → Int32) : hC l yX3_letCome wsX3_letCome rmX3_letCome E [.ref sa] [(fa, .inr (2, [.int pe, .int tu, .ref fb, .ref fc])), (fb, .inl (E.2.1.1, 36, .inl pf)), (fc, .inl (E.2.1.1, 12, .inl tf)), (sa, .inr (3, [.ref fa, .int mi, .int ha, .int ba, .int sg, .int wg, .ref sb, .ref sd, .ref se])), (sb, .inl (E.2.1.1, 6, .inl mo)), (sd, .inl (E.2.1.1, 6, .inl pa)), (se, .inl (E.2.1.1, 4, .inl pl))] none [(fa, .inr (2, [.int pe, .int tu, .ref fb, .ref fc])), (fb, .inl (E.2.1.1, 36, .inl pf)), (fc, .inl (E.2.1.1, 12, .inl tf)), (sa, .inr (3, [.ref fa, .int mi, .int ha, .int ba, .int ((fX3_letCome pf sg wg).1), .int ((fX3_letCome pf sg wg).2), .ref sb, .ref sd, .ref se])), (sb, .inl (E.2.1.1, 6, .inl mo)), (sd, .inl (E.2.1.1, 6, .inl pa)), (se, .inl (E.2.1.1, 4, .inl pl))] := by
  refine hC_intro (cc := cX3_letCome) (maxL := 2) (ret := none) (lv0 := [(0, .ref sa)]) (by decide) rfl (Nat.le_of_ble_eq_true rfl) rfl ?_
  intro p e s m below meth c A C
  refine hg_iconst C (v := 0) dX3_letCome_0 (by decide) ?_
  refine hg_istore_n C (lv' := [(1, .int 0), (0, .ref sa)]) dX3_letCome_1 rfl (by decide) rfl ?_
  refine hg_sub [1, 0] rfl ?_
  refine lpX3_letCome_2 C fa fb fc pe tu pf tf sa sb sd se mi ha ba sg wg mo pa pl (sg, wg) ?_ 6 0 (sg, wg) (by omega) rfl
  have e9 : (fX3_letCome pf sg wg) = ((itN (stX3_letCome_2 pf) 6 (sg, wg)).1, (itN (stX3_letCome_2 pf) 6 (sg, wg)).2) := hid_eq _
  rw [e9]
  exact hg_vret C dX3_letCome_67 rfl rfl
noncomputable def gX3_letCome_s (pf : Nat → Int32) (S : Sc) : Sc := (S.1, S.2.1, S.2.2.1, (fX3_letCome pf S.2.2.2.1 S.2.2.2.2.1).1, (fX3_letCome pf S.2.2.2.1 S.2.2.2.2.1).2, S.2.2.2.2.2.1, S.2.2.2.2.2.2.1, S.2.2.2.2.2.2.2)
theorem ksX3_letCome (l : Launch) (E : hE) (fa : Nat) (fb : Nat) (fc : Nat) (pe : Int32) (tu : Int32) (pf : Nat → Int32) (tf : Nat → Int32) (sa : Nat) (sb : Nat) (sd : Nat) (se : Nat) (S : Sc) : hC l yX3_letCome wsX3_letCome rmX3_letCome E [.ref sa] [(fa, .inr (2, [.int pe, .int tu, .ref fb, .ref fc])), (fb, .inl (E.2.1.1, 36, .inl pf)), (fc, .inl (E.2.1.1, 12, .inl tf)), (sa, .inr (3, [.ref fa, .int S.1, .int S.2.1, .int S.2.2.1, .int S.2.2.2.1, .int S.2.2.2.2.1, .ref sb, .ref sd, .ref se])), (sb, .inl (E.2.1.1, 6, .inl S.2.2.2.2.2.1)), (sd, .inl (E.2.1.1, 6, .inl S.2.2.2.2.2.2.1)), (se, .inl (E.2.1.1, 4, .inl S.2.2.2.2.2.2.2))] none [(fa, .inr (2, [.int pe, .int tu, .ref fb, .ref fc])), (fb, .inl (E.2.1.1, 36, .inl pf)), (fc, .inl (E.2.1.1, 12, .inl tf)), (sa, .inr (3, [.ref fa, .int ((gX3_letCome_s pf S).1), .int ((gX3_letCome_s pf S).2.1), .int ((gX3_letCome_s pf S).2.2.1), .int ((gX3_letCome_s pf S).2.2.2.1), .int ((gX3_letCome_s pf S).2.2.2.2.1), .ref sb, .ref sd, .ref se])), (sb, .inl (E.2.1.1, 6, .inl ((gX3_letCome_s pf S).2.2.2.2.2.1))), (sd, .inl (E.2.1.1, 6, .inl ((gX3_letCome_s pf S).2.2.2.2.2.2.1))), (se, .inl (E.2.1.1, 4, .inl ((gX3_letCome_s pf S).2.2.2.2.2.2.2)))] := kX3_letCome l E fa fb fc pe tu pf tf sa sb sd se S.1 S.2.1 S.2.2.1 S.2.2.2.1 S.2.2.2.2.1 S.2.2.2.2.2.1 S.2.2.2.2.2.2.1 S.2.2.2.2.2.2.2
theorem mmX3_hear_f37 : (Cond.fieldLink RX3 37 "HatRound$Scene" "facts" "LHatRound$Facts;") ∈ wsX3_hear := (List.mem_cons_of_mem _ (List.mem_append_left _ (List.mem_append_left _ (List.mem_append_left _ (List.mem_of_getElem? (i := 0) rfl)))))
theorem mrX3_hear_3 : ∀ w ∈ u_ws RX3 TX3 9, w ∈ wsX3_hear := fun _ h => (List.mem_cons_of_mem _ (List.mem_append_left _ (List.mem_append_right _ h)))
theorem mmX3_hear_f34 : (Cond.fieldLink RX3 34 "HatRound$Scene" "played" "[I") ∈ wsX3_hear := (List.mem_cons_of_mem _ (List.mem_append_left _ (List.mem_append_left _ (List.mem_append_left _ (List.mem_of_getElem? (i := 1) rfl)))))
theorem mmX3_hear_j90 : (Cond.methodLink RX3 90 Lib.Math.max.name) ∈ wsX3_hear := (List.mem_cons_of_mem _ (List.mem_append_left _ (List.mem_append_left _ (List.mem_append_left _ (List.mem_of_getElem? (i := 2) rfl)))))
theorem mmX3_hear_jsmax : (Cond.static Lib.Math.max.name) ∈ wsX3_hear := (List.mem_cons_of_mem _ (List.mem_append_left _ (List.mem_append_left _ (List.mem_append_left _ (List.mem_of_getElem? (i := 3) rfl)))))
theorem mmX3_hear_jim : (Cond.initialized "java/lang/Math") ∈ wsX3_hear := (List.mem_cons_of_mem _ (List.mem_append_left _ (List.mem_append_left _ (List.mem_append_left _ (List.mem_of_getElem? (i := 4) rfl)))))
theorem mmX3_hear_jcmax : (Cond.code Lib.Math.max.name Lib.Math.max.code 2 (some .int)) ∈ wsX3_hear := (List.mem_cons_of_mem _ (List.mem_append_left _ (List.mem_append_left _ (List.mem_append_left _ (List.mem_of_getElem? (i := 5) rfl)))))
theorem mmX3_hear_f21 : (Cond.fieldLink RX3 21 "HatRound$Scene" "standing" "I") ∈ wsX3_hear := (List.mem_cons_of_mem _ (List.mem_append_left _ (List.mem_append_left _ (List.mem_append_left _ (List.mem_of_getElem? (i := 6) rfl)))))
theorem mmX3_hear_wi5 : (Cond.initialized RX5) ∈ wsX3_hear := (List.mem_cons_of_mem _ (List.mem_append_left _ (List.mem_append_left _ (List.mem_append_left _ (List.mem_of_getElem? (i := 20) rfl)))))
theorem mmX3_hear_wsX5_has : (Cond.static yX5_has) ∈ wsX3_hear := (List.mem_cons_of_mem _ (List.mem_append_left _ (List.mem_append_left _ (List.mem_append_right _ (List.mem_append_left _ (List.mem_of_getElem? (i := 6) rfl))))))
theorem mmX3_hear_f31 : (Cond.fieldLink RX3 31 "HatRound$Scene" "patience" "[I") ∈ wsX3_hear := (List.mem_cons_of_mem _ (List.mem_append_left _ (List.mem_append_left _ (List.mem_append_left _ (List.mem_of_getElem? (i := 7) rfl)))))
theorem mmX3_hear_f27 : (Cond.fieldLink RX3 27 "HatRound$Scene" "mood" "[I") ∈ wsX3_hear := (List.mem_cons_of_mem _ (List.mem_append_left _ (List.mem_append_left _ (List.mem_append_left _ (List.mem_of_getElem? (i := 8) rfl)))))
theorem mmX3_hear_j72 : (Cond.methodLink RX3 72 Lib.Math.min.name) ∈ wsX3_hear := (List.mem_cons_of_mem _ (List.mem_append_left _ (List.mem_append_left _ (List.mem_append_left _ (List.mem_of_getElem? (i := 9) rfl)))))
theorem mmX3_hear_jsmin : (Cond.static Lib.Math.min.name) ∈ wsX3_hear := (List.mem_cons_of_mem _ (List.mem_append_left _ (List.mem_append_left _ (List.mem_append_left _ (List.mem_of_getElem? (i := 10) rfl)))))
theorem mmX3_hear_jcmin : (Cond.code Lib.Math.min.name Lib.Math.min.code 2 (some .int)) ∈ wsX3_hear := (List.mem_cons_of_mem _ (List.mem_append_left _ (List.mem_append_left _ (List.mem_append_left _ (List.mem_of_getElem? (i := 11) rfl)))))
theorem mmX3_hear_f9 : (Cond.fieldLink RX3 9 "HatRound$Scene" "minute" "I") ∈ wsX3_hear := (List.mem_cons_of_mem _ (List.mem_append_left _ (List.mem_append_left _ (List.mem_append_left _ (List.mem_of_getElem? (i := 12) rfl)))))
abbrev rmX3_hear : Room := { frames := 3, cells := 0, slots := 0, locals := 67 }
theorem hfX3_hear : hCF yX3_hear wsX3_hear rmX3_hear cX3_hear 6 none 1 := ⟨⟨_, rfl⟩, by decide +kernel, rfl, rfl⟩
noncomputable def stX3_hear_51 (pf : Nat → Int32) (tf : Nat → Int32) (a : Int32) (x2 : Int32) (x3 : Int32) (i : Nat) (σ : Int32 × (Nat → Int32) × (Nat → Int32)) : Int32 × (Nat → Int32) × (Nat → Int32) := hid (if (fX5_has σ.1 (nI i)) = 0 then (σ.1, σ.2.1, σ.2.2) else if (0 : Int32) ≤ ((upd σ.2.2 (nI i).toNatClampNeg ((σ.2.2 (nI i).toNatClampNeg) - x2)) (nI i).toNatClampNeg) then (σ.1, upd σ.2.1 (nI i).toNatClampNeg (if (((σ.2.1 (nI i).toNatClampNeg) + x3) + (if (if (fX2_ofTune tf a 0) = (fX2_ofPerson pf (nI i) 4) then (1 : Int32) else (0 : Int32)) = 0 then (0 : Int32) else (2 : Int32))) < (20 : Int32) then (((σ.2.1 (nI i).toNatClampNeg) + x3) + (if (if (fX2_ofTune tf a 0) = (fX2_ofPerson pf (nI i) 4) then (1 : Int32) else (0 : Int32)) = 0 then (0 : Int32) else (2 : Int32))) else 20), upd σ.2.2 (nI i).toNatClampNeg ((σ.2.2 (nI i).toNatClampNeg) - x2)) else (σ.1 &&& ((1 <<< ((nI i) &&& 31)) ^^^ (-1)), σ.2.1, upd σ.2.2 (nI i).toNatClampNeg ((σ.2.2 (nI i).toNatClampNeg) - x2)))
set_option maxHeartbeats 4000000 in
set_option maxRecDepth 100000 in
theorem lpX3_hear_51 {p : Program} {l : Launch} {e : Env} {s : State} {m : MethodId} {args : Array Value} {below : List Frame} {meth : Method} {c : Code} {E : hE} {A : Nat → Prop} {Q : State → Prop} (C : hX p s m args meth c E A cX3_hear 6 RX3 wsX3_hear none) (fa : Nat) (fb : Nat) (fc : Nat) (pe : Int32) (tu : Int32) (pf : Nat → Int32) (tf : Nat → Int32) (sa : Nat) (sb : Nat) (sd : Nat) (se : Nat) (mi : Int32) (ha : Int32) (ba : Int32) (sg : Int32) (wg : Int32) (mo : Nat → Int32) (pa : Nat → Int32) (pl : Nat → Int32) (a : Int32) (x2 : Int32) (x3 : Int32) (σ0 : Int32 × (Nat → Int32) × (Nat → Int32)) (k : hG p l e rmX3_hear s m args below meth c E A 6 Q 0 0 179 [(0, .ref sa), (1, .int a), (2, .int x2)] [] [(fa, .inr (2, [.int pe, .int tu, .ref fb, .ref fc])), (fb, .inl (E.2.1.1, 36, .inl pf)), (fc, .inl (E.2.1.1, 12, .inl tf)), (sa, .inr (3, [.ref fa, .int mi, .int ha, .int ba, .int ((itN (stX3_hear_51 pf tf a x2 x3) 6 σ0).1), .int wg, .ref sb, .ref sd, .ref se])), (sb, .inl (E.2.1.1, 6, .inl ((itN (stX3_hear_51 pf tf a x2 x3) 6 σ0).2.1))), (sd, .inl (E.2.1.1, 6, .inl ((itN (stX3_hear_51 pf tf a x2 x3) 6 σ0).2.2))), (se, .inl (E.2.1.1, 4, .inl pl))]) : ∀ (n i : Nat) (σ : Int32 × (Nat → Int32) × (Nat → Int32)), i + n = 6 → σ = itN (stX3_hear_51 pf tf a x2 x3) i σ0 → hG p l e rmX3_hear s m args below meth c E A 6 Q 0 0 51 [(0, .ref sa), (1, .int a), (2, .int x2), (3, .int x3), (4, .int (nI i))] [] [(fa, .inr (2, [.int pe, .int tu, .ref fb, .ref fc])), (fb, .inl (E.2.1.1, 36, .inl pf)), (fc, .inl (E.2.1.1, 12, .inl tf)), (sa, .inr (3, [.ref fa, .int mi, .int ha, .int ba, .int σ.1, .int wg, .ref sb, .ref sd, .ref se])), (sb, .inl (E.2.1.1, 6, .inl σ.2.1)), (sd, .inl (E.2.1.1, 6, .inl σ.2.2)), (se, .inl (E.2.1.1, 4, .inl pl))] := by
  intro n
  induction n with
  | zero =>
    intro i σ hi hσ
    have hi : i = 6 := by omega
    rw [hi] at hσ
    rw [hi]
    subst hσ
    refine hg_iload C dX3_hear_51 4 rfl ?_
    refine hg_bipush C (v := 6) dX3_hear_53 (by decide) ?_
    refine hg_icmp_ge C (tgt := 179) dX3_hear_55 (by decide) (fun _ => ?_) (fun h => absurd (by decide) h)
    exact hg_sub [0, 1, 2] rfl k
  | succ n ih =>
    intro i σ hi hσ
    have hlt : i < 6 := by omega
    refine hg_iload C dX3_hear_51 4 rfl ?_
    refine hg_bipush C (v := 6) dX3_hear_53 (by decide) ?_
    refine hg_icmp_ge C (tgt := 179) dX3_hear_55 (by decide) (fun h => absurd h (nI_ge hlt (by decide))) (fun _ => ?_)
    refine hg_aload_n C dX3_hear_58 rfl 0 rfl ?_
    refine hg_get C (Cn := RX3) (T := TX3) (N := 9) (v := .int σ.1) mrX3_hear_3 3 rfl rfl 4 (by decide) mmX3_hear_f21 rfl dX3_hear_59 ?_
    refine hg_iload C dX3_hear_62 4 rfl ?_
    refine hg_callN C (ws' := [(fa, .inr (2, [.int pe, .int tu, .ref fb, .ref fc])), (fb, .inl (E.2.1.1, 36, .inl pf)), (fc, .inl (E.2.1.1, 12, .inl tf)), (sa, .inr (3, [.ref fa, .int mi, .int ha, .int ba, .int σ.1, .int wg, .ref sb, .ref sd, .ref se])), (sb, .inl (E.2.1.1, 6, .inl σ.2.1)), (sd, .inl (E.2.1.1, 6, .inl σ.2.2)), (se, .inl (E.2.1.1, 4, .inl pl))]) (rest := []) (kX5_has l E σ.1 (nI i)) hfX5_has gX3_hear_X5_has_n77 nmX3_77 mmX3_hear_wi5 mmX3_hear_wsX5_has ⟨Nat.le_of_ble_eq_true rfl, Nat.le_of_ble_eq_true rfl⟩ ⟨Nat.zero_le _, Nat.zero_le _⟩ [] rfl (by decide) [] rfl rfl rfl rfl (Nat.le_of_ble_eq_true rfl) dX3_hear_64 ?_
    refine hg_if_ne C (tgt := 73) dX3_hear_67 (by decide) (fun c7 => ?_) (fun c7 => ?_)
    · refine hg_aload_n C dX3_hear_73 rfl 0 rfl ?_
      refine hg_get C (Cn := RX3) (T := TX3) (N := 9) (v := .ref sd) mrX3_hear_3 3 rfl rfl 7 (by decide) mmX3_hear_f31 rfl dX3_hear_74 ?_
      refine hg_iload C dX3_hear_77 4 rfl ?_
      refine hg_dup2 C dX3_hear_79 rfl rfl ?_
      refine hg_iald C 5 rfl (vp_in_nI (by omega) (by decide)) dX3_hear_80 ?_
      refine hg_iload_n C dX3_hear_81 rfl 2 rfl ?_
      refine hg_isub C dX3_hear_82 ?_
      refine hg_iast C (ws' := [(fa, .inr (2, [.int pe, .int tu, .ref fb, .ref fc])), (fb, .inl (E.2.1.1, 36, .inl pf)), (fc, .inl (E.2.1.1, 12, .inl tf)), (sa, .inr (3, [.ref fa, .int mi, .int ha, .int ba, .int σ.1, .int wg, .ref sb, .ref sd, .ref se])), (sb, .inl (E.2.1.1, 6, .inl σ.2.1)), (sd, .inl (E.2.1.1, 6, .inl (upd σ.2.2 (nI i).toNatClampNeg ((σ.2.2 (nI i).toNatClampNeg) - x2)))), (se, .inl (E.2.1.1, 4, .inl pl))]) 5 rfl (vp_in_nI (by omega) (by decide)) rfl dX3_hear_83 ?_
      refine hg_aload_n C dX3_hear_84 rfl 0 rfl ?_
      refine hg_get C (Cn := RX3) (T := TX3) (N := 9) (v := .ref sd) mrX3_hear_3 3 rfl rfl 7 (by decide) mmX3_hear_f31 rfl dX3_hear_85 ?_
      refine hg_iload C dX3_hear_88 4 rfl ?_
      refine hg_iald C 5 rfl (vp_in_nI (by omega) (by decide)) dX3_hear_90 ?_
      refine hg_if_ge C (tgt := 112) dX3_hear_91 (by decide) (fun c8 => ?_) (fun c8 => ?_)
      · refine hg_aload_n C dX3_hear_112 rfl 0 rfl ?_
        refine hg_get C (Cn := RX3) (T := TX3) (N := 9) (v := .ref fa) mrX3_hear_3 3 rfl rfl 0 (by decide) mmX3_hear_f37 rfl dX3_hear_113 ?_
        refine hg_iload_n C dX3_hear_116 rfl 1 rfl ?_
        refine hg_iconst C (v := 0) dX3_hear_117 (by decide) ?_
        refine hg_callV C (ws' := [(fa, .inr (2, [.int pe, .int tu, .ref fb, .ref fc])), (fb, .inl (E.2.1.1, 36, .inl pf)), (fc, .inl (E.2.1.1, 12, .inl tf)), (sa, .inr (3, [.ref fa, .int mi, .int ha, .int ba, .int σ.1, .int wg, .ref sb, .ref sd, .ref se])), (sb, .inl (E.2.1.1, 6, .inl σ.2.1)), (sd, .inl (E.2.1.1, 6, .inl (upd σ.2.2 (nI i).toNatClampNeg ((σ.2.2 (nI i).toNatClampNeg) - x2)))), (se, .inl (E.2.1.1, 4, .inl pl))]) (rest := []) (kX2_ofTune l E fa fb fc pe tu pf tf a 0) hfX2_ofTune gX3_hear_X2_ofTune ⟨Nat.le_of_ble_eq_true rfl, Nat.le_of_ble_eq_true rfl⟩ ⟨Nat.zero_le _, Nat.zero_le _⟩ [0, 1, 2] rfl (by decide) [fa, fb, fc] rfl rfl rfl 0 rfl rfl rfl rfl (Nat.le_of_ble_eq_true rfl) dX3_hear_118 ?_
        refine hg_aload_n C dX3_hear_121 rfl 0 rfl ?_
        refine hg_get C (Cn := RX3) (T := TX3) (N := 9) (v := .ref fa) mrX3_hear_3 3 rfl rfl 0 (by decide) mmX3_hear_f37 rfl dX3_hear_122 ?_
        refine hg_iload C dX3_hear_125 4 rfl ?_
        refine hg_iconst C (v := 4) dX3_hear_127 (by decide) ?_
        refine hg_callV C (ws' := [(fa, .inr (2, [.int pe, .int tu, .ref fb, .ref fc])), (fb, .inl (E.2.1.1, 36, .inl pf)), (fc, .inl (E.2.1.1, 12, .inl tf)), (sa, .inr (3, [.ref fa, .int mi, .int ha, .int ba, .int σ.1, .int wg, .ref sb, .ref sd, .ref se])), (sb, .inl (E.2.1.1, 6, .inl σ.2.1)), (sd, .inl (E.2.1.1, 6, .inl (upd σ.2.2 (nI i).toNatClampNeg ((σ.2.2 (nI i).toNatClampNeg) - x2)))), (se, .inl (E.2.1.1, 4, .inl pl))]) (rest := [.int (fX2_ofTune tf a 0)]) (kX2_ofPerson l E fa fb fc pe tu pf tf (nI i) 4) hfX2_ofPerson gX3_hear_X2_ofPerson ⟨Nat.le_of_ble_eq_true rfl, Nat.le_of_ble_eq_true rfl⟩ ⟨Nat.zero_le _, Nat.zero_le _⟩ [0, 1, 2] rfl (by decide) [fa, fb, fc] rfl rfl rfl 0 rfl rfl rfl rfl (Nat.le_of_ble_eq_true rfl) dX3_hear_128 ?_
        refine hg_join (J := 139) (v := if (fX2_ofTune tf a 0) = (fX2_ofPerson pf (nI i) 4) then (1 : Int32) else (0 : Int32)) (st1 := []) (fun jj => ?_) ?_
        · refine hg_icmp_ne C (tgt := 138) dX3_hear_131 (by decide) (fun c9 => ?_) (fun c9 => ?_)
          · refine hg_iconst C (v := 0) dX3_hear_138 (by decide) ?_
            exact hg_top (v := if (fX2_ofTune tf a 0) = (fX2_ofPerson pf (nI i) 4) then (1 : Int32) else (0 : Int32)) (v' := 0) ((if_neg c9).trans rfl) jj
          · refine hg_iconst C (v := 1) dX3_hear_134 (by decide) ?_
            refine hg_goto C (tgt := 139) dX3_hear_135 (by decide) ?_
            exact hg_top (v := if (fX2_ofTune tf a 0) = (fX2_ofPerson pf (nI i) 4) then (1 : Int32) else (0 : Int32)) (v' := 1) ((if_pos c9).trans rfl) jj
        refine hg_istore C (lv' := [(5, .int (if (fX2_ofTune tf a 0) = (fX2_ofPerson pf (nI i) 4) then (1 : Int32) else (0 : Int32))), (0, .ref sa), (1, .int a), (2, .int x2), (3, .int x3), (4, .int (nI i))]) dX3_hear_139 (by decide) rfl ?_
        refine hg_aload_n C dX3_hear_141 rfl 1 rfl ?_
        refine hg_get C (Cn := RX3) (T := TX3) (N := 9) (v := .ref sb) mrX3_hear_3 3 rfl rfl 6 (by decide) mmX3_hear_f27 rfl dX3_hear_142 ?_
        refine hg_iload C dX3_hear_145 5 rfl ?_
        refine hg_bipush C (v := 20) dX3_hear_147 (by decide) ?_
        refine hg_aload_n C dX3_hear_149 rfl 1 rfl ?_
        refine hg_get C (Cn := RX3) (T := TX3) (N := 9) (v := .ref sb) mrX3_hear_3 3 rfl rfl 6 (by decide) mmX3_hear_f27 rfl dX3_hear_150 ?_
        refine hg_iload C dX3_hear_153 5 rfl ?_
        refine hg_iald C 4 rfl (vp_in_nI (by omega) (by decide)) dX3_hear_155 ?_
        refine hg_iload_n C dX3_hear_156 rfl 4 rfl ?_
        refine hg_iadd C dX3_hear_157 ?_
        refine hg_iload C dX3_hear_158 0 rfl ?_
        refine hg_join (J := 168) (v := if (if (fX2_ofTune tf a 0) = (fX2_ofPerson pf (nI i) 4) then (1 : Int32) else (0 : Int32)) = 0 then (0 : Int32) else (2 : Int32)) (st1 := [.int ((σ.2.1 (nI i).toNatClampNeg) + x3), .int 20, .int (nI i), .ref sb]) (fun jj => ?_) ?_
        · refine hg_if_eq C (tgt := 167) dX3_hear_160 (by decide) (fun c10 => ?_) (fun c10 => ?_)
          · refine hg_iconst C (v := 0) dX3_hear_167 (by decide) ?_
            exact hg_top (v := if (if (fX2_ofTune tf a 0) = (fX2_ofPerson pf (nI i) 4) then (1 : Int32) else (0 : Int32)) = 0 then (0 : Int32) else (2 : Int32)) (v' := 0) ((if_pos c10).trans rfl) jj
          · refine hg_iconst C (v := 2) dX3_hear_163 (by decide) ?_
            refine hg_goto C (tgt := 168) dX3_hear_164 (by decide) ?_
            exact hg_top (v := if (if (fX2_ofTune tf a 0) = (fX2_ofPerson pf (nI i) 4) then (1 : Int32) else (0 : Int32)) = 0 then (0 : Int32) else (2 : Int32)) (v' := 2) ((if_neg c10).trans rfl) jj
        refine hg_iadd C dX3_hear_168 ?_
        refine hg_mmin C mmX3_hear_j72 mmX3_hear_jsmin mmX3_hear_jim mmX3_hear_jcmin (Nat.le_of_ble_eq_true rfl) (Nat.le_of_ble_eq_true rfl) ⟨Nat.zero_le _, Nat.zero_le _⟩ dX3_hear_169 ?_
        refine hg_iast C (ws' := [(fa, .inr (2, [.int pe, .int tu, .ref fb, .ref fc])), (fb, .inl (E.2.1.1, 36, .inl pf)), (fc, .inl (E.2.1.1, 12, .inl tf)), (sa, .inr (3, [.ref fa, .int mi, .int ha, .int ba, .int σ.1, .int wg, .ref sb, .ref sd, .ref se])), (sb, .inl (E.2.1.1, 6, .inl (upd σ.2.1 (nI i).toNatClampNeg (if (((σ.2.1 (nI i).toNatClampNeg) + x3) + (if (if (fX2_ofTune tf a 0) = (fX2_ofPerson pf (nI i) 4) then (1 : Int32) else (0 : Int32)) = 0 then (0 : Int32) else (2 : Int32))) < (20 : Int32) then (((σ.2.1 (nI i).toNatClampNeg) + x3) + (if (if (fX2_ofTune tf a 0) = (fX2_ofPerson pf (nI i) 4) then (1 : Int32) else (0 : Int32)) = 0 then (0 : Int32) else (2 : Int32))) else 20)))), (sd, .inl (E.2.1.1, 6, .inl (upd σ.2.2 (nI i).toNatClampNeg ((σ.2.2 (nI i).toNatClampNeg) - x2)))), (se, .inl (E.2.1.1, 4, .inl pl))]) 4 rfl (vp_in_nI (by omega) (by decide)) rfl dX3_hear_172 ?_
        refine hg_iinc C (v := nI (i + 1)) (lv' := [(4, .int (nI (i + 1))), (5, .int (if (fX2_ofTune tf a 0) = (fX2_ofPerson pf (nI i) 4) then (1 : Int32) else (0 : Int32))), (0, .ref sa), (1, .int a), (2, .int x2), (3, .int x3)]) dX3_hear_173 5 rfl (nI_inc _) (by decide) rfl ?_
        refine hg_goto C (tgt := 51) dX3_hear_176 (by decide) ?_
        have e9 : (stX3_hear_51 pf tf a x2 x3) i σ = (σ.1, upd σ.2.1 (nI i).toNatClampNeg (if (((σ.2.1 (nI i).toNatClampNeg) + x3) + (if (if (fX2_ofTune tf a 0) = (fX2_ofPerson pf (nI i) 4) then (1 : Int32) else (0 : Int32)) = 0 then (0 : Int32) else (2 : Int32))) < (20 : Int32) then (((σ.2.1 (nI i).toNatClampNeg) + x3) + (if (if (fX2_ofTune tf a 0) = (fX2_ofPerson pf (nI i) 4) then (1 : Int32) else (0 : Int32)) = 0 then (0 : Int32) else (2 : Int32))) else 20), upd σ.2.2 (nI i).toNatClampNeg ((σ.2.2 (nI i).toNatClampNeg) - x2)) := (hid_eq _).trans ((if_neg c7).trans ((if_pos c8).trans rfl))
        have h9 := ih (i + 1) (σ.1, upd σ.2.1 (nI i).toNatClampNeg (if (((σ.2.1 (nI i).toNatClampNeg) + x3) + (if (if (fX2_ofTune tf a 0) = (fX2_ofPerson pf (nI i) 4) then (1 : Int32) else (0 : Int32)) = 0 then (0 : Int32) else (2 : Int32))) < (20 : Int32) then (((σ.2.1 (nI i).toNatClampNeg) + x3) + (if (if (fX2_ofTune tf a 0) = (fX2_ofPerson pf (nI i) 4) then (1 : Int32) else (0 : Int32)) = 0 then (0 : Int32) else (2 : Int32))) else 20), upd σ.2.2 (nI i).toNatClampNeg ((σ.2.2 (nI i).toNatClampNeg) - x2)) (by omega) (e9.symm.trans (congrArg ((stX3_hear_51 pf tf a x2 x3) i) hσ))
        exact hg_sub [2, 3, 4, 5, 0] rfl h9
      · refine hg_aload_n C dX3_hear_94 rfl 0 rfl ?_
        refine hg_dup C dX3_hear_95 rfl ?_
        refine hg_get C (Cn := RX3) (T := TX3) (N := 9) (v := .int σ.1) mrX3_hear_3 3 rfl rfl 4 (by decide) mmX3_hear_f21 rfl dX3_hear_96 ?_
        refine hg_iconst C (v := 1) dX3_hear_99 (by decide) ?_
        refine hg_iload C dX3_hear_100 4 rfl ?_
        refine hg_ishl C dX3_hear_102 ?_
        refine hg_iconst C (v := (-1)) dX3_hear_103 (by decide) ?_
        refine hg_ixor C dX3_hear_104 ?_
        refine hg_iand C dX3_hear_105 ?_
        refine hg_put C (Cn := RX3) (T := TX3) (N := 9) (ws' := [(fa, .inr (2, [.int pe, .int tu, .ref fb, .ref fc])), (fb, .inl (E.2.1.1, 36, .inl pf)), (fc, .inl (E.2.1.1, 12, .inl tf)), (sa, .inr (3, [.ref fa, .int mi, .int ha, .int ba, .int (σ.1 &&& ((1 <<< ((nI i) &&& 31)) ^^^ (-1))), .int wg, .ref sb, .ref sd, .ref se])), (sb, .inl (E.2.1.1, 6, .inl σ.2.1)), (sd, .inl (E.2.1.1, 6, .inl (upd σ.2.2 (nI i).toNatClampNeg ((σ.2.2 (nI i).toNatClampNeg) - x2)))), (se, .inl (E.2.1.1, 4, .inl pl))]) mrX3_hear_3 tyX3 tyX3_ok nmX3 3 rfl rfl 4 (by decide) mmX3_hear_f21 rfl rfl rfl rfl (Nat.le_of_ble_eq_true rfl) rfl dX3_hear_106 ?_
        refine hg_goto C (tgt := 173) dX3_hear_109 (by decide) ?_
        refine hg_iinc C (v := nI (i + 1)) (lv' := [(4, .int (nI (i + 1))), (0, .ref sa), (1, .int a), (2, .int x2), (3, .int x3)]) dX3_hear_173 4 rfl (nI_inc _) (by decide) rfl ?_
        refine hg_goto C (tgt := 51) dX3_hear_176 (by decide) ?_
        have e9 : (stX3_hear_51 pf tf a x2 x3) i σ = (σ.1 &&& ((1 <<< ((nI i) &&& 31)) ^^^ (-1)), σ.2.1, upd σ.2.2 (nI i).toNatClampNeg ((σ.2.2 (nI i).toNatClampNeg) - x2)) := (hid_eq _).trans ((if_neg c7).trans ((if_neg c8).trans rfl))
        have h9 := ih (i + 1) (σ.1 &&& ((1 <<< ((nI i) &&& 31)) ^^^ (-1)), σ.2.1, upd σ.2.2 (nI i).toNatClampNeg ((σ.2.2 (nI i).toNatClampNeg) - x2)) (by omega) (e9.symm.trans (congrArg ((stX3_hear_51 pf tf a x2 x3) i) hσ))
        exact hg_sub [1, 2, 3, 4, 0] rfl h9
    · refine hg_goto C (tgt := 173) dX3_hear_70 (by decide) ?_
      refine hg_iinc C (v := nI (i + 1)) (lv' := [(4, .int (nI (i + 1))), (0, .ref sa), (1, .int a), (2, .int x2), (3, .int x3)]) dX3_hear_173 4 rfl (nI_inc _) (by decide) rfl ?_
      refine hg_goto C (tgt := 51) dX3_hear_176 (by decide) ?_
      have e9 : (stX3_hear_51 pf tf a x2 x3) i σ = (σ.1, σ.2.1, σ.2.2) := (hid_eq _).trans ((if_pos c7).trans rfl)
      have h9 := ih (i + 1) (σ.1, σ.2.1, σ.2.2) (by omega) (e9.symm.trans (congrArg ((stX3_hear_51 pf tf a x2 x3) i) hσ))
      exact hg_sub [1, 2, 3, 4, 0] rfl h9
noncomputable def fX3_hear (tu : Int32) (pf : Nat → Int32) (tf : Nat → Int32) (mi : Int32) (sg : Int32) (wg : Int32) (mo : Nat → Int32) (pa : Nat → Int32) (pl : Nat → Int32) (a : Int32) : Int32 × Int32 × Int32 × (Nat → Int32) × (Nat → Int32) × (Nat → Int32) := hid (if (fX2_hasTune tu a) = 0 then (mi, sg, wg, mo, pa, pl) else if a < 4 then (mi + (fX2_ofTune tf a 1), (fX3_letCome pf ((itN (stX3_hear_51 pf tf a (fX2_ofTune tf a 1) (if (0 : Int32) < ((fX2_ofTune tf a 2) - (pl a.toNatClampNeg)) then ((fX2_ofTune tf a 2) - (pl a.toNatClampNeg)) else 0)) 6 (sg, mo, pa)).1) wg).1, (fX3_letCome pf ((itN (stX3_hear_51 pf tf a (fX2_ofTune tf a 1) (if (0 : Int32) < ((fX2_ofTune tf a 2) - (pl a.toNatClampNeg)) then ((fX2_ofTune tf a 2) - (pl a.toNatClampNeg)) else 0)) 6 (sg, mo, pa)).1) wg).2, (itN (stX3_hear_51 pf tf a (fX2_ofTune tf a 1) (if (0 : Int32) < ((fX2_ofTune tf a 2) - (pl a.toNatClampNeg)) then ((fX2_ofTune tf a 2) - (pl a.toNatClampNeg)) else 0)) 6 (sg, mo, pa)).2.1, (itN (stX3_hear_51 pf tf a (fX2_ofTune tf a 1) (if (0 : Int32) < ((fX2_ofTune tf a 2) - (pl a.toNatClampNeg)) then ((fX2_ofTune tf a 2) - (pl a.toNatClampNeg)) else 0)) 6 (sg, mo, pa)).2.2, upd pl a.toNatClampNeg ((pl a.toNatClampNeg) + 1)) else (mi, sg, wg, mo, pa, pl))
set_option maxHeartbeats 4000000 in
set_option maxRecDepth 100000 in
theorem kX3_hear (l : Launch) (E : hE) (fa : Nat) (fb : Nat) (fc : Nat) (pe : Int32) (tu : Int32) (pf : Nat → Int32) (tf : Nat → Int32) (sa : Nat) (sb : Nat) (sd : Nat) (se : Nat) (mi : Int32) (ha : Int32) (ba : Int32) (sg : Int32) (wg : Int32) (mo : Nat → Int32) (pa : Nat → Int32) (pl : Nat → Int32) (a : Int32) : hC l yX3_hear wsX3_hear rmX3_hear E [.ref sa, .int a] [(fa, .inr (2, [.int pe, .int tu, .ref fb, .ref fc])), (fb, .inl (E.2.1.1, 36, .inl pf)), (fc, .inl (E.2.1.1, 12, .inl tf)), (sa, .inr (3, [.ref fa, .int mi, .int ha, .int ba, .int sg, .int wg, .ref sb, .ref sd, .ref se])), (sb, .inl (E.2.1.1, 6, .inl mo)), (sd, .inl (E.2.1.1, 6, .inl pa)), (se, .inl (E.2.1.1, 4, .inl pl))] none [(fa, .inr (2, [.int pe, .int tu, .ref fb, .ref fc])), (fb, .inl (E.2.1.1, 36, .inl pf)), (fc, .inl (E.2.1.1, 12, .inl tf)), (sa, .inr (3, [.ref fa, .int ((fX3_hear tu pf tf mi sg wg mo pa pl a).1), .int ha, .int ba, .int ((fX3_hear tu pf tf mi sg wg mo pa pl a).2.1), .int ((fX3_hear tu pf tf mi sg wg mo pa pl a).2.2.1), .ref sb, .ref sd, .ref se])), (sb, .inl (E.2.1.1, 6, .inl ((fX3_hear tu pf tf mi sg wg mo pa pl a).2.2.2.1))), (sd, .inl (E.2.1.1, 6, .inl ((fX3_hear tu pf tf mi sg wg mo pa pl a).2.2.2.2.1))), (se, .inl (E.2.1.1, 4, .inl ((fX3_hear tu pf tf mi sg wg mo pa pl a).2.2.2.2.2)))] := by
  refine hC_intro (cc := cX3_hear) (maxL := 6) (ret := none) (lv0 := [(0, .ref sa), (1, .int a)]) (by decide) rfl (Nat.le_of_ble_eq_true rfl) rfl ?_
  intro p e s m below meth c A C
  refine hg_aload_n C dX3_hear_0 rfl 0 rfl ?_
  refine hg_get C (Cn := RX3) (T := TX3) (N := 9) (v := .ref fa) mrX3_hear_3 3 rfl rfl 0 (by decide) mmX3_hear_f37 rfl dX3_hear_1 ?_
  refine hg_iload_n C dX3_hear_4 rfl 1 rfl ?_
  refine hg_callV C (ws' := [(fa, .inr (2, [.int pe, .int tu, .ref fb, .ref fc])), (fb, .inl (E.2.1.1, 36, .inl pf)), (fc, .inl (E.2.1.1, 12, .inl tf)), (sa, .inr (3, [.ref fa, .int mi, .int ha, .int ba, .int sg, .int wg, .ref sb, .ref sd, .ref se])), (sb, .inl (E.2.1.1, 6, .inl mo)), (sd, .inl (E.2.1.1, 6, .inl pa)), (se, .inl (E.2.1.1, 4, .inl pl))]) (rest := []) (kX2_hasTune l E fa fb fc pe tu pf tf a) hfX2_hasTune gX3_hear_X2_hasTune ⟨Nat.le_of_ble_eq_true rfl, Nat.le_of_ble_eq_true rfl⟩ ⟨Nat.zero_le _, Nat.zero_le _⟩ [0, 1, 2] rfl (by decide) [fa, fb, fc] rfl rfl rfl 0 rfl rfl rfl rfl (Nat.le_of_ble_eq_true rfl) dX3_hear_5 ?_
  refine hg_if_eq C (tgt := 16) dX3_hear_8 (by decide) (fun c1 => ?_) (fun c1 => ?_)
  · have e9 : (fX3_hear tu pf tf mi sg wg mo pa pl a) = (mi, sg, wg, mo, pa, pl) := (hid_eq _).trans ((if_pos c1).trans rfl)
    rw [e9]
    exact hg_vret C dX3_hear_16 rfl rfl
  · refine hg_iload_n C dX3_hear_11 rfl 1 rfl ?_
    refine hg_iconst C (v := 4) dX3_hear_12 (by decide) ?_
    refine hg_icmp_lt C (tgt := 17) dX3_hear_13 (by decide) (fun c2 => ?_) (fun c2 => ?_)
    · refine hg_aload_n C dX3_hear_17 rfl 0 rfl ?_
      refine hg_get C (Cn := RX3) (T := TX3) (N := 9) (v := .ref fa) mrX3_hear_3 3 rfl rfl 0 (by decide) mmX3_hear_f37 rfl dX3_hear_18 ?_
      refine hg_iload_n C dX3_hear_21 rfl 1 rfl ?_
      refine hg_iconst C (v := 1) dX3_hear_22 (by decide) ?_
      refine hg_callV C (ws' := [(fa, .inr (2, [.int pe, .int tu, .ref fb, .ref fc])), (fb, .inl (E.2.1.1, 36, .inl pf)), (fc, .inl (E.2.1.1, 12, .inl tf)), (sa, .inr (3, [.ref fa, .int mi, .int ha, .int ba, .int sg, .int wg, .ref sb, .ref sd, .ref se])), (sb, .inl (E.2.1.1, 6, .inl mo)), (sd, .inl (E.2.1.1, 6, .inl pa)), (se, .inl (E.2.1.1, 4, .inl pl))]) (rest := []) (kX2_ofTune l E fa fb fc pe tu pf tf a 1) hfX2_ofTune gX3_hear_X2_ofTune ⟨Nat.le_of_ble_eq_true rfl, Nat.le_of_ble_eq_true rfl⟩ ⟨Nat.zero_le _, Nat.zero_le _⟩ [0, 1, 2] rfl (by decide) [fa, fb, fc] rfl rfl rfl 0 rfl rfl rfl rfl (Nat.le_of_ble_eq_true rfl) dX3_hear_23 ?_
      refine hg_istore_n C (lv' := [(2, .int (fX2_ofTune tf a 1)), (0, .ref sa), (1, .int a)]) dX3_hear_26 rfl (by decide) rfl ?_
      refine hg_iconst C (v := 0) dX3_hear_27 (by decide) ?_
      refine hg_aload_n C dX3_hear_28 rfl 1 rfl ?_
      refine hg_get C (Cn := RX3) (T := TX3) (N := 9) (v := .ref fa) mrX3_hear_3 3 rfl rfl 0 (by decide) mmX3_hear_f37 rfl dX3_hear_29 ?_
      refine hg_iload_n C dX3_hear_32 rfl 2 rfl ?_
      refine hg_iconst C (v := 2) dX3_hear_33 (by decide) ?_
      refine hg_callV C (ws' := [(fa, .inr (2, [.int pe, .int tu, .ref fb, .ref fc])), (fb, .inl (E.2.1.1, 36, .inl pf)), (fc, .inl (E.2.1.1, 12, .inl tf)), (sa, .inr (3, [.ref fa, .int mi, .int ha, .int ba, .int sg, .int wg, .ref sb, .ref sd, .ref se])), (sb, .inl (E.2.1.1, 6, .inl mo)), (sd, .inl (E.2.1.1, 6, .inl pa)), (se, .inl (E.2.1.1, 4, .inl pl))]) (rest := [.int 0]) (kX2_ofTune l E fa fb fc pe tu pf tf a 2) hfX2_ofTune gX3_hear_X2_ofTune ⟨Nat.le_of_ble_eq_true rfl, Nat.le_of_ble_eq_true rfl⟩ ⟨Nat.zero_le _, Nat.zero_le _⟩ [0, 1, 2] rfl (by decide) [fa, fb, fc] rfl rfl rfl 0 rfl rfl rfl rfl (Nat.le_of_ble_eq_true rfl) dX3_hear_34 ?_
      refine hg_aload_n C dX3_hear_37 rfl 1 rfl ?_
      refine hg_get C (Cn := RX3) (T := TX3) (N := 9) (v := .ref se) mrX3_hear_3 3 rfl rfl 8 (by decide) mmX3_hear_f34 rfl dX3_hear_38 ?_
      refine hg_iload_n C dX3_hear_41 rfl 2 rfl ?_
      refine hg_iald C 6 rfl (ht_in (by assumption) (by assumption)) dX3_hear_42 ?_
      refine hg_isub C dX3_hear_43 ?_
      refine hg_mmax C mmX3_hear_j90 mmX3_hear_jsmax mmX3_hear_jim mmX3_hear_jcmax (Nat.le_of_ble_eq_true rfl) (Nat.le_of_ble_eq_true rfl) ⟨Nat.zero_le _, Nat.zero_le _⟩ dX3_hear_44 ?_
      refine hg_istore_n C (lv' := [(3, .int (if (0 : Int32) < ((fX2_ofTune tf a 2) - (pl a.toNatClampNeg)) then ((fX2_ofTune tf a 2) - (pl a.toNatClampNeg)) else 0)), (2, .int (fX2_ofTune tf a 1)), (0, .ref sa), (1, .int a)]) dX3_hear_47 rfl (by decide) rfl ?_
      refine hg_iconst C (v := 0) dX3_hear_48 (by decide) ?_
      refine hg_istore C (lv' := [(4, .int 0), (3, .int (if (0 : Int32) < ((fX2_ofTune tf a 2) - (pl a.toNatClampNeg)) then ((fX2_ofTune tf a 2) - (pl a.toNatClampNeg)) else 0)), (2, .int (fX2_ofTune tf a 1)), (0, .ref sa), (1, .int a)]) dX3_hear_49 (by decide) rfl ?_
      refine hg_sub [3, 4, 2, 1, 0] rfl ?_
      refine lpX3_hear_51 C fa fb fc pe tu pf tf sa sb sd se mi ha ba sg wg mo pa pl a (fX2_ofTune tf a 1) (if (0 : Int32) < ((fX2_ofTune tf a 2) - (pl a.toNatClampNeg)) then ((fX2_ofTune tf a 2) - (pl a.toNatClampNeg)) else 0) (sg, mo, pa) ?_ 6 0 (sg, mo, pa) (by omega) rfl
      refine hg_aload_n C dX3_hear_179 rfl 0 rfl ?_
      refine hg_get C (Cn := RX3) (T := TX3) (N := 9) (v := .ref se) mrX3_hear_3 3 rfl rfl 8 (by decide) mmX3_hear_f34 rfl dX3_hear_180 ?_
      refine hg_iload_n C dX3_hear_183 rfl 1 rfl ?_
      refine hg_dup2 C dX3_hear_184 rfl rfl ?_
      refine hg_iald C 6 rfl (ht_in (by assumption) (by assumption)) dX3_hear_185 ?_
      refine hg_iconst C (v := 1) dX3_hear_186 (by decide) ?_
      refine hg_iadd C dX3_hear_187 ?_
      refine hg_iast C (ws' := [(fa, .inr (2, [.int pe, .int tu, .ref fb, .ref fc])), (fb, .inl (E.2.1.1, 36, .inl pf)), (fc, .inl (E.2.1.1, 12, .inl tf)), (sa, .inr (3, [.ref fa, .int mi, .int ha, .int ba, .int ((itN (stX3_hear_51 pf tf a (fX2_ofTune tf a 1) (if (0 : Int32) < ((fX2_ofTune tf a 2) - (pl a.toNatClampNeg)) then ((fX2_ofTune tf a 2) - (pl a.toNatClampNeg)) else 0)) 6 (sg, mo, pa)).1), .int wg, .ref sb, .ref sd, .ref se])), (sb, .inl (E.2.1.1, 6, .inl ((itN (stX3_hear_51 pf tf a (fX2_ofTune tf a 1) (if (0 : Int32) < ((fX2_ofTune tf a 2) - (pl a.toNatClampNeg)) then ((fX2_ofTune tf a 2) - (pl a.toNatClampNeg)) else 0)) 6 (sg, mo, pa)).2.1))), (sd, .inl (E.2.1.1, 6, .inl ((itN (stX3_hear_51 pf tf a (fX2_ofTune tf a 1) (if (0 : Int32) < ((fX2_ofTune tf a 2) - (pl a.toNatClampNeg)) then ((fX2_ofTune tf a 2) - (pl a.toNatClampNeg)) else 0)) 6 (sg, mo, pa)).2.2))), (se, .inl (E.2.1.1, 4, .inl (upd pl a.toNatClampNeg ((pl a.toNatClampNeg) + 1))))]) 6 rfl (ht_in (by assumption) (by assumption)) rfl dX3_hear_188 ?_
      refine hg_aload_n C dX3_hear_189 rfl 0 rfl ?_
      refine hg_dup C dX3_hear_190 rfl ?_
      refine hg_get C (Cn := RX3) (T := TX3) (N := 9) (v := .int mi) mrX3_hear_3 3 rfl rfl 1 (by decide) mmX3_hear_f9 rfl dX3_hear_191 ?_
      refine hg_iload_n C dX3_hear_194 rfl 2 rfl ?_
      refine hg_iadd C dX3_hear_195 ?_
      refine hg_put C (Cn := RX3) (T := TX3) (N := 9) (ws' := [(fa, .inr (2, [.int pe, .int tu, .ref fb, .ref fc])), (fb, .inl (E.2.1.1, 36, .inl pf)), (fc, .inl (E.2.1.1, 12, .inl tf)), (sa, .inr (3, [.ref fa, .int (mi + (fX2_ofTune tf a 1)), .int ha, .int ba, .int ((itN (stX3_hear_51 pf tf a (fX2_ofTune tf a 1) (if (0 : Int32) < ((fX2_ofTune tf a 2) - (pl a.toNatClampNeg)) then ((fX2_ofTune tf a 2) - (pl a.toNatClampNeg)) else 0)) 6 (sg, mo, pa)).1), .int wg, .ref sb, .ref sd, .ref se])), (sb, .inl (E.2.1.1, 6, .inl ((itN (stX3_hear_51 pf tf a (fX2_ofTune tf a 1) (if (0 : Int32) < ((fX2_ofTune tf a 2) - (pl a.toNatClampNeg)) then ((fX2_ofTune tf a 2) - (pl a.toNatClampNeg)) else 0)) 6 (sg, mo, pa)).2.1))), (sd, .inl (E.2.1.1, 6, .inl ((itN (stX3_hear_51 pf tf a (fX2_ofTune tf a 1) (if (0 : Int32) < ((fX2_ofTune tf a 2) - (pl a.toNatClampNeg)) then ((fX2_ofTune tf a 2) - (pl a.toNatClampNeg)) else 0)) 6 (sg, mo, pa)).2.2))), (se, .inl (E.2.1.1, 4, .inl (upd pl a.toNatClampNeg ((pl a.toNatClampNeg) + 1))))]) mrX3_hear_3 tyX3 tyX3_ok nmX3 3 rfl rfl 1 (by decide) mmX3_hear_f9 rfl rfl rfl rfl (Nat.le_of_ble_eq_true rfl) rfl dX3_hear_196 ?_
      refine hg_aload_n C dX3_hear_199 rfl 0 rfl ?_
      refine hg_callV C (ws' := [(fa, .inr (2, [.int pe, .int tu, .ref fb, .ref fc])), (fb, .inl (E.2.1.1, 36, .inl pf)), (fc, .inl (E.2.1.1, 12, .inl tf)), (sa, .inr (3, [.ref fa, .int (mi + (fX2_ofTune tf a 1)), .int ha, .int ba, .int ((fX3_letCome pf ((itN (stX3_hear_51 pf tf a (fX2_ofTune tf a 1) (if (0 : Int32) < ((fX2_ofTune tf a 2) - (pl a.toNatClampNeg)) then ((fX2_ofTune tf a 2) - (pl a.toNatClampNeg)) else 0)) 6 (sg, mo, pa)).1) wg).1), .int ((fX3_letCome pf ((itN (stX3_hear_51 pf tf a (fX2_ofTune tf a 1) (if (0 : Int32) < ((fX2_ofTune tf a 2) - (pl a.toNatClampNeg)) then ((fX2_ofTune tf a 2) - (pl a.toNatClampNeg)) else 0)) 6 (sg, mo, pa)).1) wg).2), .ref sb, .ref sd, .ref se])), (sb, .inl (E.2.1.1, 6, .inl ((itN (stX3_hear_51 pf tf a (fX2_ofTune tf a 1) (if (0 : Int32) < ((fX2_ofTune tf a 2) - (pl a.toNatClampNeg)) then ((fX2_ofTune tf a 2) - (pl a.toNatClampNeg)) else 0)) 6 (sg, mo, pa)).2.1))), (sd, .inl (E.2.1.1, 6, .inl ((itN (stX3_hear_51 pf tf a (fX2_ofTune tf a 1) (if (0 : Int32) < ((fX2_ofTune tf a 2) - (pl a.toNatClampNeg)) then ((fX2_ofTune tf a 2) - (pl a.toNatClampNeg)) else 0)) 6 (sg, mo, pa)).2.2))), (se, .inl (E.2.1.1, 4, .inl (upd pl a.toNatClampNeg ((pl a.toNatClampNeg) + 1))))]) (rest := []) (kX3_letCome l E fa fb fc pe tu pf tf sa sb sd se (mi + (fX2_ofTune tf a 1)) ha ba ((itN (stX3_hear_51 pf tf a (fX2_ofTune tf a 1) (if (0 : Int32) < ((fX2_ofTune tf a 2) - (pl a.toNatClampNeg)) then ((fX2_ofTune tf a 2) - (pl a.toNatClampNeg)) else 0)) 6 (sg, mo, pa)).1) wg ((itN (stX3_hear_51 pf tf a (fX2_ofTune tf a 1) (if (0 : Int32) < ((fX2_ofTune tf a 2) - (pl a.toNatClampNeg)) then ((fX2_ofTune tf a 2) - (pl a.toNatClampNeg)) else 0)) 6 (sg, mo, pa)).2.1) ((itN (stX3_hear_51 pf tf a (fX2_ofTune tf a 1) (if (0 : Int32) < ((fX2_ofTune tf a 2) - (pl a.toNatClampNeg)) then ((fX2_ofTune tf a 2) - (pl a.toNatClampNeg)) else 0)) 6 (sg, mo, pa)).2.2) (upd pl a.toNatClampNeg ((pl a.toNatClampNeg) + 1))) hfX3_letCome gX3_hear_X3_letCome ⟨Nat.le_of_ble_eq_true rfl, Nat.le_of_ble_eq_true rfl⟩ ⟨Nat.zero_le _, Nat.zero_le _⟩ [0, 1, 2, 3, 4, 5, 6] rfl (by decide) [fa, fb, fc, sa, sb, sd, se] rfl rfl rfl 3 rfl rfl rfl rfl (Nat.le_of_ble_eq_true rfl) dX3_hear_200 ?_
      have e9 : (fX3_hear tu pf tf mi sg wg mo pa pl a) = (mi + (fX2_ofTune tf a 1), (fX3_letCome pf ((itN (stX3_hear_51 pf tf a (fX2_ofTune tf a 1) (if (0 : Int32) < ((fX2_ofTune tf a 2) - (pl a.toNatClampNeg)) then ((fX2_ofTune tf a 2) - (pl a.toNatClampNeg)) else 0)) 6 (sg, mo, pa)).1) wg).1, (fX3_letCome pf ((itN (stX3_hear_51 pf tf a (fX2_ofTune tf a 1) (if (0 : Int32) < ((fX2_ofTune tf a 2) - (pl a.toNatClampNeg)) then ((fX2_ofTune tf a 2) - (pl a.toNatClampNeg)) else 0)) 6 (sg, mo, pa)).1) wg).2, (itN (stX3_hear_51 pf tf a (fX2_ofTune tf a 1) (if (0 : Int32) < ((fX2_ofTune tf a 2) - (pl a.toNatClampNeg)) then ((fX2_ofTune tf a 2) - (pl a.toNatClampNeg)) else 0)) 6 (sg, mo, pa)).2.1, (itN (stX3_hear_51 pf tf a (fX2_ofTune tf a 1) (if (0 : Int32) < ((fX2_ofTune tf a 2) - (pl a.toNatClampNeg)) then ((fX2_ofTune tf a 2) - (pl a.toNatClampNeg)) else 0)) 6 (sg, mo, pa)).2.2, upd pl a.toNatClampNeg ((pl a.toNatClampNeg) + 1)) := (hid_eq _).trans ((if_neg c1).trans ((if_pos c2).trans rfl))
      rw [e9]
      exact hg_vret C dX3_hear_203 rfl rfl
    · have e9 : (fX3_hear tu pf tf mi sg wg mo pa pl a) = (mi, sg, wg, mo, pa, pl) := (hid_eq _).trans ((if_neg c1).trans ((if_neg c2).trans rfl))
      rw [e9]
      exact hg_vret C dX3_hear_16 rfl rfl
noncomputable def gX3_hear_s (tu : Int32) (pf : Nat → Int32) (tf : Nat → Int32) (a : Int32) (S : Sc) : Sc := ((fX3_hear tu pf tf S.1 S.2.2.2.1 S.2.2.2.2.1 S.2.2.2.2.2.1 S.2.2.2.2.2.2.1 S.2.2.2.2.2.2.2 a).1, S.2.1, S.2.2.1, (fX3_hear tu pf tf S.1 S.2.2.2.1 S.2.2.2.2.1 S.2.2.2.2.2.1 S.2.2.2.2.2.2.1 S.2.2.2.2.2.2.2 a).2.1, (fX3_hear tu pf tf S.1 S.2.2.2.1 S.2.2.2.2.1 S.2.2.2.2.2.1 S.2.2.2.2.2.2.1 S.2.2.2.2.2.2.2 a).2.2.1, (fX3_hear tu pf tf S.1 S.2.2.2.1 S.2.2.2.2.1 S.2.2.2.2.2.1 S.2.2.2.2.2.2.1 S.2.2.2.2.2.2.2 a).2.2.2.1, (fX3_hear tu pf tf S.1 S.2.2.2.1 S.2.2.2.2.1 S.2.2.2.2.2.1 S.2.2.2.2.2.2.1 S.2.2.2.2.2.2.2 a).2.2.2.2.1, (fX3_hear tu pf tf S.1 S.2.2.2.1 S.2.2.2.2.1 S.2.2.2.2.2.1 S.2.2.2.2.2.2.1 S.2.2.2.2.2.2.2 a).2.2.2.2.2)
theorem ksX3_hear (l : Launch) (E : hE) (fa : Nat) (fb : Nat) (fc : Nat) (pe : Int32) (tu : Int32) (pf : Nat → Int32) (tf : Nat → Int32) (sa : Nat) (sb : Nat) (sd : Nat) (se : Nat) (a : Int32) (S : Sc) : hC l yX3_hear wsX3_hear rmX3_hear E [.ref sa, .int a] [(fa, .inr (2, [.int pe, .int tu, .ref fb, .ref fc])), (fb, .inl (E.2.1.1, 36, .inl pf)), (fc, .inl (E.2.1.1, 12, .inl tf)), (sa, .inr (3, [.ref fa, .int S.1, .int S.2.1, .int S.2.2.1, .int S.2.2.2.1, .int S.2.2.2.2.1, .ref sb, .ref sd, .ref se])), (sb, .inl (E.2.1.1, 6, .inl S.2.2.2.2.2.1)), (sd, .inl (E.2.1.1, 6, .inl S.2.2.2.2.2.2.1)), (se, .inl (E.2.1.1, 4, .inl S.2.2.2.2.2.2.2))] none [(fa, .inr (2, [.int pe, .int tu, .ref fb, .ref fc])), (fb, .inl (E.2.1.1, 36, .inl pf)), (fc, .inl (E.2.1.1, 12, .inl tf)), (sa, .inr (3, [.ref fa, .int ((gX3_hear_s tu pf tf a S).1), .int ((gX3_hear_s tu pf tf a S).2.1), .int ((gX3_hear_s tu pf tf a S).2.2.1), .int ((gX3_hear_s tu pf tf a S).2.2.2.1), .int ((gX3_hear_s tu pf tf a S).2.2.2.2.1), .ref sb, .ref sd, .ref se])), (sb, .inl (E.2.1.1, 6, .inl ((gX3_hear_s tu pf tf a S).2.2.2.2.2.1))), (sd, .inl (E.2.1.1, 6, .inl ((gX3_hear_s tu pf tf a S).2.2.2.2.2.2.1))), (se, .inl (E.2.1.1, 4, .inl ((gX3_hear_s tu pf tf a S).2.2.2.2.2.2.2)))] := kX3_hear l E fa fb fc pe tu pf tf sa sb sd se S.1 S.2.1 S.2.2.1 S.2.2.2.1 S.2.2.2.2.1 S.2.2.2.2.2.1 S.2.2.2.2.2.2.1 S.2.2.2.2.2.2.2 a
theorem mmX3_collectFrom_f21 : (Cond.fieldLink RX3 21 "HatRound$Scene" "standing" "I") ∈ wsX3_collectFrom := (List.mem_cons_of_mem _ (List.mem_append_left _ (List.mem_append_left _ (List.mem_append_left _ (List.mem_of_getElem? (i := 0) rfl)))))
theorem mrX3_collectFrom_3 : ∀ w ∈ u_ws RX3 TX3 9, w ∈ wsX3_collectFrom := fun _ h => (List.mem_cons_of_mem _ (List.mem_append_left _ (List.mem_append_right _ h)))
theorem mmX3_collectFrom_wi5 : (Cond.initialized RX5) ∈ wsX3_collectFrom := (List.mem_cons_of_mem _ (List.mem_append_left _ (List.mem_append_left _ (List.mem_append_left _ (List.mem_of_getElem? (i := 10) rfl)))))
theorem mmX3_collectFrom_wsX5_has : (Cond.static yX5_has) ∈ wsX3_collectFrom := (List.mem_cons_of_mem _ (List.mem_append_left _ (List.mem_append_left _ (List.mem_append_left _ (List.mem_of_getElem? (i := 9) rfl)))))
theorem mmX3_collectFrom_f37 : (Cond.fieldLink RX3 37 "HatRound$Scene" "facts" "LHatRound$Facts;") ∈ wsX3_collectFrom := (List.mem_cons_of_mem _ (List.mem_append_left _ (List.mem_append_left _ (List.mem_append_left _ (List.mem_of_getElem? (i := 1) rfl)))))
theorem mmX3_collectFrom_f15 : (Cond.fieldLink RX3 15 "HatRound$Scene" "hat" "I") ∈ wsX3_collectFrom := (List.mem_cons_of_mem _ (List.mem_append_left _ (List.mem_append_left _ (List.mem_append_left _ (List.mem_of_getElem? (i := 2) rfl)))))
theorem mmX3_collectFrom_f18 : (Cond.fieldLink RX3 18 "HatRound$Scene" "bait" "I") ∈ wsX3_collectFrom := (List.mem_cons_of_mem _ (List.mem_append_left _ (List.mem_append_left _ (List.mem_append_left _ (List.mem_of_getElem? (i := 3) rfl)))))
theorem mmX3_collectFrom_j90 : (Cond.methodLink RX3 90 Lib.Math.max.name) ∈ wsX3_collectFrom := (List.mem_cons_of_mem _ (List.mem_append_left _ (List.mem_append_left _ (List.mem_append_left _ (List.mem_of_getElem? (i := 4) rfl)))))
theorem mmX3_collectFrom_jsmax : (Cond.static Lib.Math.max.name) ∈ wsX3_collectFrom := (List.mem_cons_of_mem _ (List.mem_append_left _ (List.mem_append_left _ (List.mem_append_left _ (List.mem_of_getElem? (i := 5) rfl)))))
theorem mmX3_collectFrom_jim : (Cond.initialized "java/lang/Math") ∈ wsX3_collectFrom := (List.mem_cons_of_mem _ (List.mem_append_left _ (List.mem_append_left _ (List.mem_append_left _ (List.mem_of_getElem? (i := 6) rfl)))))
theorem mmX3_collectFrom_jcmax : (Cond.code Lib.Math.max.name Lib.Math.max.code 2 (some .int)) ∈ wsX3_collectFrom := (List.mem_cons_of_mem _ (List.mem_append_left _ (List.mem_append_left _ (List.mem_append_left _ (List.mem_of_getElem? (i := 7) rfl)))))
theorem mmX3_collectFrom_f27 : (Cond.fieldLink RX3 27 "HatRound$Scene" "mood" "[I") ∈ wsX3_collectFrom := (List.mem_cons_of_mem _ (List.mem_append_left _ (List.mem_append_left _ (List.mem_append_left _ (List.mem_of_getElem? (i := 8) rfl)))))
abbrev rmX3_collectFrom : Room := { frames := 2, cells := 0, slots := 0, locals := 46 }
theorem hfX3_collectFrom : hCF yX3_collectFrom wsX3_collectFrom rmX3_collectFrom cX3_collectFrom 4 none 1 := ⟨⟨_, rfl⟩, by decide +kernel, rfl, rfl⟩
noncomputable def stX3_collectFrom_2 (pf : Nat → Int32) (sg : Int32) (a : Int32) (i : Nat) (σ : Int32 × Int32 × (Nat → Int32)) : Int32 × Int32 × (Nat → Int32) := hid (if (fX5_has sg (nI i)) = 0 then (σ.1, σ.2.1, σ.2.2) else if (fX2_ofPerson pf (nI i) 0) = a then (σ.1 + (fX3_giftOf σ.2.1 σ.2.2 (nI i)), if σ.2.1 < (fX3_giftOf σ.2.1 σ.2.2 (nI i)) then (fX3_giftOf σ.2.1 σ.2.2 (nI i)) else σ.2.1, upd σ.2.2 (nI i).toNatClampNeg 0) else (σ.1, σ.2.1, σ.2.2))
set_option maxHeartbeats 4000000 in
set_option maxRecDepth 100000 in
theorem lpX3_collectFrom_2 {p : Program} {l : Launch} {e : Env} {s : State} {m : MethodId} {args : Array Value} {below : List Frame} {meth : Method} {c : Code} {E : hE} {A : Nat → Prop} {Q : State → Prop} (C : hX p s m args meth c E A cX3_collectFrom 4 RX3 wsX3_collectFrom none) (fa : Nat) (fb : Nat) (fc : Nat) (pe : Int32) (tu : Int32) (pf : Nat → Int32) (tf : Nat → Int32) (sa : Nat) (sb : Nat) (sd : Nat) (se : Nat) (mi : Int32) (ha : Int32) (ba : Int32) (sg : Int32) (wg : Int32) (mo : Nat → Int32) (pa : Nat → Int32) (pl : Nat → Int32) (a : Int32) (σ0 : Int32 × Int32 × (Nat → Int32)) (k : hG p l e rmX3_collectFrom s m args below meth c E A 4 Q 0 0 73 [] [] [(fa, .inr (2, [.int pe, .int tu, .ref fb, .ref fc])), (fb, .inl (E.2.1.1, 36, .inl pf)), (fc, .inl (E.2.1.1, 12, .inl tf)), (sa, .inr (3, [.ref fa, .int mi, .int ((itN (stX3_collectFrom_2 pf sg a) 6 σ0).1), .int ((itN (stX3_collectFrom_2 pf sg a) 6 σ0).2.1), .int sg, .int wg, .ref sb, .ref sd, .ref se])), (sb, .inl (E.2.1.1, 6, .inl ((itN (stX3_collectFrom_2 pf sg a) 6 σ0).2.2))), (sd, .inl (E.2.1.1, 6, .inl pa)), (se, .inl (E.2.1.1, 4, .inl pl))]) : ∀ (n i : Nat) (σ : Int32 × Int32 × (Nat → Int32)), i + n = 6 → σ = itN (stX3_collectFrom_2 pf sg a) i σ0 → hG p l e rmX3_collectFrom s m args below meth c E A 4 Q 0 0 2 [(0, .ref sa), (1, .int a), (2, .int (nI i))] [] [(fa, .inr (2, [.int pe, .int tu, .ref fb, .ref fc])), (fb, .inl (E.2.1.1, 36, .inl pf)), (fc, .inl (E.2.1.1, 12, .inl tf)), (sa, .inr (3, [.ref fa, .int mi, .int σ.1, .int σ.2.1, .int sg, .int wg, .ref sb, .ref sd, .ref se])), (sb, .inl (E.2.1.1, 6, .inl σ.2.2)), (sd, .inl (E.2.1.1, 6, .inl pa)), (se, .inl (E.2.1.1, 4, .inl pl))] := by
  intro n
  induction n with
  | zero =>
    intro i σ hi hσ
    have hi : i = 6 := by omega
    rw [hi] at hσ
    rw [hi]
    subst hσ
    refine hg_iload_n C dX3_collectFrom_2 rfl 2 rfl ?_
    refine hg_bipush C (v := 6) dX3_collectFrom_3 (by decide) ?_
    refine hg_icmp_ge C (tgt := 73) dX3_collectFrom_5 (by decide) (fun _ => ?_) (fun h => absurd (by decide) h)
    exact hg_sub [] rfl k
  | succ n ih =>
    intro i σ hi hσ
    have hlt : i < 6 := by omega
    refine hg_iload_n C dX3_collectFrom_2 rfl 2 rfl ?_
    refine hg_bipush C (v := 6) dX3_collectFrom_3 (by decide) ?_
    refine hg_icmp_ge C (tgt := 73) dX3_collectFrom_5 (by decide) (fun h => absurd h (nI_ge hlt (by decide))) (fun _ => ?_)
    refine hg_aload_n C dX3_collectFrom_8 rfl 0 rfl ?_
    refine hg_get C (Cn := RX3) (T := TX3) (N := 9) (v := .int sg) mrX3_collectFrom_3 3 rfl rfl 4 (by decide) mmX3_collectFrom_f21 rfl dX3_collectFrom_9 ?_
    refine hg_iload_n C dX3_collectFrom_12 rfl 2 rfl ?_
    refine hg_callN C (ws' := [(fa, .inr (2, [.int pe, .int tu, .ref fb, .ref fc])), (fb, .inl (E.2.1.1, 36, .inl pf)), (fc, .inl (E.2.1.1, 12, .inl tf)), (sa, .inr (3, [.ref fa, .int mi, .int σ.1, .int σ.2.1, .int sg, .int wg, .ref sb, .ref sd, .ref se])), (sb, .inl (E.2.1.1, 6, .inl σ.2.2)), (sd, .inl (E.2.1.1, 6, .inl pa)), (se, .inl (E.2.1.1, 4, .inl pl))]) (rest := []) (kX5_has l E sg (nI i)) hfX5_has gX3_collectFrom_X5_has_n77 nmX3_77 mmX3_collectFrom_wi5 mmX3_collectFrom_wsX5_has ⟨Nat.le_of_ble_eq_true rfl, Nat.le_of_ble_eq_true rfl⟩ ⟨Nat.zero_le _, Nat.zero_le _⟩ [] rfl (by decide) [] rfl rfl rfl rfl (Nat.le_of_ble_eq_true rfl) dX3_collectFrom_13 ?_
    refine hg_if_eq C (tgt := 67) dX3_collectFrom_16 (by decide) (fun c3 => ?_) (fun c3 => ?_)
    · refine hg_iinc C (v := nI (i + 1)) (lv' := [(2, .int (nI (i + 1))), (0, .ref sa), (1, .int a)]) dX3_collectFrom_67 2 rfl (nI_inc _) (by decide) rfl ?_
      refine hg_goto C (tgt := 2) dX3_collectFrom_70 (by decide) ?_
      have e9 : (stX3_collectFrom_2 pf sg a) i σ = (σ.1, σ.2.1, σ.2.2) := (hid_eq _).trans ((if_pos c3).trans rfl)
      have h9 := ih (i + 1) (σ.1, σ.2.1, σ.2.2) (by omega) (e9.symm.trans (congrArg ((stX3_collectFrom_2 pf sg a) i) hσ))
      exact hg_sub [1, 2, 0] rfl h9
    · refine hg_aload_n C dX3_collectFrom_19 rfl 0 rfl ?_
      refine hg_get C (Cn := RX3) (T := TX3) (N := 9) (v := .ref fa) mrX3_collectFrom_3 3 rfl rfl 0 (by decide) mmX3_collectFrom_f37 rfl dX3_collectFrom_20 ?_
      refine hg_iload_n C dX3_collectFrom_23 rfl 2 rfl ?_
      refine hg_iconst C (v := 0) dX3_collectFrom_24 (by decide) ?_
      refine hg_callV C (ws' := [(fa, .inr (2, [.int pe, .int tu, .ref fb, .ref fc])), (fb, .inl (E.2.1.1, 36, .inl pf)), (fc, .inl (E.2.1.1, 12, .inl tf)), (sa, .inr (3, [.ref fa, .int mi, .int σ.1, .int σ.2.1, .int sg, .int wg, .ref sb, .ref sd, .ref se])), (sb, .inl (E.2.1.1, 6, .inl σ.2.2)), (sd, .inl (E.2.1.1, 6, .inl pa)), (se, .inl (E.2.1.1, 4, .inl pl))]) (rest := []) (kX2_ofPerson l E fa fb fc pe tu pf tf (nI i) 0) hfX2_ofPerson gX3_collectFrom_X2_ofPerson ⟨Nat.le_of_ble_eq_true rfl, Nat.le_of_ble_eq_true rfl⟩ ⟨Nat.zero_le _, Nat.zero_le _⟩ [0, 1, 2] rfl (by decide) [fa, fb, fc] rfl rfl rfl 0 rfl rfl rfl rfl (Nat.le_of_ble_eq_true rfl) dX3_collectFrom_25 ?_
      refine hg_iload_n C dX3_collectFrom_28 rfl 1 rfl ?_
      refine hg_icmp_ne C (tgt := 67) dX3_collectFrom_29 (by decide) (fun c4 => ?_) (fun c4 => ?_)
      · refine hg_iinc C (v := nI (i + 1)) (lv' := [(2, .int (nI (i + 1))), (0, .ref sa), (1, .int a)]) dX3_collectFrom_67 2 rfl (nI_inc _) (by decide) rfl ?_
        refine hg_goto C (tgt := 2) dX3_collectFrom_70 (by decide) ?_
        have e9 : (stX3_collectFrom_2 pf sg a) i σ = (σ.1, σ.2.1, σ.2.2) := (hid_eq _).trans ((if_neg c3).trans ((if_neg c4).trans rfl))
        have h9 := ih (i + 1) (σ.1, σ.2.1, σ.2.2) (by omega) (e9.symm.trans (congrArg ((stX3_collectFrom_2 pf sg a) i) hσ))
        exact hg_sub [1, 2, 0] rfl h9
      · refine hg_aload_n C dX3_collectFrom_32 rfl 0 rfl ?_
        refine hg_iload_n C dX3_collectFrom_33 rfl 2 rfl ?_
        refine hg_callV C (ws' := [(fa, .inr (2, [.int pe, .int tu, .ref fb, .ref fc])), (fb, .inl (E.2.1.1, 36, .inl pf)), (fc, .inl (E.2.1.1, 12, .inl tf)), (sa, .inr (3, [.ref fa, .int mi, .int σ.1, .int σ.2.1, .int sg, .int wg, .ref sb, .ref sd, .ref se])), (sb, .inl (E.2.1.1, 6, .inl σ.2.2)), (sd, .inl (E.2.1.1, 6, .inl pa)), (se, .inl (E.2.1.1, 4, .inl pl))]) (rest := []) (kX3_giftOf l E fa sa sb sd se mi σ.1 σ.2.1 sg wg σ.2.2 pa pl (nI i)) hfX3_giftOf gX3_collectFrom_X3_giftOf ⟨Nat.le_of_ble_eq_true rfl, Nat.le_of_ble_eq_true rfl⟩ ⟨Nat.zero_le _, Nat.zero_le _⟩ [3, 4, 5, 6] rfl (by decide) [sa, sb, sd, se] rfl rfl rfl 3 rfl rfl rfl rfl (Nat.le_of_ble_eq_true rfl) dX3_collectFrom_34 ?_
        refine hg_istore_n C (lv' := [(3, .int (fX3_giftOf σ.2.1 σ.2.2 (nI i))), (0, .ref sa), (1, .int a), (2, .int (nI i))]) dX3_collectFrom_37 rfl (by decide) rfl ?_
        refine hg_aload_n C dX3_collectFrom_38 rfl 1 rfl ?_
        refine hg_dup C dX3_collectFrom_39 rfl ?_
        refine hg_get C (Cn := RX3) (T := TX3) (N := 9) (v := .int σ.1) mrX3_collectFrom_3 3 rfl rfl 2 (by decide) mmX3_collectFrom_f15 rfl dX3_collectFrom_40 ?_
        refine hg_iload_n C dX3_collectFrom_43 rfl 0 rfl ?_
        refine hg_iadd C dX3_collectFrom_44 ?_
        refine hg_put C (Cn := RX3) (T := TX3) (N := 9) (ws' := [(fa, .inr (2, [.int pe, .int tu, .ref fb, .ref fc])), (fb, .inl (E.2.1.1, 36, .inl pf)), (fc, .inl (E.2.1.1, 12, .inl tf)), (sa, .inr (3, [.ref fa, .int mi, .int (σ.1 + (fX3_giftOf σ.2.1 σ.2.2 (nI i))), .int σ.2.1, .int sg, .int wg, .ref sb, .ref sd, .ref se])), (sb, .inl (E.2.1.1, 6, .inl σ.2.2)), (sd, .inl (E.2.1.1, 6, .inl pa)), (se, .inl (E.2.1.1, 4, .inl pl))]) mrX3_collectFrom_3 tyX3 tyX3_ok nmX3 3 rfl rfl 2 (by decide) mmX3_collectFrom_f15 rfl rfl rfl rfl (Nat.le_of_ble_eq_true rfl) rfl dX3_collectFrom_45 ?_
        refine hg_aload_n C dX3_collectFrom_48 rfl 1 rfl ?_
        refine hg_aload_n C dX3_collectFrom_49 rfl 1 rfl ?_
        refine hg_get C (Cn := RX3) (T := TX3) (N := 9) (v := .int σ.2.1) mrX3_collectFrom_3 3 rfl rfl 3 (by decide) mmX3_collectFrom_f18 rfl dX3_collectFrom_50 ?_
        refine hg_iload_n C dX3_collectFrom_53 rfl 0 rfl ?_
        refine hg_mmax C mmX3_collectFrom_j90 mmX3_collectFrom_jsmax mmX3_collectFrom_jim mmX3_collectFrom_jcmax (Nat.le_of_ble_eq_true rfl) (Nat.le_of_ble_eq_true rfl) ⟨Nat.zero_le _, Nat.zero_le _⟩ dX3_collectFrom_54 ?_
        refine hg_put C (Cn := RX3) (T := TX3) (N := 9) (ws' := [(fa, .inr (2, [.int pe, .int tu, .ref fb, .ref fc])), (fb, .inl (E.2.1.1, 36, .inl pf)), (fc, .inl (E.2.1.1, 12, .inl tf)), (sa, .inr (3, [.ref fa, .int mi, .int (σ.1 + (fX3_giftOf σ.2.1 σ.2.2 (nI i))), .int (if σ.2.1 < (fX3_giftOf σ.2.1 σ.2.2 (nI i)) then (fX3_giftOf σ.2.1 σ.2.2 (nI i)) else σ.2.1), .int sg, .int wg, .ref sb, .ref sd, .ref se])), (sb, .inl (E.2.1.1, 6, .inl σ.2.2)), (sd, .inl (E.2.1.1, 6, .inl pa)), (se, .inl (E.2.1.1, 4, .inl pl))]) mrX3_collectFrom_3 tyX3 tyX3_ok nmX3 3 rfl rfl 3 (by decide) mmX3_collectFrom_f18 rfl rfl rfl rfl (Nat.le_of_ble_eq_true rfl) rfl dX3_collectFrom_57 ?_
        refine hg_aload_n C dX3_collectFrom_60 rfl 1 rfl ?_
        refine hg_get C (Cn := RX3) (T := TX3) (N := 9) (v := .ref sb) mrX3_collectFrom_3 3 rfl rfl 6 (by decide) mmX3_collectFrom_f27 rfl dX3_collectFrom_61 ?_
        refine hg_iload_n C dX3_collectFrom_64 rfl 3 rfl ?_
        refine hg_iconst C (v := 0) dX3_collectFrom_65 (by decide) ?_
        refine hg_iast C (ws' := [(fa, .inr (2, [.int pe, .int tu, .ref fb, .ref fc])), (fb, .inl (E.2.1.1, 36, .inl pf)), (fc, .inl (E.2.1.1, 12, .inl tf)), (sa, .inr (3, [.ref fa, .int mi, .int (σ.1 + (fX3_giftOf σ.2.1 σ.2.2 (nI i))), .int (if σ.2.1 < (fX3_giftOf σ.2.1 σ.2.2 (nI i)) then (fX3_giftOf σ.2.1 σ.2.2 (nI i)) else σ.2.1), .int sg, .int wg, .ref sb, .ref sd, .ref se])), (sb, .inl (E.2.1.1, 6, .inl (upd σ.2.2 (nI i).toNatClampNeg 0))), (sd, .inl (E.2.1.1, 6, .inl pa)), (se, .inl (E.2.1.1, 4, .inl pl))]) 4 rfl (vp_in_nI (by omega) (by decide)) rfl dX3_collectFrom_66 ?_
        refine hg_iinc C (v := nI (i + 1)) (lv' := [(2, .int (nI (i + 1))), (3, .int (fX3_giftOf σ.2.1 σ.2.2 (nI i))), (0, .ref sa), (1, .int a)]) dX3_collectFrom_67 3 rfl (nI_inc _) (by decide) rfl ?_
        refine hg_goto C (tgt := 2) dX3_collectFrom_70 (by decide) ?_
        have e9 : (stX3_collectFrom_2 pf sg a) i σ = (σ.1 + (fX3_giftOf σ.2.1 σ.2.2 (nI i)), if σ.2.1 < (fX3_giftOf σ.2.1 σ.2.2 (nI i)) then (fX3_giftOf σ.2.1 σ.2.2 (nI i)) else σ.2.1, upd σ.2.2 (nI i).toNatClampNeg 0) := (hid_eq _).trans ((if_neg c3).trans ((if_pos c4).trans rfl))
        have h9 := ih (i + 1) (σ.1 + (fX3_giftOf σ.2.1 σ.2.2 (nI i)), if σ.2.1 < (fX3_giftOf σ.2.1 σ.2.2 (nI i)) then (fX3_giftOf σ.2.1 σ.2.2 (nI i)) else σ.2.1, upd σ.2.2 (nI i).toNatClampNeg 0) (by omega) (e9.symm.trans (congrArg ((stX3_collectFrom_2 pf sg a) i) hσ))
        exact hg_sub [2, 3, 0] rfl h9
noncomputable def fX3_collectFrom (pf : Nat → Int32) (ha : Int32) (ba : Int32) (sg : Int32) (mo : Nat → Int32) (a : Int32) : Int32 × Int32 × (Nat → Int32) := hid (((itN (stX3_collectFrom_2 pf sg a) 6 (ha, ba, mo)).1, (itN (stX3_collectFrom_2 pf sg a) 6 (ha, ba, mo)).2.1, (itN (stX3_collectFrom_2 pf sg a) 6 (ha, ba, mo)).2.2))
set_option maxHeartbeats 4000000 in
set_option maxRecDepth 100000 in
theorem kX3_collectFrom (l : Launch) (E : hE) (fa : Nat) (fb : Nat) (fc : Nat) (pe : Int32) (tu : Int32) (pf : Nat → Int32) (tf : Nat → Int32) (sa : Nat) (sb : Nat) (sd : Nat) (se : Nat) (mi : Int32) (ha : Int32) (ba : Int32) (sg : Int32) (wg : Int32) (mo : Nat → Int32) (pa : Nat → Int32) (pl : Nat → Int32) (a : Int32) : hC l yX3_collectFrom wsX3_collectFrom rmX3_collectFrom E [.ref sa, .int a] [(fa, .inr (2, [.int pe, .int tu, .ref fb, .ref fc])), (fb, .inl (E.2.1.1, 36, .inl pf)), (fc, .inl (E.2.1.1, 12, .inl tf)), (sa, .inr (3, [.ref fa, .int mi, .int ha, .int ba, .int sg, .int wg, .ref sb, .ref sd, .ref se])), (sb, .inl (E.2.1.1, 6, .inl mo)), (sd, .inl (E.2.1.1, 6, .inl pa)), (se, .inl (E.2.1.1, 4, .inl pl))] none [(fa, .inr (2, [.int pe, .int tu, .ref fb, .ref fc])), (fb, .inl (E.2.1.1, 36, .inl pf)), (fc, .inl (E.2.1.1, 12, .inl tf)), (sa, .inr (3, [.ref fa, .int mi, .int ((fX3_collectFrom pf ha ba sg mo a).1), .int ((fX3_collectFrom pf ha ba sg mo a).2.1), .int sg, .int wg, .ref sb, .ref sd, .ref se])), (sb, .inl (E.2.1.1, 6, .inl ((fX3_collectFrom pf ha ba sg mo a).2.2))), (sd, .inl (E.2.1.1, 6, .inl pa)), (se, .inl (E.2.1.1, 4, .inl pl))] := by
  refine hC_intro (cc := cX3_collectFrom) (maxL := 4) (ret := none) (lv0 := [(0, .ref sa), (1, .int a)]) (by decide) rfl (Nat.le_of_ble_eq_true rfl) rfl ?_
  intro p e s m below meth c A C
  refine hg_iconst C (v := 0) dX3_collectFrom_0 (by decide) ?_
  refine hg_istore_n C (lv' := [(2, .int 0), (0, .ref sa), (1, .int a)]) dX3_collectFrom_1 rfl (by decide) rfl ?_
  refine hg_sub [1, 2, 0] rfl ?_
  refine lpX3_collectFrom_2 C fa fb fc pe tu pf tf sa sb sd se mi ha ba sg wg mo pa pl a (ha, ba, mo) ?_ 6 0 (ha, ba, mo) (by omega) rfl
  have e9 : (fX3_collectFrom pf ha ba sg mo a) = ((itN (stX3_collectFrom_2 pf sg a) 6 (ha, ba, mo)).1, (itN (stX3_collectFrom_2 pf sg a) 6 (ha, ba, mo)).2.1, (itN (stX3_collectFrom_2 pf sg a) 6 (ha, ba, mo)).2.2) := hid_eq _
  rw [e9]
  exact hg_vret C dX3_collectFrom_73 rfl rfl
theorem mmX3_slipOff_f37 : (Cond.fieldLink RX3 37 "HatRound$Scene" "facts" "LHatRound$Facts;") ∈ wsX3_slipOff := (List.mem_cons_of_mem _ (List.mem_append_left _ (List.mem_append_left _ (List.mem_of_getElem? (i := 0) rfl))))
theorem mrX3_slipOff_3 : ∀ w ∈ u_ws RX3 TX3 9, w ∈ wsX3_slipOff := fun _ h => (List.mem_cons_of_mem _ (List.mem_append_left _ (List.mem_append_right _ h)))
theorem mmX3_slipOff_f21 : (Cond.fieldLink RX3 21 "HatRound$Scene" "standing" "I") ∈ wsX3_slipOff := (List.mem_cons_of_mem _ (List.mem_append_left _ (List.mem_append_left _ (List.mem_of_getElem? (i := 1) rfl))))
theorem mmX3_slipOff_wi5 : (Cond.initialized RX5) ∈ wsX3_slipOff := (List.mem_cons_of_mem _ (List.mem_append_left _ (List.mem_append_left _ (List.mem_of_getElem? (i := 16) rfl))))
theorem mmX3_slipOff_wsX5_has : (Cond.static yX5_has) ∈ wsX3_slipOff := (List.mem_cons_of_mem _ (List.mem_append_left _ (List.mem_append_left _ (List.mem_of_getElem? (i := 15) rfl))))
theorem mmX3_slipOff_j108 : (Cond.methodLink RX3 108 Lib.Math.abs.name) ∈ wsX3_slipOff := (List.mem_cons_of_mem _ (List.mem_append_left _ (List.mem_append_left _ (List.mem_of_getElem? (i := 2) rfl))))
theorem mmX3_slipOff_jsabs : (Cond.static Lib.Math.abs.name) ∈ wsX3_slipOff := (List.mem_cons_of_mem _ (List.mem_append_left _ (List.mem_append_left _ (List.mem_of_getElem? (i := 3) rfl))))
theorem mmX3_slipOff_jim : (Cond.initialized "java/lang/Math") ∈ wsX3_slipOff := (List.mem_cons_of_mem _ (List.mem_append_left _ (List.mem_append_left _ (List.mem_of_getElem? (i := 4) rfl))))
theorem mmX3_slipOff_jcabs : (Cond.code Lib.Math.abs.name Lib.Math.abs.code 1 (some .int)) ∈ wsX3_slipOff := (List.mem_cons_of_mem _ (List.mem_append_left _ (List.mem_append_left _ (List.mem_of_getElem? (i := 5) rfl))))
abbrev rmX3_slipOff : Room := { frames := 2, cells := 0, slots := 0, locals := 46 }
theorem hfX3_slipOff : hCF yX3_slipOff wsX3_slipOff rmX3_slipOff cX3_slipOff 5 none 2 := ⟨⟨_, rfl⟩, by decide +kernel, rfl, rfl⟩
noncomputable def stX3_slipOff_2 (pf : Nat → Int32) (a : Int32) (b : Int32) (i : Nat) (σ : Int32) : Int32 := hid (if (fX5_has σ (nI i)) = 0 then σ else if ((b >>> ((fX2_ofPerson pf (nI i) 0) &&& 31)) &&& 1) = 0 then (if (fX2_ofPerson pf (nI i) 3) < (if 0 ≤ ((fX2_ofPerson pf (nI i) 0) - a) then ((fX2_ofPerson pf (nI i) 0) - a) else 0 - ((fX2_ofPerson pf (nI i) 0) - a)) then σ else σ &&& ((1 <<< ((nI i) &&& 31)) ^^^ (-1))) else σ)
set_option maxHeartbeats 4000000 in
set_option maxRecDepth 100000 in
theorem lpX3_slipOff_2 {p : Program} {l : Launch} {e : Env} {s : State} {m : MethodId} {args : Array Value} {below : List Frame} {meth : Method} {c : Code} {E : hE} {A : Nat → Prop} {Q : State → Prop} (C : hX p s m args meth c E A cX3_slipOff 5 RX3 wsX3_slipOff none) (fa : Nat) (fb : Nat) (fc : Nat) (pe : Int32) (tu : Int32) (pf : Nat → Int32) (tf : Nat → Int32) (sa : Nat) (sb : Nat) (sd : Nat) (se : Nat) (mi : Int32) (ha : Int32) (ba : Int32) (sg : Int32) (wg : Int32) (mo : Nat → Int32) (pa : Nat → Int32) (pl : Nat → Int32) (a : Int32) (b : Int32) (σ0 : Int32) (k : hG p l e rmX3_slipOff s m args below meth c E A 5 Q 0 0 78 [] [] [(fa, .inr (2, [.int pe, .int tu, .ref fb, .ref fc])), (fb, .inl (E.2.1.1, 36, .inl pf)), (fc, .inl (E.2.1.1, 12, .inl tf)), (sa, .inr (3, [.ref fa, .int mi, .int ha, .int ba, .int (itN (stX3_slipOff_2 pf a b) 6 σ0), .int wg, .ref sb, .ref sd, .ref se])), (sb, .inl (E.2.1.1, 6, .inl mo)), (sd, .inl (E.2.1.1, 6, .inl pa)), (se, .inl (E.2.1.1, 4, .inl pl))]) : ∀ (n i : Nat) (σ : Int32), i + n = 6 → σ = itN (stX3_slipOff_2 pf a b) i σ0 → hG p l e rmX3_slipOff s m args below meth c E A 5 Q 0 0 2 [(0, .ref sa), (1, .int a), (2, .int b), (3, .int (nI i))] [] [(fa, .inr (2, [.int pe, .int tu, .ref fb, .ref fc])), (fb, .inl (E.2.1.1, 36, .inl pf)), (fc, .inl (E.2.1.1, 12, .inl tf)), (sa, .inr (3, [.ref fa, .int mi, .int ha, .int ba, .int σ, .int wg, .ref sb, .ref sd, .ref se])), (sb, .inl (E.2.1.1, 6, .inl mo)), (sd, .inl (E.2.1.1, 6, .inl pa)), (se, .inl (E.2.1.1, 4, .inl pl))] := by
  intro n
  induction n with
  | zero =>
    intro i σ hi hσ
    have hi : i = 6 := by omega
    rw [hi] at hσ
    rw [hi]
    subst hσ
    refine hg_iload_n C dX3_slipOff_2 rfl 3 rfl ?_
    refine hg_bipush C (v := 6) dX3_slipOff_3 (by decide) ?_
    refine hg_icmp_ge C (tgt := 78) dX3_slipOff_5 (by decide) (fun _ => ?_) (fun h => absurd (by decide) h)
    exact hg_sub [] rfl k
  | succ n ih =>
    intro i σ hi hσ
    have hlt : i < 6 := by omega
    refine hg_iload_n C dX3_slipOff_2 rfl 3 rfl ?_
    refine hg_bipush C (v := 6) dX3_slipOff_3 (by decide) ?_
    refine hg_icmp_ge C (tgt := 78) dX3_slipOff_5 (by decide) (fun h => absurd h (nI_ge hlt (by decide))) (fun _ => ?_)
    refine hg_aload_n C dX3_slipOff_8 rfl 0 rfl ?_
    refine hg_get C (Cn := RX3) (T := TX3) (N := 9) (v := .ref fa) mrX3_slipOff_3 3 rfl rfl 0 (by decide) mmX3_slipOff_f37 rfl dX3_slipOff_9 ?_
    refine hg_iload_n C dX3_slipOff_12 rfl 3 rfl ?_
    refine hg_iconst C (v := 0) dX3_slipOff_13 (by decide) ?_
    refine hg_callV C (ws' := [(fa, .inr (2, [.int pe, .int tu, .ref fb, .ref fc])), (fb, .inl (E.2.1.1, 36, .inl pf)), (fc, .inl (E.2.1.1, 12, .inl tf)), (sa, .inr (3, [.ref fa, .int mi, .int ha, .int ba, .int σ, .int wg, .ref sb, .ref sd, .ref se])), (sb, .inl (E.2.1.1, 6, .inl mo)), (sd, .inl (E.2.1.1, 6, .inl pa)), (se, .inl (E.2.1.1, 4, .inl pl))]) (rest := []) (kX2_ofPerson l E fa fb fc pe tu pf tf (nI i) 0) hfX2_ofPerson gX3_slipOff_X2_ofPerson ⟨Nat.le_of_ble_eq_true rfl, Nat.le_of_ble_eq_true rfl⟩ ⟨Nat.zero_le _, Nat.zero_le _⟩ [0, 1, 2] rfl (by decide) [fa, fb, fc] rfl rfl rfl 0 rfl rfl rfl rfl (Nat.le_of_ble_eq_true rfl) dX3_slipOff_14 ?_
    refine hg_istore C (lv' := [(4, .int (fX2_ofPerson pf (nI i) 0)), (0, .ref sa), (1, .int a), (2, .int b), (3, .int (nI i))]) dX3_slipOff_17 (by decide) rfl ?_
    refine hg_aload_n C dX3_slipOff_19 rfl 1 rfl ?_
    refine hg_get C (Cn := RX3) (T := TX3) (N := 9) (v := .int σ) mrX3_slipOff_3 3 rfl rfl 4 (by decide) mmX3_slipOff_f21 rfl dX3_slipOff_20 ?_
    refine hg_iload_n C dX3_slipOff_23 rfl 4 rfl ?_
    refine hg_callN C (ws' := [(fa, .inr (2, [.int pe, .int tu, .ref fb, .ref fc])), (fb, .inl (E.2.1.1, 36, .inl pf)), (fc, .inl (E.2.1.1, 12, .inl tf)), (sa, .inr (3, [.ref fa, .int mi, .int ha, .int ba, .int σ, .int wg, .ref sb, .ref sd, .ref se])), (sb, .inl (E.2.1.1, 6, .inl mo)), (sd, .inl (E.2.1.1, 6, .inl pa)), (se, .inl (E.2.1.1, 4, .inl pl))]) (rest := []) (kX5_has l E σ (nI i)) hfX5_has gX3_slipOff_X5_has_n77 nmX3_77 mmX3_slipOff_wi5 mmX3_slipOff_wsX5_has ⟨Nat.le_of_ble_eq_true rfl, Nat.le_of_ble_eq_true rfl⟩ ⟨Nat.zero_le _, Nat.zero_le _⟩ [] rfl (by decide) [] rfl rfl rfl rfl (Nat.le_of_ble_eq_true rfl) dX3_slipOff_24 ?_
    refine hg_if_eq C (tgt := 72) dX3_slipOff_27 (by decide) (fun c4 => ?_) (fun c4 => ?_)
    · refine hg_iinc C (v := nI (i + 1)) (lv' := [(3, .int (nI (i + 1))), (4, .int (fX2_ofPerson pf (nI i) 0)), (0, .ref sa), (1, .int a), (2, .int b)]) dX3_slipOff_72 4 rfl (nI_inc _) (by decide) rfl ?_
      refine hg_goto C (tgt := 2) dX3_slipOff_75 (by decide) ?_
      have e9 : (stX3_slipOff_2 pf a b) i σ = σ := (hid_eq _).trans ((if_pos c4).trans rfl)
      have h9 := ih (i + 1) σ (by omega) (e9.symm.trans (congrArg ((stX3_slipOff_2 pf a b) i) hσ))
      exact hg_sub [2, 3, 4, 0] rfl h9
    · refine hg_iload_n C dX3_slipOff_30 rfl 3 rfl ?_
      refine hg_iload C dX3_slipOff_31 0 rfl ?_
      refine hg_ishr C dX3_slipOff_33 ?_
      refine hg_iconst C (v := 1) dX3_slipOff_34 (by decide) ?_
      refine hg_iand C dX3_slipOff_35 ?_
      refine hg_if_ne C (tgt := 72) dX3_slipOff_36 (by decide) (fun c5 => ?_) (fun c5 => ?_)
      · refine hg_iinc C (v := nI (i + 1)) (lv' := [(3, .int (nI (i + 1))), (4, .int (fX2_ofPerson pf (nI i) 0)), (0, .ref sa), (1, .int a), (2, .int b)]) dX3_slipOff_72 4 rfl (nI_inc _) (by decide) rfl ?_
        refine hg_goto C (tgt := 2) dX3_slipOff_75 (by decide) ?_
        have e9 : (stX3_slipOff_2 pf a b) i σ = σ := (hid_eq _).trans ((if_neg c4).trans ((if_neg c5).trans rfl))
        have h9 := ih (i + 1) σ (by omega) (e9.symm.trans (congrArg ((stX3_slipOff_2 pf a b) i) hσ))
        exact hg_sub [2, 3, 4, 0] rfl h9
      · refine hg_iload C dX3_slipOff_39 0 rfl ?_
        refine hg_iload_n C dX3_slipOff_41 rfl 2 rfl ?_
        refine hg_isub C dX3_slipOff_42 ?_
        refine hg_mabs C mmX3_slipOff_j108 mmX3_slipOff_jsabs mmX3_slipOff_jim mmX3_slipOff_jcabs (Nat.le_of_ble_eq_true rfl) (Nat.le_of_ble_eq_true rfl) ⟨Nat.zero_le _, Nat.zero_le _⟩ dX3_slipOff_43 ?_
        refine hg_aload_n C dX3_slipOff_46 rfl 1 rfl ?_
        refine hg_get C (Cn := RX3) (T := TX3) (N := 9) (v := .ref fa) mrX3_slipOff_3 3 rfl rfl 0 (by decide) mmX3_slipOff_f37 rfl dX3_slipOff_47 ?_
        refine hg_iload_n C dX3_slipOff_50 rfl 4 rfl ?_
        refine hg_iconst C (v := 3) dX3_slipOff_51 (by decide) ?_
        refine hg_callV C (ws' := [(fa, .inr (2, [.int pe, .int tu, .ref fb, .ref fc])), (fb, .inl (E.2.1.1, 36, .inl pf)), (fc, .inl (E.2.1.1, 12, .inl tf)), (sa, .inr (3, [.ref fa, .int mi, .int ha, .int ba, .int σ, .int wg, .ref sb, .ref sd, .ref se])), (sb, .inl (E.2.1.1, 6, .inl mo)), (sd, .inl (E.2.1.1, 6, .inl pa)), (se, .inl (E.2.1.1, 4, .inl pl))]) (rest := [.int (if 0 ≤ ((fX2_ofPerson pf (nI i) 0) - a) then ((fX2_ofPerson pf (nI i) 0) - a) else 0 - ((fX2_ofPerson pf (nI i) 0) - a))]) (kX2_ofPerson l E fa fb fc pe tu pf tf (nI i) 3) hfX2_ofPerson gX3_slipOff_X2_ofPerson ⟨Nat.le_of_ble_eq_true rfl, Nat.le_of_ble_eq_true rfl⟩ ⟨Nat.zero_le _, Nat.zero_le _⟩ [0, 1, 2] rfl (by decide) [fa, fb, fc] rfl rfl rfl 0 rfl rfl rfl rfl (Nat.le_of_ble_eq_true rfl) dX3_slipOff_52 ?_
        refine hg_icmp_gt C (tgt := 72) dX3_slipOff_55 (by decide) (fun c6 => ?_) (fun c6 => ?_)
        · refine hg_iinc C (v := nI (i + 1)) (lv' := [(3, .int (nI (i + 1))), (4, .int (fX2_ofPerson pf (nI i) 0)), (0, .ref sa), (1, .int a), (2, .int b)]) dX3_slipOff_72 4 rfl (nI_inc _) (by decide) rfl ?_
          refine hg_goto C (tgt := 2) dX3_slipOff_75 (by decide) ?_
          have e9 : (stX3_slipOff_2 pf a b) i σ = σ := (hid_eq _).trans ((if_neg c4).trans ((if_pos c5).trans ((if_pos c6).trans rfl)))
          have h9 := ih (i + 1) σ (by omega) (e9.symm.trans (congrArg ((stX3_slipOff_2 pf a b) i) hσ))
          exact hg_sub [2, 3, 4, 0] rfl h9
        · refine hg_aload_n C dX3_slipOff_58 rfl 1 rfl ?_
          refine hg_dup C dX3_slipOff_59 rfl ?_
          refine hg_get C (Cn := RX3) (T := TX3) (N := 9) (v := .int σ) mrX3_slipOff_3 3 rfl rfl 4 (by decide) mmX3_slipOff_f21 rfl dX3_slipOff_60 ?_
          refine hg_iconst C (v := 1) dX3_slipOff_63 (by decide) ?_
          refine hg_iload_n C dX3_slipOff_64 rfl 4 rfl ?_
          refine hg_ishl C dX3_slipOff_65 ?_
          refine hg_iconst C (v := (-1)) dX3_slipOff_66 (by decide) ?_
          refine hg_ixor C dX3_slipOff_67 ?_
          refine hg_iand C dX3_slipOff_68 ?_
          refine hg_put C (Cn := RX3) (T := TX3) (N := 9) (ws' := [(fa, .inr (2, [.int pe, .int tu, .ref fb, .ref fc])), (fb, .inl (E.2.1.1, 36, .inl pf)), (fc, .inl (E.2.1.1, 12, .inl tf)), (sa, .inr (3, [.ref fa, .int mi, .int ha, .int ba, .int (σ &&& ((1 <<< ((nI i) &&& 31)) ^^^ (-1))), .int wg, .ref sb, .ref sd, .ref se])), (sb, .inl (E.2.1.1, 6, .inl mo)), (sd, .inl (E.2.1.1, 6, .inl pa)), (se, .inl (E.2.1.1, 4, .inl pl))]) mrX3_slipOff_3 tyX3 tyX3_ok nmX3 3 rfl rfl 4 (by decide) mmX3_slipOff_f21 rfl rfl rfl rfl (Nat.le_of_ble_eq_true rfl) rfl dX3_slipOff_69 ?_
          refine hg_iinc C (v := nI (i + 1)) (lv' := [(3, .int (nI (i + 1))), (4, .int (fX2_ofPerson pf (nI i) 0)), (0, .ref sa), (1, .int a), (2, .int b)]) dX3_slipOff_72 4 rfl (nI_inc _) (by decide) rfl ?_
          refine hg_goto C (tgt := 2) dX3_slipOff_75 (by decide) ?_
          have e9 : (stX3_slipOff_2 pf a b) i σ = σ &&& ((1 <<< ((nI i) &&& 31)) ^^^ (-1)) := (hid_eq _).trans ((if_neg c4).trans ((if_pos c5).trans ((if_neg c6).trans rfl)))
          have h9 := ih (i + 1) (σ &&& ((1 <<< ((nI i) &&& 31)) ^^^ (-1))) (by omega) (e9.symm.trans (congrArg ((stX3_slipOff_2 pf a b) i) hσ))
          exact hg_sub [2, 3, 4, 0] rfl h9
noncomputable def fX3_slipOff (pf : Nat → Int32) (sg : Int32) (a : Int32) (b : Int32) : Int32 := hid ((itN (stX3_slipOff_2 pf a b) 6 sg))
set_option maxHeartbeats 4000000 in
set_option maxRecDepth 100000 in
theorem kX3_slipOff (l : Launch) (E : hE) (fa : Nat) (fb : Nat) (fc : Nat) (pe : Int32) (tu : Int32) (pf : Nat → Int32) (tf : Nat → Int32) (sa : Nat) (sb : Nat) (sd : Nat) (se : Nat) (mi : Int32) (ha : Int32) (ba : Int32) (sg : Int32) (wg : Int32) (mo : Nat → Int32) (pa : Nat → Int32) (pl : Nat → Int32) (a : Int32) (b : Int32) : hC l yX3_slipOff wsX3_slipOff rmX3_slipOff E [.ref sa, .int a, .int b] [(fa, .inr (2, [.int pe, .int tu, .ref fb, .ref fc])), (fb, .inl (E.2.1.1, 36, .inl pf)), (fc, .inl (E.2.1.1, 12, .inl tf)), (sa, .inr (3, [.ref fa, .int mi, .int ha, .int ba, .int sg, .int wg, .ref sb, .ref sd, .ref se])), (sb, .inl (E.2.1.1, 6, .inl mo)), (sd, .inl (E.2.1.1, 6, .inl pa)), (se, .inl (E.2.1.1, 4, .inl pl))] none [(fa, .inr (2, [.int pe, .int tu, .ref fb, .ref fc])), (fb, .inl (E.2.1.1, 36, .inl pf)), (fc, .inl (E.2.1.1, 12, .inl tf)), (sa, .inr (3, [.ref fa, .int mi, .int ha, .int ba, .int (fX3_slipOff pf sg a b), .int wg, .ref sb, .ref sd, .ref se])), (sb, .inl (E.2.1.1, 6, .inl mo)), (sd, .inl (E.2.1.1, 6, .inl pa)), (se, .inl (E.2.1.1, 4, .inl pl))] := by
  refine hC_intro (cc := cX3_slipOff) (maxL := 5) (ret := none) (lv0 := [(0, .ref sa), (1, .int a), (2, .int b)]) (by decide) rfl (Nat.le_of_ble_eq_true rfl) rfl ?_
  intro p e s m below meth c A C
  refine hg_iconst C (v := 0) dX3_slipOff_0 (by decide) ?_
  refine hg_istore_n C (lv' := [(3, .int 0), (0, .ref sa), (1, .int a), (2, .int b)]) dX3_slipOff_1 rfl (by decide) rfl ?_
  refine hg_sub [1, 2, 3, 0] rfl ?_
  refine lpX3_slipOff_2 C fa fb fc pe tu pf tf sa sb sd se mi ha ba sg wg mo pa pl a b sg ?_ 6 0 sg (by omega) rfl
  have e9 : (fX3_slipOff pf sg a b) = (itN (stX3_slipOff_2 pf a b) 6 sg) := hid_eq _
  rw [e9]
  exact hg_vret C dX3_slipOff_78 rfl rfl
theorem mmX3_passHat_f15 : (Cond.fieldLink RX3 15 "HatRound$Scene" "hat" "I") ∈ wsX3_passHat := (List.mem_cons_of_mem _ (List.mem_append_left _ (List.mem_append_left _ (List.mem_append_left _ (List.mem_of_getElem? (i := 0) rfl)))))
theorem mrX3_passHat_3 : ∀ w ∈ u_ws RX3 TX3 9, w ∈ wsX3_passHat := fun _ h => (List.mem_cons_of_mem _ (List.mem_append_left _ (List.mem_append_right _ h)))
theorem mmX3_passHat_f9 : (Cond.fieldLink RX3 9 "HatRound$Scene" "minute" "I") ∈ wsX3_passHat := (List.mem_cons_of_mem _ (List.mem_append_left _ (List.mem_append_left _ (List.mem_append_left _ (List.mem_of_getElem? (i := 1) rfl)))))
abbrev rmX3_passHat : Room := { frames := 3, cells := 0, slots := 0, locals := 70 }
theorem hfX3_passHat : hCF yX3_passHat wsX3_passHat rmX3_passHat cX3_passHat 6 (some .int) 1 := ⟨⟨_, rfl⟩, by decide +kernel, rfl, rfl⟩
noncomputable def stX3_passHat_10 (pf : Nat → Int32) (a : Int32) (i : Nat) (σ : Int32 × Int32 × Int32 × Int32 × (Nat → Int32)) : Int32 × Int32 × Int32 × Int32 × (Nat → Int32) := hid ((σ.1 ||| (1 <<< ((if a = 0 then (nI i) else (3 - (nI i))) &&& 31)), (fX3_collectFrom pf σ.2.1 σ.2.2.1 σ.2.2.2.1 σ.2.2.2.2 (if a = 0 then (nI i) else (3 - (nI i)))).1, (fX3_collectFrom pf σ.2.1 σ.2.2.1 σ.2.2.2.1 σ.2.2.2.2 (if a = 0 then (nI i) else (3 - (nI i)))).2.1, fX3_slipOff pf σ.2.2.2.1 (if a = 0 then (nI i) else (3 - (nI i))) (σ.1 ||| (1 <<< ((if a = 0 then (nI i) else (3 - (nI i))) &&& 31))), (fX3_collectFrom pf σ.2.1 σ.2.2.1 σ.2.2.2.1 σ.2.2.2.2 (if a = 0 then (nI i) else (3 - (nI i)))).2.2))
set_option maxHeartbeats 4000000 in
set_option maxRecDepth 100000 in
theorem lpX3_passHat_10 {p : Program} {l : Launch} {e : Env} {s : State} {m : MethodId} {args : Array Value} {below : List Frame} {meth : Method} {c : Code} {E : hE} {A : Nat → Prop} {Q : State → Prop} (C : hX p s m args meth c E A cX3_passHat 6 RX3 wsX3_passHat (some .int)) (fa : Nat) (fb : Nat) (fc : Nat) (pe : Int32) (tu : Int32) (pf : Nat → Int32) (tf : Nat → Int32) (sa : Nat) (sb : Nat) (sd : Nat) (se : Nat) (mi : Int32) (ha : Int32) (ba : Int32) (sg : Int32) (wg : Int32) (mo : Nat → Int32) (pa : Nat → Int32) (pl : Nat → Int32) (a : Int32) (σ0 : Int32 × Int32 × Int32 × Int32 × (Nat → Int32)) (k : hG p l e rmX3_passHat s m args below meth c E A 6 Q 0 0 57 [(0, .ref sa), (2, .int ha)] [] [(fa, .inr (2, [.int pe, .int tu, .ref fb, .ref fc])), (fb, .inl (E.2.1.1, 36, .inl pf)), (fc, .inl (E.2.1.1, 12, .inl tf)), (sa, .inr (3, [.ref fa, .int mi, .int ((itN (stX3_passHat_10 pf a) 4 σ0).2.1), .int ((itN (stX3_passHat_10 pf a) 4 σ0).2.2.1), .int ((itN (stX3_passHat_10 pf a) 4 σ0).2.2.2.1), .int wg, .ref sb, .ref sd, .ref se])), (sb, .inl (E.2.1.1, 6, .inl ((itN (stX3_passHat_10 pf a) 4 σ0).2.2.2.2))), (sd, .inl (E.2.1.1, 6, .inl pa)), (se, .inl (E.2.1.1, 4, .inl pl))]) : ∀ (n i : Nat) (σ : Int32 × Int32 × Int32 × Int32 × (Nat → Int32)), i + n = 4 → σ = itN (stX3_passHat_10 pf a) i σ0 → hG p l e rmX3_passHat s m args below meth c E A 6 Q 0 0 10 [(0, .ref sa), (1, .int a), (2, .int ha), (3, .int σ.1), (4, .int (nI i))] [] [(fa, .inr (2, [.int pe, .int tu, .ref fb, .ref fc])), (fb, .inl (E.2.1.1, 36, .inl pf)), (fc, .inl (E.2.1.1, 12, .inl tf)), (sa, .inr (3, [.ref fa, .int mi, .int σ.2.1, .int σ.2.2.1, .int σ.2.2.2.1, .int wg, .ref sb, .ref sd, .ref se])), (sb, .inl (E.2.1.1, 6, .inl σ.2.2.2.2)), (sd, .inl (E.2.1.1, 6, .inl pa)), (se, .inl (E.2.1.1, 4, .inl pl))] := by
  intro n
  induction n with
  | zero =>
    intro i σ hi hσ
    have hi : i = 4 := by omega
    rw [hi] at hσ
    rw [hi]
    subst hσ
    refine hg_iload C dX3_passHat_10 4 rfl ?_
    refine hg_iconst C (v := 4) dX3_passHat_12 (by decide) ?_
    refine hg_icmp_ge C (tgt := 57) dX3_passHat_13 (by decide) (fun _ => ?_) (fun h => absurd (by decide) h)
    exact hg_sub [0, 2] rfl k
  | succ n ih =>
    intro i σ hi hσ
    have hlt : i < 4 := by omega
    refine hg_iload C dX3_passHat_10 4 rfl ?_
    refine hg_iconst C (v := 4) dX3_passHat_12 (by decide) ?_
    refine hg_icmp_ge C (tgt := 57) dX3_passHat_13 (by decide) (fun h => absurd h (nI_ge hlt (by decide))) (fun _ => ?_)
    refine hg_iload_n C dX3_passHat_16 rfl 1 rfl ?_
    refine hg_join (J := 29) (v := if a = 0 then (nI i) else (3 - (nI i))) (st1 := []) (fun jj => ?_) ?_
    · refine hg_if_ne C (tgt := 25) dX3_passHat_17 (by decide) (fun c2 => ?_) (fun c2 => ?_)
      · refine hg_iconst C (v := 3) dX3_passHat_25 (by decide) ?_
        refine hg_iload C dX3_passHat_26 4 rfl ?_
        refine hg_isub C dX3_passHat_28 ?_
        exact hg_top (v := if a = 0 then (nI i) else (3 - (nI i))) (v' := 3 - (nI i)) ((if_neg c2).trans rfl) jj
      · refine hg_iload C dX3_passHat_20 4 rfl ?_
        refine hg_goto C (tgt := 29) dX3_passHat_22 (by decide) ?_
        exact hg_top (v := if a = 0 then (nI i) else (3 - (nI i))) (v' := nI i) ((if_pos c2).trans rfl) jj
    refine hg_istore C (lv' := [(5, .int (if a = 0 then (nI i) else (3 - (nI i)))), (0, .ref sa), (1, .int a), (2, .int ha), (3, .int σ.1), (4, .int (nI i))]) dX3_passHat_29 (by decide) rfl ?_
    refine hg_iload_n C dX3_passHat_31 rfl 4 rfl ?_
    refine hg_iconst C (v := 1) dX3_passHat_32 (by decide) ?_
    refine hg_iload C dX3_passHat_33 0 rfl ?_
    refine hg_ishl C dX3_passHat_35 ?_
    refine hg_ior C dX3_passHat_36 ?_
    refine hg_istore_n C (lv' := [(3, .int (σ.1 ||| (1 <<< ((if a = 0 then (nI i) else (3 - (nI i))) &&& 31)))), (5, .int (if a = 0 then (nI i) else (3 - (nI i)))), (0, .ref sa), (1, .int a), (2, .int ha), (4, .int (nI i))]) dX3_passHat_37 rfl (by decide) rfl ?_
    refine hg_aload_n C dX3_passHat_38 rfl 2 rfl ?_
    refine hg_iload C dX3_passHat_39 1 rfl ?_
    refine hg_callV C (ws' := [(fa, .inr (2, [.int pe, .int tu, .ref fb, .ref fc])), (fb, .inl (E.2.1.1, 36, .inl pf)), (fc, .inl (E.2.1.1, 12, .inl tf)), (sa, .inr (3, [.ref fa, .int mi, .int ((fX3_collectFrom pf σ.2.1 σ.2.2.1 σ.2.2.2.1 σ.2.2.2.2 (if a = 0 then (nI i) else (3 - (nI i)))).1), .int ((fX3_collectFrom pf σ.2.1 σ.2.2.1 σ.2.2.2.1 σ.2.2.2.2 (if a = 0 then (nI i) else (3 - (nI i)))).2.1), .int σ.2.2.2.1, .int wg, .ref sb, .ref sd, .ref se])), (sb, .inl (E.2.1.1, 6, .inl ((fX3_collectFrom pf σ.2.1 σ.2.2.1 σ.2.2.2.1 σ.2.2.2.2 (if a = 0 then (nI i) else (3 - (nI i)))).2.2))), (sd, .inl (E.2.1.1, 6, .inl pa)), (se, .inl (E.2.1.1, 4, .inl pl))]) (rest := []) (kX3_collectFrom l E fa fb fc pe tu pf tf sa sb sd se mi σ.2.1 σ.2.2.1 σ.2.2.2.1 wg σ.2.2.2.2 pa pl (if a = 0 then (nI i) else (3 - (nI i)))) hfX3_collectFrom gX3_passHat_X3_collectFrom ⟨Nat.le_of_ble_eq_true rfl, Nat.le_of_ble_eq_true rfl⟩ ⟨Nat.zero_le _, Nat.zero_le _⟩ [0, 1, 2, 3, 4, 5, 6] rfl (by decide) [fa, fb, fc, sa, sb, sd, se] rfl rfl rfl 3 rfl rfl rfl rfl (Nat.le_of_ble_eq_true rfl) dX3_passHat_41 ?_
    refine hg_aload_n C dX3_passHat_44 rfl 2 rfl ?_
    refine hg_iload C dX3_passHat_45 1 rfl ?_
    refine hg_iload_n C dX3_passHat_47 rfl 0 rfl ?_
    refine hg_callV C (ws' := [(fa, .inr (2, [.int pe, .int tu, .ref fb, .ref fc])), (fb, .inl (E.2.1.1, 36, .inl pf)), (fc, .inl (E.2.1.1, 12, .inl tf)), (sa, .inr (3, [.ref fa, .int mi, .int ((fX3_collectFrom pf σ.2.1 σ.2.2.1 σ.2.2.2.1 σ.2.2.2.2 (if a = 0 then (nI i) else (3 - (nI i)))).1), .int ((fX3_collectFrom pf σ.2.1 σ.2.2.1 σ.2.2.2.1 σ.2.2.2.2 (if a = 0 then (nI i) else (3 - (nI i)))).2.1), .int (fX3_slipOff pf σ.2.2.2.1 (if a = 0 then (nI i) else (3 - (nI i))) (σ.1 ||| (1 <<< ((if a = 0 then (nI i) else (3 - (nI i))) &&& 31)))), .int wg, .ref sb, .ref sd, .ref se])), (sb, .inl (E.2.1.1, 6, .inl ((fX3_collectFrom pf σ.2.1 σ.2.2.1 σ.2.2.2.1 σ.2.2.2.2 (if a = 0 then (nI i) else (3 - (nI i)))).2.2))), (sd, .inl (E.2.1.1, 6, .inl pa)), (se, .inl (E.2.1.1, 4, .inl pl))]) (rest := []) (kX3_slipOff l E fa fb fc pe tu pf tf sa sb sd se mi ((fX3_collectFrom pf σ.2.1 σ.2.2.1 σ.2.2.2.1 σ.2.2.2.2 (if a = 0 then (nI i) else (3 - (nI i)))).1) ((fX3_collectFrom pf σ.2.1 σ.2.2.1 σ.2.2.2.1 σ.2.2.2.2 (if a = 0 then (nI i) else (3 - (nI i)))).2.1) σ.2.2.2.1 wg ((fX3_collectFrom pf σ.2.1 σ.2.2.1 σ.2.2.2.1 σ.2.2.2.2 (if a = 0 then (nI i) else (3 - (nI i)))).2.2) pa pl (if a = 0 then (nI i) else (3 - (nI i))) (σ.1 ||| (1 <<< ((if a = 0 then (nI i) else (3 - (nI i))) &&& 31)))) hfX3_slipOff gX3_passHat_X3_slipOff ⟨Nat.le_of_ble_eq_true rfl, Nat.le_of_ble_eq_true rfl⟩ ⟨Nat.zero_le _, Nat.zero_le _⟩ [0, 1, 2, 3, 4, 5, 6] rfl (by decide) [fa, fb, fc, sa, sb, sd, se] rfl rfl rfl 3 rfl rfl rfl rfl (Nat.le_of_ble_eq_true rfl) dX3_passHat_48 ?_
    refine hg_iinc C (v := nI (i + 1)) (lv' := [(4, .int (nI (i + 1))), (3, .int (σ.1 ||| (1 <<< ((if a = 0 then (nI i) else (3 - (nI i))) &&& 31)))), (5, .int (if a = 0 then (nI i) else (3 - (nI i)))), (0, .ref sa), (1, .int a), (2, .int ha)]) dX3_passHat_51 5 rfl (nI_inc _) (by decide) rfl ?_
    refine hg_goto C (tgt := 10) dX3_passHat_54 (by decide) ?_
    have e9 : (stX3_passHat_10 pf a) i σ = (σ.1 ||| (1 <<< ((if a = 0 then (nI i) else (3 - (nI i))) &&& 31)), (fX3_collectFrom pf σ.2.1 σ.2.2.1 σ.2.2.2.1 σ.2.2.2.2 (if a = 0 then (nI i) else (3 - (nI i)))).1, (fX3_collectFrom pf σ.2.1 σ.2.2.1 σ.2.2.2.1 σ.2.2.2.2 (if a = 0 then (nI i) else (3 - (nI i)))).2.1, fX3_slipOff pf σ.2.2.2.1 (if a = 0 then (nI i) else (3 - (nI i))) (σ.1 ||| (1 <<< ((if a = 0 then (nI i) else (3 - (nI i))) &&& 31))), (fX3_collectFrom pf σ.2.1 σ.2.2.1 σ.2.2.2.1 σ.2.2.2.2 (if a = 0 then (nI i) else (3 - (nI i)))).2.2) := hid_eq _
    have h9 := ih (i + 1) (σ.1 ||| (1 <<< ((if a = 0 then (nI i) else (3 - (nI i))) &&& 31)), (fX3_collectFrom pf σ.2.1 σ.2.2.1 σ.2.2.2.1 σ.2.2.2.2 (if a = 0 then (nI i) else (3 - (nI i)))).1, (fX3_collectFrom pf σ.2.1 σ.2.2.1 σ.2.2.2.1 σ.2.2.2.2 (if a = 0 then (nI i) else (3 - (nI i)))).2.1, fX3_slipOff pf σ.2.2.2.1 (if a = 0 then (nI i) else (3 - (nI i))) (σ.1 ||| (1 <<< ((if a = 0 then (nI i) else (3 - (nI i))) &&& 31))), (fX3_collectFrom pf σ.2.1 σ.2.2.1 σ.2.2.2.1 σ.2.2.2.2 (if a = 0 then (nI i) else (3 - (nI i)))).2.2) (by omega) (e9.symm.trans (congrArg ((stX3_passHat_10 pf a) i) hσ))
    exact hg_sub [3, 4, 5, 1, 0] rfl h9
noncomputable def fX3_passHat (pf : Nat → Int32) (mi : Int32) (ha : Int32) (ba : Int32) (sg : Int32) (mo : Nat → Int32) (a : Int32) : Int32 × Int32 × Int32 × Int32 × Int32 × (Nat → Int32) := hid ((((itN (stX3_passHat_10 pf a) 4 (0, ha, ba, sg, mo)).2.1) - ha, mi + 1, (itN (stX3_passHat_10 pf a) 4 (0, ha, ba, sg, mo)).2.1, (itN (stX3_passHat_10 pf a) 4 (0, ha, ba, sg, mo)).2.2.1, (itN (stX3_passHat_10 pf a) 4 (0, ha, ba, sg, mo)).2.2.2.1, (itN (stX3_passHat_10 pf a) 4 (0, ha, ba, sg, mo)).2.2.2.2))
set_option maxHeartbeats 4000000 in
set_option maxRecDepth 100000 in
theorem kX3_passHat (l : Launch) (E : hE) (fa : Nat) (fb : Nat) (fc : Nat) (pe : Int32) (tu : Int32) (pf : Nat → Int32) (tf : Nat → Int32) (sa : Nat) (sb : Nat) (sd : Nat) (se : Nat) (mi : Int32) (ha : Int32) (ba : Int32) (sg : Int32) (wg : Int32) (mo : Nat → Int32) (pa : Nat → Int32) (pl : Nat → Int32) (a : Int32) : hC l yX3_passHat wsX3_passHat rmX3_passHat E [.ref sa, .int a] [(fa, .inr (2, [.int pe, .int tu, .ref fb, .ref fc])), (fb, .inl (E.2.1.1, 36, .inl pf)), (fc, .inl (E.2.1.1, 12, .inl tf)), (sa, .inr (3, [.ref fa, .int mi, .int ha, .int ba, .int sg, .int wg, .ref sb, .ref sd, .ref se])), (sb, .inl (E.2.1.1, 6, .inl mo)), (sd, .inl (E.2.1.1, 6, .inl pa)), (se, .inl (E.2.1.1, 4, .inl pl))] (some (.int ((fX3_passHat pf mi ha ba sg mo a).1))) [(fa, .inr (2, [.int pe, .int tu, .ref fb, .ref fc])), (fb, .inl (E.2.1.1, 36, .inl pf)), (fc, .inl (E.2.1.1, 12, .inl tf)), (sa, .inr (3, [.ref fa, .int ((fX3_passHat pf mi ha ba sg mo a).2.1), .int ((fX3_passHat pf mi ha ba sg mo a).2.2.1), .int ((fX3_passHat pf mi ha ba sg mo a).2.2.2.1), .int ((fX3_passHat pf mi ha ba sg mo a).2.2.2.2.1), .int wg, .ref sb, .ref sd, .ref se])), (sb, .inl (E.2.1.1, 6, .inl ((fX3_passHat pf mi ha ba sg mo a).2.2.2.2.2))), (sd, .inl (E.2.1.1, 6, .inl pa)), (se, .inl (E.2.1.1, 4, .inl pl))] := by
  refine hC_intro (cc := cX3_passHat) (maxL := 6) (ret := (some .int)) (lv0 := [(0, .ref sa), (1, .int a)]) (by decide) rfl (Nat.le_of_ble_eq_true rfl) rfl ?_
  intro p e s m below meth c A C
  refine hg_aload_n C dX3_passHat_0 rfl 0 rfl ?_
  refine hg_get C (Cn := RX3) (T := TX3) (N := 9) (v := .int ha) mrX3_passHat_3 3 rfl rfl 2 (by decide) mmX3_passHat_f15 rfl dX3_passHat_1 ?_
  refine hg_istore_n C (lv' := [(2, .int ha), (0, .ref sa), (1, .int a)]) dX3_passHat_4 rfl (by decide) rfl ?_
  refine hg_iconst C (v := 0) dX3_passHat_5 (by decide) ?_
  refine hg_istore_n C (lv' := [(3, .int 0), (2, .int ha), (0, .ref sa), (1, .int a)]) dX3_passHat_6 rfl (by decide) rfl ?_
  refine hg_iconst C (v := 0) dX3_passHat_7 (by decide) ?_
  refine hg_istore C (lv' := [(4, .int 0), (3, .int 0), (2, .int ha), (0, .ref sa), (1, .int a)]) dX3_passHat_8 (by decide) rfl ?_
  refine hg_sub [3, 4, 2, 1, 0] rfl ?_
  refine lpX3_passHat_10 C fa fb fc pe tu pf tf sa sb sd se mi ha ba sg wg mo pa pl a (0, ha, ba, sg, mo) ?_ 4 0 (0, ha, ba, sg, mo) (by omega) rfl
  refine hg_aload_n C dX3_passHat_57 rfl 0 rfl ?_
  refine hg_dup C dX3_passHat_58 rfl ?_
  refine hg_get C (Cn := RX3) (T := TX3) (N := 9) (v := .int mi) mrX3_passHat_3 3 rfl rfl 1 (by decide) mmX3_passHat_f9 rfl dX3_passHat_59 ?_
  refine hg_iconst C (v := 1) dX3_passHat_62 (by decide) ?_
  refine hg_iadd C dX3_passHat_63 ?_
  refine hg_put C (Cn := RX3) (T := TX3) (N := 9) (ws' := [(fa, .inr (2, [.int pe, .int tu, .ref fb, .ref fc])), (fb, .inl (E.2.1.1, 36, .inl pf)), (fc, .inl (E.2.1.1, 12, .inl tf)), (sa, .inr (3, [.ref fa, .int (mi + 1), .int ((itN (stX3_passHat_10 pf a) 4 (0, ha, ba, sg, mo)).2.1), .int ((itN (stX3_passHat_10 pf a) 4 (0, ha, ba, sg, mo)).2.2.1), .int ((itN (stX3_passHat_10 pf a) 4 (0, ha, ba, sg, mo)).2.2.2.1), .int wg, .ref sb, .ref sd, .ref se])), (sb, .inl (E.2.1.1, 6, .inl ((itN (stX3_passHat_10 pf a) 4 (0, ha, ba, sg, mo)).2.2.2.2))), (sd, .inl (E.2.1.1, 6, .inl pa)), (se, .inl (E.2.1.1, 4, .inl pl))]) mrX3_passHat_3 tyX3 tyX3_ok nmX3 3 rfl rfl 1 (by decide) mmX3_passHat_f9 rfl rfl rfl rfl (Nat.le_of_ble_eq_true rfl) rfl dX3_passHat_64 ?_
  refine hg_aload_n C dX3_passHat_67 rfl 0 rfl ?_
  refine hg_get C (Cn := RX3) (T := TX3) (N := 9) (v := .int ((itN (stX3_passHat_10 pf a) 4 (0, ha, ba, sg, mo)).2.1)) mrX3_passHat_3 3 rfl rfl 2 (by decide) mmX3_passHat_f15 rfl dX3_passHat_68 ?_
  refine hg_iload_n C dX3_passHat_71 rfl 1 rfl ?_
  refine hg_isub C dX3_passHat_72 ?_
  have e9 : (fX3_passHat pf mi ha ba sg mo a) = (((itN (stX3_passHat_10 pf a) 4 (0, ha, ba, sg, mo)).2.1) - ha, mi + 1, (itN (stX3_passHat_10 pf a) 4 (0, ha, ba, sg, mo)).2.1, (itN (stX3_passHat_10 pf a) 4 (0, ha, ba, sg, mo)).2.2.1, (itN (stX3_passHat_10 pf a) 4 (0, ha, ba, sg, mo)).2.2.2.1, (itN (stX3_passHat_10 pf a) 4 (0, ha, ba, sg, mo)).2.2.2.2) := hid_eq _
  rw [e9]
  exact hg_iret C dX3_passHat_73 rfl rfl
noncomputable def gX3_passHat_s (pf : Nat → Int32) (a : Int32) (S : Sc) : Int32 × Sc := ((fX3_passHat pf S.1 S.2.1 S.2.2.1 S.2.2.2.1 S.2.2.2.2.2.1 a).1, ((fX3_passHat pf S.1 S.2.1 S.2.2.1 S.2.2.2.1 S.2.2.2.2.2.1 a).2.1, (fX3_passHat pf S.1 S.2.1 S.2.2.1 S.2.2.2.1 S.2.2.2.2.2.1 a).2.2.1, (fX3_passHat pf S.1 S.2.1 S.2.2.1 S.2.2.2.1 S.2.2.2.2.2.1 a).2.2.2.1, (fX3_passHat pf S.1 S.2.1 S.2.2.1 S.2.2.2.1 S.2.2.2.2.2.1 a).2.2.2.2.1, S.2.2.2.2.1, (fX3_passHat pf S.1 S.2.1 S.2.2.1 S.2.2.2.1 S.2.2.2.2.2.1 a).2.2.2.2.2, S.2.2.2.2.2.2.1, S.2.2.2.2.2.2.2))
theorem ksX3_passHat (l : Launch) (E : hE) (fa : Nat) (fb : Nat) (fc : Nat) (pe : Int32) (tu : Int32) (pf : Nat → Int32) (tf : Nat → Int32) (sa : Nat) (sb : Nat) (sd : Nat) (se : Nat) (a : Int32) (S : Sc) : hC l yX3_passHat wsX3_passHat rmX3_passHat E [.ref sa, .int a] [(fa, .inr (2, [.int pe, .int tu, .ref fb, .ref fc])), (fb, .inl (E.2.1.1, 36, .inl pf)), (fc, .inl (E.2.1.1, 12, .inl tf)), (sa, .inr (3, [.ref fa, .int S.1, .int S.2.1, .int S.2.2.1, .int S.2.2.2.1, .int S.2.2.2.2.1, .ref sb, .ref sd, .ref se])), (sb, .inl (E.2.1.1, 6, .inl S.2.2.2.2.2.1)), (sd, .inl (E.2.1.1, 6, .inl S.2.2.2.2.2.2.1)), (se, .inl (E.2.1.1, 4, .inl S.2.2.2.2.2.2.2))] (some (.int ((gX3_passHat_s pf a S).1))) [(fa, .inr (2, [.int pe, .int tu, .ref fb, .ref fc])), (fb, .inl (E.2.1.1, 36, .inl pf)), (fc, .inl (E.2.1.1, 12, .inl tf)), (sa, .inr (3, [.ref fa, .int (((gX3_passHat_s pf a S).2).1), .int (((gX3_passHat_s pf a S).2).2.1), .int (((gX3_passHat_s pf a S).2).2.2.1), .int (((gX3_passHat_s pf a S).2).2.2.2.1), .int (((gX3_passHat_s pf a S).2).2.2.2.2.1), .ref sb, .ref sd, .ref se])), (sb, .inl (E.2.1.1, 6, .inl (((gX3_passHat_s pf a S).2).2.2.2.2.2.1))), (sd, .inl (E.2.1.1, 6, .inl (((gX3_passHat_s pf a S).2).2.2.2.2.2.2.1))), (se, .inl (E.2.1.1, 4, .inl (((gX3_passHat_s pf a S).2).2.2.2.2.2.2.2)))] := kX3_passHat l E fa fb fc pe tu pf tf sa sb sd se S.1 S.2.1 S.2.2.1 S.2.2.2.1 S.2.2.2.2.1 S.2.2.2.2.2.1 S.2.2.2.2.2.2.1 S.2.2.2.2.2.2.2 a
theorem mmX3_open_f9 : (Cond.fieldLink RX3 9 "HatRound$Scene" "minute" "I") ∈ wsX3_open := (List.mem_cons_of_mem _ (List.mem_append_left _ (List.mem_append_left _ (List.mem_append_left _ (List.mem_of_getElem? (i := 0) rfl)))))
theorem mrX3_open_3 : ∀ w ∈ u_ws RX3 TX3 9, w ∈ wsX3_open := fun _ h => (List.mem_cons_of_mem _ (List.mem_append_left _ (List.mem_append_right _ h)))
theorem mmX3_open_f15 : (Cond.fieldLink RX3 15 "HatRound$Scene" "hat" "I") ∈ wsX3_open := (List.mem_cons_of_mem _ (List.mem_append_left _ (List.mem_append_left _ (List.mem_append_left _ (List.mem_of_getElem? (i := 1) rfl)))))
theorem mmX3_open_f18 : (Cond.fieldLink RX3 18 "HatRound$Scene" "bait" "I") ∈ wsX3_open := (List.mem_cons_of_mem _ (List.mem_append_left _ (List.mem_append_left _ (List.mem_append_left _ (List.mem_of_getElem? (i := 2) rfl)))))
theorem mmX3_open_f21 : (Cond.fieldLink RX3 21 "HatRound$Scene" "standing" "I") ∈ wsX3_open := (List.mem_cons_of_mem _ (List.mem_append_left _ (List.mem_append_left _ (List.mem_append_left _ (List.mem_of_getElem? (i := 3) rfl)))))
theorem mmX3_open_f24 : (Cond.fieldLink RX3 24 "HatRound$Scene" "waiting" "I") ∈ wsX3_open := (List.mem_cons_of_mem _ (List.mem_append_left _ (List.mem_append_left _ (List.mem_append_left _ (List.mem_of_getElem? (i := 4) rfl)))))
theorem mmX3_open_f34 : (Cond.fieldLink RX3 34 "HatRound$Scene" "played" "[I") ∈ wsX3_open := (List.mem_cons_of_mem _ (List.mem_append_left _ (List.mem_append_left _ (List.mem_append_left _ (List.mem_of_getElem? (i := 5) rfl)))))
theorem mmX3_open_f27 : (Cond.fieldLink RX3 27 "HatRound$Scene" "mood" "[I") ∈ wsX3_open := (List.mem_cons_of_mem _ (List.mem_append_left _ (List.mem_append_left _ (List.mem_append_left _ (List.mem_of_getElem? (i := 6) rfl)))))
theorem mmX3_open_f37 : (Cond.fieldLink RX3 37 "HatRound$Scene" "facts" "LHatRound$Facts;") ∈ wsX3_open := (List.mem_cons_of_mem _ (List.mem_append_left _ (List.mem_append_left _ (List.mem_append_left _ (List.mem_of_getElem? (i := 7) rfl)))))
theorem mmX3_open_f31 : (Cond.fieldLink RX3 31 "HatRound$Scene" "patience" "[I") ∈ wsX3_open := (List.mem_cons_of_mem _ (List.mem_append_left _ (List.mem_append_left _ (List.mem_append_left _ (List.mem_of_getElem? (i := 8) rfl)))))
abbrev rmX3_open : Room := { frames := 2, cells := 0, slots := 0, locals := 46 }
theorem hfX3_open : hCF yX3_open wsX3_open rmX3_open cX3_open 3 none 0 := ⟨⟨_, rfl⟩, by decide +kernel, rfl, rfl⟩
noncomputable def stX3_open_35 (pe : Int32) (pf : Nat → Int32) (i : Nat) (σ : Int32 × Int32 × (Nat → Int32) × (Nat → Int32)) : Int32 × Int32 × (Nat → Int32) × (Nat → Int32) := hid (if (fX2_hasPerson pe (nI i)) = 0 then (σ.1, σ.2.1, upd σ.2.2.1 (nI i).toNatClampNeg (fX2_ofPerson pf (nI i) 1), upd σ.2.2.2 (nI i).toNatClampNeg (fX2_ofPerson pf (nI i) 2)) else (σ.1 ||| (if (if (fX2_ofPerson pf (nI i) 5) = 0 then (1 : Int32) else (0 : Int32)) = 0 then (0 : Int32) else (1 <<< ((nI i) &&& 31))), σ.2.1 ||| (if (if (fX2_ofPerson pf (nI i) 5) = 0 then (1 : Int32) else (0 : Int32)) = 0 then (1 <<< ((nI i) &&& 31)) else (0 : Int32)), upd σ.2.2.1 (nI i).toNatClampNeg (fX2_ofPerson pf (nI i) 1), upd σ.2.2.2 (nI i).toNatClampNeg (fX2_ofPerson pf (nI i) 2)))
set_option maxHeartbeats 4000000 in
set_option maxRecDepth 100000 in
theorem lpX3_open_35 {p : Program} {l : Launch} {e : Env} {s : State} {m : MethodId} {args : Array Value} {below : List Frame} {meth : Method} {c : Code} {E : hE} {A : Nat → Prop} {Q : State → Prop} (C : hX p s m args meth c E A cX3_open 3 RX3 wsX3_open none) (fa : Nat) (fb : Nat) (fc : Nat) (pe : Int32) (tu : Int32) (pf : Nat → Int32) (tf : Nat → Int32) (sa : Nat) (sb : Nat) (sd : Nat) (se : Nat) (mi : Int32) (ha : Int32) (ba : Int32) (sg : Int32) (wg : Int32) (mo : Nat → Int32) (pa : Nat → Int32) (pl : Nat → Int32) (v3_1 : Int32) (v3_2 : Int32) (v3_3 : Int32) (v6 : Nat → Int32) (σ0 : Int32 × Int32 × (Nat → Int32) × (Nat → Int32)) (k : hG p l e rmX3_open s m args below meth c E A 3 Q 0 0 146 [] [] [(fa, .inr (2, [.int pe, .int tu, .ref fb, .ref fc])), (fb, .inl (E.2.1.1, 36, .inl pf)), (fc, .inl (E.2.1.1, 12, .inl tf)), (sa, .inr (3, [.ref fa, .int v3_1, .int v3_2, .int v3_3, .int ((itN (stX3_open_35 pe pf) 6 σ0).1), .int ((itN (stX3_open_35 pe pf) 6 σ0).2.1), .ref sb, .ref sd, .ref se])), (sb, .inl (E.2.1.1, 6, .inl ((itN (stX3_open_35 pe pf) 6 σ0).2.2.1))), (sd, .inl (E.2.1.1, 6, .inl ((itN (stX3_open_35 pe pf) 6 σ0).2.2.2))), (se, .inl (E.2.1.1, 4, .inl v6))]) : ∀ (n i : Nat) (σ : Int32 × Int32 × (Nat → Int32) × (Nat → Int32)), i + n = 6 → σ = itN (stX3_open_35 pe pf) i σ0 → hG p l e rmX3_open s m args below meth c E A 3 Q 0 0 35 [(0, .ref sa), (1, .int (nI i))] [] [(fa, .inr (2, [.int pe, .int tu, .ref fb, .ref fc])), (fb, .inl (E.2.1.1, 36, .inl pf)), (fc, .inl (E.2.1.1, 12, .inl tf)), (sa, .inr (3, [.ref fa, .int v3_1, .int v3_2, .int v3_3, .int σ.1, .int σ.2.1, .ref sb, .ref sd, .ref se])), (sb, .inl (E.2.1.1, 6, .inl σ.2.2.1)), (sd, .inl (E.2.1.1, 6, .inl σ.2.2.2)), (se, .inl (E.2.1.1, 4, .inl v6))] := by
  intro n
  induction n with
  | zero =>
    intro i σ hi hσ
    have hi : i = 6 := by omega
    rw [hi] at hσ
    rw [hi]
    subst hσ
    refine hg_iload_n C dX3_open_35 rfl 1 rfl ?_
    refine hg_bipush C (v := 6) dX3_open_36 (by decide) ?_
    refine hg_icmp_ge C (tgt := 146) dX3_open_38 (by decide) (fun _ => ?_) (fun h => absurd (by decide) h)
    exact hg_sub [] rfl k
  | succ n ih =>
    intro i σ hi hσ
    have hlt : i < 6 := by omega
    refine hg_iload_n C dX3_open_35 rfl 1 rfl ?_
    refine hg_bipush C (v := 6) dX3_open_36 (by decide) ?_
    refine hg_icmp_ge C (tgt := 146) dX3_open_38 (by decide) (fun h => absurd h (nI_ge hlt (by decide))) (fun _ => ?_)
    refine hg_aload_n C dX3_open_41 rfl 0 rfl ?_
    refine hg_get C (Cn := RX3) (T := TX3) (N := 9) (v := .ref sb) mrX3_open_3 3 rfl rfl 6 (by decide) mmX3_open_f27 rfl dX3_open_42 ?_
    refine hg_iload_n C dX3_open_45 rfl 1 rfl ?_
    refine hg_aload_n C dX3_open_46 rfl 0 rfl ?_
    refine hg_get C (Cn := RX3) (T := TX3) (N := 9) (v := .ref fa) mrX3_open_3 3 rfl rfl 0 (by decide) mmX3_open_f37 rfl dX3_open_47 ?_
    refine hg_iload_n C dX3_open_50 rfl 1 rfl ?_
    refine hg_iconst C (v := 1) dX3_open_51 (by decide) ?_
    refine hg_callV C (ws' := [(fa, .inr (2, [.int pe, .int tu, .ref fb, .ref fc])), (fb, .inl (E.2.1.1, 36, .inl pf)), (fc, .inl (E.2.1.1, 12, .inl tf)), (sa, .inr (3, [.ref fa, .int v3_1, .int v3_2, .int v3_3, .int σ.1, .int σ.2.1, .ref sb, .ref sd, .ref se])), (sb, .inl (E.2.1.1, 6, .inl σ.2.2.1)), (sd, .inl (E.2.1.1, 6, .inl σ.2.2.2)), (se, .inl (E.2.1.1, 4, .inl v6))]) (rest := [.int (nI i), .ref sb]) (kX2_ofPerson l E fa fb fc pe tu pf tf (nI i) 1) hfX2_ofPerson gX3_open_X2_ofPerson ⟨Nat.le_of_ble_eq_true rfl, Nat.le_of_ble_eq_true rfl⟩ ⟨Nat.zero_le _, Nat.zero_le _⟩ [0, 1, 2] rfl (by decide) [fa, fb, fc] rfl rfl rfl 0 rfl rfl rfl rfl (Nat.le_of_ble_eq_true rfl) dX3_open_52 ?_
    refine hg_iast C (ws' := [(fa, .inr (2, [.int pe, .int tu, .ref fb, .ref fc])), (fb, .inl (E.2.1.1, 36, .inl pf)), (fc, .inl (E.2.1.1, 12, .inl tf)), (sa, .inr (3, [.ref fa, .int v3_1, .int v3_2, .int v3_3, .int σ.1, .int σ.2.1, .ref sb, .ref sd, .ref se])), (sb, .inl (E.2.1.1, 6, .inl (upd σ.2.2.1 (nI i).toNatClampNeg (fX2_ofPerson pf (nI i) 1)))), (sd, .inl (E.2.1.1, 6, .inl σ.2.2.2)), (se, .inl (E.2.1.1, 4, .inl v6))]) 4 rfl (vp_in_nI (by omega) (by decide)) rfl dX3_open_55 ?_
    refine hg_aload_n C dX3_open_56 rfl 0 rfl ?_
    refine hg_get C (Cn := RX3) (T := TX3) (N := 9) (v := .ref sd) mrX3_open_3 3 rfl rfl 7 (by decide) mmX3_open_f31 rfl dX3_open_57 ?_
    refine hg_iload_n C dX3_open_60 rfl 1 rfl ?_
    refine hg_aload_n C dX3_open_61 rfl 0 rfl ?_
    refine hg_get C (Cn := RX3) (T := TX3) (N := 9) (v := .ref fa) mrX3_open_3 3 rfl rfl 0 (by decide) mmX3_open_f37 rfl dX3_open_62 ?_
    refine hg_iload_n C dX3_open_65 rfl 1 rfl ?_
    refine hg_iconst C (v := 2) dX3_open_66 (by decide) ?_
    refine hg_callV C (ws' := [(fa, .inr (2, [.int pe, .int tu, .ref fb, .ref fc])), (fb, .inl (E.2.1.1, 36, .inl pf)), (fc, .inl (E.2.1.1, 12, .inl tf)), (sa, .inr (3, [.ref fa, .int v3_1, .int v3_2, .int v3_3, .int σ.1, .int σ.2.1, .ref sb, .ref sd, .ref se])), (sb, .inl (E.2.1.1, 6, .inl (upd σ.2.2.1 (nI i).toNatClampNeg (fX2_ofPerson pf (nI i) 1)))), (sd, .inl (E.2.1.1, 6, .inl σ.2.2.2)), (se, .inl (E.2.1.1, 4, .inl v6))]) (rest := [.int (nI i), .ref sd]) (kX2_ofPerson l E fa fb fc pe tu pf tf (nI i) 2) hfX2_ofPerson gX3_open_X2_ofPerson ⟨Nat.le_of_ble_eq_true rfl, Nat.le_of_ble_eq_true rfl⟩ ⟨Nat.zero_le _, Nat.zero_le _⟩ [0, 1, 2] rfl (by decide) [fa, fb, fc] rfl rfl rfl 0 rfl rfl rfl rfl (Nat.le_of_ble_eq_true rfl) dX3_open_67 ?_
    refine hg_iast C (ws' := [(fa, .inr (2, [.int pe, .int tu, .ref fb, .ref fc])), (fb, .inl (E.2.1.1, 36, .inl pf)), (fc, .inl (E.2.1.1, 12, .inl tf)), (sa, .inr (3, [.ref fa, .int v3_1, .int v3_2, .int v3_3, .int σ.1, .int σ.2.1, .ref sb, .ref sd, .ref se])), (sb, .inl (E.2.1.1, 6, .inl (upd σ.2.2.1 (nI i).toNatClampNeg (fX2_ofPerson pf (nI i) 1)))), (sd, .inl (E.2.1.1, 6, .inl (upd σ.2.2.2 (nI i).toNatClampNeg (fX2_ofPerson pf (nI i) 2)))), (se, .inl (E.2.1.1, 4, .inl v6))]) 5 rfl (vp_in_nI (by omega) (by decide)) rfl dX3_open_70 ?_
    refine hg_aload_n C dX3_open_71 rfl 0 rfl ?_
    refine hg_get C (Cn := RX3) (T := TX3) (N := 9) (v := .ref fa) mrX3_open_3 3 rfl rfl 0 (by decide) mmX3_open_f37 rfl dX3_open_72 ?_
    refine hg_iload_n C dX3_open_75 rfl 1 rfl ?_
    refine hg_callV C (ws' := [(fa, .inr (2, [.int pe, .int tu, .ref fb, .ref fc])), (fb, .inl (E.2.1.1, 36, .inl pf)), (fc, .inl (E.2.1.1, 12, .inl tf)), (sa, .inr (3, [.ref fa, .int v3_1, .int v3_2, .int v3_3, .int σ.1, .int σ.2.1, .ref sb, .ref sd, .ref se])), (sb, .inl (E.2.1.1, 6, .inl (upd σ.2.2.1 (nI i).toNatClampNeg (fX2_ofPerson pf (nI i) 1)))), (sd, .inl (E.2.1.1, 6, .inl (upd σ.2.2.2 (nI i).toNatClampNeg (fX2_ofPerson pf (nI i) 2)))), (se, .inl (E.2.1.1, 4, .inl v6))]) (rest := []) (kX2_hasPerson l E fa fb fc pe tu pf tf (nI i)) hfX2_hasPerson gX3_open_X2_hasPerson ⟨Nat.le_of_ble_eq_true rfl, Nat.le_of_ble_eq_true rfl⟩ ⟨Nat.zero_le _, Nat.zero_le _⟩ [0, 1, 2] rfl (by decide) [fa, fb, fc] rfl rfl rfl 0 rfl rfl rfl rfl (Nat.le_of_ble_eq_true rfl) dX3_open_76 ?_
    refine hg_if_eq C (tgt := 140) dX3_open_79 (by decide) (fun c5 => ?_) (fun c5 => ?_)
    · refine hg_iinc C (v := nI (i + 1)) (lv' := [(1, .int (nI (i + 1))), (0, .ref sa)]) dX3_open_140 1 rfl (nI_inc _) (by decide) rfl ?_
      refine hg_goto C (tgt := 35) dX3_open_143 (by decide) ?_
      have e9 : (stX3_open_35 pe pf) i σ = (σ.1, σ.2.1, upd σ.2.2.1 (nI i).toNatClampNeg (fX2_ofPerson pf (nI i) 1), upd σ.2.2.2 (nI i).toNatClampNeg (fX2_ofPerson pf (nI i) 2)) := (hid_eq _).trans ((if_pos c5).trans rfl)
      have h9 := ih (i + 1) (σ.1, σ.2.1, upd σ.2.2.1 (nI i).toNatClampNeg (fX2_ofPerson pf (nI i) 1), upd σ.2.2.2 (nI i).toNatClampNeg (fX2_ofPerson pf (nI i) 2)) (by omega) (e9.symm.trans (congrArg ((stX3_open_35 pe pf) i) hσ))
      exact hg_sub [1, 0] rfl h9
    · refine hg_aload_n C dX3_open_82 rfl 0 rfl ?_
      refine hg_get C (Cn := RX3) (T := TX3) (N := 9) (v := .ref fa) mrX3_open_3 3 rfl rfl 0 (by decide) mmX3_open_f37 rfl dX3_open_83 ?_
      refine hg_iload_n C dX3_open_86 rfl 1 rfl ?_
      refine hg_iconst C (v := 5) dX3_open_87 (by decide) ?_
      refine hg_callV C (ws' := [(fa, .inr (2, [.int pe, .int tu, .ref fb, .ref fc])), (fb, .inl (E.2.1.1, 36, .inl pf)), (fc, .inl (E.2.1.1, 12, .inl tf)), (sa, .inr (3, [.ref fa, .int v3_1, .int v3_2, .int v3_3, .int σ.1, .int σ.2.1, .ref sb, .ref sd, .ref se])), (sb, .inl (E.2.1.1, 6, .inl (upd σ.2.2.1 (nI i).toNatClampNeg (fX2_ofPerson pf (nI i) 1)))), (sd, .inl (E.2.1.1, 6, .inl (upd σ.2.2.2 (nI i).toNatClampNeg (fX2_ofPerson pf (nI i) 2)))), (se, .inl (E.2.1.1, 4, .inl v6))]) (rest := []) (kX2_ofPerson l E fa fb fc pe tu pf tf (nI i) 5) hfX2_ofPerson gX3_open_X2_ofPerson ⟨Nat.le_of_ble_eq_true rfl, Nat.le_of_ble_eq_true rfl⟩ ⟨Nat.zero_le _, Nat.zero_le _⟩ [0, 1, 2] rfl (by decide) [fa, fb, fc] rfl rfl rfl 0 rfl rfl rfl rfl (Nat.le_of_ble_eq_true rfl) dX3_open_88 ?_
      refine hg_join (J := 99) (v := if (fX2_ofPerson pf (nI i) 5) = 0 then (1 : Int32) else (0 : Int32)) (st1 := []) (fun jj => ?_) ?_
      · refine hg_if_ne C (tgt := 98) dX3_open_91 (by decide) (fun c6 => ?_) (fun c6 => ?_)
        · refine hg_iconst C (v := 0) dX3_open_98 (by decide) ?_
          exact hg_top (v := if (fX2_ofPerson pf (nI i) 5) = 0 then (1 : Int32) else (0 : Int32)) (v' := 0) ((if_neg c6).trans rfl) jj
        · refine hg_iconst C (v := 1) dX3_open_94 (by decide) ?_
          refine hg_goto C (tgt := 99) dX3_open_95 (by decide) ?_
          exact hg_top (v := if (fX2_ofPerson pf (nI i) 5) = 0 then (1 : Int32) else (0 : Int32)) (v' := 1) ((if_pos c6).trans rfl) jj
      refine hg_istore_n C (lv' := [(2, .int (if (fX2_ofPerson pf (nI i) 5) = 0 then (1 : Int32) else (0 : Int32))), (0, .ref sa), (1, .int (nI i))]) dX3_open_99 rfl (by decide) rfl ?_
      refine hg_aload_n C dX3_open_100 rfl 1 rfl ?_
      refine hg_dup C dX3_open_101 rfl ?_
      refine hg_get C (Cn := RX3) (T := TX3) (N := 9) (v := .int σ.1) mrX3_open_3 3 rfl rfl 4 (by decide) mmX3_open_f21 rfl dX3_open_102 ?_
      refine hg_iload_n C dX3_open_105 rfl 0 rfl ?_
      refine hg_join (J := 116) (v := if (if (fX2_ofPerson pf (nI i) 5) = 0 then (1 : Int32) else (0 : Int32)) = 0 then (0 : Int32) else (1 <<< ((nI i) &&& 31))) (st1 := [.int σ.1, .ref sa]) (fun jj => ?_) ?_
      · refine hg_if_eq C (tgt := 115) dX3_open_106 (by decide) (fun c7 => ?_) (fun c7 => ?_)
        · refine hg_iconst C (v := 0) dX3_open_115 (by decide) ?_
          exact hg_top (v := if (if (fX2_ofPerson pf (nI i) 5) = 0 then (1 : Int32) else (0 : Int32)) = 0 then (0 : Int32) else (1 <<< ((nI i) &&& 31))) (v' := 0) ((if_pos c7).trans rfl) jj
        · refine hg_iconst C (v := 1) dX3_open_109 (by decide) ?_
          refine hg_iload_n C dX3_open_110 rfl 2 rfl ?_
          refine hg_ishl C dX3_open_111 ?_
          refine hg_goto C (tgt := 116) dX3_open_112 (by decide) ?_
          exact hg_top (v := if (if (fX2_ofPerson pf (nI i) 5) = 0 then (1 : Int32) else (0 : Int32)) = 0 then (0 : Int32) else (1 <<< ((nI i) &&& 31))) (v' := 1 <<< ((nI i) &&& 31)) ((if_neg c7).trans rfl) jj
      refine hg_ior C dX3_open_116 ?_
      refine hg_put C (Cn := RX3) (T := TX3) (N := 9) (ws' := [(fa, .inr (2, [.int pe, .int tu, .ref fb, .ref fc])), (fb, .inl (E.2.1.1, 36, .inl pf)), (fc, .inl (E.2.1.1, 12, .inl tf)), (sa, .inr (3, [.ref fa, .int v3_1, .int v3_2, .int v3_3, .int (σ.1 ||| (if (if (fX2_ofPerson pf (nI i) 5) = 0 then (1 : Int32) else (0 : Int32)) = 0 then (0 : Int32) else (1 <<< ((nI i) &&& 31)))), .int σ.2.1, .ref sb, .ref sd, .ref se])), (sb, .inl (E.2.1.1, 6, .inl (upd σ.2.2.1 (nI i).toNatClampNeg (fX2_ofPerson pf (nI i) 1)))), (sd, .inl (E.2.1.1, 6, .inl (upd σ.2.2.2 (nI i).toNatClampNeg (fX2_ofPerson pf (nI i) 2)))), (se, .inl (E.2.1.1, 4, .inl v6))]) mrX3_open_3 tyX3 tyX3_ok nmX3 3 rfl rfl 4 (by decide) mmX3_open_f21 rfl rfl rfl rfl (Nat.le_of_ble_eq_true rfl) rfl dX3_open_117 ?_
      refine hg_aload_n C dX3_open_120 rfl 1 rfl ?_
      refine hg_dup C dX3_open_121 rfl ?_
      refine hg_get C (Cn := RX3) (T := TX3) (N := 9) (v := .int σ.2.1) mrX3_open_3 3 rfl rfl 5 (by decide) mmX3_open_f24 rfl dX3_open_122 ?_
      refine hg_iload_n C dX3_open_125 rfl 0 rfl ?_
      refine hg_join (J := 136) (v := if (if (fX2_ofPerson pf (nI i) 5) = 0 then (1 : Int32) else (0 : Int32)) = 0 then (1 <<< ((nI i) &&& 31)) else (0 : Int32)) (st1 := [.int σ.2.1, .ref sa]) (fun jj => ?_) ?_
      · refine hg_if_eq C (tgt := 133) dX3_open_126 (by decide) (fun c8 => ?_) (fun c8 => ?_)
        · refine hg_iconst C (v := 1) dX3_open_133 (by decide) ?_
          refine hg_iload_n C dX3_open_134 rfl 2 rfl ?_
          refine hg_ishl C dX3_open_135 ?_
          exact hg_top (v := if (if (fX2_ofPerson pf (nI i) 5) = 0 then (1 : Int32) else (0 : Int32)) = 0 then (1 <<< ((nI i) &&& 31)) else (0 : Int32)) (v' := 1 <<< ((nI i) &&& 31)) ((if_pos c8).trans rfl) jj
        · refine hg_iconst C (v := 0) dX3_open_129 (by decide) ?_
          refine hg_goto C (tgt := 136) dX3_open_130 (by decide) ?_
          exact hg_top (v := if (if (fX2_ofPerson pf (nI i) 5) = 0 then (1 : Int32) else (0 : Int32)) = 0 then (1 <<< ((nI i) &&& 31)) else (0 : Int32)) (v' := 0) ((if_neg c8).trans rfl) jj
      refine hg_ior C dX3_open_136 ?_
      refine hg_put C (Cn := RX3) (T := TX3) (N := 9) (ws' := [(fa, .inr (2, [.int pe, .int tu, .ref fb, .ref fc])), (fb, .inl (E.2.1.1, 36, .inl pf)), (fc, .inl (E.2.1.1, 12, .inl tf)), (sa, .inr (3, [.ref fa, .int v3_1, .int v3_2, .int v3_3, .int (σ.1 ||| (if (if (fX2_ofPerson pf (nI i) 5) = 0 then (1 : Int32) else (0 : Int32)) = 0 then (0 : Int32) else (1 <<< ((nI i) &&& 31)))), .int (σ.2.1 ||| (if (if (fX2_ofPerson pf (nI i) 5) = 0 then (1 : Int32) else (0 : Int32)) = 0 then (1 <<< ((nI i) &&& 31)) else (0 : Int32))), .ref sb, .ref sd, .ref se])), (sb, .inl (E.2.1.1, 6, .inl (upd σ.2.2.1 (nI i).toNatClampNeg (fX2_ofPerson pf (nI i) 1)))), (sd, .inl (E.2.1.1, 6, .inl (upd σ.2.2.2 (nI i).toNatClampNeg (fX2_ofPerson pf (nI i) 2)))), (se, .inl (E.2.1.1, 4, .inl v6))]) mrX3_open_3 tyX3 tyX3_ok nmX3 3 rfl rfl 5 (by decide) mmX3_open_f24 rfl rfl rfl rfl (Nat.le_of_ble_eq_true rfl) rfl dX3_open_137 ?_
      refine hg_iinc C (v := nI (i + 1)) (lv' := [(1, .int (nI (i + 1))), (2, .int (if (fX2_ofPerson pf (nI i) 5) = 0 then (1 : Int32) else (0 : Int32))), (0, .ref sa)]) dX3_open_140 2 rfl (nI_inc _) (by decide) rfl ?_
      refine hg_goto C (tgt := 35) dX3_open_143 (by decide) ?_
      have e9 : (stX3_open_35 pe pf) i σ = (σ.1 ||| (if (if (fX2_ofPerson pf (nI i) 5) = 0 then (1 : Int32) else (0 : Int32)) = 0 then (0 : Int32) else (1 <<< ((nI i) &&& 31))), σ.2.1 ||| (if (if (fX2_ofPerson pf (nI i) 5) = 0 then (1 : Int32) else (0 : Int32)) = 0 then (1 <<< ((nI i) &&& 31)) else (0 : Int32)), upd σ.2.2.1 (nI i).toNatClampNeg (fX2_ofPerson pf (nI i) 1), upd σ.2.2.2 (nI i).toNatClampNeg (fX2_ofPerson pf (nI i) 2)) := (hid_eq _).trans ((if_neg c5).trans rfl)
      have h9 := ih (i + 1) (σ.1 ||| (if (if (fX2_ofPerson pf (nI i) 5) = 0 then (1 : Int32) else (0 : Int32)) = 0 then (0 : Int32) else (1 <<< ((nI i) &&& 31))), σ.2.1 ||| (if (if (fX2_ofPerson pf (nI i) 5) = 0 then (1 : Int32) else (0 : Int32)) = 0 then (1 <<< ((nI i) &&& 31)) else (0 : Int32)), upd σ.2.2.1 (nI i).toNatClampNeg (fX2_ofPerson pf (nI i) 1), upd σ.2.2.2 (nI i).toNatClampNeg (fX2_ofPerson pf (nI i) 2)) (by omega) (e9.symm.trans (congrArg ((stX3_open_35 pe pf) i) hσ))
      exact hg_sub [2, 0] rfl h9
noncomputable def fX3_open (pe : Int32) (pf : Nat → Int32) (mo : Nat → Int32) (pa : Nat → Int32) (pl : Nat → Int32) : Int32 × Int32 × Int32 × Int32 × Int32 × (Nat → Int32) × (Nat → Int32) × (Nat → Int32) := hid ((0, 0, 0, (itN (stX3_open_35 pe pf) 6 (0, 0, mo, pa)).1, (itN (stX3_open_35 pe pf) 6 (0, 0, mo, pa)).2.1, (itN (stX3_open_35 pe pf) 6 (0, 0, mo, pa)).2.2.1, (itN (stX3_open_35 pe pf) 6 (0, 0, mo, pa)).2.2.2, fJ7_fill_53178 pl 0))
set_option maxHeartbeats 4000000 in
set_option maxRecDepth 100000 in
theorem kX3_open (l : Launch) (E : hE) (fa : Nat) (fb : Nat) (fc : Nat) (pe : Int32) (tu : Int32) (pf : Nat → Int32) (tf : Nat → Int32) (sa : Nat) (sb : Nat) (sd : Nat) (se : Nat) (mi : Int32) (ha : Int32) (ba : Int32) (sg : Int32) (wg : Int32) (mo : Nat → Int32) (pa : Nat → Int32) (pl : Nat → Int32) : hC l yX3_open wsX3_open rmX3_open E [.ref sa] [(fa, .inr (2, [.int pe, .int tu, .ref fb, .ref fc])), (fb, .inl (E.2.1.1, 36, .inl pf)), (fc, .inl (E.2.1.1, 12, .inl tf)), (sa, .inr (3, [.ref fa, .int mi, .int ha, .int ba, .int sg, .int wg, .ref sb, .ref sd, .ref se])), (sb, .inl (E.2.1.1, 6, .inl mo)), (sd, .inl (E.2.1.1, 6, .inl pa)), (se, .inl (E.2.1.1, 4, .inl pl))] none [(fa, .inr (2, [.int pe, .int tu, .ref fb, .ref fc])), (fb, .inl (E.2.1.1, 36, .inl pf)), (fc, .inl (E.2.1.1, 12, .inl tf)), (sa, .inr (3, [.ref fa, .int ((fX3_open pe pf mo pa pl).1), .int ((fX3_open pe pf mo pa pl).2.1), .int ((fX3_open pe pf mo pa pl).2.2.1), .int ((fX3_open pe pf mo pa pl).2.2.2.1), .int ((fX3_open pe pf mo pa pl).2.2.2.2.1), .ref sb, .ref sd, .ref se])), (sb, .inl (E.2.1.1, 6, .inl ((fX3_open pe pf mo pa pl).2.2.2.2.2.1))), (sd, .inl (E.2.1.1, 6, .inl ((fX3_open pe pf mo pa pl).2.2.2.2.2.2.1))), (se, .inl (E.2.1.1, 4, .inl ((fX3_open pe pf mo pa pl).2.2.2.2.2.2.2)))] := by
  refine hC_intro (cc := cX3_open) (maxL := 3) (ret := none) (lv0 := [(0, .ref sa)]) (by decide) rfl (Nat.le_of_ble_eq_true rfl) rfl ?_
  intro p e s m below meth c A C
  refine hg_aload_n C dX3_open_0 rfl 0 rfl ?_
  refine hg_iconst C (v := 0) dX3_open_1 (by decide) ?_
  refine hg_put C (Cn := RX3) (T := TX3) (N := 9) (ws' := [(fa, .inr (2, [.int pe, .int tu, .ref fb, .ref fc])), (fb, .inl (E.2.1.1, 36, .inl pf)), (fc, .inl (E.2.1.1, 12, .inl tf)), (sa, .inr (3, [.ref fa, .int 0, .int ha, .int ba, .int sg, .int wg, .ref sb, .ref sd, .ref se])), (sb, .inl (E.2.1.1, 6, .inl mo)), (sd, .inl (E.2.1.1, 6, .inl pa)), (se, .inl (E.2.1.1, 4, .inl pl))]) mrX3_open_3 tyX3 tyX3_ok nmX3 3 rfl rfl 1 (by decide) mmX3_open_f9 rfl rfl rfl rfl (Nat.le_of_ble_eq_true rfl) rfl dX3_open_2 ?_
  refine hg_aload_n C dX3_open_5 rfl 0 rfl ?_
  refine hg_iconst C (v := 0) dX3_open_6 (by decide) ?_
  refine hg_put C (Cn := RX3) (T := TX3) (N := 9) (ws' := [(fa, .inr (2, [.int pe, .int tu, .ref fb, .ref fc])), (fb, .inl (E.2.1.1, 36, .inl pf)), (fc, .inl (E.2.1.1, 12, .inl tf)), (sa, .inr (3, [.ref fa, .int 0, .int 0, .int ba, .int sg, .int wg, .ref sb, .ref sd, .ref se])), (sb, .inl (E.2.1.1, 6, .inl mo)), (sd, .inl (E.2.1.1, 6, .inl pa)), (se, .inl (E.2.1.1, 4, .inl pl))]) mrX3_open_3 tyX3 tyX3_ok nmX3 3 rfl rfl 2 (by decide) mmX3_open_f15 rfl rfl rfl rfl (Nat.le_of_ble_eq_true rfl) rfl dX3_open_7 ?_
  refine hg_aload_n C dX3_open_10 rfl 0 rfl ?_
  refine hg_iconst C (v := 0) dX3_open_11 (by decide) ?_
  refine hg_put C (Cn := RX3) (T := TX3) (N := 9) (ws' := [(fa, .inr (2, [.int pe, .int tu, .ref fb, .ref fc])), (fb, .inl (E.2.1.1, 36, .inl pf)), (fc, .inl (E.2.1.1, 12, .inl tf)), (sa, .inr (3, [.ref fa, .int 0, .int 0, .int 0, .int sg, .int wg, .ref sb, .ref sd, .ref se])), (sb, .inl (E.2.1.1, 6, .inl mo)), (sd, .inl (E.2.1.1, 6, .inl pa)), (se, .inl (E.2.1.1, 4, .inl pl))]) mrX3_open_3 tyX3 tyX3_ok nmX3 3 rfl rfl 3 (by decide) mmX3_open_f18 rfl rfl rfl rfl (Nat.le_of_ble_eq_true rfl) rfl dX3_open_12 ?_
  refine hg_aload_n C dX3_open_15 rfl 0 rfl ?_
  refine hg_iconst C (v := 0) dX3_open_16 (by decide) ?_
  refine hg_put C (Cn := RX3) (T := TX3) (N := 9) (ws' := [(fa, .inr (2, [.int pe, .int tu, .ref fb, .ref fc])), (fb, .inl (E.2.1.1, 36, .inl pf)), (fc, .inl (E.2.1.1, 12, .inl tf)), (sa, .inr (3, [.ref fa, .int 0, .int 0, .int 0, .int 0, .int wg, .ref sb, .ref sd, .ref se])), (sb, .inl (E.2.1.1, 6, .inl mo)), (sd, .inl (E.2.1.1, 6, .inl pa)), (se, .inl (E.2.1.1, 4, .inl pl))]) mrX3_open_3 tyX3 tyX3_ok nmX3 3 rfl rfl 4 (by decide) mmX3_open_f21 rfl rfl rfl rfl (Nat.le_of_ble_eq_true rfl) rfl dX3_open_17 ?_
  refine hg_aload_n C dX3_open_20 rfl 0 rfl ?_
  refine hg_iconst C (v := 0) dX3_open_21 (by decide) ?_
  refine hg_put C (Cn := RX3) (T := TX3) (N := 9) (ws' := [(fa, .inr (2, [.int pe, .int tu, .ref fb, .ref fc])), (fb, .inl (E.2.1.1, 36, .inl pf)), (fc, .inl (E.2.1.1, 12, .inl tf)), (sa, .inr (3, [.ref fa, .int 0, .int 0, .int 0, .int 0, .int 0, .ref sb, .ref sd, .ref se])), (sb, .inl (E.2.1.1, 6, .inl mo)), (sd, .inl (E.2.1.1, 6, .inl pa)), (se, .inl (E.2.1.1, 4, .inl pl))]) mrX3_open_3 tyX3 tyX3_ok nmX3 3 rfl rfl 5 (by decide) mmX3_open_f24 rfl rfl rfl rfl (Nat.le_of_ble_eq_true rfl) rfl dX3_open_22 ?_
  refine hg_aload_n C dX3_open_25 rfl 0 rfl ?_
  refine hg_get C (Cn := RX3) (T := TX3) (N := 9) (v := .ref se) mrX3_open_3 3 rfl rfl 8 (by decide) mmX3_open_f34 rfl dX3_open_26 ?_
  refine hg_iconst C (v := 0) dX3_open_29 (by decide) ?_
  refine hg_callS C (ws' := [(fa, .inr (2, [.int pe, .int tu, .ref fb, .ref fc])), (fb, .inl (E.2.1.1, 36, .inl pf)), (fc, .inl (E.2.1.1, 12, .inl tf)), (sa, .inr (3, [.ref fa, .int 0, .int 0, .int 0, .int 0, .int 0, .ref sb, .ref sd, .ref se])), (sb, .inl (E.2.1.1, 6, .inl mo)), (sd, .inl (E.2.1.1, 6, .inl pa)), (se, .inl (E.2.1.1, 4, .inl (fJ7_fill_53178 pl 0)))]) (rest := []) (kJ7_fill_53178 l E se pl 0) hfJ7_fill_53178 gX3_open_J7_fill_53178 ⟨Nat.le_of_ble_eq_true rfl, Nat.le_of_ble_eq_true rfl⟩ ⟨Nat.zero_le _, Nat.zero_le _⟩ [6] rfl (by decide) [se] rfl rfl rfl rfl (Nat.le_of_ble_eq_true rfl) dX3_open_30 ?_
  refine hg_iconst C (v := 0) dX3_open_33 (by decide) ?_
  refine hg_istore_n C (lv' := [(1, .int 0), (0, .ref sa)]) dX3_open_34 rfl (by decide) rfl ?_
  refine hg_sub [1, 0] rfl ?_
  refine lpX3_open_35 C fa fb fc pe tu pf tf sa sb sd se mi ha ba sg wg mo pa pl 0 0 0 (fJ7_fill_53178 pl 0) (0, 0, mo, pa) ?_ 6 0 (0, 0, mo, pa) (by omega) rfl
  have e9 : (fX3_open pe pf mo pa pl) = (0, 0, 0, (itN (stX3_open_35 pe pf) 6 (0, 0, mo, pa)).1, (itN (stX3_open_35 pe pf) 6 (0, 0, mo, pa)).2.1, (itN (stX3_open_35 pe pf) 6 (0, 0, mo, pa)).2.2.1, (itN (stX3_open_35 pe pf) 6 (0, 0, mo, pa)).2.2.2, fJ7_fill_53178 pl 0) := hid_eq _
  rw [e9]
  exact hg_vret C dX3_open_146 rfl rfl
noncomputable def gX3_open_s (pe : Int32) (pf : Nat → Int32) (S : Sc) : Sc := ((fX3_open pe pf S.2.2.2.2.2.1 S.2.2.2.2.2.2.1 S.2.2.2.2.2.2.2).1, (fX3_open pe pf S.2.2.2.2.2.1 S.2.2.2.2.2.2.1 S.2.2.2.2.2.2.2).2.1, (fX3_open pe pf S.2.2.2.2.2.1 S.2.2.2.2.2.2.1 S.2.2.2.2.2.2.2).2.2.1, (fX3_open pe pf S.2.2.2.2.2.1 S.2.2.2.2.2.2.1 S.2.2.2.2.2.2.2).2.2.2.1, (fX3_open pe pf S.2.2.2.2.2.1 S.2.2.2.2.2.2.1 S.2.2.2.2.2.2.2).2.2.2.2.1, (fX3_open pe pf S.2.2.2.2.2.1 S.2.2.2.2.2.2.1 S.2.2.2.2.2.2.2).2.2.2.2.2.1, (fX3_open pe pf S.2.2.2.2.2.1 S.2.2.2.2.2.2.1 S.2.2.2.2.2.2.2).2.2.2.2.2.2.1, (fX3_open pe pf S.2.2.2.2.2.1 S.2.2.2.2.2.2.1 S.2.2.2.2.2.2.2).2.2.2.2.2.2.2)
theorem ksX3_open (l : Launch) (E : hE) (fa : Nat) (fb : Nat) (fc : Nat) (pe : Int32) (tu : Int32) (pf : Nat → Int32) (tf : Nat → Int32) (sa : Nat) (sb : Nat) (sd : Nat) (se : Nat) (S : Sc) : hC l yX3_open wsX3_open rmX3_open E [.ref sa] [(fa, .inr (2, [.int pe, .int tu, .ref fb, .ref fc])), (fb, .inl (E.2.1.1, 36, .inl pf)), (fc, .inl (E.2.1.1, 12, .inl tf)), (sa, .inr (3, [.ref fa, .int S.1, .int S.2.1, .int S.2.2.1, .int S.2.2.2.1, .int S.2.2.2.2.1, .ref sb, .ref sd, .ref se])), (sb, .inl (E.2.1.1, 6, .inl S.2.2.2.2.2.1)), (sd, .inl (E.2.1.1, 6, .inl S.2.2.2.2.2.2.1)), (se, .inl (E.2.1.1, 4, .inl S.2.2.2.2.2.2.2))] none [(fa, .inr (2, [.int pe, .int tu, .ref fb, .ref fc])), (fb, .inl (E.2.1.1, 36, .inl pf)), (fc, .inl (E.2.1.1, 12, .inl tf)), (sa, .inr (3, [.ref fa, .int ((gX3_open_s pe pf S).1), .int ((gX3_open_s pe pf S).2.1), .int ((gX3_open_s pe pf S).2.2.1), .int ((gX3_open_s pe pf S).2.2.2.1), .int ((gX3_open_s pe pf S).2.2.2.2.1), .ref sb, .ref sd, .ref se])), (sb, .inl (E.2.1.1, 6, .inl ((gX3_open_s pe pf S).2.2.2.2.2.1))), (sd, .inl (E.2.1.1, 6, .inl ((gX3_open_s pe pf S).2.2.2.2.2.2.1))), (se, .inl (E.2.1.1, 4, .inl ((gX3_open_s pe pf S).2.2.2.2.2.2.2)))] := kX3_open l E fa fb fc pe tu pf tf sa sb sd se S.1 S.2.1 S.2.2.1 S.2.2.2.1 S.2.2.2.2.1 S.2.2.2.2.2.1 S.2.2.2.2.2.2.1 S.2.2.2.2.2.2.2
