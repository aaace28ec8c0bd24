/-- the reference's reader ahead of its i-th part -/
def rsI (ts : Int32) (i : Nat) (pc rp rt : Int32) : Prop := figP pc ts ∧ i < pc.toNatClampNeg ∧ vp_in rp 7 ∧ vp_in rt 5
theorem fig_cl {pc ts : Int32} (h : figP pc ts) : pc.toNatClampNeg ≤ 64 := by
  obtain ⟨j, k, rfl, rfl, h1, h2⟩ := h
  rw [nI_clamp (by omega)]
  omega
theorem fig_c1 {pc ts : Int32} (h : figP pc ts) : (pc + 1).toNatClampNeg = pc.toNatClampNeg + 1 := by
  obtain ⟨j, k, rfl, rfl, h1, h2⟩ := h
  rw [nI_1, nI_clamp (by omega), nI_clamp (by omega)]
theorem figN_le {ts pc a b : Int32} {tx : Nat → Int32} (h : figP pc ts) : pc.toNatClampNeg ≤ (fX6_figure ts pc tx a b).2.toNatClampNeg := by
  unfold fX6_figure
  rw [hid_eq]
  split
  · exact Nat.le_refl _
  · split
    · exact Nat.le_refl _
    · show pc.toNatClampNeg ≤ (pc + 1).toNatClampNeg
      rw [fig_c1 h]
      omega
theorem rP_ok (ts rp : Int32) (tx : Nat → Int32) : ∀ (n i : Nat) (σ : Int32 × (Nat → Int32)), figP σ.1 ts → figP (frX6_readPerson_2 ts rp tx n i σ).2.1 ts ∧ σ.1.toNatClampNeg ≤ (frX6_readPerson_2 ts rp tx n i σ).2.1.toNatClampNeg ∧ ((frX6_readPerson_2 ts rp tx n i σ).2.2.1 = rp ∨ (frX6_readPerson_2 ts rp tx n i σ).2.2.1 = rp + 1)
  | 0, _, _, h => ⟨h, Nat.le_refl _, Or.inl rfl⟩
  | n + 1, i, σ, h => by
    unfold frX6_readPerson_2
    rw [hid_eq]
    split
    · exact ⟨h, Nat.le_refl _, Or.inr rfl⟩
    · split
      · exact ⟨figN h, figN_le h, Or.inl rfl⟩
      · obtain ⟨h1, h2, h3⟩ := rP_ok ts rp tx n (i + 1) ((fX6_figure ts σ.1 tx 0 (fX6_mostOf (nI i))).2, upd σ.2 ((6 * rp) + (nI i)).toNatClampNeg ((fX6_figure ts σ.1 tx 0 (fX6_mostOf (nI i))).1)) (figN h)
        exact ⟨h1, Nat.le_trans (figN_le h) h2, h3⟩
theorem rp_ok {ts pc rp : Int32} {tx rto : Nat → Int32} (h : figP pc ts) : figP (fX6_readPerson ts pc rp tx rto).2.1 ts ∧ pc.toNatClampNeg ≤ (fX6_readPerson ts pc rp tx rto).2.1.toNatClampNeg ∧ ((fX6_readPerson ts pc rp tx rto).2.2.1 = rp ∨ (fX6_readPerson ts pc rp tx rto).2.2.1 = rp + 1) := by
  unfold fX6_readPerson
  rw [hid_eq]
  exact rP_ok _ _ _ _ _ _ h
theorem rt_ok {ts pc rt : Int32} {tx rso : Nat → Int32} (h : figP pc ts) : figP (fX6_readTune ts pc rt tx rso).2.1 ts ∧ pc.toNatClampNeg ≤ (fX6_readTune ts pc rt tx rso).2.1.toNatClampNeg ∧ ((fX6_readTune ts pc rt tx rso).2.2.1 = rt ∨ (fX6_readTune ts pc rt tx rso).2.2.1 = rt + 1) := by
  unfold fX6_readTune
  rw [hid_eq]
  have a1 := figN_le (a := 0) (b := 2) (tx := tx) h
  have a2 := figN_le (a := 1) (b := 9) (tx := tx) (figN (a := 0) (b := 2) (tx := tx) h)
  have a3 := figN_le (a := 0) (b := 9) (tx := tx) (figN (a := 1) (b := 9) (tx := tx) (figN (a := 0) (b := 2) (tx := tx) h))
  (repeat' split) <;> first | exact ⟨figN h, a1, Or.inl rfl⟩ | exact ⟨figN (figN h), Nat.le_trans a1 a2, Or.inl rfl⟩ | exact ⟨figN (figN (figN h)), Nat.le_trans a1 (Nat.le_trans a2 a3), Or.inl rfl⟩ | exact ⟨figN (figN (figN h)), Nat.le_trans a1 (Nat.le_trans a2 a3), Or.inr rfl⟩
theorem vp_up {x y : Int32} {n : Nat} (hn : n < 1000) (h : vp_in x n) (hy : y = x ∨ y = x + 1) : vp_in y (n + 1) := by
  obtain ⟨j, hj, rfl⟩ := vp_in_of h (by omega)
  rcases hy with rfl | rfl
  · exact vp_in_nI (by omega) (by omega)
  · rw [nI_1]
    exact vp_in_nI (by omega) (by omega)
theorem rs_next {ts pc rp rt : Int32} {tx rto rso : Nat → Int32} {i : Nat} (hv : rsI ts i pc rp rt) (h1 : ¬ ts ≤ pc) : rsI ts (i + 1) (fX6_readPart ts pc rp rt tx rto rso).2.1 (fX6_readPart ts pc rp rt tx rto rso).2.2.1 (fX6_readPart ts pc rp rt tx rto rso).2.2.2.1 ∨ (fX6_readPart ts pc rp rt tx rto rso).1 = 0 := by
  obtain ⟨h2, h3, h4, h5⟩ := hv
  have hpl := fig_lt h2 h1
  have hs := fig_s h2 hpl
  have hc := fig_c1 h2
  unfold fX6_readPart
  rw [hid_eq]
  have kt : ¬ (4 : Int32) ≤ rt → rsI ts (i + 1) (fX6_readTune ts (pc + 1) rt tx rso).2.1 rp (fX6_readTune ts (pc + 1) rt tx rso).2.2.1 := fun c => by
    obtain ⟨a, b, d⟩ := rt_ok (rt := rt) (tx := tx) (rso := rso) hs
    exact ⟨a, by omega, h4, vp_up (by decide) (vp_cut (N := 4) (m := 4) rfl (by decide) h5 c) d⟩
  have kp : ¬ (6 : Int32) ≤ rp → rsI ts (i + 1) (fX6_readPerson ts (pc + 1) rp tx rto).2.1 (fX6_readPerson ts (pc + 1) rp tx rto).2.2.1 rt := fun c => by
    obtain ⟨a, b, d⟩ := rp_ok (rp := rp) (tx := tx) (rto := rto) hs
    exact ⟨a, by omega, vp_up (by decide) (vp_cut (N := 6) (m := 6) rfl (by decide) h4 c) d, h5⟩
  (repeat' split) <;> first | exact Or.inr rfl | exact Or.inl (kt (by assumption)) | exact Or.inl (kp (by assumption))
theorem rs_nx {ts pc rp rt : Int32} {tx rto rso : Nat → Int32} {i : Nat} (hv : rsI ts i pc rp rt) (h1 : ¬ ts ≤ pc) (h2 : ¬ (fX6_readPart ts pc rp rt tx rto rso).1 = 0) : rsI ts (i + 1) (fX6_readPart ts pc rp rt tx rto rso).2.1 (fX6_readPart ts pc rp rt tx rto rso).2.2.1 (fX6_readPart ts pc rp rt tx rto rso).2.2.2.1 := (rs_next hv h1).elim id (fun h => absurd h h2)
theorem rs_lt {ts pc rp rt : Int32} {i : Nat} (hv : rsI ts i pc rp rt) (h1 : ¬ ts ≤ pc) : i < 64 := by
  obtain ⟨h2, h3, -⟩ := hv
  obtain ⟨j, k, rfl, rfl, h4, h5⟩ := h2
  rw [nI_clamp (by omega)] at h3
  have := lt_nI (by omega) h1
  omega
theorem rs_0 {ts : Int32} (hts : vp_in ts 65) (h0 : ¬ ts = 0) : rsI ts 0 1 0 0 := by
  obtain ⟨k, hk, rfl⟩ := vp_in_of hts (by decide)
  have : k ≠ 0 := fun q => h0 (by rw [q]; rfl)
  exact ⟨⟨1, k, rfl, rfl, by omega, by omega⟩, by decide, by unfold vp_in; decide, by unfold vp_in; decide⟩

theorem mmX6_readSquare_f66 : (Cond.fieldLink RX6 66 "HatRoundModel" "place" "I") ∈ wsX6_readSquare := (List.mem_cons_of_mem _ (List.mem_append_left _ (List.mem_append_left _ (List.mem_of_getElem? (i := 0) rfl))))
theorem mrX6_readSquare_6 : ∀ w ∈ u_ws RX6 TX6 23, w ∈ wsX6_readSquare := fun _ h => (List.mem_cons_of_mem _ (List.mem_append_right _ h))
theorem mmX6_readSquare_f77 : (Cond.fieldLink RX6 77 "HatRoundModel" "readPeople" "I") ∈ wsX6_readSquare := (List.mem_cons_of_mem _ (List.mem_append_left _ (List.mem_append_left _ (List.mem_of_getElem? (i := 1) rfl))))
theorem mmX6_readSquare_f80 : (Cond.fieldLink RX6 80 "HatRoundModel" "readTunes" "I") ∈ wsX6_readSquare := (List.mem_cons_of_mem _ (List.mem_append_left _ (List.mem_append_left _ (List.mem_of_getElem? (i := 2) rfl))))
theorem mmX6_readSquare_f63 : (Cond.fieldLink RX6 63 "HatRoundModel" "textSize" "I") ∈ wsX6_readSquare := (List.mem_cons_of_mem _ (List.mem_append_left _ (List.mem_append_left _ (List.mem_of_getElem? (i := 3) rfl))))
theorem mmX6_readSquare_f7 : (Cond.fieldLink RX6 7 "HatRoundModel" "text" "[I") ∈ wsX6_readSquare := (List.mem_cons_of_mem _ (List.mem_append_left _ (List.mem_append_left _ (List.mem_of_getElem? (i := 4) rfl))))
abbrev rmX6_readSquare : Room := { frames := 4, cells := 0, slots := 0, locals := 91 }
theorem hfX6_readSquare : hCF yX6_readSquare wsX6_readSquare rmX6_readSquare cX6_readSquare 1 (some .int) 0 := ⟨⟨_, rfl⟩, by decide +kernel, rfl, rfl⟩
noncomputable def frX6_readSquare_40 (ts : Int32) (tx : Nat → Int32) : Nat → Nat → (Int32 × Int32 × Int32 × (Nat → Int32) × (Nat → Int32)) → Int32 × Int32 × Int32 × Int32 × (Nat → Int32) × (Nat → Int32)
  | 0, _, σ => (0, σ.1, σ.2.1, σ.2.2.1, σ.2.2.2.1, σ.2.2.2.2)
  | n + 1, i, σ => hid (if ts ≤ σ.1 then ((-9), σ.1, σ.2.1, σ.2.2.1, σ.2.2.2.1, σ.2.2.2.2) else if ((fX6_readPart ts σ.1 σ.2.1 σ.2.2.1 tx σ.2.2.2.1 σ.2.2.2.2).1) = 0 then ((fX6_readPart ts σ.1 σ.2.1 σ.2.2.1 tx σ.2.2.2.1 σ.2.2.2.2).2.1, (fX6_readPart ts σ.1 σ.2.1 σ.2.2.1 tx σ.2.2.2.1 σ.2.2.2.2).2.1, (fX6_readPart ts σ.1 σ.2.1 σ.2.2.1 tx σ.2.2.2.1 σ.2.2.2.2).2.2.1, (fX6_readPart ts σ.1 σ.2.1 σ.2.2.1 tx σ.2.2.2.1 σ.2.2.2.2).2.2.2.1, (fX6_readPart ts σ.1 σ.2.1 σ.2.2.1 tx σ.2.2.2.1 σ.2.2.2.2).2.2.2.2.1, (fX6_readPart ts σ.1 σ.2.1 σ.2.2.1 tx σ.2.2.2.1 σ.2.2.2.2).2.2.2.2.2) else (frX6_readSquare_40 ts tx) n (i + 1) ((fX6_readPart ts σ.1 σ.2.1 σ.2.2.1 tx σ.2.2.2.1 σ.2.2.2.2).2.1, (fX6_readPart ts σ.1 σ.2.1 σ.2.2.1 tx σ.2.2.2.1 σ.2.2.2.2).2.2.1, (fX6_readPart ts σ.1 σ.2.1 σ.2.2.1 tx σ.2.2.2.1 σ.2.2.2.2).2.2.2.1, (fX6_readPart ts σ.1 σ.2.1 σ.2.2.1 tx σ.2.2.2.1 σ.2.2.2.2).2.2.2.2.1, (fX6_readPart ts σ.1 σ.2.1 σ.2.2.1 tx σ.2.2.2.1 σ.2.2.2.2).2.2.2.2.2))
set_option maxHeartbeats 4000000 in
set_option maxRecDepth 100000 in
theorem lpX6_readSquare_40 {p : Program} {l : Launch} {e : Env} {s : State} {m : MethodId} {args : Array Value} {below : List Frame} {meth : Method} {c : Code} {E : hE} {A : Nat → Prop} (C : hX p s m args meth c E A cX6_readSquare 1 RX6 wsX6_readSquare (some .int)) (mm : Nat) (m1 : Nat) (m6 : Nat) (m7 : Nat) (ma : Nat) (mb : Nat) (mc : Nat) (md : Nat) (me : Nat) (mg : Nat) (mh : Nat) (mj : Nat) (mk : Nat) (ts : Int32) (pc : Int32) (pe : Int32) (tu : Int32) (rp : Int32) (rt : Int32) (ac : Int32) (sn : Int32) (sd : Int64) (sl : Int32) (tx : Nat → Int32) (rto : Nat → Int32) (rso : Nat → Int32) (hts : vp_in ts 65) : ∀ (n i : Nat) (σ : Int32 × Int32 × Int32 × (Nat → Int32) × (Nat → Int32)), i + n = 64 + 1 → i ≤ 64 → rsI ts i σ.1 σ.2.1 σ.2.2.1 → hG p l e rmX6_readSquare s m args below meth c E A 1 (hQ E A below args s (some (.int (((frX6_readSquare_40 ts tx) n i σ).1))) [(mm, .inr (6, [.int 0, .ref m1, .int ts, .int (((frX6_readSquare_40 ts tx) n i σ).2.1), .int pe, .int tu, .ref m6, .ref m7, .int (((frX6_readSquare_40 ts tx) n i σ).2.2.1), .int (((frX6_readSquare_40 ts tx) n i σ).2.2.2.1), .ref ma, .ref mb, .ref mc, .ref md, .ref me, .int ac, .ref mg, .ref mh, .int sn, .ref mj, .ref mk, .long sd, .int sl])), (m1, .inl (E.2.1.1, 64, .inl tx)), (ma, .inl (E.2.1.1, 36, .inl (((frX6_readSquare_40 ts tx) n i σ).2.2.2.2.1))), (mb, .inl (E.2.1.1, 12, .inl (((frX6_readSquare_40 ts tx) n i σ).2.2.2.2.2)))]) 0 0 40 [(0, .ref mm)] [] [(mm, .inr (6, [.int 0, .ref m1, .int ts, .int σ.1, .int pe, .int tu, .ref m6, .ref m7, .int σ.2.1, .int σ.2.2.1, .ref ma, .ref mb, .ref mc, .ref md, .ref me, .int ac, .ref mg, .ref mh, .int sn, .ref mj, .ref mk, .long sd, .int sl])), (m1, .inl (E.2.1.1, 64, .inl tx)), (ma, .inl (E.2.1.1, 36, .inl σ.2.2.2.1)), (mb, .inl (E.2.1.1, 12, .inl σ.2.2.2.2))] := by
  intro n
  induction n with
  | zero =>
    intro i σ hi hiN hv
    exact absurd hi (by omega)
  | succ n ih =>
    intro i σ hi hiN hv
    refine hg_aload_n C dX6_readSquare_40 rfl 0 rfl ?_
    refine hg_get C (Cn := RX6) (T := TX6) (N := 23) (v := .int σ.1) mrX6_readSquare_6 0 rfl rfl 3 (by decide) mmX6_readSquare_f66 rfl dX6_readSquare_41 ?_
    refine hg_aload_n C dX6_readSquare_44 rfl 0 rfl ?_
    refine hg_get C (Cn := RX6) (T := TX6) (N := 23) (v := .int ts) mrX6_readSquare_6 0 rfl rfl 2 (by decide) mmX6_readSquare_f63 rfl dX6_readSquare_45 ?_
    refine hg_icmp_ge C (tgt := 63) dX6_readSquare_48 (by decide) (fun c5 => ?_) (fun c5 => ?_)
    · refine hg_bipush C (v := (-9)) dX6_readSquare_63 (by decide) ?_
      have e9 : (frX6_readSquare_40 ts tx) (n + 1) i σ = ((-9), σ.1, σ.2.1, σ.2.2.1, σ.2.2.2.1, σ.2.2.2.2) := (hid_eq _).trans ((if_pos c5).trans rfl)
      rw [e9]
      exact hg_iret C dX6_readSquare_65 rfl rfl
    · refine hg_aload_n C dX6_readSquare_51 rfl 0 rfl ?_
      refine hg_callV C (ws' := [(mm, .inr (6, [.int 0, .ref m1, .int ts, .int ((fX6_readPart ts σ.1 σ.2.1 σ.2.2.1 tx σ.2.2.2.1 σ.2.2.2.2).2.1), .int pe, .int tu, .ref m6, .ref m7, .int ((fX6_readPart ts σ.1 σ.2.1 σ.2.2.1 tx σ.2.2.2.1 σ.2.2.2.2).2.2.1), .int ((fX6_readPart ts σ.1 σ.2.1 σ.2.2.1 tx σ.2.2.2.1 σ.2.2.2.2).2.2.2.1), .ref ma, .ref mb, .ref mc, .ref md, .ref me, .int ac, .ref mg, .ref mh, .int sn, .ref mj, .ref mk, .long sd, .int sl])), (m1, .inl (E.2.1.1, 64, .inl tx)), (ma, .inl (E.2.1.1, 36, .inl ((fX6_readPart ts σ.1 σ.2.1 σ.2.2.1 tx σ.2.2.2.1 σ.2.2.2.2).2.2.2.2.1))), (mb, .inl (E.2.1.1, 12, .inl ((fX6_readPart ts σ.1 σ.2.1 σ.2.2.1 tx σ.2.2.2.1 σ.2.2.2.2).2.2.2.2.2)))]) (rest := []) (kX6_readPart l E mm m1 m6 m7 ma mb mc md me mg mh mj mk ts σ.1 pe tu σ.2.1 σ.2.2.1 ac sn sd sl tx σ.2.2.2.1 σ.2.2.2.2 hv.1 (fig_lt hv.1 (by assumption)) hv.2.2.1 hv.2.2.2) hfX6_readPart gX6_readSquare_X6_readPart ⟨Nat.le_of_ble_eq_true rfl, Nat.le_of_ble_eq_true rfl⟩ ⟨Nat.zero_le _, Nat.zero_le _⟩ [0, 1, 2, 3] rfl (by decide) [mm, m1, ma, mb] rfl rfl rfl 0 rfl rfl rfl rfl (Nat.le_of_ble_eq_true rfl) dX6_readSquare_52 ?_
      refine hg_if_ne C (tgt := 40) dX6_readSquare_55 (by decide) (fun c6 => ?_) (fun c6 => ?_)
      · have hlt : i < 64 := (rs_lt hv (by assumption))
        have e9 : (frX6_readSquare_40 ts tx) (n + 1) i σ = (frX6_readSquare_40 ts tx) n (i + 1) ((fX6_readPart ts σ.1 σ.2.1 σ.2.2.1 tx σ.2.2.2.1 σ.2.2.2.2).2.1, (fX6_readPart ts σ.1 σ.2.1 σ.2.2.1 tx σ.2.2.2.1 σ.2.2.2.2).2.2.1, (fX6_readPart ts σ.1 σ.2.1 σ.2.2.1 tx σ.2.2.2.1 σ.2.2.2.2).2.2.2.1, (fX6_readPart ts σ.1 σ.2.1 σ.2.2.1 tx σ.2.2.2.1 σ.2.2.2.2).2.2.2.2.1, (fX6_readPart ts σ.1 σ.2.1 σ.2.2.1 tx σ.2.2.2.1 σ.2.2.2.2).2.2.2.2.2) := (hid_eq _).trans ((if_neg c5).trans ((if_neg c6).trans rfl))
        rw [e9]
        exact hg_sub [0] rfl (ih (i + 1) ((fX6_readPart ts σ.1 σ.2.1 σ.2.2.1 tx σ.2.2.2.1 σ.2.2.2.2).2.1, (fX6_readPart ts σ.1 σ.2.1 σ.2.2.1 tx σ.2.2.2.1 σ.2.2.2.2).2.2.1, (fX6_readPart ts σ.1 σ.2.1 σ.2.2.1 tx σ.2.2.2.1 σ.2.2.2.2).2.2.2.1, (fX6_readPart ts σ.1 σ.2.1 σ.2.2.1 tx σ.2.2.2.1 σ.2.2.2.2).2.2.2.2.1, (fX6_readPart ts σ.1 σ.2.1 σ.2.2.1 tx σ.2.2.2.1 σ.2.2.2.2).2.2.2.2.2) (by omega) (by omega) (rs_nx hv (by assumption) (by assumption)))
      · refine hg_aload_n C dX6_readSquare_58 rfl 0 rfl ?_
        refine hg_get C (Cn := RX6) (T := TX6) (N := 23) (v := .int ((fX6_readPart ts σ.1 σ.2.1 σ.2.2.1 tx σ.2.2.2.1 σ.2.2.2.2).2.1)) mrX6_readSquare_6 0 rfl rfl 3 (by decide) mmX6_readSquare_f66 rfl dX6_readSquare_59 ?_
        have e9 : (frX6_readSquare_40 ts tx) (n + 1) i σ = ((fX6_readPart ts σ.1 σ.2.1 σ.2.2.1 tx σ.2.2.2.1 σ.2.2.2.2).2.1, (fX6_readPart ts σ.1 σ.2.1 σ.2.2.1 tx σ.2.2.2.1 σ.2.2.2.2).2.1, (fX6_readPart ts σ.1 σ.2.1 σ.2.2.1 tx σ.2.2.2.1 σ.2.2.2.2).2.2.1, (fX6_readPart ts σ.1 σ.2.1 σ.2.2.1 tx σ.2.2.2.1 σ.2.2.2.2).2.2.2.1, (fX6_readPart ts σ.1 σ.2.1 σ.2.2.1 tx σ.2.2.2.1 σ.2.2.2.2).2.2.2.2.1, (fX6_readPart ts σ.1 σ.2.1 σ.2.2.1 tx σ.2.2.2.1 σ.2.2.2.2).2.2.2.2.2) := (hid_eq _).trans ((if_neg c5).trans ((if_pos c6).trans rfl))
        rw [e9]
        exact hg_iret C dX6_readSquare_62 rfl rfl
noncomputable def fX6_readSquare (ts : Int32) (tx : Nat → Int32) (rto : Nat → Int32) (rso : Nat → Int32) : Int32 × Int32 × Int32 × Int32 × (Nat → Int32) × (Nat → Int32) := hid (if ts = 0 then (0, 0, 0, 0, rto, rso) else if (tx (0 : Int32).toNatClampNeg) = 72 then (frX6_readSquare_40 ts tx) (64 + 1) 0 (1, 0, 0, rto, rso) else (0, 0, 0, 0, rto, rso))
set_option maxHeartbeats 4000000 in
set_option maxRecDepth 100000 in
theorem kX6_readSquare (l : Launch) (E : hE) (mm : Nat) (m1 : Nat) (m6 : Nat) (m7 : Nat) (ma : Nat) (mb : Nat) (mc : Nat) (md : Nat) (me : Nat) (mg : Nat) (mh : Nat) (mj : Nat) (mk : Nat) (ts : Int32) (pc : Int32) (pe : Int32) (tu : Int32) (rp : Int32) (rt : Int32) (ac : Int32) (sn : Int32) (sd : Int64) (sl : Int32) (tx : Nat → Int32) (rto : Nat → Int32) (rso : Nat → Int32) (hts : vp_in ts 65) : hC l yX6_readSquare wsX6_readSquare rmX6_readSquare E [.ref mm] [(mm, .inr (6, [.int 0, .ref m1, .int ts, .int pc, .int pe, .int tu, .ref m6, .ref m7, .int rp, .int rt, .ref ma, .ref mb, .ref mc, .ref md, .ref me, .int ac, .ref mg, .ref mh, .int sn, .ref mj, .ref mk, .long sd, .int sl])), (m1, .inl (E.2.1.1, 64, .inl tx)), (ma, .inl (E.2.1.1, 36, .inl rto)), (mb, .inl (E.2.1.1, 12, .inl rso))] (some (.int ((fX6_readSquare ts tx rto rso).1))) [(mm, .inr (6, [.int 0, .ref m1, .int ts, .int ((fX6_readSquare ts tx rto rso).2.1), .int pe, .int tu, .ref m6, .ref m7, .int ((fX6_readSquare ts tx rto rso).2.2.1), .int ((fX6_readSquare ts tx rto rso).2.2.2.1), .ref ma, .ref mb, .ref mc, .ref md, .ref me, .int ac, .ref mg, .ref mh, .int sn, .ref mj, .ref mk, .long sd, .int sl])), (m1, .inl (E.2.1.1, 64, .inl tx)), (ma, .inl (E.2.1.1, 36, .inl ((fX6_readSquare ts tx rto rso).2.2.2.2.1))), (mb, .inl (E.2.1.1, 12, .inl ((fX6_readSquare ts tx rto rso).2.2.2.2.2)))] := by
  refine hC_intro (cc := cX6_readSquare) (maxL := 1) (ret := (some .int)) (lv0 := [(0, .ref mm)]) (by decide) rfl (Nat.le_of_ble_eq_true rfl) rfl ?_
  intro p e s m below meth c A C
  refine hg_aload_n C dX6_readSquare_0 rfl 0 rfl ?_
  refine hg_iconst C (v := 0) dX6_readSquare_1 (by decide) ?_
  refine hg_put C (Cn := RX6) (T := TX6) (N := 23) (ws' := [(mm, .inr (6, [.int 0, .ref m1, .int ts, .int 0, .int pe, .int tu, .ref m6, .ref m7, .int rp, .int rt, .ref ma, .ref mb, .ref mc, .ref md, .ref me, .int ac, .ref mg, .ref mh, .int sn, .ref mj, .ref mk, .long sd, .int sl])), (m1, .inl (E.2.1.1, 64, .inl tx)), (ma, .inl (E.2.1.1, 36, .inl rto)), (mb, .inl (E.2.1.1, 12, .inl rso))]) mrX6_readSquare_6 tyX6 tyX6_ok nmX6 0 rfl rfl 3 (by decide) mmX6_readSquare_f66 rfl rfl rfl rfl (Nat.le_of_ble_eq_true rfl) rfl dX6_readSquare_2 ?_
  refine hg_aload_n C dX6_readSquare_5 rfl 0 rfl ?_
  refine hg_iconst C (v := 0) dX6_readSquare_6 (by decide) ?_
  refine hg_put C (Cn := RX6) (T := TX6) (N := 23) (ws' := [(mm, .inr (6, [.int 0, .ref m1, .int ts, .int 0, .int pe, .int tu, .ref m6, .ref m7, .int 0, .int rt, .ref ma, .ref mb, .ref mc, .ref md, .ref me, .int ac, .ref mg, .ref mh, .int sn, .ref mj, .ref mk, .long sd, .int sl])), (m1, .inl (E.2.1.1, 64, .inl tx)), (ma, .inl (E.2.1.1, 36, .inl rto)), (mb, .inl (E.2.1.1, 12, .inl rso))]) mrX6_readSquare_6 tyX6 tyX6_ok nmX6 0 rfl rfl 8 (by decide) mmX6_readSquare_f77 rfl rfl rfl rfl (Nat.le_of_ble_eq_true rfl) rfl dX6_readSquare_7 ?_
  refine hg_aload_n C dX6_readSquare_10 rfl 0 rfl ?_
  refine hg_iconst C (v := 0) dX6_readSquare_11 (by decide) ?_
  refine hg_put C (Cn := RX6) (T := TX6) (N := 23) (ws' := [(mm, .inr (6, [.int 0, .ref m1, .int ts, .int 0, .int pe, .int tu, .ref m6, .ref m7, .int 0, .int 0, .ref ma, .ref mb, .ref mc, .ref md, .ref me, .int ac, .ref mg, .ref mh, .int sn, .ref mj, .ref mk, .long sd, .int sl])), (m1, .inl (E.2.1.1, 64, .inl tx)), (ma, .inl (E.2.1.1, 36, .inl rto)), (mb, .inl (E.2.1.1, 12, .inl rso))]) mrX6_readSquare_6 tyX6 tyX6_ok nmX6 0 rfl rfl 9 (by decide) mmX6_readSquare_f80 rfl rfl rfl rfl (Nat.le_of_ble_eq_true rfl) rfl dX6_readSquare_12 ?_
  refine hg_aload_n C dX6_readSquare_15 rfl 0 rfl ?_
  refine hg_get C (Cn := RX6) (T := TX6) (N := 23) (v := .int ts) mrX6_readSquare_6 0 rfl rfl 2 (by decide) mmX6_readSquare_f63 rfl dX6_readSquare_16 ?_
  refine hg_if_eq C (tgt := 33) dX6_readSquare_19 (by decide) (fun c1 => ?_) (fun c1 => ?_)
  · refine hg_iconst C (v := 0) dX6_readSquare_33 (by decide) ?_
    have e9 : (fX6_readSquare ts tx rto rso) = (0, 0, 0, 0, rto, rso) := (hid_eq _).trans ((if_pos c1).trans rfl)
    rw [e9]
    exact hg_iret C dX6_readSquare_34 rfl rfl
  · refine hg_aload_n C dX6_readSquare_22 rfl 0 rfl ?_
    refine hg_get C (Cn := RX6) (T := TX6) (N := 23) (v := .ref m1) mrX6_readSquare_6 0 rfl rfl 1 (by decide) mmX6_readSquare_f7 rfl dX6_readSquare_23 ?_
    refine hg_iconst C (v := 0) dX6_readSquare_26 (by decide) ?_
    refine hg_iald C 1 rfl (by unfold vp_in; decide) dX6_readSquare_27 ?_
    refine hg_bipush C (v := 72) dX6_readSquare_28 (by decide) ?_
    refine hg_icmp_eq C (tgt := 35) dX6_readSquare_30 (by decide) (fun c2 => ?_) (fun c2 => ?_)
    · refine hg_aload_n C dX6_readSquare_35 rfl 0 rfl ?_
      refine hg_iconst C (v := 1) dX6_readSquare_36 (by decide) ?_
      refine hg_put C (Cn := RX6) (T := TX6) (N := 23) (ws' := [(mm, .inr (6, [.int 0, .ref m1, .int ts, .int 1, .int pe, .int tu, .ref m6, .ref m7, .int 0, .int 0, .ref ma, .ref mb, .ref mc, .ref md, .ref me, .int ac, .ref mg, .ref mh, .int sn, .ref mj, .ref mk, .long sd, .int sl])), (m1, .inl (E.2.1.1, 64, .inl tx)), (ma, .inl (E.2.1.1, 36, .inl rto)), (mb, .inl (E.2.1.1, 12, .inl rso))]) mrX6_readSquare_6 tyX6 tyX6_ok nmX6 0 rfl rfl 3 (by decide) mmX6_readSquare_f66 rfl rfl rfl rfl (Nat.le_of_ble_eq_true rfl) rfl dX6_readSquare_37 ?_
      have e9 : (fX6_readSquare ts tx rto rso) = (frX6_readSquare_40 ts tx) (64 + 1) 0 (1, 0, 0, rto, rso) := (hid_eq _).trans ((if_neg c1).trans ((if_pos c2).trans rfl))
      rw [e9]
      refine hg_sub [0] rfl ?_
      exact lpX6_readSquare_40 C mm m1 m6 m7 ma mb mc md me mg mh mj mk ts pc pe tu rp rt ac sn sd sl tx rto rso hts (64 + 1) 0 (1, 0, 0, rto, rso) (by omega) (by omega) (rs_0 hts (by assumption))
    · refine hg_iconst C (v := 0) dX6_readSquare_33 (by decide) ?_
      have e9 : (fX6_readSquare ts tx rto rso) = (0, 0, 0, 0, rto, rso) := (hid_eq _).trans ((if_neg c1).trans ((if_neg c2).trans rfl))
      rw [e9]
      exact hg_iret C dX6_readSquare_34 rfl rfl
theorem mmX6_fault_f47 : (Cond.fieldLink RX6 47 "HatRoundModel" "thrown" "I") ∈ wsX6_fault := (List.mem_cons_of_mem _ (List.mem_append_left _ (List.mem_append_left _ (List.mem_of_getElem? (i := 0) rfl))))
theorem mrX6_fault_6 : ∀ w ∈ u_ws RX6 TX6 23, w ∈ wsX6_fault := fun _ h => (List.mem_cons_of_mem _ (List.mem_append_right _ h))
abbrev rmX6_fault : Room := { frames := 5, cells := 0, slots := 0, locals := 111 }
theorem hfX6_fault : hCF yX6_fault wsX6_fault rmX6_fault cX6_fault 1 (some .int) 0 := ⟨⟨_, rfl⟩, by decide +kernel, rfl, rfl⟩
noncomputable def fX6_fault (ts : Int32) (tx : Nat → Int32) (rto : Nat → Int32) (rso : Nat → Int32) : Int32 × Int32 × Int32 × Int32 × (Nat → Int32) × (Nat → Int32) := hid (((fX6_readSquare ts tx rto rso).1, (fX6_readSquare ts tx rto rso).2.1, (fX6_readSquare ts tx rto rso).2.2.1, (fX6_readSquare ts tx rto rso).2.2.2.1, (fX6_readSquare ts tx rto rso).2.2.2.2.1, (fX6_readSquare ts tx rto rso).2.2.2.2.2))
set_option maxHeartbeats 4000000 in
set_option maxRecDepth 100000 in
theorem kX6_fault (l : Launch) (E : hE) (mm : Nat) (m1 : Nat) (m6 : Nat) (m7 : Nat) (ma : Nat) (mb : Nat) (mc : Nat) (md : Nat) (me : Nat) (mg : Nat) (mh : Nat) (mj : Nat) (mk : Nat) (ts : Int32) (pc : Int32) (pe : Int32) (tu : Int32) (rp : Int32) (rt : Int32) (ac : Int32) (sn : Int32) (sd : Int64) (sl : Int32) (tx : Nat → Int32) (rto : Nat → Int32) (rso : Nat → Int32) (hts : vp_in ts 65) : hC l yX6_fault wsX6_fault rmX6_fault E [.ref mm] [(mm, .inr (6, [.int 0, .ref m1, .int ts, .int pc, .int pe, .int tu, .ref m6, .ref m7, .int rp, .int rt, .ref ma, .ref mb, .ref mc, .ref md, .ref me, .int ac, .ref mg, .ref mh, .int sn, .ref mj, .ref mk, .long sd, .int sl])), (m1, .inl (E.2.1.1, 64, .inl tx)), (ma, .inl (E.2.1.1, 36, .inl rto)), (mb, .inl (E.2.1.1, 12, .inl rso))] (some (.int ((fX6_fault ts tx rto rso).1))) [(mm, .inr (6, [.int 0, .ref m1, .int ts, .int ((fX6_fault ts tx rto rso).2.1), .int pe, .int tu, .ref m6, .ref m7, .int ((fX6_fault ts tx rto rso).2.2.1), .int ((fX6_fault ts tx rto rso).2.2.2.1), .ref ma, .ref mb, .ref mc, .ref md, .ref me, .int ac, .ref mg, .ref mh, .int sn, .ref mj, .ref mk, .long sd, .int sl])), (m1, .inl (E.2.1.1, 64, .inl tx)), (ma, .inl (E.2.1.1, 36, .inl ((fX6_fault ts tx rto rso).2.2.2.2.1))), (mb, .inl (E.2.1.1, 12, .inl ((fX6_fault ts tx rto rso).2.2.2.2.2)))] := by
  refine hC_intro (cc := cX6_fault) (maxL := 1) (ret := (some .int)) (lv0 := [(0, .ref mm)]) (by decide) rfl (Nat.le_of_ble_eq_true rfl) rfl ?_
  intro p e s m below meth c A C
  refine hg_aload_n C dX6_fault_0 rfl 0 rfl ?_
  refine hg_iconst C (v := 0) dX6_fault_1 (by decide) ?_
  refine hg_put C (Cn := RX6) (T := TX6) (N := 23) (ws' := [(mm, .inr (6, [.int 0, .ref m1, .int ts, .int pc, .int pe, .int tu, .ref m6, .ref m7, .int rp, .int rt, .ref ma, .ref mb, .ref mc, .ref md, .ref me, .int ac, .ref mg, .ref mh, .int sn, .ref mj, .ref mk, .long sd, .int sl])), (m1, .inl (E.2.1.1, 64, .inl tx)), (ma, .inl (E.2.1.1, 36, .inl rto)), (mb, .inl (E.2.1.1, 12, .inl rso))]) mrX6_fault_6 tyX6 tyX6_ok nmX6 0 rfl rfl 0 (by decide) mmX6_fault_f47 rfl rfl rfl rfl (Nat.le_of_ble_eq_true rfl) rfl dX6_fault_2 ?_
  refine hg_aload_n C dX6_fault_5 rfl 0 rfl ?_
  refine hg_callV C (ws' := [(mm, .inr (6, [.int 0, .ref m1, .int ts, .int ((fX6_readSquare ts tx rto rso).2.1), .int pe, .int tu, .ref m6, .ref m7, .int ((fX6_readSquare ts tx rto rso).2.2.1), .int ((fX6_readSquare ts tx rto rso).2.2.2.1), .ref ma, .ref mb, .ref mc, .ref md, .ref me, .int ac, .ref mg, .ref mh, .int sn, .ref mj, .ref mk, .long sd, .int sl])), (m1, .inl (E.2.1.1, 64, .inl tx)), (ma, .inl (E.2.1.1, 36, .inl ((fX6_readSquare ts tx rto rso).2.2.2.2.1))), (mb, .inl (E.2.1.1, 12, .inl ((fX6_readSquare ts tx rto rso).2.2.2.2.2)))]) (rest := []) (kX6_readSquare l E mm m1 m6 m7 ma mb mc md me mg mh mj mk ts pc pe tu rp rt ac sn sd sl tx rto rso hts) hfX6_readSquare gX6_fault_X6_readSquare ⟨Nat.le_of_ble_eq_true rfl, Nat.le_of_ble_eq_true rfl⟩ ⟨Nat.zero_le _, Nat.zero_le _⟩ [0, 1, 2, 3] rfl (by decide) [mm, m1, ma, mb] rfl rfl rfl 0 rfl rfl rfl rfl (Nat.le_of_ble_eq_true rfl) dX6_fault_6 ?_
  have e9 : (fX6_fault ts tx rto rso) = ((fX6_readSquare ts tx rto rso).1, (fX6_readSquare ts tx rto rso).2.1, (fX6_readSquare ts tx rto rso).2.2.1, (fX6_readSquare ts tx rto rso).2.2.2.1, (fX6_readSquare ts tx rto rso).2.2.2.2.1, (fX6_readSquare ts tx rto rso).2.2.2.2.2) := hid_eq _
  rw [e9]
  exact hg_iret C dX6_fault_9 rfl rfl
