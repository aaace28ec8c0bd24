/-- the reference's reader ahead of its i-th part -/
def rsI (ts : Int32) (i : Nat) (pc rp rt : Int32) : Prop := figP pc ts ∧ i < pc.toNatClampNeg ∧ vp_in rp 7 ∧ vp_in rt 5
theorem fig_cl {pc ts : Int32} (h : figP pc ts) : pc.toNatClampNeg ≤ 64 := by
  obtain ⟨j, k, rfl, rfl, h1, h2⟩ := h
  rw [nI_clamp (by omega)]
  omega
theorem fig_c1 {pc ts : Int32} (h : figP pc ts) : (pc + 1).toNatClampNeg = pc.toNatClampNeg + 1 := by
  obtain ⟨j, k, rfl, rfl, h1, h2⟩ := h
  rw [nI_1, nI_clamp (by omega), nI_clamp (by omega)]
theorem figN_le {ts pc a b : Int32} {tx : Nat → Int32} (h : figP pc ts) : pc.toNatClampNeg ≤ (fX6_figure ts pc tx a b).2.toNatClampNeg := by
  unfold fX6_figure
  rw [hid_eq]
  split
  · exact Nat.le_refl _
  · split
    · exact Nat.le_refl _
    · show pc.toNatClampNeg ≤ (pc + 1).toNatClampNeg
      rw [fig_c1 h]
      omega
theorem rP_ok (ts rp : Int32) (tx : Nat → Int32) : ∀ (n i : Nat) (σ : Int32 × (Nat → Int32)), figP σ.1 ts → figP (frX6_readPerson_2 ts rp tx n i σ).2.1 ts ∧ σ.1.toNatClampNeg ≤ (frX6_readPerson_2 ts rp tx n i σ).2.1.toNatClampNeg ∧ ((frX6_readPerson_2 ts rp tx n i σ).2.2.1 = rp ∨ (frX6_readPerson_2 ts rp tx n i σ).2.2.1 = rp + 1)
  | 0, _, _, h => ⟨h, Nat.le_refl _, Or.inl rfl⟩
  | n + 1, i, σ, h => by
    unfold frX6_readPerson_2
    rw [hid_eq]
    split
    · exact ⟨h, Nat.le_refl _, Or.inr rfl⟩
    · split
      · exact ⟨figN h, figN_le h, Or.inl rfl⟩
      · obtain ⟨h1, h2, h3⟩ := rP_ok ts rp tx n (i + 1) ((fX6_figure ts σ.1 tx 0 (fX6_mostOf (nI i))).2, upd σ.2 ((6 * rp) + (nI i)).toNatClampNeg ((fX6_figure ts σ.1 tx 0 (fX6_mostOf (nI i))).1)) (figN h)
        exact ⟨h1, Nat.le_trans (figN_le h) h2, h3⟩
theorem rp_ok {ts pc rp : Int32} {tx rto : Nat → Int32} (h : figP pc ts) : figP (fX6_readPerson ts pc rp tx rto).2.1 ts ∧ pc.toNatClampNeg ≤ (fX6_readPerson ts pc rp tx rto).2.1.toNatClampNeg ∧ ((fX6_readPerson ts pc rp tx rto).2.2.1 = rp ∨ (fX6_readPerson ts pc rp tx rto).2.2.1 = rp + 1) := by
  unfold fX6_readPerson
  rw [hid_eq]
  exact rP_ok _ _ _ _ _ _ h
theorem rt_ok {ts pc rt : Int32} {tx rso : Nat → Int32} (h : figP pc ts) : figP (fX6_readTune ts pc rt tx rso).2.1 ts ∧ pc.toNatClampNeg ≤ (fX6_readTune ts pc rt tx rso).2.1.toNatClampNeg ∧ ((fX6_readTune ts pc rt tx rso).2.2.1 = rt ∨ (fX6_readTune ts pc rt tx rso).2.2.1 = rt + 1) := by
  unfold fX6_readTune
  rw [hid_eq]
  have a1 := figN_le (a := 0) (b := 2) (tx := tx) h
  have a2 := figN_le (a := 1) (b := 9) (tx := tx) (figN (a := 0) (b := 2) (tx := tx) h)
  have a3 := figN_le (a := 0) (b := 9) (tx := tx) (figN (a := 1) (b := 9) (tx := tx) (figN (a := 0) (b := 2) (tx := tx) h))
  (repeat' split) <;> first | exact ⟨figN h, a1, Or.inl rfl⟩ | exact ⟨figN (figN h), Nat.le_trans a1 a2, Or.inl rfl⟩ | exact ⟨figN (figN (figN h)), Nat.le_trans a1 (Nat.le_trans a2 a3), Or.inl rfl⟩ | exact ⟨figN (figN (figN h)), Nat.le_trans a1 (Nat.le_trans a2 a3), Or.inr rfl⟩
theorem vp_up {x y : Int32} {n : Nat} (hn : n < 1000) (h : vp_in x n) (hy : y = x ∨ y = x + 1) : vp_in y (n + 1) := by
  obtain ⟨j, hj, rfl⟩ := vp_in_of h (by omega)
  rcases hy with rfl | rfl
  · exact vp_in_nI (by omega) (by omega)
  · rw [nI_1]
    exact vp_in_nI (by omega) (by omega)
theorem rs_next {ts pc rp rt : Int32} {tx rto rso : Nat → Int32} {i : Nat} (hv : rsI ts i pc rp rt) (h1 : ¬ ts ≤ pc) : rsI ts (i + 1) (fX6_readPart ts pc rp rt tx rto rso).2.1 (fX6_readPart ts pc rp rt tx rto rso).2.2.1 (fX6_readPart ts pc rp rt tx rto rso).2.2.2.1 ∨ (fX6_readPart ts pc rp rt tx rto rso).1 = 0 := by
  obtain ⟨h2, h3, h4, h5⟩ := hv
  have hpl := fig_lt h2 h1
  have hs := fig_s h2 hpl
  have hc := fig_c1 h2
  unfold fX6_readPart
  rw [hid_eq]
  have kt : ¬ (4 : Int32) ≤ rt → rsI ts (i + 1) (fX6_readTune ts (pc + 1) rt tx rso).2.1 rp (fX6_readTune ts (pc + 1) rt tx rso).2.2.1 := fun c => by
    obtain ⟨a, b, d⟩ := rt_ok (rt := rt) (tx := tx) (rso := rso) hs
    exact ⟨a, by omega, h4, vp_up (by decide) (vp_cut (N := 4) (m := 4) rfl (by decide) h5 c) d⟩
  have kp : ¬ (6 : Int32) ≤ rp → rsI ts (i + 1) (fX6_readPerson ts (pc + 1) rp tx rto).2.1 (fX6_readPerson ts (pc + 1) rp tx rto).2.2.1 rt := fun c => by
    obtain ⟨a, b, d⟩ := rp_ok (rp := rp) (tx := tx) (rto := rto) hs
    exact ⟨a, by omega, vp_up (by decide) (vp_cut (N := 6) (m := 6) rfl (by decide) h4 c) d, h5⟩
  (repeat' split) <;> first | exact Or.inr rfl | exact Or.inl (kt (by assumption)) | exact Or.inl (kp (by assumption))
theorem rs_nx {ts pc rp rt : Int32} {tx rto rso : Nat → Int32} {i : Nat} (hv : rsI ts i pc rp rt) (h1 : ¬ ts ≤ pc) (h2 : ¬ (fX6_readPart ts pc rp rt tx rto rso).1 = 0) : rsI ts (i + 1) (fX6_readPart ts pc rp rt tx rto rso).2.1 (fX6_readPart ts pc rp rt tx rto rso).2.2.1 (fX6_readPart ts pc rp rt tx rto rso).2.2.2.1 := (rs_next hv h1).elim id (fun h => absurd h h2)
theorem rs_lt {ts pc rp rt : Int32} {i : Nat} (hv : rsI ts i pc rp rt) (h1 : ¬ ts ≤ pc) : i < 64 := by
  obtain ⟨h2, h3, -⟩ := hv
  obtain ⟨j, k, rfl, rfl, h4, h5⟩ := h2
  rw [nI_clamp (by omega)] at h3
  have := lt_nI (by omega) h1
  omega
theorem rs_0 {ts : Int32} (hts : vp_in ts 65) (h0 : ¬ ts = 0) : rsI ts 0 1 0 0 := by
  obtain ⟨k, hk, rfl⟩ := vp_in_of hts (by decide)
  have : k ≠ 0 := fun q => h0 (by rw [q]; rfl)
  exact ⟨⟨1, k, rfl, rfl, by omega, by omega⟩, by decide, by unfold vp_in; decide, by unfold vp_in; decide⟩

theorem mmX6_readSquare_f66 : (Cond.fieldLink RX6 66 "HatRoundModel" "place" "I") ∈ wsX6_readSquare := (List.mem_cons_of_mem _ (List.mem_append_left _ (List.mem_append_left _ (List.mem_of_getElem? (i := 0) rfl))))
theorem mrX6_readSquare_6 : ∀ w ∈ u_ws RX6 TX6 23, w ∈ wsX6_readSquare := fun _ h => (List.mem_cons_of_mem _ (List.mem_append_right _ h))
theorem mmX6_readSquare_f77 : (Cond.fieldLink RX6 77 "HatRoundModel" "readPeople" "I") ∈ wsX6_readSquare := (List.mem_cons_of_mem _ (List.mem_append_left _ (List.mem_append_left _ (List.mem_of_getElem? (i := 1) rfl))))
theorem mmX6_readSquare_f80 : (Cond.fieldLink RX6 80 "HatRoundModel" "readTunes" "I") ∈ wsX6_readSquare := (List.mem_cons_of_mem _ (List.mem_append_left _ (List.mem_append_left _ (List.mem_of_getElem? (i := 2) rfl))))
theorem mmX6_readSquare_f63 : (Cond.fieldLink RX6 63 "HatRoundModel" "textSize" "I") ∈ wsX6_readSquare := (List.mem_cons_of_mem _ (List.mem_append_left _ (List.mem_append_left _ (List.mem_of_getElem? (i := 3) rfl))))
theorem mmX6_readSquare_f7 : (Cond.fieldLink RX6 7 "HatRoundModel" "text" "[I") ∈ wsX6_readSquare := (List.mem_cons_of_mem _ (List.mem_append_left _ (List.mem_append_left _ (List.mem_of_getElem? (i := 4) rfl))))
abbrev rmX6_readSquare : Room := { frames := 4, cells := 0, slots := 0, locals := 91 }
theorem hfX6_readSquare : hCF yX6_readSquare wsX6_readSquare rmX6_readSquare cX6_readSquare 1 (some .int) 0 := ⟨⟨_, rfl⟩, by decide +kernel, rfl, rfl⟩
noncomputable def frX6_readSquare_40 (ts : Int32) (tx : Nat → Int32) : Nat → Nat → (Int32 × Int32 × Int32 × (Nat → Int32) × (Nat → Int32)) → Int32 × Int32 × Int32 × Int32 × (Nat → Int32) × (Nat → Int32)
  | 0, _, σ => (0, σ.1, σ.2.1, σ.2.2.1, σ.2.2.2.1, σ.2.2.2.2)
  | n + 1, i, σ => hid (if ts ≤ σ.1 then ((-9), σ.1, σ.2.1, σ.2.2.1, σ.2.2.2.1, σ.2.2.2.2) else if ((fX6_readPart ts σ.1 σ.2.1 σ.2.2.1 tx σ.2.2.2.1 σ.2.2.2.2).1) = 0 then ((fX6_readPart ts σ.1 σ.2.1 σ.2.2.1 tx σ.2.2.2.1 σ.2.2.2.2).2.1, (fX6_readPart ts σ.1 σ.2.1 σ.2.2.1 tx σ.2.2.2.1 σ.2.2.2.2).2.1, (fX6_readPart ts σ.1 σ.2.1 σ.2.2.1 tx σ.2.2.2.1 σ.2.2.2.2).2.2.1, (fX6_readPart ts σ.1 σ.2.1 σ.2.2.1 tx σ.2.2.2.1 σ.2.2.2.2).2.2.2.1, (fX6_readPart ts σ.1 σ.2.1 σ.2.2.1 tx σ.2.2.2.1 σ.2.2.2.2).2.2.2.2.1, (fX6_readPart ts σ.1 σ.2.1 σ.2.2.1 tx σ.2.2.2.1 σ.2.2.2.2).2.2.2.2.2) else (frX6_readSquare_40 ts tx) n (i + 1) ((fX6_readPart ts σ.1 σ.2.1 σ.2.2.1 tx σ.2.2.2.1 σ.2.2.2.2).2.1, (fX6_readPart ts σ.1 σ.2.1 σ.2.2.1 tx σ.2.2.2.1 σ.2.2.2.2).2.2.1, (fX6_readPart ts σ.1 σ.2.1 σ.2.2.1 tx σ.2.2.2.1 σ.2.2.2.2).2.2.2.1, (fX6_readPart ts σ.1 σ.2.1 σ.2.2.1 tx σ.2.2.2.1 σ.2.2.2.2).2.2.2.2.1, (fX6_readPart ts σ.1 σ.2.1 σ.2.2.1 tx σ.2.2.2.1 σ.2.2.2.2).2.2.2.2.2))
set_option maxHeartbeats 4000000 in
set_option maxRecDepth 100000 in
theorem lpX6_readSquare_40 {p : Program} {l : Launch} {e : Env} {s : State} {m : MethodId} {args : Array Value} {below : List Frame} {meth : Method} {c : Code} {E : hE} {A : Nat → Prop} (C : hX p s m args meth c E A cX6_readSquare 1 RX6 wsX6_readSquare (some .int)) (mm : Nat) (m1 : Nat) (m6 : Nat) (m7 : Nat) (ma : Nat) (mb : Nat) (mc : Nat) (md : Nat) (me : Nat) (mg : Nat) (mh : Nat) (mj : Nat) (mk : Nat) (ts : Int32) (pc : Int32) (pe : Int32) (tu : Int32) (rp : Int32) (rt : Int32) (ac : Int32) (sn : Int32) (sd : Int64) (sl : Int32) (tx : Nat → Int32) (rto : Nat → Int32) (rso : Nat → Int32) (hts : vp_in ts 65) : ∀ (n i : Nat) (σ : Int32 × Int32 × Int32 × (Nat → Int32) × (Nat → Int32)), i + n = 64 + 1 → i ≤ 64 → rsI ts i σ.1 σ.2.1 σ.2.2.1 → hG p l e rmX6_readSquare s m args below meth c E A 1 (hQ E A below args s (some (.int (((frX6_readSquare_40 ts tx) n i σ).1))) [(mm, .inr (6, [.int 0, .ref m1, .int ts, .int (((frX6_readSquare_40 ts tx) n i σ).2.1), .int pe, .int tu, .ref m6, .ref m7, .int (((frX6_readSquare_40 ts tx) n i σ).2.2.1), .int (((frX6_readSquare_40 ts tx) n i σ).2.2.2.1), .ref ma, .ref mb, .ref mc, .ref md, .ref me, .int ac, .ref mg, .ref mh, .int sn, .ref mj, .ref mk, .long sd, .int sl])), (m1, .inl (E.2.1.1, 64, .inl tx)), (ma, .inl (E.2.1.1, 36, .inl (((frX6_readSquare_40 ts tx) n i σ).2.2.2.2.1))), (mb, .inl (E.2.1.1, 12, .inl (((frX6_readSquare_40 ts tx) n i σ).2.2.2.2.2)))]) 0 0 40 [(0, .ref mm)] [] [(mm, .inr (6, [.int 0, .ref m1, .int ts, .int σ.1, .int pe, .int tu, .ref m6, .ref m7, .int σ.2.1, .int σ.2.2.1, .ref ma, .ref mb, .ref mc, .ref md, .ref me, .int ac, .ref mg, .ref mh, .int sn, .ref mj, .ref mk, .long sd, .int sl])), (m1, .inl (E.2.1.1, 64, .inl tx)), (ma, .inl (E.2.1.1, 36, .inl σ.2.2.2.1)), (mb, .inl (E.2.1.1, 12, .inl σ.2.2.2.2))] := by
  intro n
  induction n with
  | zero =>
    intro i σ hi hiN hv
    exact absurd hi (by omega)
  | succ n ih =>
    intro i σ hi hiN hv
    refine hg_aload_n C dX6_readSquare_40 rfl 0 rfl ?_
    refine hg_get C (Cn := RX6) (T := TX6) (N := 23) (v := .int σ.1) mrX6_readSquare_6 0 rfl rfl 3 (by decide) mmX6_readSquare_f66 rfl dX6_readSquare_41 ?_
    refine hg_aload_n C dX6_readSquare_44 rfl 0 rfl ?_
    refine hg_get C (Cn := RX6) (T := TX6) (N := 23) (v := .int ts) mrX6_readSquare_6 0 rfl rfl 2 (by decide) mmX6_readSquare_f63 rfl dX6_readSquare_45 ?_
    refine hg_icmp_ge C (tgt := 63) dX6_readSquare_48 (by decide) (fun c5 => ?_) (fun c5 => ?_)
    · refine hg_bipush C (v := (-9)) dX6_readSquare_63 (by decide) ?_
      have e9 : (frX6_readSquare_40 ts tx) (n + 1) i σ = ((-9), σ.1, σ.2.1, σ.2.2.1, σ.2.2.2.1, σ.2.2.2.2) := (hid_eq _).trans ((if_pos c5).trans rfl)
      rw [e9]
      exact hg_iret C dX6_readSquare_65 rfl rfl
    · refine hg_aload_n C dX6_readSquare_51 rfl 0 rfl ?_
      refine hg_callV C (ws' := [(mm, .inr (6, [.int 0, .ref m1, .int ts, .int ((fX6_readPart ts σ.1 σ.2.1 σ.2.2.1 tx σ.2.2.2.1 σ.2.2.2.2).2.1), .int pe, .int tu, .ref m6, .ref m7, .int ((fX6_readPart ts σ.1 σ.2.1 σ.2.2.1 tx σ.2.2.2.1 σ.2.2.2.2).2.2.1), .int ((fX6_readPart ts σ.1 σ.2.1 σ.2.2.1 tx σ.2.2.2.1 σ.2.2.2.2).2.2.2.1), .ref ma, .ref mb, .ref mc, .ref md, .ref me, .int ac, .ref mg, .ref mh, .int sn, .ref mj, .ref mk, .long sd, .int sl])), (m1, .inl (E.2.1.1, 64, .inl tx)), (ma, .inl (E.2.1.1, 36, .inl ((fX6_readPart ts σ.1 σ.2.1 σ.2.2.1 tx σ.2.2.2.1 σ.2.2.2.2).2.2.2.2.1))), (mb, .inl (E.2.1.1, 12, .inl ((fX6_readPart ts σ.1 σ.2.1 σ.2.2.1 tx σ.2.2.2.1 σ.2.2.2.2).2.2.2.2.2)))]) (rest := []) (kX6_readPart l E mm m1 m6 m7 ma mb mc md me mg mh mj mk ts σ.1 pe tu σ.2.1 σ.2.2.1 ac sn sd sl tx σ.2.2.2.1 σ.2.2.2.2 hv.1 (fig_lt hv.1 (by assumption)) hv.2.2.1 hv.2.2.2) hfX6_readPart gX6_readSquare_X6_readPart ⟨Nat.le_of_ble_eq_true rfl, Nat.le_of_ble_eq_true rfl⟩ ⟨Nat.zero_le _, Nat.zero_le _⟩ [0, 1, 2, 3] rfl (by decide) [mm, m1, ma, mb] rfl rfl rfl 0 rfl rfl rfl rfl (Nat.le_of_ble_eq_true rfl) dX6_readSquare_52 ?_
      refine hg_if_ne C (tgt := 40) dX6_readSquare_55 (by decide) (fun c6 => ?_) (fun c6 => ?_)
      · have hlt : i < 64 := (rs_lt hv (by assumption))
        have e9 : (frX6_readSquare_40 ts tx) (n + 1) i σ = (frX6_readSquare_40 ts tx) n (i + 1) ((fX6_readPart ts σ.1 σ.2.1 σ.2.2.1 tx σ.2.2.2.1 σ.2.2.2.2).2.1, (fX6_readPart ts σ.1 σ.2.1 σ.2.2.1 tx σ.2.2.2.1 σ.2.2.2.2).2.2.1, (fX6_readPart ts σ.1 σ.2.1 σ.2.2.1 tx σ.2.2.2.1 σ.2.2.2.2).2.2.2.1, (fX6_readPart ts σ.1 σ.2.1 σ.2.2.1 tx σ.2.2.2.1 σ.2.2.2.2).2.2.2.2.1, (fX6_readPart ts σ.1 σ.2.1 σ.2.2.1 tx σ.2.2.2.1 σ.2.2.2.2).2.2.2.2.2) := (hid_eq _).trans ((if_neg c5).trans ((if_neg c6).trans rfl))
        rw [e9]
        exact hg_sub [0] rfl (ih (i + 1) ((fX6_readPart ts σ.1 σ.2.1 σ.2.2.1 tx σ.2.2.2.1 σ.2.2.2.2).2.1, (fX6_readPart ts σ.1 σ.2.1 σ.2.2.1 tx σ.2.2.2.1 σ.2.2.2.2).2.2.1, (fX6_readPart ts σ.1 σ.2.1 σ.2.2.1 tx σ.2.2.2.1 σ.2.2.2.2).2.2.2.1, (fX6_readPart ts σ.1 σ.2.1 σ.2.2.1 tx σ.2.2.2.1 σ.2.2.2.2).2.2.2.2.1, (fX6_readPart ts σ.1 σ.2.1 σ.2.2.1 tx σ.2.2.2.1 σ.2.2.2.2).2.2.2.2.2) (by omega) (by omega) (rs_nx hv (by assumption) (by assumption)))
      · refine hg_aload_n C dX6_readSquare_58 rfl 0 rfl ?_
        refine hg_get C (Cn := RX6) (T := TX6) (N := 23) (v := .int ((fX6_readPart ts σ.1 σ.2.1 σ.2.2.1 tx σ.2.2.2.1 σ.2.2.2.2).2.1)) mrX6_readSquare_6 0 rfl rfl 3 (by decide) mmX6_readSquare_f66 rfl dX6_readSquare_59 ?_
        have e9 : (frX6_readSquare_40 ts tx) (n + 1) i σ = ((fX6_readPart ts σ.1 σ.2.1 σ.2.2.1 tx σ.2.2.2.1 σ.2.2.2.2).2.1, (fX6_readPart ts σ.1 σ.2.1 σ.2.2.1 tx σ.2.2.2.1 σ.2.2.2.2).2.1, (fX6_readPart ts σ.1 σ.2.1 σ.2.2.1 tx σ.2.2.2.1 σ.2.2.2.2).2.2.1, (fX6_readPart ts σ.1 σ.2.1 σ.2.2.1 tx σ.2.2.2.1 σ.2.2.2.2).2.2.2.1, (fX6_readPart ts σ.1 σ.2.1 σ.2.2.1 tx σ.2.2.2.1 σ.2.2.2.2).2.2.2.2.1, (fX6_readPart ts σ.1 σ.2.1 σ.2.2.1 tx σ.2.2.2.1 σ.2.2.2.2).2.2.2.2.2) := (hid_eq _).trans ((if_neg c5).trans ((if_pos c6).trans rfl))
        rw [e9]
        exact hg_iret C dX6_readSquare_62 rfl rfl
noncomputable def fX6_readSquare (ts : Int32) (tx : Nat → Int32) (rto : Nat → Int32) (rso : Nat → Int32) : Int32 × Int32 × Int32 × Int32 × (Nat → Int32) × (Nat → Int32) := hid (if ts = 0 then (0, 0, 0, 0, rto, rso) else if (tx (0 : Int32).toNatClampNeg) = 72 then (frX6_readSquare_40 ts tx) (64 + 1) 0 (1, 0, 0, rto, rso) else (0, 0, 0, 0, rto, rso))
set_option maxHeartbeats 4000000 in
set_option maxRecDepth 100000 in
theorem kX6_readSquare (l : Launch) (E : hE) (mm : Nat) (m1 : Nat) (m6 : Nat) (m7 : Nat) (ma : Nat) (mb : Nat) (mc : Nat) (md : Nat) (me : Nat) (mg : Nat) (mh : Nat) (mj : Nat) (mk : Nat) (ts : Int32) (pc : Int32) (pe : Int32) (tu : Int32) (rp : Int32) (rt : Int32) (ac : Int32) (sn : Int32) (sd : Int64) (sl : Int32) (tx : Nat → Int32) (rto : Nat → Int32) (rso : Nat → Int32) (hts : vp_in ts 65) : hC l yX6_readSquare wsX6_readSquare rmX6_readSquare E [.ref mm] [(mm, .inr (6, [.int 0, .ref m1, .int ts, .int pc, .int pe, .int tu, .ref m6, .ref m7, .int rp, .int rt, .ref ma, .ref mb, .ref mc, .ref md, .ref me, .int ac, .ref mg, .ref mh, .int sn, .ref mj, .ref mk, .long sd, .int sl])), (m1, .inl (E.2.1.1, 64, .inl tx)), (ma, .inl (E.2.1.1, 36, .inl rto)), (mb, .inl (E.2.1.1, 12, .inl rso))] (some (.int ((fX6_readSquare ts tx rto rso).1))) [(mm, .inr (6, [.int 0, .ref m1, .int ts, .int ((fX6_readSquare ts tx rto rso).2.1), .int pe, .int tu, .ref m6, .ref m7, .int ((fX6_readSquare ts tx rto rso).2.2.1), .int ((fX6_readSquare ts tx rto rso).2.2.2.1), .ref ma, .ref mb, .ref mc, .ref md, .ref me, .int ac, .ref mg, .ref mh, .int sn, .ref mj, .ref mk, .long sd, .int sl])), (m1, .inl (E.2.1.1, 64, .inl tx)), (ma, .inl (E.2.1.1, 36, .inl ((fX6_readSquare ts tx rto rso).2.2.2.2.1))), (mb, .inl (E.2.1.1, 12, .inl ((fX6_readSquare ts tx rto rso).2.2.2.2.2)))] := by
  refine hC_intro (cc := cX6_readSquare) (maxL := 1) (ret := (some .int)) (lv0 := [(0, .ref mm)]) (by decide) rfl (Nat.le_of_ble_eq_true rfl) rfl ?_
  intro p e s m below meth c A C
  refine hg_aload_n C dX6_readSquare_0 rfl 0 rfl ?_
  refine hg_iconst C (v := 0) dX6_readSquare_1 (by decide) ?_
  refine hg_put C (Cn := RX6) (T := TX6) (N := 23) (ws' := [(mm, .inr (6, [.int 0, .ref m1, .int ts, .int 0, .int pe, .int tu, .ref m6, .ref m7, .int rp, .int rt, .ref ma, .ref mb, .ref mc, .ref md, .ref me, .int ac, .ref mg, .ref mh, .int sn, .ref mj, .ref mk, .long sd, .int sl])), (m1, .inl (E.2.1.1, 64, .inl tx)), (ma, .inl (E.2.1.1, 36, .inl rto)), (mb, .inl (E.2.1.1, 12, .inl rso))]) mrX6_readSquare_6 tyX6 tyX6_ok nmX6 0 rfl rfl 3 (by decide) mmX6_readSquare_f66 rfl rfl rfl rfl (Nat.le_of_ble_eq_true rfl) rfl dX6_readSquare_2 ?_
  refine hg_aload_n C dX6_readSquare_5 rfl 0 rfl ?_
  refine hg_iconst C (v := 0) dX6_readSquare_6 (by decide) ?_
  refine hg_put C (Cn := RX6) (T := TX6) (N := 23) (ws' := [(mm, .inr (6, [.int 0, .ref m1, .int ts, .int 0, .int pe, .int tu, .ref m6, .ref m7, .int 0, .int rt, .ref ma, .ref mb, .ref mc, .ref md, .ref me, .int ac, .ref mg, .ref mh, .int sn, .ref mj, .ref mk, .long sd, .int sl])), (m1, .inl (E.2.1.1, 64, .inl tx)), (ma, .inl (E.2.1.1, 36, .inl rto)), (mb, .inl (E.2.1.1, 12, .inl rso))]) mrX6_readSquare_6 tyX6 tyX6_ok nmX6 0 rfl rfl 8 (by decide) mmX6_readSquare_f77 rfl rfl rfl rfl (Nat.le_of_ble_eq_true rfl) rfl dX6_readSquare_7 ?_
  refine hg_aload_n C dX6_readSquare_10 rfl 0 rfl ?_
  refine hg_iconst C (v := 0) dX6_readSquare_11 (by decide) ?_
  refine hg_put C (Cn := RX6) (T := TX6) (N := 23) (ws' := [(mm, .inr (6, [.int 0, .ref m1, .int ts, .int 0, .int pe, .int tu, .ref m6, .ref m7, .int 0, .int 0, .ref ma, .ref mb, .ref mc, .ref md, .ref me, .int ac, .ref mg, .ref mh, .int sn, .ref mj, .ref mk, .long sd, .int sl])), (m1, .inl (E.2.1.1, 64, .inl tx)), (ma, .inl (E.2.1.1, 36, .inl rto)), (mb, .inl (E.2.1.1, 12, .inl rso))]) mrX6_readSquare_6 tyX6 tyX6_ok nmX6 0 rfl rfl 9 (by decide) mmX6_readSquare_f80 rfl rfl rfl rfl (Nat.le_of_ble_eq_true rfl) rfl dX6_readSquare_12 ?_
  refine hg_aload_n C dX6_readSquare_15 rfl 0 rfl ?_
  refine hg_get C (Cn := RX6) (T := TX6) (N := 23) (v := .int ts) mrX6_readSquare_6 0 rfl rfl 2 (by decide) mmX6_readSquare_f63 rfl dX6_readSquare_16 ?_
  refine hg_if_eq C (tgt := 33) dX6_readSquare_19 (by decide) (fun c1 => ?_) (fun c1 => ?_)
  · refine hg_iconst C (v := 0) dX6_readSquare_33 (by decide) ?_
    have e9 : (fX6_readSquare ts tx rto rso) = (0, 0, 0, 0, rto, rso) := (hid_eq _).trans ((if_pos c1).trans rfl)
    rw [e9]
    exact hg_iret C dX6_readSquare_34 rfl rfl
  · refine hg_aload_n C dX6_readSquare_22 rfl 0 rfl ?_
    refine hg_get C (Cn := RX6) (T := TX6) (N := 23) (v := .ref m1) mrX6_readSquare_6 0 rfl rfl 1 (by decide) mmX6_readSquare_f7 rfl dX6_readSquare_23 ?_
    refine hg_iconst C (v := 0) dX6_readSquare_26 (by decide) ?_
    refine hg_iald C 1 rfl (by unfold vp_in; decide) dX6_readSquare_27 ?_
    refine hg_bipush C (v := 72) dX6_readSquare_28 (by decide) ?_
    refine hg_icmp_eq C (tgt := 35) dX6_readSquare_30 (by decide) (fun c2 => ?_) (fun c2 => ?_)
    · refine hg_aload_n C dX6_readSquare_35 rfl 0 rfl ?_
      refine hg_iconst C (v := 1) dX6_readSquare_36 (by decide) ?_
      refine hg_put C (Cn := RX6) (T := TX6) (N := 23) (ws' := [(mm, .inr (6, [.int 0, .ref m1, .int ts, .int 1, .int pe, .int tu, .ref m6, .ref m7, .int 0, .int 0, .ref ma, .ref mb, .ref mc, .ref md, .ref me, .int ac, .ref mg, .ref mh, .int sn, .ref mj, .ref mk, .long sd, .int sl])), (m1, .inl (E.2.1.1, 64, .inl tx)), (ma, .inl (E.2.1.1, 36, .inl rto)), (mb, .inl (E.2.1.1, 12, .inl rso))]) mrX6_readSquare_6 tyX6 tyX6_ok nmX6 0 rfl rfl 3 (by decide) mmX6_readSquare_f66 rfl rfl rfl rfl (Nat.le_of_ble_eq_true rfl) rfl dX6_readSquare_37 ?_
      have e9 : (fX6_readSquare ts tx rto rso) = (frX6_readSquare_40 ts tx) (64 + 1) 0 (1, 0, 0, rto, rso) := (hid_eq _).trans ((if_neg c1).trans ((if_pos c2).trans rfl))
      rw [e9]
      refine hg_sub [0] rfl ?_
      exact lpX6_readSquare_40 C mm m1 m6 m7 ma mb mc md me mg mh mj mk ts pc pe tu rp rt ac sn sd sl tx rto rso hts (64 + 1) 0 (1, 0, 0, rto, rso) (by omega) (by omega) (rs_0 hts (by assumption))
    · refine hg_iconst C (v := 0) dX6_readSquare_33 (by decide) ?_
      have e9 : (fX6_readSquare ts tx rto rso) = (0, 0, 0, 0, rto, rso) := (hid_eq _).trans ((if_neg c1).trans ((if_neg c2).trans rfl))
      rw [e9]
      exact hg_iret C dX6_readSquare_34 rfl rfl
theorem mmX6_fault_f47 : (Cond.fieldLink RX6 47 "HatRoundModel" "thrown" "I") ∈ wsX6_fault := (List.mem_cons_of_mem _ (List.mem_append_left _ (List.mem_append_left _ (List.mem_of_getElem? (i := 0) rfl))))
theorem mrX6_fault_6 : ∀ w ∈ u_ws RX6 TX6 23, w ∈ wsX6_fault := fun _ h => (List.mem_cons_of_mem _ (List.mem_append_right _ h))
abbrev rmX6_fault : Room := { frames := 5, cells := 0, slots := 0, locals := 111 }
theorem hfX6_fault : hCF yX6_fault wsX6_fault rmX6_fault cX6_fault 1 (some .int) 0 := ⟨⟨_, rfl⟩, by decide +kernel, rfl, rfl⟩
noncomputable def fX6_fault (ts : Int32) (tx : Nat → Int32) (rto : Nat → Int32) (rso : Nat → Int32) : Int32 × Int32 × Int32 × Int32 × (Nat → Int32) × (Nat → Int32) := hid (((fX6_readSquare ts tx rto rso).1, (fX6_readSquare ts tx rto rso).2.1, (fX6_readSquare ts tx rto rso).2.2.1, (fX6_readSquare ts tx rto rso).2.2.2.1, (fX6_readSquare ts tx rto rso).2.2.2.2.1, (fX6_readSquare ts tx rto rso).2.2.2.2.2))
set_option maxHeartbeats 4000000 in
set_option maxRecDepth 100000 in
theorem kX6_fault (l : Launch) (E : hE) (mm : Nat) (m1 : Nat) (m6 : Nat) (m7 : Nat) (ma : Nat) (mb : Nat) (mc : Nat) (md : Nat) (me : Nat) (mg : Nat) (mh : Nat) (mj : Nat) (mk : Nat) (ts : Int32) (pc : Int32) (pe : Int32) (tu : Int32) (rp : Int32) (rt : Int32) (ac : Int32) (sn : Int32) (sd : Int64) (sl : Int32) (tx : Nat → Int32) (rto : Nat → Int32) (rso : Nat → Int32) (hts : vp_in ts 65) : hC l yX6_fault wsX6_fault rmX6_fault E [.ref mm] [(mm, .inr (6, [.int 0, .ref m1, .int ts, .int pc, .int pe, .int tu, .ref m6, .ref m7, .int rp, .int rt, .ref ma, .ref mb, .ref mc, .ref md, .ref me, .int ac, .ref mg, .ref mh, .int sn, .ref mj, .ref mk, .long sd, .int sl])), (m1, .inl (E.2.1.1, 64, .inl tx)), (ma, .inl (E.2.1.1, 36, .inl rto)), (mb, .inl (E.2.1.1, 12, .inl rso))] (some (.int ((fX6_fault ts tx rto rso).1))) [(mm, .inr (6, [.int 0, .ref m1, .int ts, .int ((fX6_fault ts tx rto rso).2.1), .int pe, .int tu, .ref m6, .ref m7, .int ((fX6_fault ts tx rto rso).2.2.1), .int ((fX6_fault ts tx rto rso).2.2.2.1), .ref ma, .ref mb, .ref mc, .ref md, .ref me, .int ac, .ref mg, .ref mh, .int sn, .ref mj, .ref mk, .long sd, .int sl])), (m1, .inl (E.2.1.1, 64, .inl tx)), (ma, .inl (E.2.1.1, 36, .inl ((fX6_fault ts tx rto rso).2.2.2.2.1))), (mb, .inl (E.2.1.1, 12, .inl ((fX6_fault ts tx rto rso).2.2.2.2.2)))] := by
  refine hC_intro (cc := cX6_fault) (maxL := 1) (ret := (some .int)) (lv0 := [(0, .ref mm)]) (by decide) rfl (Nat.le_of_ble_eq_true rfl) rfl ?_
  intro p e s m below meth c A C
  refine hg_aload_n C dX6_fault_0 rfl 0 rfl ?_
  refine hg_iconst C (v := 0) dX6_fault_1 (by decide) ?_
  refine hg_put C (Cn := RX6) (T := TX6) (N := 23) (ws' := [(mm, .inr (6, [.int 0, .ref m1, .int ts, .int pc, .int pe, .int tu, .ref m6, .ref m7, .int rp, .int rt, .ref ma, .ref mb, .ref mc, .ref md, .ref me, .int ac, .ref mg, .ref mh, .int sn, .ref mj, .ref mk, .long sd, .int sl])), (m1, .inl (E.2.1.1, 64, .inl tx)), (ma, .inl (E.2.1.1, 36, .inl rto)), (mb, .inl (E.2.1.1, 12, .inl rso))]) mrX6_fault_6 tyX6 tyX6_ok nmX6 0 rfl rfl 0 (by decide) mmX6_fault_f47 rfl rfl rfl rfl (Nat.le_of_ble_eq_true rfl) rfl dX6_fault_2 ?_
  refine hg_aload_n C dX6_fault_5 rfl 0 rfl ?_
  refine hg_callV C (ws' := [(mm, .inr (6, [.int 0, .ref m1, .int ts, .int ((fX6_readSquare ts tx rto rso).2.1), .int pe, .int tu, .ref m6, .ref m7, .int ((fX6_readSquare ts tx rto rso).2.2.1), .int ((fX6_readSquare ts tx rto rso).2.2.2.1), .ref ma, .ref mb, .ref mc, .ref md, .ref me, .int ac, .ref mg, .ref mh, .int sn, .ref mj, .ref mk, .long sd, .int sl])), (m1, .inl (E.2.1.1, 64, .inl tx)), (ma, .inl (E.2.1.1, 36, .inl ((fX6_readSquare ts tx rto rso).2.2.2.2.1))), (mb, .inl (E.2.1.1, 12, .inl ((fX6_readSquare ts tx rto rso).2.2.2.2.2)))]) (rest := []) (kX6_readSquare l E mm m1 m6 m7 ma mb mc md me mg mh mj mk ts pc pe tu rp rt ac sn sd sl tx rto rso hts) hfX6_readSquare gX6_fault_X6_readSquare ⟨Nat.le_of_ble_eq_true rfl, Nat.le_of_ble_eq_true rfl⟩ ⟨Nat.zero_le _, Nat.zero_le _⟩ [0, 1, 2, 3] rfl (by decide) [mm, m1, ma, mb] rfl rfl rfl 0 rfl rfl rfl rfl (Nat.le_of_ble_eq_true rfl) dX6_fault_6 ?_
  have e9 : (fX6_fault ts tx rto rso) = ((fX6_readSquare ts tx rto rso).1, (fX6_readSquare ts tx rto rso).2.1, (fX6_readSquare ts tx rto rso).2.2.1, (fX6_readSquare ts tx rto rso).2.2.2.1, (fX6_readSquare ts tx rto rso).2.2.2.2.1, (fX6_readSquare ts tx rto rso).2.2.2.2.2) := hid_eq _
  rw [e9]
  exact hg_iret C dX6_fault_9 rfl rfl
theorem rs_fig {ts pc rp rt : Int32} {tx rto rso : Nat → Int32} {i : Nat} (hv : rsI ts i pc rp rt) (h1 : ¬ ts ≤ pc) : figP (fX6_readPart ts pc rp rt tx rto rso).2.1 ts := by
  obtain ⟨h2, h3, h4, h5⟩ := hv
  have hs := fig_s h2 (fig_lt h2 h1)
  unfold fX6_readPart
  rw [hid_eq]
  have kt := (rt_ok (rt := rt) (tx := tx) (rso := rso) hs).1
  have kp := (rp_ok (rp := rp) (tx := tx) (rto := rto) hs).1
  (repeat' split) <;> first | exact h2 | exact kt | exact kp
theorem fig_n9 {pc ts : Int32} (h : figP pc ts) (h9 : pc = (-9)) : False := by
  obtain ⟨j, k, rfl, -, h1, h2⟩ := h
  exact absurd (show nI j < 0 by rw [h9]; decide) (nI_pos (by omega))
theorem rS_ok (ts : Int32) (tx : Nat → Int32) : ∀ (n i : Nat) (σ : Int32 × Int32 × Int32 × (Nat → Int32) × (Nat → Int32)), rsI ts i σ.1 σ.2.1 σ.2.2.1 → ((frX6_readSquare_40 ts tx n i σ).1 = (-9) → vp_in (frX6_readSquare_40 ts tx n i σ).2.2.1 7 ∧ vp_in (frX6_readSquare_40 ts tx n i σ).2.2.2.1 5)
  | 0, _, σ, h => fun h9 => ⟨h.2.2.1, h.2.2.2⟩
  | n + 1, i, σ, h => by
    unfold frX6_readSquare_40
    rw [hid_eq]
    split
    · exact fun _ => ⟨h.2.2.1, h.2.2.2⟩
    · rename_i h1
      split
      · intro h9
        exact absurd h9 (fun q => fig_n9 (rs_fig h h1) q)
      · rename_i h2
        exact rS_ok ts tx n (i + 1) _ (rs_nx h h1 h2)
theorem sq_b {ts : Int32} {tx rto rso : Nat → Int32} (hts : vp_in ts 65) : (fX6_readSquare ts tx rto rso).1 = (-9) → vp_in (fX6_readSquare ts tx rto rso).2.2.1 7 ∧ vp_in (fX6_readSquare ts tx rto rso).2.2.2.1 5 := by
  unfold fX6_readSquare
  rw [hid_eq]
  split
  · exact fun h => absurd h (by show ¬ (0 : Int32) = (-9); decide)
  · rename_i h0
    split
    · exact rS_ok ts tx _ 0 _ (rs_0 hts h0)
    · exact fun h => absurd h (by show ¬ (0 : Int32) = (-9); decide)
theorem sq_6 {x : Int32} (h : vp_in x 7) : ((6 : Int32) * x).toNatClampNeg ≤ 36 := by
  obtain ⟨j, hj, rfl⟩ := vp_in_of h (by decide)
  rw [show (6 : Int32) * nI j = nI (6 * j) from pk_mul 6 j, nI_clamp (by omega)]
  omega
theorem sq_3 {x : Int32} (h : vp_in x 5) : ((3 : Int32) * x).toNatClampNeg ≤ 12 := by
  obtain ⟨j, hj, rfl⟩ := vp_in_of h (by decide)
  rw [show (3 : Int32) * nI j = nI (3 * j) from pk_mul 3 j, nI_clamp (by omega)]
  omega

theorem mmX6_square_f47 : (Cond.fieldLink RX6 47 "HatRoundModel" "thrown" "I") ∈ wsX6_square := (List.mem_cons_of_mem _ (List.mem_append_left _ (List.mem_append_left _ (List.mem_of_getElem? (i := 0) rfl))))
theorem mrX6_square_6 : ∀ w ∈ u_ws RX6 TX6 23, w ∈ wsX6_square := fun _ h => (List.mem_cons_of_mem _ (List.mem_append_right _ h))
theorem mmX6_square_f77 : (Cond.fieldLink RX6 77 "HatRoundModel" "readPeople" "I") ∈ wsX6_square := (List.mem_cons_of_mem _ (List.mem_append_left _ (List.mem_append_left _ (List.mem_of_getElem? (i := 1) rfl))))
theorem mmX6_square_f51 : (Cond.fieldLink RX6 51 "HatRoundModel" "people" "I") ∈ wsX6_square := (List.mem_cons_of_mem _ (List.mem_append_left _ (List.mem_append_left _ (List.mem_of_getElem? (i := 2) rfl))))
theorem mmX6_square_f80 : (Cond.fieldLink RX6 80 "HatRoundModel" "readTunes" "I") ∈ wsX6_square := (List.mem_cons_of_mem _ (List.mem_append_left _ (List.mem_append_left _ (List.mem_of_getElem? (i := 3) rfl))))
theorem mmX6_square_f58 : (Cond.fieldLink RX6 58 "HatRoundModel" "tunes" "I") ∈ wsX6_square := (List.mem_cons_of_mem _ (List.mem_append_left _ (List.mem_append_left _ (List.mem_of_getElem? (i := 4) rfl))))
theorem mmX6_square_f25 : (Cond.fieldLink RX6 25 "HatRoundModel" "page" "[I") ∈ wsX6_square := (List.mem_cons_of_mem _ (List.mem_append_left _ (List.mem_append_left _ (List.mem_of_getElem? (i := 5) rfl))))
theorem mmX6_square_f13 : (Cond.fieldLink RX6 13 "HatRoundModel" "told" "[I") ∈ wsX6_square := (List.mem_cons_of_mem _ (List.mem_append_left _ (List.mem_append_left _ (List.mem_of_getElem? (i := 6) rfl))))
theorem mmX6_square_f19 : (Cond.fieldLink RX6 19 "HatRoundModel" "readTold" "[I") ∈ wsX6_square := (List.mem_cons_of_mem _ (List.mem_append_left _ (List.mem_append_left _ (List.mem_of_getElem? (i := 7) rfl))))
theorem mmX6_square_f16 : (Cond.fieldLink RX6 16 "HatRoundModel" "song" "[I") ∈ wsX6_square := (List.mem_cons_of_mem _ (List.mem_append_left _ (List.mem_append_left _ (List.mem_of_getElem? (i := 8) rfl))))
theorem mmX6_square_f22 : (Cond.fieldLink RX6 22 "HatRoundModel" "readSong" "[I") ∈ wsX6_square := (List.mem_cons_of_mem _ (List.mem_append_left _ (List.mem_append_left _ (List.mem_of_getElem? (i := 9) rfl))))
theorem mmX6_square_f97 : (Cond.fieldLink RX6 97 "HatRoundModel" "acts" "I") ∈ wsX6_square := (List.mem_cons_of_mem _ (List.mem_append_left _ (List.mem_append_left _ (List.mem_of_getElem? (i := 10) rfl))))
theorem mmX6_square_f37 : (Cond.fieldLink RX6 37 "HatRoundModel" "isKept" "[Z") ∈ wsX6_square := (List.mem_cons_of_mem _ (List.mem_append_left _ (List.mem_append_left _ (List.mem_of_getElem? (i := 11) rfl))))
abbrev rmX6_square : Room := { frames := 5, cells := 0, slots := 0, locals := 111 }
theorem hfX6_square : hCF yX6_square wsX6_square rmX6_square cX6_square 2 (some .int) 0 := ⟨⟨_, rfl⟩, by decide +kernel, rfl, rfl⟩
noncomputable def stX6_square_35  (i : Nat) (σ : (Nat → Int32)) : (Nat → Int32) := hid (upd σ (nI i).toNatClampNeg 0)
set_option maxHeartbeats 4000000 in
set_option maxRecDepth 100000 in
theorem lpX6_square_35 {p : Program} {l : Launch} {e : Env} {s : State} {m : MethodId} {args : Array Value} {below : List Frame} {meth : Method} {c : Code} {E : hE} {A : Nat → Prop} {Q : State → Prop} (C : hX p s m args meth c E A cX6_square 2 RX6 wsX6_square (some .int)) (mm : Nat) (m1 : Nat) (m6 : Nat) (m7 : Nat) (ma : Nat) (mb : Nat) (mc : Nat) (md : Nat) (me : Nat) (mg : Nat) (mh : Nat) (mj : Nat) (mk : Nat) (ts : Int32) (pc : Int32) (pe : Int32) (tu : Int32) (rp : Int32) (rt : Int32) (ac : Int32) (sn : Int32) (sd : Int64) (sl : Int32) (tx : Nat → Int32) (to : Nat → Int32) (so : Nat → Int32) (rto : Nat → Int32) (rso : Nat → Int32) (pg : Nat → Int32) (ik : Nat → Int32) (v0_3 : Int32) (v0_4 : Int32) (v0_5 : Int32) (v0_8 : Int32) (v0_9 : Int32) (v4 : Nat → Int32) (v5 : Nat → Int32) (hts : vp_in ts 65) (σ0 : (Nat → Int32)) (k : hG p l e rmX6_square s m args below meth c E A 2 Q 0 0 54 [(0, .ref mm)] [] [(mm, .inr (6, [.int 0, .ref m1, .int ts, .int v0_3, .int v0_4, .int v0_5, .ref m6, .ref m7, .int v0_8, .int v0_9, .ref ma, .ref mb, .ref mc, .ref md, .ref me, .int ac, .ref mg, .ref mh, .int sn, .ref mj, .ref mk, .long sd, .int sl])), (m1, .inl (E.2.1.1, 64, .inl tx)), (m6, .inl (E.2.1.1, 36, .inl to)), (m7, .inl (E.2.1.1, 12, .inl so)), (ma, .inl (E.2.1.1, 36, .inl v4)), (mb, .inl (E.2.1.1, 12, .inl v5)), (mc, .inl (E.2.1.1, 21, .inl (itN stX6_square_35 21 σ0))), (mh, .inl (E.2.1.2.1, 2, .inl ik))]) : ∀ (n i : Nat) (σ : (Nat → Int32)), i + n = 21 → σ = itN stX6_square_35 i σ0 → hG p l e rmX6_square s m args below meth c E A 2 Q 0 0 35 [(0, .ref mm), (1, .int (nI i))] [] [(mm, .inr (6, [.int 0, .ref m1, .int ts, .int v0_3, .int v0_4, .int v0_5, .ref m6, .ref m7, .int v0_8, .int v0_9, .ref ma, .ref mb, .ref mc, .ref md, .ref me, .int ac, .ref mg, .ref mh, .int sn, .ref mj, .ref mk, .long sd, .int sl])), (m1, .inl (E.2.1.1, 64, .inl tx)), (m6, .inl (E.2.1.1, 36, .inl to)), (m7, .inl (E.2.1.1, 12, .inl so)), (ma, .inl (E.2.1.1, 36, .inl v4)), (mb, .inl (E.2.1.1, 12, .inl v5)), (mc, .inl (E.2.1.1, 21, .inl σ)), (mh, .inl (E.2.1.2.1, 2, .inl ik))] := by
  intro n
  induction n with
  | zero =>
    intro i σ hi hσ
    have hi : i = 21 := by omega
    rw [hi] at hσ
    rw [hi]
    subst hσ
    refine hg_iload_n C dX6_square_35 rfl 1 rfl ?_
    refine hg_bipush C (v := 21) dX6_square_36 (by decide) ?_
    refine hg_icmp_ge C (tgt := 54) dX6_square_38 (by decide) (fun _ => ?_) (fun h => absurd (by decide) h)
    exact hg_sub [0] rfl k
  | succ n ih =>
    intro i σ hi hσ
    have hlt : i < 21 := by omega
    refine hg_iload_n C dX6_square_35 rfl 1 rfl ?_
    refine hg_bipush C (v := 21) dX6_square_36 (by decide) ?_
    refine hg_icmp_ge C (tgt := 54) dX6_square_38 (by decide) (fun h => absurd h (nI_ge hlt (by decide))) (fun _ => ?_)
    refine hg_aload_n C dX6_square_41 rfl 0 rfl ?_
    refine hg_get C (Cn := RX6) (T := TX6) (N := 23) (v := .ref mc) mrX6_square_6 0 rfl rfl 12 (by decide) mmX6_square_f25 rfl dX6_square_42 ?_
    refine hg_iload_n C dX6_square_45 rfl 1 rfl ?_
    refine hg_iconst C (v := 0) dX6_square_46 (by decide) ?_
    refine hg_iast C (ws' := [(mm, .inr (6, [.int 0, .ref m1, .int ts, .int v0_3, .int v0_4, .int v0_5, .ref m6, .ref m7, .int v0_8, .int v0_9, .ref ma, .ref mb, .ref mc, .ref md, .ref me, .int ac, .ref mg, .ref mh, .int sn, .ref mj, .ref mk, .long sd, .int sl])), (m1, .inl (E.2.1.1, 64, .inl tx)), (m6, .inl (E.2.1.1, 36, .inl to)), (m7, .inl (E.2.1.1, 12, .inl so)), (ma, .inl (E.2.1.1, 36, .inl v4)), (mb, .inl (E.2.1.1, 12, .inl v5)), (mc, .inl (E.2.1.1, 21, .inl (upd σ (nI i).toNatClampNeg 0))), (mh, .inl (E.2.1.2.1, 2, .inl ik))]) 6 rfl (vp_in_nI (by omega) (by decide)) rfl dX6_square_47 ?_
    refine hg_iinc C (v := nI (i + 1)) (lv' := [(1, .int (nI (i + 1))), (0, .ref mm)]) dX6_square_48 1 rfl (nI_inc _) (by decide) rfl ?_
    refine hg_goto C (tgt := 35) dX6_square_51 (by decide) ?_
    have e9 : stX6_square_35 i σ = upd σ (nI i).toNatClampNeg 0 := hid_eq _
    have h9 := ih (i + 1) (upd σ (nI i).toNatClampNeg 0) (by omega) (e9.symm.trans (congrArg (stX6_square_35 i) hσ))
    exact hg_sub [1, 0] rfl h9
noncomputable def stX6_square_56 (v4 : Nat → Int32) (i : Nat) (σ : (Nat → Int32)) : (Nat → Int32) := hid (upd σ (nI i).toNatClampNeg (v4 (nI i).toNatClampNeg))
set_option maxHeartbeats 4000000 in
set_option maxRecDepth 100000 in
theorem lpX6_square_56 {p : Program} {l : Launch} {e : Env} {s : State} {m : MethodId} {args : Array Value} {below : List Frame} {meth : Method} {c : Code} {E : hE} {A : Nat → Prop} {Q : State → Prop} (C : hX p s m args meth c E A cX6_square 2 RX6 wsX6_square (some .int)) (mm : Nat) (m1 : Nat) (m6 : Nat) (m7 : Nat) (ma : Nat) (mb : Nat) (mc : Nat) (md : Nat) (me : Nat) (mg : Nat) (mh : Nat) (mj : Nat) (mk : Nat) (ts : Int32) (pc : Int32) (pe : Int32) (tu : Int32) (rp : Int32) (rt : Int32) (ac : Int32) (sn : Int32) (sd : Int64) (sl : Int32) (tx : Nat → Int32) (to : Nat → Int32) (so : Nat → Int32) (rto : Nat → Int32) (rso : Nat → Int32) (pg : Nat → Int32) (ik : Nat → Int32) (v0_3 : Int32) (v0_4 : Int32) (v0_5 : Int32) (v0_8 : Int32) (v0_9 : Int32) (v4 : Nat → Int32) (v5 : Nat → Int32) (v6 : Nat → Int32) (hts : vp_in ts 65) (h6 : ((6 : Int32) * v0_4).toNatClampNeg ≤ 36) (σ0 : (Nat → Int32)) (k : hG p l e rmX6_square s m args below meth c E A 2 Q 0 0 85 [(0, .ref mm)] [] [(mm, .inr (6, [.int 0, .ref m1, .int ts, .int v0_3, .int v0_4, .int v0_5, .ref m6, .ref m7, .int v0_8, .int v0_9, .ref ma, .ref mb, .ref mc, .ref md, .ref me, .int ac, .ref mg, .ref mh, .int sn, .ref mj, .ref mk, .long sd, .int sl])), (m1, .inl (E.2.1.1, 64, .inl tx)), (m6, .inl (E.2.1.1, 36, .inl (itN (stX6_square_56 v4) (((6 : Int32) * v0_4).toNatClampNeg) σ0))), (m7, .inl (E.2.1.1, 12, .inl so)), (ma, .inl (E.2.1.1, 36, .inl v4)), (mb, .inl (E.2.1.1, 12, .inl v5)), (mc, .inl (E.2.1.1, 21, .inl v6)), (mh, .inl (E.2.1.2.1, 2, .inl ik))]) : ∀ (n i : Nat) (σ : (Nat → Int32)), i + n = ((6 : Int32) * v0_4).toNatClampNeg → σ = itN (stX6_square_56 v4) i σ0 → hG p l e rmX6_square s m args below meth c E A 2 Q 0 0 56 [(0, .ref mm), (1, .int (nI i))] [] [(mm, .inr (6, [.int 0, .ref m1, .int ts, .int v0_3, .int v0_4, .int v0_5, .ref m6, .ref m7, .int v0_8, .int v0_9, .ref ma, .ref mb, .ref mc, .ref md, .ref me, .int ac, .ref mg, .ref mh, .int sn, .ref mj, .ref mk, .long sd, .int sl])), (m1, .inl (E.2.1.1, 64, .inl tx)), (m6, .inl (E.2.1.1, 36, .inl σ)), (m7, .inl (E.2.1.1, 12, .inl so)), (ma, .inl (E.2.1.1, 36, .inl v4)), (mb, .inl (E.2.1.1, 12, .inl v5)), (mc, .inl (E.2.1.1, 21, .inl v6)), (mh, .inl (E.2.1.2.1, 2, .inl ik))] := by
  intro n
  induction n with
  | zero =>
    intro i σ hi hσ
    have hi : i = ((6 : Int32) * v0_4).toNatClampNeg := by omega
    rw [hi] at hσ
    rw [hi]
    subst hσ
    refine hg_iload_n C dX6_square_56 rfl 1 rfl ?_
    refine hg_bipush C (v := 6) dX6_square_57 (by decide) ?_
    refine hg_aload_n C dX6_square_59 rfl 0 rfl ?_
    refine hg_get C (Cn := RX6) (T := TX6) (N := 23) (v := .int v0_4) mrX6_square_6 0 rfl rfl 4 (by decide) mmX6_square_f51 rfl dX6_square_60 ?_
    refine hg_imul C dX6_square_63 ?_
    refine hg_icmp_ge C (tgt := 85) dX6_square_64 (by decide) (fun _ => ?_) (fun h => absurd (cl_done _) h)
    exact hg_sub [0] rfl k
  | succ n ih =>
    intro i σ hi hσ
    have hlt : i < ((6 : Int32) * v0_4).toNatClampNeg := by omega
    refine hg_iload_n C dX6_square_56 rfl 1 rfl ?_
    refine hg_bipush C (v := 6) dX6_square_57 (by decide) ?_
    refine hg_aload_n C dX6_square_59 rfl 0 rfl ?_
    refine hg_get C (Cn := RX6) (T := TX6) (N := 23) (v := .int v0_4) mrX6_square_6 0 rfl rfl 4 (by decide) mmX6_square_f51 rfl dX6_square_60 ?_
    refine hg_imul C dX6_square_63 ?_
    refine hg_icmp_ge C (tgt := 85) dX6_square_64 (by decide) (fun h => absurd h (cl_cont hlt)) (fun _ => ?_)
    refine hg_aload_n C dX6_square_67 rfl 0 rfl ?_
    refine hg_get C (Cn := RX6) (T := TX6) (N := 23) (v := .ref m6) mrX6_square_6 0 rfl rfl 6 (by decide) mmX6_square_f13 rfl dX6_square_68 ?_
    refine hg_iload_n C dX6_square_71 rfl 1 rfl ?_
    refine hg_aload_n C dX6_square_72 rfl 0 rfl ?_
    refine hg_get C (Cn := RX6) (T := TX6) (N := 23) (v := .ref ma) mrX6_square_6 0 rfl rfl 10 (by decide) mmX6_square_f19 rfl dX6_square_73 ?_
    refine hg_iload_n C dX6_square_76 rfl 1 rfl ?_
    refine hg_iald C 4 rfl (vp_in_nI (by omega) (by decide)) dX6_square_77 ?_
    refine hg_iast C (ws' := [(mm, .inr (6, [.int 0, .ref m1, .int ts, .int v0_3, .int v0_4, .int v0_5, .ref m6, .ref m7, .int v0_8, .int v0_9, .ref ma, .ref mb, .ref mc, .ref md, .ref me, .int ac, .ref mg, .ref mh, .int sn, .ref mj, .ref mk, .long sd, .int sl])), (m1, .inl (E.2.1.1, 64, .inl tx)), (m6, .inl (E.2.1.1, 36, .inl (upd σ (nI i).toNatClampNeg (v4 (nI i).toNatClampNeg)))), (m7, .inl (E.2.1.1, 12, .inl so)), (ma, .inl (E.2.1.1, 36, .inl v4)), (mb, .inl (E.2.1.1, 12, .inl v5)), (mc, .inl (E.2.1.1, 21, .inl v6)), (mh, .inl (E.2.1.2.1, 2, .inl ik))]) 2 rfl (vp_in_nI (by omega) (by decide)) rfl dX6_square_78 ?_
    refine hg_iinc C (v := nI (i + 1)) (lv' := [(1, .int (nI (i + 1))), (0, .ref mm)]) dX6_square_79 1 rfl (nI_inc _) (by decide) rfl ?_
    refine hg_goto C (tgt := 56) dX6_square_82 (by decide) ?_
    have e9 : (stX6_square_56 v4) i σ = upd σ (nI i).toNatClampNeg (v4 (nI i).toNatClampNeg) := hid_eq _
    have h9 := ih (i + 1) (upd σ (nI i).toNatClampNeg (v4 (nI i).toNatClampNeg)) (by omega) (e9.symm.trans (congrArg ((stX6_square_56 v4) i) hσ))
    exact hg_sub [1, 0] rfl h9
noncomputable def stX6_square_87 (v5 : Nat → Int32) (i : Nat) (σ : (Nat → Int32)) : (Nat → Int32) := hid (upd σ (nI i).toNatClampNeg (v5 (nI i).toNatClampNeg))
set_option maxHeartbeats 4000000 in
set_option maxRecDepth 100000 in
theorem lpX6_square_87 {p : Program} {l : Launch} {e : Env} {s : State} {m : MethodId} {args : Array Value} {below : List Frame} {meth : Method} {c : Code} {E : hE} {A : Nat → Prop} {Q : State → Prop} (C : hX p s m args meth c E A cX6_square 2 RX6 wsX6_square (some .int)) (mm : Nat) (m1 : Nat) (m6 : Nat) (m7 : Nat) (ma : Nat) (mb : Nat) (mc : Nat) (md : Nat) (me : Nat) (mg : Nat) (mh : Nat) (mj : Nat) (mk : Nat) (ts : Int32) (pc : Int32) (pe : Int32) (tu : Int32) (rp : Int32) (rt : Int32) (ac : Int32) (sn : Int32) (sd : Int64) (sl : Int32) (tx : Nat → Int32) (to : Nat → Int32) (so : Nat → Int32) (rto : Nat → Int32) (rso : Nat → Int32) (pg : Nat → Int32) (ik : Nat → Int32) (v0_3 : Int32) (v0_4 : Int32) (v0_5 : Int32) (v0_8 : Int32) (v0_9 : Int32) (v2 : Nat → Int32) (v4 : Nat → Int32) (v5 : Nat → Int32) (v6 : Nat → Int32) (hts : vp_in ts 65) (h3 : ((3 : Int32) * v0_5).toNatClampNeg ≤ 12) (σ0 : (Nat → Int32)) (k : hG p l e rmX6_square s m args below meth c E A 2 Q 0 0 115 [(0, .ref mm)] [] [(mm, .inr (6, [.int 0, .ref m1, .int ts, .int v0_3, .int v0_4, .int v0_5, .ref m6, .ref m7, .int v0_8, .int v0_9, .ref ma, .ref mb, .ref mc, .ref md, .ref me, .int ac, .ref mg, .ref mh, .int sn, .ref mj, .ref mk, .long sd, .int sl])), (m1, .inl (E.2.1.1, 64, .inl tx)), (m6, .inl (E.2.1.1, 36, .inl v2)), (m7, .inl (E.2.1.1, 12, .inl (itN (stX6_square_87 v5) (((3 : Int32) * v0_5).toNatClampNeg) σ0))), (ma, .inl (E.2.1.1, 36, .inl v4)), (mb, .inl (E.2.1.1, 12, .inl v5)), (mc, .inl (E.2.1.1, 21, .inl v6)), (mh, .inl (E.2.1.2.1, 2, .inl ik))]) : ∀ (n i : Nat) (σ : (Nat → Int32)), i + n = ((3 : Int32) * v0_5).toNatClampNeg → σ = itN (stX6_square_87 v5) i σ0 → hG p l e rmX6_square s m args below meth c E A 2 Q 0 0 87 [(0, .ref mm), (1, .int (nI i))] [] [(mm, .inr (6, [.int 0, .ref m1, .int ts, .int v0_3, .int v0_4, .int v0_5, .ref m6, .ref m7, .int v0_8, .int v0_9, .ref ma, .ref mb, .ref mc, .ref md, .ref me, .int ac, .ref mg, .ref mh, .int sn, .ref mj, .ref mk, .long sd, .int sl])), (m1, .inl (E.2.1.1, 64, .inl tx)), (m6, .inl (E.2.1.1, 36, .inl v2)), (m7, .inl (E.2.1.1, 12, .inl σ)), (ma, .inl (E.2.1.1, 36, .inl v4)), (mb, .inl (E.2.1.1, 12, .inl v5)), (mc, .inl (E.2.1.1, 21, .inl v6)), (mh, .inl (E.2.1.2.1, 2, .inl ik))] := by
  intro n
  induction n with
  | zero =>
    intro i σ hi hσ
    have hi : i = ((3 : Int32) * v0_5).toNatClampNeg := by omega
    rw [hi] at hσ
    rw [hi]
    subst hσ
    refine hg_iload_n C dX6_square_87 rfl 1 rfl ?_
    refine hg_iconst C (v := 3) dX6_square_88 (by decide) ?_
    refine hg_aload_n C dX6_square_89 rfl 0 rfl ?_
    refine hg_get C (Cn := RX6) (T := TX6) (N := 23) (v := .int v0_5) mrX6_square_6 0 rfl rfl 5 (by decide) mmX6_square_f58 rfl dX6_square_90 ?_
    refine hg_imul C dX6_square_93 ?_
    refine hg_icmp_ge C (tgt := 115) dX6_square_94 (by decide) (fun _ => ?_) (fun h => absurd (cl_done _) h)
    exact hg_sub [0] rfl k
  | succ n ih =>
    intro i σ hi hσ
    have hlt : i < ((3 : Int32) * v0_5).toNatClampNeg := by omega
    refine hg_iload_n C dX6_square_87 rfl 1 rfl ?_
    refine hg_iconst C (v := 3) dX6_square_88 (by decide) ?_
    refine hg_aload_n C dX6_square_89 rfl 0 rfl ?_
    refine hg_get C (Cn := RX6) (T := TX6) (N := 23) (v := .int v0_5) mrX6_square_6 0 rfl rfl 5 (by decide) mmX6_square_f58 rfl dX6_square_90 ?_
    refine hg_imul C dX6_square_93 ?_
    refine hg_icmp_ge C (tgt := 115) dX6_square_94 (by decide) (fun h => absurd h (cl_cont hlt)) (fun _ => ?_)
    refine hg_aload_n C dX6_square_97 rfl 0 rfl ?_
    refine hg_get C (Cn := RX6) (T := TX6) (N := 23) (v := .ref m7) mrX6_square_6 0 rfl rfl 7 (by decide) mmX6_square_f16 rfl dX6_square_98 ?_
    refine hg_iload_n C dX6_square_101 rfl 1 rfl ?_
    refine hg_aload_n C dX6_square_102 rfl 0 rfl ?_
    refine hg_get C (Cn := RX6) (T := TX6) (N := 23) (v := .ref mb) mrX6_square_6 0 rfl rfl 11 (by decide) mmX6_square_f22 rfl dX6_square_103 ?_
    refine hg_iload_n C dX6_square_106 rfl 1 rfl ?_
    refine hg_iald C 5 rfl (vp_in_nI (by omega) (by decide)) dX6_square_107 ?_
    refine hg_iast C (ws' := [(mm, .inr (6, [.int 0, .ref m1, .int ts, .int v0_3, .int v0_4, .int v0_5, .ref m6, .ref m7, .int v0_8, .int v0_9, .ref ma, .ref mb, .ref mc, .ref md, .ref me, .int ac, .ref mg, .ref mh, .int sn, .ref mj, .ref mk, .long sd, .int sl])), (m1, .inl (E.2.1.1, 64, .inl tx)), (m6, .inl (E.2.1.1, 36, .inl v2)), (m7, .inl (E.2.1.1, 12, .inl (upd σ (nI i).toNatClampNeg (v5 (nI i).toNatClampNeg)))), (ma, .inl (E.2.1.1, 36, .inl v4)), (mb, .inl (E.2.1.1, 12, .inl v5)), (mc, .inl (E.2.1.1, 21, .inl v6)), (mh, .inl (E.2.1.2.1, 2, .inl ik))]) 3 rfl (vp_in_nI (by omega) (by decide)) rfl dX6_square_108 ?_
    refine hg_iinc C (v := nI (i + 1)) (lv' := [(1, .int (nI (i + 1))), (0, .ref mm)]) dX6_square_109 1 rfl (nI_inc _) (by decide) rfl ?_
    refine hg_goto C (tgt := 87) dX6_square_112 (by decide) ?_
    have e9 : (stX6_square_87 v5) i σ = upd σ (nI i).toNatClampNeg (v5 (nI i).toNatClampNeg) := hid_eq _
    have h9 := ih (i + 1) (upd σ (nI i).toNatClampNeg (v5 (nI i).toNatClampNeg)) (by omega) (e9.symm.trans (congrArg ((stX6_square_87 v5) i) hσ))
    exact hg_sub [1, 0] rfl h9
noncomputable def stX6_square_117 (v2 : Nat → Int32) (i : Nat) (σ : (Nat → Int32)) : (Nat → Int32) := hid (upd (upd (upd σ (nI i).toNatClampNeg (v2 ((6 * (nI i)) + 1).toNatClampNeg)) (6 + (nI i)).toNatClampNeg (v2 ((6 * (nI i)) + 2).toNatClampNeg)) (if (v2 ((6 * (nI i)) + 5).toNatClampNeg) = 0 then (12 : Int32) else (13 : Int32)).toNatClampNeg (((upd (upd σ (nI i).toNatClampNeg (v2 ((6 * (nI i)) + 1).toNatClampNeg)) (6 + (nI i)).toNatClampNeg (v2 ((6 * (nI i)) + 2).toNatClampNeg)) (if (v2 ((6 * (nI i)) + 5).toNatClampNeg) = 0 then (12 : Int32) else (13 : Int32)).toNatClampNeg) ||| (1 <<< ((nI i) &&& 31))))
set_option maxHeartbeats 4000000 in
set_option maxRecDepth 100000 in
theorem lpX6_square_117 {p : Program} {l : Launch} {e : Env} {s : State} {m : MethodId} {args : Array Value} {below : List Frame} {meth : Method} {c : Code} {E : hE} {A : Nat → Prop} {Q : State → Prop} (C : hX p s m args meth c E A cX6_square 2 RX6 wsX6_square (some .int)) (mm : Nat) (m1 : Nat) (m6 : Nat) (m7 : Nat) (ma : Nat) (mb : Nat) (mc : Nat) (md : Nat) (me : Nat) (mg : Nat) (mh : Nat) (mj : Nat) (mk : Nat) (ts : Int32) (pc : Int32) (pe : Int32) (tu : Int32) (rp : Int32) (rt : Int32) (ac : Int32) (sn : Int32) (sd : Int64) (sl : Int32) (tx : Nat → Int32) (to : Nat → Int32) (so : Nat → Int32) (rto : Nat → Int32) (rso : Nat → Int32) (pg : Nat → Int32) (ik : Nat → Int32) (v0_3 : Int32) (v0_4 : Int32) (v0_5 : Int32) (v0_8 : Int32) (v0_9 : Int32) (v2 : Nat → Int32) (v3 : Nat → Int32) (v4 : Nat → Int32) (v5 : Nat → Int32) (hts : vp_in ts 65) (h7 : v0_4.toNatClampNeg ≤ 6) (σ0 : (Nat → Int32)) (k : hG p l e rmX6_square s m args below meth c E A 2 Q 0 0 200 [(0, .ref mm)] [] [(mm, .inr (6, [.int 0, .ref m1, .int ts, .int v0_3, .int v0_4, .int v0_5, .ref m6, .ref m7, .int v0_8, .int v0_9, .ref ma, .ref mb, .ref mc, .ref md, .ref me, .int ac, .ref mg, .ref mh, .int sn, .ref mj, .ref mk, .long sd, .int sl])), (m1, .inl (E.2.1.1, 64, .inl tx)), (m6, .inl (E.2.1.1, 36, .inl v2)), (m7, .inl (E.2.1.1, 12, .inl v3)), (ma, .inl (E.2.1.1, 36, .inl v4)), (mb, .inl (E.2.1.1, 12, .inl v5)), (mc, .inl (E.2.1.1, 21, .inl (itN (stX6_square_117 v2) v0_4.toNatClampNeg σ0))), (mh, .inl (E.2.1.2.1, 2, .inl ik))]) : ∀ (n i : Nat) (σ : (Nat → Int32)), i + n = v0_4.toNatClampNeg → σ = itN (stX6_square_117 v2) i σ0 → hG p l e rmX6_square s m args below meth c E A 2 Q 0 0 117 [(0, .ref mm), (1, .int (nI i))] [] [(mm, .inr (6, [.int 0, .ref m1, .int ts, .int v0_3, .int v0_4, .int v0_5, .ref m6, .ref m7, .int v0_8, .int v0_9, .ref ma, .ref mb, .ref mc, .ref md, .ref me, .int ac, .ref mg, .ref mh, .int sn, .ref mj, .ref mk, .long sd, .int sl])), (m1, .inl (E.2.1.1, 64, .inl tx)), (m6, .inl (E.2.1.1, 36, .inl v2)), (m7, .inl (E.2.1.1, 12, .inl v3)), (ma, .inl (E.2.1.1, 36, .inl v4)), (mb, .inl (E.2.1.1, 12, .inl v5)), (mc, .inl (E.2.1.1, 21, .inl σ)), (mh, .inl (E.2.1.2.1, 2, .inl ik))] := by
  intro n
  induction n with
  | zero =>
    intro i σ hi hσ
    have hi : i = v0_4.toNatClampNeg := by omega
    rw [hi] at hσ
    rw [hi]
    subst hσ
    refine hg_iload_n C dX6_square_117 rfl 1 rfl ?_
    refine hg_aload_n C dX6_square_118 rfl 0 rfl ?_
    refine hg_get C (Cn := RX6) (T := TX6) (N := 23) (v := .int v0_4) mrX6_square_6 0 rfl rfl 4 (by decide) mmX6_square_f51 rfl dX6_square_119 ?_
    refine hg_icmp_ge C (tgt := 200) dX6_square_122 (by decide) (fun _ => ?_) (fun h => absurd (cl_done _) h)
    exact hg_sub [0] rfl k
  | succ n ih =>
    intro i σ hi hσ
    have hlt : i < v0_4.toNatClampNeg := by omega
    refine hg_iload_n C dX6_square_117 rfl 1 rfl ?_
    refine hg_aload_n C dX6_square_118 rfl 0 rfl ?_
    refine hg_get C (Cn := RX6) (T := TX6) (N := 23) (v := .int v0_4) mrX6_square_6 0 rfl rfl 4 (by decide) mmX6_square_f51 rfl dX6_square_119 ?_
    refine hg_icmp_ge C (tgt := 200) dX6_square_122 (by decide) (fun h => absurd h (cl_cont hlt)) (fun _ => ?_)
    refine hg_aload_n C dX6_square_125 rfl 0 rfl ?_
    refine hg_get C (Cn := RX6) (T := TX6) (N := 23) (v := .ref mc) mrX6_square_6 0 rfl rfl 12 (by decide) mmX6_square_f25 rfl dX6_square_126 ?_
    refine hg_iload_n C dX6_square_129 rfl 1 rfl ?_
    refine hg_aload_n C dX6_square_130 rfl 0 rfl ?_
    refine hg_get C (Cn := RX6) (T := TX6) (N := 23) (v := .ref m6) mrX6_square_6 0 rfl rfl 6 (by decide) mmX6_square_f13 rfl dX6_square_131 ?_
    refine hg_bipush C (v := 6) dX6_square_134 (by decide) ?_
    refine hg_iload_n C dX6_square_136 rfl 1 rfl ?_
    refine hg_imul C dX6_square_137 ?_
    refine hg_iconst C (v := 1) dX6_square_138 (by decide) ?_
    refine hg_iadd C dX6_square_139 ?_
    refine hg_iald C 2 rfl (ix_6k (c := 1) (by omega) (by decide)) dX6_square_140 ?_
    refine hg_iast C (ws' := [(mm, .inr (6, [.int 0, .ref m1, .int ts, .int v0_3, .int v0_4, .int v0_5, .ref m6, .ref m7, .int v0_8, .int v0_9, .ref ma, .ref mb, .ref mc, .ref md, .ref me, .int ac, .ref mg, .ref mh, .int sn, .ref mj, .ref mk, .long sd, .int sl])), (m1, .inl (E.2.1.1, 64, .inl tx)), (m6, .inl (E.2.1.1, 36, .inl v2)), (m7, .inl (E.2.1.1, 12, .inl v3)), (ma, .inl (E.2.1.1, 36, .inl v4)), (mb, .inl (E.2.1.1, 12, .inl v5)), (mc, .inl (E.2.1.1, 21, .inl (upd σ (nI i).toNatClampNeg (v2 ((6 * (nI i)) + 1).toNatClampNeg)))), (mh, .inl (E.2.1.2.1, 2, .inl ik))]) 6 rfl (vp_in_nI (by omega) (by decide)) rfl dX6_square_141 ?_
    refine hg_aload_n C dX6_square_142 rfl 0 rfl ?_
    refine hg_get C (Cn := RX6) (T := TX6) (N := 23) (v := .ref mc) mrX6_square_6 0 rfl rfl 12 (by decide) mmX6_square_f25 rfl dX6_square_143 ?_
    refine hg_bipush C (v := 6) dX6_square_146 (by decide) ?_
    refine hg_iload_n C dX6_square_148 rfl 1 rfl ?_
    refine hg_iadd C dX6_square_149 ?_
    refine hg_aload_n C dX6_square_150 rfl 0 rfl ?_
    refine hg_get C (Cn := RX6) (T := TX6) (N := 23) (v := .ref m6) mrX6_square_6 0 rfl rfl 6 (by decide) mmX6_square_f13 rfl dX6_square_151 ?_
    refine hg_bipush C (v := 6) dX6_square_154 (by decide) ?_
    refine hg_iload_n C dX6_square_156 rfl 1 rfl ?_
    refine hg_imul C dX6_square_157 ?_
    refine hg_iconst C (v := 2) dX6_square_158 (by decide) ?_
    refine hg_iadd C dX6_square_159 ?_
    refine hg_iald C 2 rfl (ix_6k (c := 2) (by omega) (by decide)) dX6_square_160 ?_
    refine hg_iast C (ws' := [(mm, .inr (6, [.int 0, .ref m1, .int ts, .int v0_3, .int v0_4, .int v0_5, .ref m6, .ref m7, .int v0_8, .int v0_9, .ref ma, .ref mb, .ref mc, .ref md, .ref me, .int ac, .ref mg, .ref mh, .int sn, .ref mj, .ref mk, .long sd, .int sl])), (m1, .inl (E.2.1.1, 64, .inl tx)), (m6, .inl (E.2.1.1, 36, .inl v2)), (m7, .inl (E.2.1.1, 12, .inl v3)), (ma, .inl (E.2.1.1, 36, .inl v4)), (mb, .inl (E.2.1.1, 12, .inl v5)), (mc, .inl (E.2.1.1, 21, .inl (upd (upd σ (nI i).toNatClampNeg (v2 ((6 * (nI i)) + 1).toNatClampNeg)) (6 + (nI i)).toNatClampNeg (v2 ((6 * (nI i)) + 2).toNatClampNeg)))), (mh, .inl (E.2.1.2.1, 2, .inl ik))]) 6 rfl (ix_6 (by omega)) rfl dX6_square_161 ?_
    refine hg_aload_n C dX6_square_162 rfl 0 rfl ?_
    refine hg_get C (Cn := RX6) (T := TX6) (N := 23) (v := .ref mc) mrX6_square_6 0 rfl rfl 12 (by decide) mmX6_square_f25 rfl dX6_square_163 ?_
    refine hg_aload_n C dX6_square_166 rfl 0 rfl ?_
    refine hg_get C (Cn := RX6) (T := TX6) (N := 23) (v := .ref m6) mrX6_square_6 0 rfl rfl 6 (by decide) mmX6_square_f13 rfl dX6_square_167 ?_
    refine hg_bipush C (v := 6) dX6_square_170 (by decide) ?_
    refine hg_iload_n C dX6_square_172 rfl 1 rfl ?_
    refine hg_imul C dX6_square_173 ?_
    refine hg_iconst C (v := 5) dX6_square_174 (by decide) ?_
    refine hg_iadd C dX6_square_175 ?_
    refine hg_iald C 2 rfl (ix_6k (c := 5) (by omega) (by decide)) dX6_square_176 ?_
    refine hg_join (J := 187) (v := if (v2 ((6 * (nI i)) + 5).toNatClampNeg) = 0 then (12 : Int32) else (13 : Int32)) (st1 := [.ref mc]) (fun jj => ?_) ?_
    · refine hg_if_ne C (tgt := 185) dX6_square_177 (by decide) (fun c3 => ?_) (fun c3 => ?_)
      · refine hg_bipush C (v := 13) dX6_square_185 (by decide) ?_
        exact hg_top (v := if (v2 ((6 * (nI i)) + 5).toNatClampNeg) = 0 then (12 : Int32) else (13 : Int32)) (v' := 13) ((if_neg c3).trans rfl) jj
      · refine hg_bipush C (v := 12) dX6_square_180 (by decide) ?_
        refine hg_goto C (tgt := 187) dX6_square_182 (by decide) ?_
        exact hg_top (v := if (v2 ((6 * (nI i)) + 5).toNatClampNeg) = 0 then (12 : Int32) else (13 : Int32)) (v' := 12) ((if_pos c3).trans rfl) jj
    refine hg_dup2 C dX6_square_187 rfl rfl ?_
    refine hg_iald C 6 rfl (by split <;> (unfold vp_in; decide)) dX6_square_188 ?_
    refine hg_iconst C (v := 1) dX6_square_189 (by decide) ?_
    refine hg_iload_n C dX6_square_190 rfl 1 rfl ?_
    refine hg_ishl C dX6_square_191 ?_
    refine hg_ior C dX6_square_192 ?_
    refine hg_iast C (ws' := [(mm, .inr (6, [.int 0, .ref m1, .int ts, .int v0_3, .int v0_4, .int v0_5, .ref m6, .ref m7, .int v0_8, .int v0_9, .ref ma, .ref mb, .ref mc, .ref md, .ref me, .int ac, .ref mg, .ref mh, .int sn, .ref mj, .ref mk, .long sd, .int sl])), (m1, .inl (E.2.1.1, 64, .inl tx)), (m6, .inl (E.2.1.1, 36, .inl v2)), (m7, .inl (E.2.1.1, 12, .inl v3)), (ma, .inl (E.2.1.1, 36, .inl v4)), (mb, .inl (E.2.1.1, 12, .inl v5)), (mc, .inl (E.2.1.1, 21, .inl (upd (upd (upd σ (nI i).toNatClampNeg (v2 ((6 * (nI i)) + 1).toNatClampNeg)) (6 + (nI i)).toNatClampNeg (v2 ((6 * (nI i)) + 2).toNatClampNeg)) (if (v2 ((6 * (nI i)) + 5).toNatClampNeg) = 0 then (12 : Int32) else (13 : Int32)).toNatClampNeg (((upd (upd σ (nI i).toNatClampNeg (v2 ((6 * (nI i)) + 1).toNatClampNeg)) (6 + (nI i)).toNatClampNeg (v2 ((6 * (nI i)) + 2).toNatClampNeg)) (if (v2 ((6 * (nI i)) + 5).toNatClampNeg) = 0 then (12 : Int32) else (13 : Int32)).toNatClampNeg) ||| (1 <<< ((nI i) &&& 31)))))), (mh, .inl (E.2.1.2.1, 2, .inl ik))]) 6 rfl (by split <;> (unfold vp_in; decide)) rfl dX6_square_193 ?_
    refine hg_iinc C (v := nI (i + 1)) (lv' := [(1, .int (nI (i + 1))), (0, .ref mm)]) dX6_square_194 1 rfl (nI_inc _) (by decide) rfl ?_
    refine hg_goto C (tgt := 117) dX6_square_197 (by decide) ?_
    have e9 : (stX6_square_117 v2) i σ = upd (upd (upd σ (nI i).toNatClampNeg (v2 ((6 * (nI i)) + 1).toNatClampNeg)) (6 + (nI i)).toNatClampNeg (v2 ((6 * (nI i)) + 2).toNatClampNeg)) (if (v2 ((6 * (nI i)) + 5).toNatClampNeg) = 0 then (12 : Int32) else (13 : Int32)).toNatClampNeg (((upd (upd σ (nI i).toNatClampNeg (v2 ((6 * (nI i)) + 1).toNatClampNeg)) (6 + (nI i)).toNatClampNeg (v2 ((6 * (nI i)) + 2).toNatClampNeg)) (if (v2 ((6 * (nI i)) + 5).toNatClampNeg) = 0 then (12 : Int32) else (13 : Int32)).toNatClampNeg) ||| (1 <<< ((nI i) &&& 31))) := hid_eq _
    have h9 := ih (i + 1) (upd (upd (upd σ (nI i).toNatClampNeg (v2 ((6 * (nI i)) + 1).toNatClampNeg)) (6 + (nI i)).toNatClampNeg (v2 ((6 * (nI i)) + 2).toNatClampNeg)) (if (v2 ((6 * (nI i)) + 5).toNatClampNeg) = 0 then (12 : Int32) else (13 : Int32)).toNatClampNeg (((upd (upd σ (nI i).toNatClampNeg (v2 ((6 * (nI i)) + 1).toNatClampNeg)) (6 + (nI i)).toNatClampNeg (v2 ((6 * (nI i)) + 2).toNatClampNeg)) (if (v2 ((6 * (nI i)) + 5).toNatClampNeg) = 0 then (12 : Int32) else (13 : Int32)).toNatClampNeg) ||| (1 <<< ((nI i) &&& 31)))) (by omega) (e9.symm.trans (congrArg ((stX6_square_117 v2) i) hσ))
    exact hg_sub [1, 0] rfl h9
noncomputable def fX6_square (ts : Int32) (pe : Int32) (tu : Int32) (ac : Int32) (tx : Nat → Int32) (to : Nat → Int32) (so : Nat → Int32) (rto : Nat → Int32) (rso : Nat → Int32) (pg : Nat → Int32) (ik : Nat → Int32) : Int32 × Int32 × Int32 × Int32 × Int32 × Int32 × Int32 × (Nat → Int32) × (Nat → Int32) × (Nat → Int32) × (Nat → Int32) × (Nat → Int32) × (Nat → Int32) := hid (if ((fX6_readSquare ts tx rto rso).1) = (-9) then ((10 * ((fX6_readSquare ts tx rto rso).2.2.1)) + ((fX6_readSquare ts tx rto rso).2.2.2.1), (fX6_readSquare ts tx rto rso).2.1, (fX6_readSquare ts tx rto rso).2.2.1, (fX6_readSquare ts tx rto rso).2.2.2.1, (fX6_readSquare ts tx rto rso).2.2.1, (fX6_readSquare ts tx rto rso).2.2.2.1, 0, (itN (stX6_square_56 ((fX6_readSquare ts tx rto rso).2.2.2.2.1)) (((6 : Int32) * ((fX6_readSquare ts tx rto rso).2.2.1)).toNatClampNeg) to), (itN (stX6_square_87 ((fX6_readSquare ts tx rto rso).2.2.2.2.2)) (((3 : Int32) * ((fX6_readSquare ts tx rto rso).2.2.2.1)).toNatClampNeg) so), (fX6_readSquare ts tx rto rso).2.2.2.2.1, (fX6_readSquare ts tx rto rso).2.2.2.2.2, (itN (stX6_square_117 (itN (stX6_square_56 ((fX6_readSquare ts tx rto rso).2.2.2.2.1)) (((6 : Int32) * ((fX6_readSquare ts tx rto rso).2.2.1)).toNatClampNeg) to)) (((fX6_readSquare ts tx rto rso).2.2.1).toNatClampNeg) (itN stX6_square_35 21 pg)), upd (upd ik (0 : Int32).toNatClampNeg (vp_nar .boolean 0)) (1 : Int32).toNatClampNeg (vp_nar .boolean 0)) else ((-3), (fX6_readSquare ts tx rto rso).2.1, pe, tu, (fX6_readSquare ts tx rto rso).2.2.1, (fX6_readSquare ts tx rto rso).2.2.2.1, ac, to, so, (fX6_readSquare ts tx rto rso).2.2.2.2.1, (fX6_readSquare ts tx rto rso).2.2.2.2.2, pg, ik))
set_option maxHeartbeats 4000000 in
set_option maxRecDepth 100000 in
theorem kX6_square (l : Launch) (E : hE) (mm : Nat) (m1 : Nat) (m6 : Nat) (m7 : Nat) (ma : Nat) (mb : Nat) (mc : Nat) (md : Nat) (me : Nat) (mg : Nat) (mh : Nat) (mj : Nat) (mk : Nat) (ts : Int32) (pc : Int32) (pe : Int32) (tu : Int32) (rp : Int32) (rt : Int32) (ac : Int32) (sn : Int32) (sd : Int64) (sl : Int32) (tx : Nat → Int32) (to : Nat → Int32) (so : Nat → Int32) (rto : Nat → Int32) (rso : Nat → Int32) (pg : Nat → Int32) (ik : Nat → Int32) (hts : vp_in ts 65) : hC l yX6_square wsX6_square rmX6_square E [.ref mm] [(mm, .inr (6, [.int 0, .ref m1, .int ts, .int pc, .int pe, .int tu, .ref m6, .ref m7, .int rp, .int rt, .ref ma, .ref mb, .ref mc, .ref md, .ref me, .int ac, .ref mg, .ref mh, .int sn, .ref mj, .ref mk, .long sd, .int sl])), (m1, .inl (E.2.1.1, 64, .inl tx)), (m6, .inl (E.2.1.1, 36, .inl to)), (m7, .inl (E.2.1.1, 12, .inl so)), (ma, .inl (E.2.1.1, 36, .inl rto)), (mb, .inl (E.2.1.1, 12, .inl rso)), (mc, .inl (E.2.1.1, 21, .inl pg)), (mh, .inl (E.2.1.2.1, 2, .inl ik))] (some (.int ((fX6_square ts pe tu ac tx to so rto rso pg ik).1))) [(mm, .inr (6, [.int 0, .ref m1, .int ts, .int ((fX6_square ts pe tu ac tx to so rto rso pg ik).2.1), .int ((fX6_square ts pe tu ac tx to so rto rso pg ik).2.2.1), .int ((fX6_square ts pe tu ac tx to so rto rso pg ik).2.2.2.1), .ref m6, .ref m7, .int ((fX6_square ts pe tu ac tx to so rto rso pg ik).2.2.2.2.1), .int ((fX6_square ts pe tu ac tx to so rto rso pg ik).2.2.2.2.2.1), .ref ma, .ref mb, .ref mc, .ref md, .ref me, .int ((fX6_square ts pe tu ac tx to so rto rso pg ik).2.2.2.2.2.2.1), .ref mg, .ref mh, .int sn, .ref mj, .ref mk, .long sd, .int sl])), (m1, .inl (E.2.1.1, 64, .inl tx)), (m6, .inl (E.2.1.1, 36, .inl ((fX6_square ts pe tu ac tx to so rto rso pg ik).2.2.2.2.2.2.2.1))), (m7, .inl (E.2.1.1, 12, .inl ((fX6_square ts pe tu ac tx to so rto rso pg ik).2.2.2.2.2.2.2.2.1))), (ma, .inl (E.2.1.1, 36, .inl ((fX6_square ts pe tu ac tx to so rto rso pg ik).2.2.2.2.2.2.2.2.2.1))), (mb, .inl (E.2.1.1, 12, .inl ((fX6_square ts pe tu ac tx to so rto rso pg ik).2.2.2.2.2.2.2.2.2.2.1))), (mc, .inl (E.2.1.1, 21, .inl ((fX6_square ts pe tu ac tx to so rto rso pg ik).2.2.2.2.2.2.2.2.2.2.2.1))), (mh, .inl (E.2.1.2.1, 2, .inl ((fX6_square ts pe tu ac tx to so rto rso pg ik).2.2.2.2.2.2.2.2.2.2.2.2)))] := by
  refine hC_intro (cc := cX6_square) (maxL := 2) (ret := (some .int)) (lv0 := [(0, .ref mm)]) (by decide) rfl (Nat.le_of_ble_eq_true rfl) rfl ?_
  intro p e s m below meth c A C
  refine hg_aload_n C dX6_square_0 rfl 0 rfl ?_
  refine hg_iconst C (v := 0) dX6_square_1 (by decide) ?_
  refine hg_put C (Cn := RX6) (T := TX6) (N := 23) (ws' := [(mm, .inr (6, [.int 0, .ref m1, .int ts, .int pc, .int pe, .int tu, .ref m6, .ref m7, .int rp, .int rt, .ref ma, .ref mb, .ref mc, .ref md, .ref me, .int ac, .ref mg, .ref mh, .int sn, .ref mj, .ref mk, .long sd, .int sl])), (m1, .inl (E.2.1.1, 64, .inl tx)), (m6, .inl (E.2.1.1, 36, .inl to)), (m7, .inl (E.2.1.1, 12, .inl so)), (ma, .inl (E.2.1.1, 36, .inl rto)), (mb, .inl (E.2.1.1, 12, .inl rso)), (mc, .inl (E.2.1.1, 21, .inl pg)), (mh, .inl (E.2.1.2.1, 2, .inl ik))]) mrX6_square_6 tyX6 tyX6_ok nmX6 0 rfl rfl 0 (by decide) mmX6_square_f47 rfl rfl rfl rfl (Nat.le_of_ble_eq_true rfl) rfl dX6_square_2 ?_
  refine hg_aload_n C dX6_square_5 rfl 0 rfl ?_
  refine hg_callV C (ws' := [(mm, .inr (6, [.int 0, .ref m1, .int ts, .int ((fX6_readSquare ts tx rto rso).2.1), .int pe, .int tu, .ref m6, .ref m7, .int ((fX6_readSquare ts tx rto rso).2.2.1), .int ((fX6_readSquare ts tx rto rso).2.2.2.1), .ref ma, .ref mb, .ref mc, .ref md, .ref me, .int ac, .ref mg, .ref mh, .int sn, .ref mj, .ref mk, .long sd, .int sl])), (m1, .inl (E.2.1.1, 64, .inl tx)), (m6, .inl (E.2.1.1, 36, .inl to)), (m7, .inl (E.2.1.1, 12, .inl so)), (ma, .inl (E.2.1.1, 36, .inl ((fX6_readSquare ts tx rto rso).2.2.2.2.1))), (mb, .inl (E.2.1.1, 12, .inl ((fX6_readSquare ts tx rto rso).2.2.2.2.2))), (mc, .inl (E.2.1.1, 21, .inl pg)), (mh, .inl (E.2.1.2.1, 2, .inl ik))]) (rest := []) (kX6_readSquare l E mm m1 m6 m7 ma mb mc md me mg mh mj mk ts pc pe tu rp rt ac sn sd sl tx rto rso hts) hfX6_readSquare gX6_square_X6_readSquare ⟨Nat.le_of_ble_eq_true rfl, Nat.le_of_ble_eq_true rfl⟩ ⟨Nat.zero_le _, Nat.zero_le _⟩ [0, 1, 4, 5] rfl (by decide) [mm, m1, ma, mb] rfl rfl rfl 0 rfl rfl rfl rfl (Nat.le_of_ble_eq_true rfl) dX6_square_6 ?_
  refine hg_bipush C (v := (-9)) dX6_square_9 (by decide) ?_
  refine hg_icmp_eq C (tgt := 17) dX6_square_11 (by decide) (fun c1 => ?_) (fun c1 => ?_)
  · refine hg_aload_n C dX6_square_17 rfl 0 rfl ?_
    refine hg_aload_n C dX6_square_18 rfl 0 rfl ?_
    refine hg_get C (Cn := RX6) (T := TX6) (N := 23) (v := .int ((fX6_readSquare ts tx rto rso).2.2.1)) mrX6_square_6 0 rfl rfl 8 (by decide) mmX6_square_f77 rfl dX6_square_19 ?_
    refine hg_put C (Cn := RX6) (T := TX6) (N := 23) (ws' := [(mm, .inr (6, [.int 0, .ref m1, .int ts, .int ((fX6_readSquare ts tx rto rso).2.1), .int ((fX6_readSquare ts tx rto rso).2.2.1), .int tu, .ref m6, .ref m7, .int ((fX6_readSquare ts tx rto rso).2.2.1), .int ((fX6_readSquare ts tx rto rso).2.2.2.1), .ref ma, .ref mb, .ref mc, .ref md, .ref me, .int ac, .ref mg, .ref mh, .int sn, .ref mj, .ref mk, .long sd, .int sl])), (m1, .inl (E.2.1.1, 64, .inl tx)), (m6, .inl (E.2.1.1, 36, .inl to)), (m7, .inl (E.2.1.1, 12, .inl so)), (ma, .inl (E.2.1.1, 36, .inl ((fX6_readSquare ts tx rto rso).2.2.2.2.1))), (mb, .inl (E.2.1.1, 12, .inl ((fX6_readSquare ts tx rto rso).2.2.2.2.2))), (mc, .inl (E.2.1.1, 21, .inl pg)), (mh, .inl (E.2.1.2.1, 2, .inl ik))]) mrX6_square_6 tyX6 tyX6_ok nmX6 0 rfl rfl 4 (by decide) mmX6_square_f51 rfl rfl rfl rfl (Nat.le_of_ble_eq_true rfl) rfl dX6_square_22 ?_
    refine hg_aload_n C dX6_square_25 rfl 0 rfl ?_
    refine hg_aload_n C dX6_square_26 rfl 0 rfl ?_
    refine hg_get C (Cn := RX6) (T := TX6) (N := 23) (v := .int ((fX6_readSquare ts tx rto rso).2.2.2.1)) mrX6_square_6 0 rfl rfl 9 (by decide) mmX6_square_f80 rfl dX6_square_27 ?_
    refine hg_put C (Cn := RX6) (T := TX6) (N := 23) (ws' := [(mm, .inr (6, [.int 0, .ref m1, .int ts, .int ((fX6_readSquare ts tx rto rso).2.1), .int ((fX6_readSquare ts tx rto rso).2.2.1), .int ((fX6_readSquare ts tx rto rso).2.2.2.1), .ref m6, .ref m7, .int ((fX6_readSquare ts tx rto rso).2.2.1), .int ((fX6_readSquare ts tx rto rso).2.2.2.1), .ref ma, .ref mb, .ref mc, .ref md, .ref me, .int ac, .ref mg, .ref mh, .int sn, .ref mj, .ref mk, .long sd, .int sl])), (m1, .inl (E.2.1.1, 64, .inl tx)), (m6, .inl (E.2.1.1, 36, .inl to)), (m7, .inl (E.2.1.1, 12, .inl so)), (ma, .inl (E.2.1.1, 36, .inl ((fX6_readSquare ts tx rto rso).2.2.2.2.1))), (mb, .inl (E.2.1.1, 12, .inl ((fX6_readSquare ts tx rto rso).2.2.2.2.2))), (mc, .inl (E.2.1.1, 21, .inl pg)), (mh, .inl (E.2.1.2.1, 2, .inl ik))]) mrX6_square_6 tyX6 tyX6_ok nmX6 0 rfl rfl 5 (by decide) mmX6_square_f58 rfl rfl rfl rfl (Nat.le_of_ble_eq_true rfl) rfl dX6_square_30 ?_
    refine hg_iconst C (v := 0) dX6_square_33 (by decide) ?_
    refine hg_istore_n C (lv' := [(1, .int 0), (0, .ref mm)]) dX6_square_34 rfl (by decide) rfl ?_
    refine hg_sub [1, 0] rfl ?_
    refine lpX6_square_35 C mm m1 m6 m7 ma mb mc md me mg mh mj mk ts pc pe tu rp rt ac sn sd sl tx to so rto rso pg ik ((fX6_readSquare ts tx rto rso).2.1) ((fX6_readSquare ts tx rto rso).2.2.1) ((fX6_readSquare ts tx rto rso).2.2.2.1) ((fX6_readSquare ts tx rto rso).2.2.1) ((fX6_readSquare ts tx rto rso).2.2.2.1) ((fX6_readSquare ts tx rto rso).2.2.2.2.1) ((fX6_readSquare ts tx rto rso).2.2.2.2.2) hts pg ?_ 21 0 pg (by omega) rfl
    refine hg_iconst C (v := 0) dX6_square_54 (by decide) ?_
    refine hg_istore_n C (lv' := [(1, .int 0), (0, .ref mm)]) dX6_square_55 rfl (by decide) rfl ?_
    refine hg_sub [1, 0] rfl ?_
    refine lpX6_square_56 C mm m1 m6 m7 ma mb mc md me mg mh mj mk ts pc pe tu rp rt ac sn sd sl tx to so rto rso pg ik ((fX6_readSquare ts tx rto rso).2.1) ((fX6_readSquare ts tx rto rso).2.2.1) ((fX6_readSquare ts tx rto rso).2.2.2.1) ((fX6_readSquare ts tx rto rso).2.2.1) ((fX6_readSquare ts tx rto rso).2.2.2.1) ((fX6_readSquare ts tx rto rso).2.2.2.2.1) ((fX6_readSquare ts tx rto rso).2.2.2.2.2) (itN stX6_square_35 21 pg) hts (sq_6 (sq_b hts (by assumption)).1) to ?_ (((6 : Int32) * ((fX6_readSquare ts tx rto rso).2.2.1)).toNatClampNeg) 0 to (by omega) rfl
    refine hg_iconst C (v := 0) dX6_square_85 (by decide) ?_
    refine hg_istore_n C (lv' := [(1, .int 0), (0, .ref mm)]) dX6_square_86 rfl (by decide) rfl ?_
    refine hg_sub [1, 0] rfl ?_
    refine lpX6_square_87 C mm m1 m6 m7 ma mb mc md me mg mh mj mk ts pc pe tu rp rt ac sn sd sl tx to so rto rso pg ik ((fX6_readSquare ts tx rto rso).2.1) ((fX6_readSquare ts tx rto rso).2.2.1) ((fX6_readSquare ts tx rto rso).2.2.2.1) ((fX6_readSquare ts tx rto rso).2.2.1) ((fX6_readSquare ts tx rto rso).2.2.2.1) (itN (stX6_square_56 ((fX6_readSquare ts tx rto rso).2.2.2.2.1)) (((6 : Int32) * ((fX6_readSquare ts tx rto rso).2.2.1)).toNatClampNeg) to) ((fX6_readSquare ts tx rto rso).2.2.2.2.1) ((fX6_readSquare ts tx rto rso).2.2.2.2.2) (itN stX6_square_35 21 pg) hts (sq_3 (sq_b hts (by assumption)).2) so ?_ (((3 : Int32) * ((fX6_readSquare ts tx rto rso).2.2.2.1)).toNatClampNeg) 0 so (by omega) rfl
    refine hg_iconst C (v := 0) dX6_square_115 (by decide) ?_
    refine hg_istore_n C (lv' := [(1, .int 0), (0, .ref mm)]) dX6_square_116 rfl (by decide) rfl ?_
    refine hg_sub [1, 0] rfl ?_
    refine lpX6_square_117 C mm m1 m6 m7 ma mb mc md me mg mh mj mk ts pc pe tu rp rt ac sn sd sl tx to so rto rso pg ik ((fX6_readSquare ts tx rto rso).2.1) ((fX6_readSquare ts tx rto rso).2.2.1) ((fX6_readSquare ts tx rto rso).2.2.2.1) ((fX6_readSquare ts tx rto rso).2.2.1) ((fX6_readSquare ts tx rto rso).2.2.2.1) (itN (stX6_square_56 ((fX6_readSquare ts tx rto rso).2.2.2.2.1)) (((6 : Int32) * ((fX6_readSquare ts tx rto rso).2.2.1)).toNatClampNeg) to) (itN (stX6_square_87 ((fX6_readSquare ts tx rto rso).2.2.2.2.2)) (((3 : Int32) * ((fX6_readSquare ts tx rto rso).2.2.2.1)).toNatClampNeg) so) ((fX6_readSquare ts tx rto rso).2.2.2.2.1) ((fX6_readSquare ts tx rto rso).2.2.2.2.2) hts (Nat.le_of_lt_succ (vp_cl (sq_b hts (by assumption)).1)) (itN stX6_square_35 21 pg) ?_ (((fX6_readSquare ts tx rto rso).2.2.1).toNatClampNeg) 0 (itN stX6_square_35 21 pg) (by omega) rfl
    refine hg_aload_n C dX6_square_200 rfl 0 rfl ?_
    refine hg_iconst C (v := 0) dX6_square_201 (by decide) ?_
    refine hg_put C (Cn := RX6) (T := TX6) (N := 23) (ws' := [(mm, .inr (6, [.int 0, .ref m1, .int ts, .int ((fX6_readSquare ts tx rto rso).2.1), .int ((fX6_readSquare ts tx rto rso).2.2.1), .int ((fX6_readSquare ts tx rto rso).2.2.2.1), .ref m6, .ref m7, .int ((fX6_readSquare ts tx rto rso).2.2.1), .int ((fX6_readSquare ts tx rto rso).2.2.2.1), .ref ma, .ref mb, .ref mc, .ref md, .ref me, .int 0, .ref mg, .ref mh, .int sn, .ref mj, .ref mk, .long sd, .int sl])), (m1, .inl (E.2.1.1, 64, .inl tx)), (m6, .inl (E.2.1.1, 36, .inl (itN (stX6_square_56 ((fX6_readSquare ts tx rto rso).2.2.2.2.1)) (((6 : Int32) * ((fX6_readSquare ts tx rto rso).2.2.1)).toNatClampNeg) to))), (m7, .inl (E.2.1.1, 12, .inl (itN (stX6_square_87 ((fX6_readSquare ts tx rto rso).2.2.2.2.2)) (((3 : Int32) * ((fX6_readSquare ts tx rto rso).2.2.2.1)).toNatClampNeg) so))), (ma, .inl (E.2.1.1, 36, .inl ((fX6_readSquare ts tx rto rso).2.2.2.2.1))), (mb, .inl (E.2.1.1, 12, .inl ((fX6_readSquare ts tx rto rso).2.2.2.2.2))), (mc, .inl (E.2.1.1, 21, .inl (itN (stX6_square_117 (itN (stX6_square_56 ((fX6_readSquare ts tx rto rso).2.2.2.2.1)) (((6 : Int32) * ((fX6_readSquare ts tx rto rso).2.2.1)).toNatClampNeg) to)) (((fX6_readSquare ts tx rto rso).2.2.1).toNatClampNeg) (itN stX6_square_35 21 pg)))), (mh, .inl (E.2.1.2.1, 2, .inl ik))]) mrX6_square_6 tyX6 tyX6_ok nmX6 0 rfl rfl 15 (by decide) mmX6_square_f97 rfl rfl rfl rfl (Nat.le_of_ble_eq_true rfl) rfl dX6_square_202 ?_
    refine hg_aload_n C dX6_square_205 rfl 0 rfl ?_
    refine hg_get C (Cn := RX6) (T := TX6) (N := 23) (v := .ref mh) mrX6_square_6 0 rfl rfl 17 (by decide) mmX6_square_f37 rfl dX6_square_206 ?_
    refine hg_iconst C (v := 0) dX6_square_209 (by decide) ?_
    refine hg_iconst C (v := 0) dX6_square_210 (by decide) ?_
    refine hg_zast C (ws' := [(mm, .inr (6, [.int 0, .ref m1, .int ts, .int ((fX6_readSquare ts tx rto rso).2.1), .int ((fX6_readSquare ts tx rto rso).2.2.1), .int ((fX6_readSquare ts tx rto rso).2.2.2.1), .ref m6, .ref m7, .int ((fX6_readSquare ts tx rto rso).2.2.1), .int ((fX6_readSquare ts tx rto rso).2.2.2.1), .ref ma, .ref mb, .ref mc, .ref md, .ref me, .int 0, .ref mg, .ref mh, .int sn, .ref mj, .ref mk, .long sd, .int sl])), (m1, .inl (E.2.1.1, 64, .inl tx)), (m6, .inl (E.2.1.1, 36, .inl (itN (stX6_square_56 ((fX6_readSquare ts tx rto rso).2.2.2.2.1)) (((6 : Int32) * ((fX6_readSquare ts tx rto rso).2.2.1)).toNatClampNeg) to))), (m7, .inl (E.2.1.1, 12, .inl (itN (stX6_square_87 ((fX6_readSquare ts tx rto rso).2.2.2.2.2)) (((3 : Int32) * ((fX6_readSquare ts tx rto rso).2.2.2.1)).toNatClampNeg) so))), (ma, .inl (E.2.1.1, 36, .inl ((fX6_readSquare ts tx rto rso).2.2.2.2.1))), (mb, .inl (E.2.1.1, 12, .inl ((fX6_readSquare ts tx rto rso).2.2.2.2.2))), (mc, .inl (E.2.1.1, 21, .inl (itN (stX6_square_117 (itN (stX6_square_56 ((fX6_readSquare ts tx rto rso).2.2.2.2.1)) (((6 : Int32) * ((fX6_readSquare ts tx rto rso).2.2.1)).toNatClampNeg) to)) (((fX6_readSquare ts tx rto rso).2.2.1).toNatClampNeg) (itN stX6_square_35 21 pg)))), (mh, .inl (E.2.1.2.1, 2, .inl (upd ik (0 : Int32).toNatClampNeg (vp_nar .boolean 0))))]) 7 rfl (by unfold vp_in; decide) rfl dX6_square_211 ?_
    refine hg_aload_n C dX6_square_212 rfl 0 rfl ?_
    refine hg_get C (Cn := RX6) (T := TX6) (N := 23) (v := .ref mh) mrX6_square_6 0 rfl rfl 17 (by decide) mmX6_square_f37 rfl dX6_square_213 ?_
    refine hg_iconst C (v := 1) dX6_square_216 (by decide) ?_
    refine hg_iconst C (v := 0) dX6_square_217 (by decide) ?_
    refine hg_zast C (ws' := [(mm, .inr (6, [.int 0, .ref m1, .int ts, .int ((fX6_readSquare ts tx rto rso).2.1), .int ((fX6_readSquare ts tx rto rso).2.2.1), .int ((fX6_readSquare ts tx rto rso).2.2.2.1), .ref m6, .ref m7, .int ((fX6_readSquare ts tx rto rso).2.2.1), .int ((fX6_readSquare ts tx rto rso).2.2.2.1), .ref ma, .ref mb, .ref mc, .ref md, .ref me, .int 0, .ref mg, .ref mh, .int sn, .ref mj, .ref mk, .long sd, .int sl])), (m1, .inl (E.2.1.1, 64, .inl tx)), (m6, .inl (E.2.1.1, 36, .inl (itN (stX6_square_56 ((fX6_readSquare ts tx rto rso).2.2.2.2.1)) (((6 : Int32) * ((fX6_readSquare ts tx rto rso).2.2.1)).toNatClampNeg) to))), (m7, .inl (E.2.1.1, 12, .inl (itN (stX6_square_87 ((fX6_readSquare ts tx rto rso).2.2.2.2.2)) (((3 : Int32) * ((fX6_readSquare ts tx rto rso).2.2.2.1)).toNatClampNeg) so))), (ma, .inl (E.2.1.1, 36, .inl ((fX6_readSquare ts tx rto rso).2.2.2.2.1))), (mb, .inl (E.2.1.1, 12, .inl ((fX6_readSquare ts tx rto rso).2.2.2.2.2))), (mc, .inl (E.2.1.1, 21, .inl (itN (stX6_square_117 (itN (stX6_square_56 ((fX6_readSquare ts tx rto rso).2.2.2.2.1)) (((6 : Int32) * ((fX6_readSquare ts tx rto rso).2.2.1)).toNatClampNeg) to)) (((fX6_readSquare ts tx rto rso).2.2.1).toNatClampNeg) (itN stX6_square_35 21 pg)))), (mh, .inl (E.2.1.2.1, 2, .inl (upd (upd ik (0 : Int32).toNatClampNeg (vp_nar .boolean 0)) (1 : Int32).toNatClampNeg (vp_nar .boolean 0))))]) 7 rfl (by unfold vp_in; decide) rfl dX6_square_218 ?_
    refine hg_bipush C (v := 10) dX6_square_219 (by decide) ?_
    refine hg_aload_n C dX6_square_221 rfl 0 rfl ?_
    refine hg_get C (Cn := RX6) (T := TX6) (N := 23) (v := .int ((fX6_readSquare ts tx rto rso).2.2.1)) mrX6_square_6 0 rfl rfl 4 (by decide) mmX6_square_f51 rfl dX6_square_222 ?_
    refine hg_imul C dX6_square_225 ?_
    refine hg_aload_n C dX6_square_226 rfl 0 rfl ?_
    refine hg_get C (Cn := RX6) (T := TX6) (N := 23) (v := .int ((fX6_readSquare ts tx rto rso).2.2.2.1)) mrX6_square_6 0 rfl rfl 5 (by decide) mmX6_square_f58 rfl dX6_square_227 ?_
    refine hg_iadd C dX6_square_230 ?_
    have e9 : (fX6_square ts pe tu ac tx to so rto rso pg ik) = ((10 * ((fX6_readSquare ts tx rto rso).2.2.1)) + ((fX6_readSquare ts tx rto rso).2.2.2.1), (fX6_readSquare ts tx rto rso).2.1, (fX6_readSquare ts tx rto rso).2.2.1, (fX6_readSquare ts tx rto rso).2.2.2.1, (fX6_readSquare ts tx rto rso).2.2.1, (fX6_readSquare ts tx rto rso).2.2.2.1, 0, (itN (stX6_square_56 ((fX6_readSquare ts tx rto rso).2.2.2.2.1)) (((6 : Int32) * ((fX6_readSquare ts tx rto rso).2.2.1)).toNatClampNeg) to), (itN (stX6_square_87 ((fX6_readSquare ts tx rto rso).2.2.2.2.2)) (((3 : Int32) * ((fX6_readSquare ts tx rto rso).2.2.2.1)).toNatClampNeg) so), (fX6_readSquare ts tx rto rso).2.2.2.2.1, (fX6_readSquare ts tx rto rso).2.2.2.2.2, (itN (stX6_square_117 (itN (stX6_square_56 ((fX6_readSquare ts tx rto rso).2.2.2.2.1)) (((6 : Int32) * ((fX6_readSquare ts tx rto rso).2.2.1)).toNatClampNeg) to)) (((fX6_readSquare ts tx rto rso).2.2.1).toNatClampNeg) (itN stX6_square_35 21 pg)), upd (upd ik (0 : Int32).toNatClampNeg (vp_nar .boolean 0)) (1 : Int32).toNatClampNeg (vp_nar .boolean 0)) := (hid_eq _).trans ((if_pos c1).trans rfl)
    rw [e9]
    exact hg_iret C dX6_square_231 rfl rfl
  · refine hg_bipush C (v := (-3)) dX6_square_14 (by decide) ?_
    have e9 : (fX6_square ts pe tu ac tx to so rto rso pg ik) = ((-3), (fX6_readSquare ts tx rto rso).2.1, pe, tu, (fX6_readSquare ts tx rto rso).2.2.1, (fX6_readSquare ts tx rto rso).2.2.2.1, ac, to, so, (fX6_readSquare ts tx rto rso).2.2.2.2.1, (fX6_readSquare ts tx rto rso).2.2.2.2.2, pg, ik) := (hid_eq _).trans ((if_neg c1).trans rfl)
    rw [e9]
    exact hg_iret C dX6_square_16 rfl rfl
