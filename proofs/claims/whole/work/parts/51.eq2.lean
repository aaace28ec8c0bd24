theorem min20a {q : Nat} (hq : q < 2 ^ 31) : (if nI q < (20 : Int32) then nI q else 20) = nI (min q 20) := by
  by_cases h : q < 20
  · rw [if_pos (show nI q < (20 : Int32) from nI_lt (b := 20) h (by decide)), Nat.min_eq_left (by omega)]
  · rw [if_neg (show ¬ nI q < (20 : Int32) from nI_nlt (b := 20) (by omega) hq), Nat.min_eq_right (by omega)]
    rfl
theorem min20b {q : Nat} (hq : q < 2 ^ 31) : (if nI q ≤ (20 : Int32) then nI q else 20) = nI (min q 20) := by
  by_cases h : q ≤ 20
  · rw [if_pos (show nI q ≤ (20 : Int32) from nI_le (b := 20) h (by decide)), Nat.min_eq_left h]
  · rw [if_neg (show ¬ nI q ≤ (20 : Int32) from nI_ge (a := 20) (by omega) hq), Nat.min_eq_right (by omega)]
    rfl
theorem hasT_eq {T : Nat} (hT : T ≤ 4) {t : Nat} (ht : t < T) : ¬ fX2_hasTune (nI T) (nI t) = 0 := by
  unfold fX2_hasTune fX5_isWithin
  rw [hid_eq, hid_eq, if_neg (nI_pos (by omega)), show nI T - 1 = nI (T - 1) from pk_sub (b := 1) (by omega), if_neg (nI_nlt (by omega) (by omega))]
  decide
theorem hasT_no {T : Nat} (hT : T ≤ 4) {a : Int32} (h : ¬ fX2_hasTune (nI T) a = 0) : ∃ t, t < T ∧ a = nI t := by
  rw [show fX2_hasTune (nI T) a = fX5_isWithin a 0 (nI T - 1) from hid_eq _] at h
  obtain ⟨h1, h2⟩ := isW_in h
  obtain ⟨j, hj, rfl⟩ := nI_of h1
  rcases Nat.eq_zero_or_pos T with rfl | q
  · exact absurd (Int32.lt_of_lt_of_le (show nI 0 - 1 < 0 by decide) (Int32.not_lt.mp h1)) h2
  · rw [show nI T - 1 = nI (T - 1) from pk_sub (b := 1) q] at h2
    have := lt_nI2 hj h2
    exact ⟨j, by omega, rfl⟩
theorem noT5 (tu a : Int32) : fX6_noTune tu a = if fX2_hasTune tu a = 0 then 1 else 0 := by
  rw [noT_eq, show fX2_hasTune tu a = fX5_isWithin a 0 (tu - 1) from hid_eq _]
theorem noO5 (pe a : Int32) : fX6_noOne pe a = if fX2_hasPerson pe a = 0 then 1 else 0 := by
  rw [noO_eq, show fX2_hasPerson pe a = fX5_isWithin a 0 (pe - 1) from hid_eq _]
theorem hasP_eq {P : Nat} (hP : P ≤ 6) {p : Nat} (hp : p < P) : ¬ fX2_hasPerson (nI P) (nI p) = 0 := by
  unfold fX2_hasPerson fX5_isWithin
  rw [hid_eq, hid_eq, if_neg (nI_pos (by omega)), show nI P - 1 = nI (P - 1) from pk_sub (b := 1) (by omega), if_neg (nI_nlt (by omega) (by omega))]
  decide
theorem hasP_no {P : Nat} (hP : P ≤ 6) {a : Int32} (h : ¬ fX2_hasPerson (nI P) a = 0) : ∃ t, t < P ∧ a = nI t := by
  rw [show fX2_hasPerson (nI P) a = fX5_isWithin a 0 (nI P - 1) from hid_eq _] at h
  obtain ⟨h1, h2⟩ := isW_in h
  obtain ⟨j, hj, rfl⟩ := nI_of h1
  rcases Nat.eq_zero_or_pos P with rfl | q
  · exact absurd (Int32.lt_of_lt_of_le (show nI 0 - 1 < 0 by decide) (Int32.not_lt.mp h1)) h2
  · rw [show nI P - 1 = nI (P - 1) from pk_sub (b := 1) q] at h2
    have := lt_nI2 hj h2
    exact ⟨j, by omega, rfl⟩
theorem hear_step {P T K : Nat} {mi ha ba wa : Int32} {pl pg pf tf to so : Nat → Int32} {σ : Int32 × (Nat → Int32) × (Nat → Int32)} (hF : FR P T pf tf to so) {i j t : Nat} (hi : i < P) (hj : j ≤ 9) (ht : t < T) (h : PR P T K (mi, ha, ba, σ.1, wa, σ.2.1, σ.2.2, pl) pg) :
    PR P T K (mi, ha, ba, (stX3_hear_51 pf tf (nI t) (fX2_ofTune tf (nI t) 1) (nI j) i σ).1, wa, (stX3_hear_51 pf tf (nI t) (fX2_ofTune tf (nI t) 1) (nI j) i σ).2.1, (stX3_hear_51 pf tf (nI t) (fX2_ofTune tf (nI t) 1) (nI j) i σ).2.2, pl) (stX6_goPlay_45 to so (nI t) (nI j) i pg) := by
  obtain ⟨⟨hP, hT⟩, f1, f2, f3, f4, f5⟩ := hF
  have h' := h
  obtain ⟨⟨h1, h2, h3, h4, h5⟩, h6, h7, h8, ⟨u, hu, hu2⟩, h10, h11, h12, h13⟩ := h'
  dsimp only at h1 h2 h3 h4 h5 h6 h7 h8 hu2 h10 h11 h12 h13
  rw [hu2] at h h4
  have hu6 := lt64 hP hu
  have g1 : fX2_ofTune tf (nI t) 1 = so (3 * t + 1) := (ofT (k := 1) (by omega) (by decide)).trans (f2 _ (by omega))
  have g0 : fX2_ofTune tf (nI t) 0 = so (3 * t) := (ofT (k := 0) (by omega) (by decide)).trans (f2 _ (by omega))
  have g4 : fX2_ofPerson pf (nI i) 4 = to (6 * i + 4) := (ofP (k := 4) (by omega) (by decide)).trans (f1 _ (by omega))
  have e6 := k6 (i := i) (by omega)
  have e31 : ((3 : Int32) * nI t + 1).toNatClampNeg = 3 * t + 1 := k3k (c := 1) (by omega) (by decide)
  have e30 := k30 (t := t) (by omega)
  have e64 : ((6 : Int32) * nI i + 4).toNatClampNeg = 6 * i + 4 := k6k (c := 4) (by omega) (by decide)
  have ei := kI (i := i) (by omega)
  obtain ⟨m, hm, hm2⟩ := h12 i hi
  unfold stX3_hear_51 stX6_goPlay_45
  rw [hid_eq, hid_eq, hu2, g1, g0, g4, e6, e31, e30, e64, ei, show (12 : Int32).toNatClampNeg = 12 from rfl, h4, has5 hu6 (by omega), has6 hu6 (by omega)]
  rcases bit01 u i with hb | hb
  · rw [hb, if_pos (show nI 0 = 0 from rfl), if_pos (show nI 0 = 0 from rfl)]
    exact h
  · rw [hb, if_neg (show ¬ nI 1 = 0 by decide), if_neg (show ¬ nI 1 = 0 by decide), pk_us, pk_us, h7 i hi]
    have q1 := PR_pa hP h (x := σ.2.2 i - so (3 * t + 1)) hi
    by_cases hp : (0 : Int32) ≤ σ.2.2 i - so (3 * t + 1)
    · rw [if_pos hp, if_pos hp, pk_us, uu, pk_un (show i ≠ 6 + i by omega), h6 i hi, hm2]
      by_cases ht2 : so (3 * t) = to (6 * i + 4)
      · rw [if_pos ht2, if_neg (show ¬ (1 : Int32) = 0 by decide), if_pos ht2.symm]
        have e1 : nI m + nI j + 2 = nI (m + j + 2) := by rw [nI_add]; exact nI_add _ 2
        have e2 : nI m + (nI j + 2) = nI (m + j + 2) := by rw [show nI j + 2 = nI (j + 2) from nI_add _ 2, nI_add, Nat.add_assoc]
        rw [e1, e2, min20a (by omega), min20b (by omega)]
        exact PR_mo hP q1 hi (Nat.min_le_right _ _)
      · rw [if_neg ht2, if_pos (show (0 : Int32) = 0 from rfl), if_neg (show ¬ to (6 * i + 4) = so (3 * t) from fun q => ht2 q.symm)]
        have e1 : nI m + nI j + 0 = nI (m + j) := by rw [nI_add]; exact nI_add _ 0
        have e2 : nI m + (nI j + 0) = nI (m + j) := by rw [show nI j + 0 = nI (j + 0) from nI_add _ 0, nI_add]; rfl
        rw [e1, e2, min20a (by omega), min20b (by omega)]
        exact PR_mo hP q1 hi (Nat.min_le_right _ _)
    · rw [if_neg hp, if_neg hp, pk_un (show 12 ≠ 6 + i by omega), h4, clr_eq hu6 (by omega)]
      exact PR_st hP q1 (clr_lt hu)
theorem hear_stay {P : Nat} {pf tf mo pa : Nat → Int32} {a x y : Int32} {u i : Nat} (hP : P ≤ 6) (hu : u < 2 ^ P) (h1 : P ≤ i) (h2 : i < 6) : stX3_hear_51 pf tf a x y i (nI u, mo, pa) = (nI u, mo, pa) := by
  unfold stX3_hear_51
  rw [hid_eq, has5 (lt64 hP hu) h2, bit_big hu h1]
  exact if_pos rfl
theorem come_step {P T K : Nat} {mi ha ba : Int32} {mo pa pl pg pf tf to so : Nat → Int32} {σ : Int32 × Int32} (hF : FR P T pf tf to so) {i : Nat} (hi : i < P) (h : PR P T K (mi, ha, ba, σ.1, σ.2, mo, pa, pl) pg) :
    PR P T K (mi, ha, ba, (stX3_letCome_2 pf i σ).1, (stX3_letCome_2 pf i σ).2, mo, pa, pl) (stX6_goPlay_180 to i pg) := by
  obtain ⟨⟨hP, hT⟩, f1, f2, f3, f4, f5⟩ := hF
  have h' := h
  obtain ⟨⟨h1, h2, h3, h4, h5⟩, h6, h7, h8, ⟨u, hu, hu2⟩, ⟨w, hw, hw2⟩, h11, h12, h13⟩ := h'
  dsimp only at h1 h2 h3 h4 h5 h6 h7 h8 hu2 hw2 h11 h12 h13
  rw [hu2, hw2] at h
  rw [hu2] at h4
  rw [hw2] at h5
  have hu6 := lt64 hP hu
  have hw6 := lt64 hP hw
  have g5 : fX2_ofPerson pf (nI i) 5 = to (6 * i + 5) := (ofP (k := 5) (by omega) (by decide)).trans (f1 _ (by omega))
  have e65 : ((6 : Int32) * nI i + 5).toNatClampNeg = 6 * i + 5 := k6k (c := 5) (by omega) (by decide)
  unfold stX3_letCome_2 stX6_goPlay_180
  rw [hid_eq, hid_eq, hu2, hw2, g5, e65, show (12 : Int32).toNatClampNeg = 12 from rfl, show (13 : Int32).toNatClampNeg = 13 from rfl, h4, h5, has5 hw6 (by omega), has6 hw6 (by omega), ring_eq hu6, many_nI hu6]
  rcases bit01 w i with hb | hb
  · rw [hb, if_pos (show nI 0 = 0 from rfl), if_pos (show nI 0 = 0 from rfl)]
    exact h
  · rw [hb, if_neg (show ¬ nI 1 = 0 by decide), if_neg (show ¬ nI 1 = 0 by decide)]
    by_cases hc : nI (cnt u) < to (6 * i + 5)
    · rw [if_pos hc, if_pos hc]
      exact h
    · rw [if_neg hc, if_neg hc, pk_un (show 13 ≠ 12 by decide), h5, set_eq hu6 (by omega), clr_eq hw6 (by omega)]
      exact PR_wa hP (PR_st hP h (set_lt hu hi)) (clr_lt hw)
theorem come_stay {P : Nat} {pf : Nat → Int32} {st : Int32} {w i : Nat} (hP : P ≤ 6) (hw : w < 2 ^ P) (h1 : P ≤ i) (h2 : i < 6) : stX3_letCome_2 pf i (st, nI w) = (st, nI w) := by
  unfold stX3_letCome_2
  rw [hid_eq, has5 (lt64 hP hw) h2, bit_big hw h1]
  exact if_pos rfl
theorem come_loop {P T K : Nat} {mi ha ba st wa : Int32} {mo pa pl pg pf tf to so : Nat → Int32} (hF : FR P T pf tf to so) (h : PR P T K (mi, ha, ba, st, wa, mo, pa, pl) pg) :
    PR P T K (mi, ha, ba, (fX3_letCome pf st wa).1, (fX3_letCome pf st wa).2, mo, pa, pl) (itN (stX6_goPlay_180 to) P pg) := by
  have key := it_sim (f := stX3_letCome_2 pf) (g := stX6_goPlay_180 to) (fun _ σ pg => PR P T K (mi, ha, ba, σ.1, σ.2, mo, pa, pl) pg) P (fun i a b hi h => come_step hF hi h) (a := (st, wa)) (b := pg) h
  have e : itN (stX3_letCome_2 pf) 6 (st, wa) = itN (stX3_letCome_2 pf) P (st, wa) := by
    refine it_stay 6 hF.1.1 (fun i h1 h2 => ?_)
    obtain ⟨w, hw, hw2⟩ := key.2.2.2.2.2.1
    generalize itN (stX3_letCome_2 pf) P (st, wa) = z at hw2
    obtain ⟨z1, z2⟩ := z
    dsimp only at hw2
    subst hw2
    exact come_stay hF.1.1 hw h1 h2
  unfold fX3_letCome
  rw [hid_eq, e]
  exact key
theorem hear_loop {P T K : Nat} {mi ha ba st wa : Int32} {mo pa pl pg pf tf to so : Nat → Int32} (hF : FR P T pf tf to so) {j t : Nat} (hj : j ≤ 9) (ht : t < T) (h : PR P T K (mi, ha, ba, st, wa, mo, pa, pl) pg) :
    PR P T K (mi, ha, ba, (itN (stX3_hear_51 pf tf (nI t) (fX2_ofTune tf (nI t) 1) (nI j)) 6 (st, mo, pa)).1, wa, (itN (stX3_hear_51 pf tf (nI t) (fX2_ofTune tf (nI t) 1) (nI j)) 6 (st, mo, pa)).2.1, (itN (stX3_hear_51 pf tf (nI t) (fX2_ofTune tf (nI t) 1) (nI j)) 6 (st, mo, pa)).2.2, pl) (itN (stX6_goPlay_45 to so (nI t) (nI j)) P pg) := by
  have key := it_sim (f := stX3_hear_51 pf tf (nI t) (fX2_ofTune tf (nI t) 1) (nI j)) (g := stX6_goPlay_45 to so (nI t) (nI j)) (fun _ σ pg => PR P T K (mi, ha, ba, σ.1, wa, σ.2.1, σ.2.2, pl) pg) P (fun i a b hi h => hear_step hF hi hj ht h) (a := (st, mo, pa)) (b := pg) h
  have e : itN (stX3_hear_51 pf tf (nI t) (fX2_ofTune tf (nI t) 1) (nI j)) 6 (st, mo, pa) = itN (stX3_hear_51 pf tf (nI t) (fX2_ofTune tf (nI t) 1) (nI j)) P (st, mo, pa) := by
    refine it_stay 6 hF.1.1 (fun i h1 h2 => ?_)
    obtain ⟨w, hw, hw2⟩ := key.2.2.2.2.1
    generalize itN (stX3_hear_51 pf tf (nI t) (fX2_ofTune tf (nI t) 1) (nI j)) P (st, mo, pa) = z at hw2
    obtain ⟨z1, z2, z3⟩ := z
    dsimp only at hw2
    subst hw2
    exact hear_stay hF.1.1 hw h1 h2
  rw [e]
  exact key
/-- the joy that a tune brings -/
theorem joy_eq {g k : Nat} (hg : g ≤ 9) (hk : k < 2 ^ 30) : ∃ j, j ≤ 9 ∧ (if (0 : Int32) < nI g - nI k then nI g - nI k else 0) = nI j ∧ (if (0 : Int32) ≤ nI g - nI k then nI g - nI k else (0 : Int32)) = nI j := by
  by_cases h : k < g
  · have e : nI g - nI k = nI (g - k) := pk_sub (by omega)
    refine ⟨g - k, by omega, ?_, ?_⟩
    · rw [e, if_pos (show (0 : Int32) < nI (g - k) from nI_lt (a := 0) (by omega) (by omega))]
    · rw [e, if_pos (nI_pos' (by omega))]
  · refine ⟨0, by omega, ?_, ?_⟩
    · by_cases h2 : g = k
      · rw [h2, show nI k - nI k = nI (k - k) from pk_sub (Nat.le_refl k), Nat.sub_self]
        rfl
      · have := pk_sneg (a := g) (b := k) hk (by omega)
        rw [if_neg (fun q => absurd (Int32.lt_trans this q) Int32.lt_irrefl)]
        rfl
    · by_cases h2 : g = k
      · rw [h2, show nI k - nI k = nI (k - k) from pk_sub (Nat.le_refl k), Nat.sub_self]
        rfl
      · have := pk_sneg (a := g) (b := k) hk (by omega)
        rw [if_neg (Int32.not_le.mpr this)]
        rfl
theorem goPlay_eq {P T K : Nat} {S : Sc} {pg pf tf to so : Nat → Int32} (hF : FR P T pf tf to so) (hK : K < 2 ^ 29) {t : Nat} (ht : t < T) (h : PR P T K S pg) :
    PR P T (K + 1) (gX3_hear_s (nI T) pf tf (nI t) S) (fX6_goPlay (nI P) to so pg (nI t)).2 ∧ (fX6_goPlay (nI P) to so pg (nI t)).1 = gX3_ringSize_s (gX3_hear_s (nI T) pf tf (nI t) S) := by
  obtain ⟨mi, ha, ba, st, wa, mo, pa, pl⟩ := S
  obtain ⟨⟨hP, hT⟩, f1, f2, f3, f4, f5⟩ := id hF
  obtain ⟨g, hg, hg2⟩ := f5 t ht
  obtain ⟨k, hk, hk2⟩ := h.2.2.2.2.2.2.2.2 t ht
  have hpt : pg (17 + t) = pl t := h.2.2.2.1 t ht
  dsimp only at hk2
  have e17 := k17 (t := t) (by omega)
  have e31 : ((3 : Int32) * nI t + 1).toNatClampNeg = 3 * t + 1 := k3k (c := 1) (by omega) (by decide)
  have e32 : ((3 : Int32) * nI t + 2).toNatClampNeg = 3 * t + 2 := k3k (c := 2) (by omega) (by decide)
  have et := kI (i := t) (by omega)
  have eP := kI (i := P) (by omega)
  have g2 : fX2_ofTune tf (nI t) 2 = nI g := ((ofT (k := 2) (by omega) (by decide)).trans (f2 _ (by omega))).trans hg2
  have g1 : fX2_ofTune tf (nI t) 1 = so (3 * t + 1) := (ofT (k := 1) (by omega) (by decide)).trans (f2 _ (by omega))
  obtain ⟨j, hj, j1, j2⟩ := joy_eq hg (show k < 2 ^ 30 by omega)
  have e1 : fX3_hear (nI T) pf tf mi st wa mo pa pl (nI t) = (mi + so (3 * t + 1), (fX3_letCome pf (itN (stX3_hear_51 pf tf (nI t) (fX2_ofTune tf (nI t) 1) (nI j)) 6 (st, mo, pa)).1 wa).1, (fX3_letCome pf (itN (stX3_hear_51 pf tf (nI t) (fX2_ofTune tf (nI t) 1) (nI j)) 6 (st, mo, pa)).1 wa).2, (itN (stX3_hear_51 pf tf (nI t) (fX2_ofTune tf (nI t) 1) (nI j)) 6 (st, mo, pa)).2.1, (itN (stX3_hear_51 pf tf (nI t) (fX2_ofTune tf (nI t) 1) (nI j)) 6 (st, mo, pa)).2.2, upd pl t (nI (k + 1))) := by
    unfold fX3_hear
    rw [hid_eq, if_neg (hasT_eq hT ht), if_pos (show nI t < 4 from nI_lt (b := 4) (by omega) (by decide)), et, hk2, g2, j1, show nI k + 1 = nI (k + 1) from nI_1 k, ← g1]
  have q1 := hear_loop hF hj ht h
  have q2 := come_loop hF q1
  have q3 := PR_up q2 (Nat.le_succ K)
  have q4 := PR_pl hT hP q3 ht (show k + 1 ≤ K + 1 by omega)
  have q5 := PR_mi hP q4 (x := mi + so (3 * t + 1))
  have hm : (itN (stX6_goPlay_180 to) P (itN (stX6_goPlay_45 to so (nI t) (nI j)) P pg)) (17 + t) = nI k := (q2.2.2.2.1 t ht).trans hk2
  have hmi : (itN (stX6_goPlay_180 to) P (itN (stX6_goPlay_45 to so (nI t) (nI j)) P pg)) 14 = mi := q2.1.1
  have e2 : fX6_goPlay (nI P) to so pg (nI t) = (fX6_many (upd (upd (itN (stX6_goPlay_180 to) P (itN (stX6_goPlay_45 to so (nI t) (nI j)) P pg)) (17 + t) (nI (k + 1))) 14 (mi + so (3 * t + 1)) 12), upd (upd (itN (stX6_goPlay_180 to) P (itN (stX6_goPlay_45 to so (nI t) (nI j)) P pg)) (17 + t) (nI (k + 1))) 14 (mi + so (3 * t + 1))) := by
    unfold fX6_goPlay
    rw [hid_eq, e17, e32, e31, eP, hpt, hk2, hg2, j2, hm, show nI k + 1 = nI (k + 1) from nI_1 k, show (14 : Int32).toNatClampNeg = 14 from rfl, show (12 : Int32).toNatClampNeg = 12 from rfl, pk_un (show 14 ≠ 17 + t by omega), hmi]
  have e3 : gX3_hear_s (nI T) pf tf (nI t) (mi, ha, ba, st, wa, mo, pa, pl) = (mi + so (3 * t + 1), ha, ba, (fX3_letCome pf (itN (stX3_hear_51 pf tf (nI t) (fX2_ofTune tf (nI t) 1) (nI j)) 6 (st, mo, pa)).1 wa).1, (fX3_letCome pf (itN (stX3_hear_51 pf tf (nI t) (fX2_ofTune tf (nI t) 1) (nI j)) 6 (st, mo, pa)).1 wa).2, (itN (stX3_hear_51 pf tf (nI t) (fX2_ofTune tf (nI t) 1) (nI j)) 6 (st, mo, pa)).2.1, (itN (stX3_hear_51 pf tf (nI t) (fX2_ofTune tf (nI t) 1) (nI j)) 6 (st, mo, pa)).2.2, upd pl t (nI (k + 1))) := by
    unfold gX3_hear_s
    rw [e1]
  rw [e2, e3]
  refine ⟨q5, ?_⟩
  obtain ⟨u, hu, hu2⟩ := q5.2.2.2.2.1
  have hu3 := q5.1.2.2.2.1
  unfold gX3_ringSize_s
  dsimp only at hu2 hu3 ⊢
  rw [hu3, hu2, many_nI (lt64 hP hu), ring_eq (lt64 hP hu)]
