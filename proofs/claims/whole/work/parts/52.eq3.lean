theorem mood_at {mo : Nat → Int32} {i : Nat} (hi : i < 6) : fX3_moodOf mo (nI i) = mo i := by
  unfold fX3_moodOf
  rw [hid_eq, if_neg (nI_pos (by omega)), if_neg (show ¬ (6 : Int32) ≤ nI i from nI_ge (b := 6) hi (by decide)), nI_clamp (by omega)]
theorem half_eq {m : Nat} (hm : m ≤ 20) : nI m / 2 = nI (m / 2) := pk_div (d := 2) (by omega) (by decide) (by decide)
theorem gift5 {mo : Nat → Int32} {i m b : Nat} (hi : i < 6) (hm : m ≤ 20) (hb : b ≤ 10) (e : mo i = nI m) : fX3_giftOf (nI b) mo (nI i) = nI (min (m / 2) (b + 1)) := by
  unfold fX3_giftOf
  rw [hid_eq, mood_at hi, e, half_eq hm, show nI b + 1 = nI (b + 1) from nI_1 b]
  by_cases h : b + 1 < m / 2
  · rw [if_pos (nI_lt h (by omega)), Nat.min_eq_right (by omega)]
  · rw [if_neg (nI_nlt (by omega) (by omega)), Nat.min_eq_left (by omega)]
theorem gift6 {pg : Nat → Int32} {i m b : Nat} (hi : i < 6) (hm : m ≤ 20) (hb : b ≤ 10) (e : pg i = nI m) (eb : pg 16 = nI b) : fX6_giftOf pg (nI i) = nI (min (m / 2) (b + 1)) := by
  unfold fX6_giftOf
  rw [hid_eq, nI_clamp (by omega), e, half_eq hm, show (16 : Int32).toNatClampNeg = 16 from rfl, eb, show nI b + 1 = nI (b + 1) from nI_1 b]
  by_cases h : m / 2 ≤ b + 1
  · rw [if_pos (nI_le h (by omega)), Nat.min_eq_left h]
  · rw [if_neg (nI_ge (by omega) (by omega)), Nat.min_eq_right (by omega)]
theorem maxa {b g : Nat} (hb : b ≤ 10) (hg : g ≤ 10) : (if nI b < nI g then nI g else nI b) = nI (max b g) := by
  by_cases h : b < g
  · rw [if_pos (nI_lt h (by omega)), Nat.max_eq_right (by omega)]
  · rw [if_neg (nI_nlt (by omega) (by omega)), Nat.max_eq_left (by omega)]
theorem maxb {b g : Nat} (hb : b ≤ 10) (hg : g ≤ 10) : (if nI g ≤ nI b then nI b else nI g) = nI (max b g) := by
  by_cases h : g ≤ b
  · rw [if_pos (nI_le h (by omega)), Nat.max_eq_left h]
  · rw [if_neg (nI_ge (by omega) (by omega)), Nat.max_eq_right (by omega)]
theorem coll_step {P T K : Nat} {mi ha0 wa x : Int32} {pa pl pg pf tf to so : Nat → Int32} {u B : Nat} {σ : Int32 × Int32 × (Nat → Int32)} (hF : FR P T pf tf to so) {i : Nat} (hi : i < P)
    (h : PR P T K (mi, σ.1, σ.2.1, nI u, wa, σ.2.2, pa, pl) pg ∧ ∃ q, q ≤ B + 10 * i ∧ σ.1 = ha0 + nI q) :
    PR P T K (mi, (stX3_collectFrom_2 pf (nI u) x i σ).1, (stX3_collectFrom_2 pf (nI u) x i σ).2.1, nI u, wa, (stX3_collectFrom_2 pf (nI u) x i σ).2.2, pa, pl) (stX6_goRound_37 to x i pg) ∧ ∃ q, q ≤ B + 10 * (i + 1) ∧ (stX3_collectFrom_2 pf (nI u) x i σ).1 = ha0 + nI q := by
  obtain ⟨⟨hP, hT⟩, f1, f2, f3, f4, f5⟩ := hF
  obtain ⟨h, q, hq, hq2⟩ := h
  have h' := h
  obtain ⟨⟨h1, h2, h3, h4, h5⟩, h6, h7, h8, ⟨u', hu, hu2⟩, h10, ⟨b, hb, hb2⟩, h12, h13⟩ := h'
  dsimp only at h1 h2 h3 h4 h5 h6 h7 h8 hu2 hb2 h10 h12 h13
  have hu6 : u' < 64 := lt64 hP hu
  rw [hb2] at h h3
  obtain ⟨m, hm, hm2⟩ := h12 i hi
  have g0 : fX2_ofPerson pf (nI i) 0 = to (6 * i) := (ofP (k := 0) (by omega) (by decide)).trans (f1 _ (by omega))
  have e60 := k60 (i := i) (by omega)
  have ei := kI (i := i) (by omega)
  have hg : min (m / 2) (b + 1) ≤ 10 := Nat.le_trans (Nat.min_le_left _ _) (by omega)
  unfold stX3_collectFrom_2 stX6_goRound_37
  rw [hid_eq, hid_eq, hb2, g0, e60, ei, show (12 : Int32).toNatClampNeg = 12 from rfl, show (15 : Int32).toNatClampNeg = 15 from rfl, show (16 : Int32).toNatClampNeg = 16 from rfl, h4, hu2, has5 hu6 (by omega), has6 hu6 (by omega)]
  rcases bit01 u' i with hbt | hbt
  · rw [hbt, if_pos (show nI 0 = 0 from rfl), if_pos (show nI 0 = 0 from rfl), ← hu2]
    exact ⟨h, q, by omega, hq2⟩
  · rw [hbt, if_neg (show ¬ nI 1 = 0 by decide), if_neg (show ¬ nI 1 = 0 by decide)]
    by_cases hr : to (6 * i) = x
    · rw [if_pos hr, if_pos hr, gift5 (show i < 6 by omega) hm hb hm2, gift6 (show i < 6 by omega) hm hb ((h6 i hi).trans hm2) h3, pk_un (show 16 ≠ 15 by decide), h3, h2, maxa hb hg, maxb hb hg, ← hu2]
      refine ⟨PR_mo (m := 0) hP (PR_ba hP (PR_ha hP h) (by omega)) hi (by omega), q + min (m / 2) (b + 1), by omega, ?_⟩
      show σ.1 + nI _ = _
      rw [hq2, Int32.add_assoc, nI_add]
    · rw [if_neg hr, if_neg hr, ← hu2]
      exact ⟨h, q, by omega, hq2⟩
theorem coll_loop {P T K : Nat} {mi ha0 ha ba wa x : Int32} {mo pa pl pg pf tf to so : Nat → Int32} {u q B : Nat} (hF : FR P T pf tf to so) (h : PR P T K (mi, ha, ba, nI u, wa, mo, pa, pl) pg) (hq : q ≤ B) (hq2 : ha = ha0 + nI q) :
    PR P T K (mi, (fX3_collectFrom pf ha ba (nI u) mo x).1, (fX3_collectFrom pf ha ba (nI u) mo x).2.1, nI u, wa, (fX3_collectFrom pf ha ba (nI u) mo x).2.2, pa, pl) (itN (stX6_goRound_37 to x) P pg) ∧ ∃ q, q ≤ B + 60 ∧ (fX3_collectFrom pf ha ba (nI u) mo x).1 = ha0 + nI q := by
  have key := it_sim (f := stX3_collectFrom_2 pf (nI u) x) (g := stX6_goRound_37 to x) (fun i σ pg => PR P T K (mi, σ.1, σ.2.1, nI u, wa, σ.2.2, pa, pl) pg ∧ ∃ q, q ≤ B + 10 * i ∧ σ.1 = ha0 + nI q) P (fun i a b hi h => coll_step hF hi h) (a := (ha, ba, mo)) (b := pg) ⟨h, q, by omega, hq2⟩
  have hP := hF.1.1
  obtain ⟨u', hu, hu2⟩ := h.2.2.2.2.1
  dsimp only at hu2
  have e : itN (stX3_collectFrom_2 pf (nI u) x) 6 (ha, ba, mo) = itN (stX3_collectFrom_2 pf (nI u) x) P (ha, ba, mo) := by
    refine it_stay 6 hP (fun i h1 h2 => ?_)
    unfold stX3_collectFrom_2
    rw [hid_eq, hu2, has5 (lt64 hP hu) h2, bit_big hu h1]
    exact if_pos rfl
  unfold fX3_collectFrom
  rw [hid_eq, e]
  obtain ⟨k1, q1, k2, k3⟩ := key
  exact ⟨k1, q1, by omega, k3⟩
def visB (s i : Nat) : Nat := if s = 0 then 2 ^ i - 1 else 16 - 2 ^ (4 - i)
def rowOf (s i : Nat) : Int32 := if nI s = 0 then nI i else 3 - nI i
theorem vis_next : ∀ (s : Fin 2) (i : Fin 4), (nI (visB s.1 i.1) ||| (1 <<< (rowOf s.1 i.1 &&& 31))) = nI (visB s.1 (i.1 + 1)) := by decide +kernel
theorem slipC : ∀ (s : Fin 2) (i r y : Fin 4), ((((nI (visB s.1 (i.1 + 1)) >>> (nI r.1 &&& 31)) &&& 1) = 0 ∧ ¬ nI y.1 < (if 0 ≤ nI r.1 - rowOf s.1 i.1 then nI r.1 - rowOf s.1 i.1 else 0 - (nI r.1 - rowOf s.1 i.1))) ↔ (¬ (if nI s.1 = 0 then nI r.1 - rowOf s.1 i.1 else rowOf s.1 i.1 - nI r.1) ≤ 0 ∧ ¬ nI y.1 < (if nI s.1 = 0 then nI r.1 - rowOf s.1 i.1 else rowOf s.1 i.1 - nI r.1))) := by decide +kernel
def subN (u0 u : Nat) : Nat := u0 &&& (63 ^^^ u)
theorem subC : ∀ (u0 u : Fin 64), (nI u0.1 &&& (nI u.1 ^^^ (-1))) = nI (subN u0.1 u.1) := by decide +kernel
theorem sub_step : ∀ (u0 u : Fin 64) (i : Fin 6), u.1 &&& u0.1 = u.1 → bitN u.1 i.1 = 1 → subN u0.1 (clrN u.1 i.1) = setN (subN u0.1 u.1) i.1 ∧ clrN u.1 i.1 &&& u0.1 = clrN u.1 i.1 ∧ subN u0.1 u.1 < 64 := by decide +kernel
theorem slip_step {P T K : Nat} {mi ha ba wa : Int32} {mo pa pl pf tf to so : Nat → Int32} {s r u0 : Nat} {τ : Int32 × (Nat → Int32)} {st : Int32} (hF : FR P T pf tf to so) (hs : s < 2) (hr : r < 4) (hu0 : u0 < 64) {i : Nat} (hi : i < P)
    (h : PR P T K (mi, ha, ba, st, wa, mo, pa, pl) τ.2 ∧ ∃ u, st = nI u ∧ u &&& u0 = u ∧ τ.1 = nI (subN u0 u)) :
    PR P T K (mi, ha, ba, stX3_slipOff_2 pf (rowOf s r) (nI (visB s (r + 1))) i st, wa, mo, pa, pl) (stX6_goRound_126 to (nI s) (rowOf s r) i τ).2 ∧ ∃ u, stX3_slipOff_2 pf (rowOf s r) (nI (visB s (r + 1))) i st = nI u ∧ u &&& u0 = u ∧ (stX6_goRound_126 to (nI s) (rowOf s r) i τ).1 = nI (subN u0 u) := by
  obtain ⟨⟨hP, hT⟩, f1, f2, f3, f4, f5⟩ := hF
  obtain ⟨h, u1, hu1, hu3, hu4⟩ := h
  have h' := h
  obtain ⟨⟨h1, h2, h3, h4, h5⟩, h6, h7, h8, ⟨u, hu, hu2⟩, h10, h11, h12, h13⟩ := h'
  dsimp only at h1 h2 h3 h4 h5 h6 h7 h8 hu2 h10 h11 h12 h13
  have hu6 : u < 64 := lt64 hP hu
  obtain ⟨ro, hro, hro2⟩ := f3 i hi
  obtain ⟨y, hy, hy2⟩ := f4 i hi
  have hul : u1 &&& u0 < 64 := Nat.lt_of_le_of_lt Nat.and_le_right hu0
  have huu : u1 = u := by
    rw [hu3] at hul
    exact (nI_eq (by omega) (by omega)).mp (hu1.symm.trans hu2)
  subst huu
  subst hu1
  have g0 : fX2_ofPerson pf (nI i) 0 = nI ro := ((ofP (k := 0) (by omega) (by decide)).trans (f1 _ (by omega))).trans hro2
  have g3 : fX2_ofPerson pf (nI i) 3 = nI y := ((ofP (k := 3) (by omega) (by decide)).trans (f1 _ (by omega))).trans hy2
  have e60 := k60 (i := i) (by omega)
  have e63 : ((6 : Int32) * nI i + 3).toNatClampNeg = 6 * i + 3 := k6k (c := 3) (by omega) (by decide)
  have hc := slipC ⟨s, hs⟩ ⟨r, hr⟩ ⟨ro, by omega⟩ ⟨y, by omega⟩
  dsimp only at hc
  unfold stX3_slipOff_2 stX6_goRound_126
  rw [hid_eq, hid_eq, g0, g3, e60, e63, hro2, hy2, show (12 : Int32).toNatClampNeg = 12 from rfl, h4, has5 hu6 (by omega), has6 hu6 (by omega)]
  rcases bit01 u1 i with hbt | hbt
  · rw [hbt, if_pos (show nI 0 = 0 from rfl), if_pos (show nI 0 = 0 from rfl)]
    exact ⟨h, u1, rfl, hu3, hu4⟩
  · rw [hbt, if_neg (show ¬ nI 1 = 0 by decide), if_neg (show ¬ nI 1 = 0 by decide)]
    by_cases hh : ((nI (visB s (r + 1)) >>> (nI ro &&& 31)) &&& 1) = 0 ∧ ¬ nI y < (if 0 ≤ nI ro - rowOf s r then nI ro - rowOf s r else 0 - (nI ro - rowOf s r))
    · obtain ⟨k1, k2⟩ := hc.mp hh
      rw [if_pos hh.1, if_neg hh.2, if_neg k1, if_neg k2, clr_eq hu6 (by omega)]
      obtain ⟨z1, z2, z3⟩ := sub_step ⟨u0, hu0⟩ ⟨u1, hu6⟩ ⟨i, by omega⟩ hu3 hbt
      dsimp only at z1 z2 z3
      refine ⟨PR_st hP h (clr_lt hu), clrN u1 i, rfl, z2, ?_⟩
      show τ.1 ||| _ = _
      rw [hu4, set_eq z3 (by omega), z1]
    · have m1 : (if (if nI s = 0 then nI ro - rowOf s r else rowOf s r - nI ro) ≤ 0 then (τ.1, τ.2) else if nI y < (if nI s = 0 then nI ro - rowOf s r else rowOf s r - nI ro) then (τ.1, τ.2) else (τ.1 ||| (1 <<< (nI i &&& 31)), upd τ.2 12 (nI u1 &&& ((1 <<< (nI i &&& 31)) ^^^ (-1))))) = (τ.1, τ.2) := by
        by_cases k1 : (if nI s = 0 then nI ro - rowOf s r else rowOf s r - nI ro) ≤ 0
        · rw [if_pos k1]
        · rw [if_neg k1]
          by_cases k2 : nI y < (if nI s = 0 then nI ro - rowOf s r else rowOf s r - nI ro)
          · rw [if_pos k2]
          · exact absurd (hc.mpr ⟨k1, k2⟩) hh
      have m2 : (if ((nI (visB s (r + 1)) >>> (nI ro &&& 31)) &&& 1) = 0 then (if nI y < (if 0 ≤ nI ro - rowOf s r then nI ro - rowOf s r else 0 - (nI ro - rowOf s r)) then nI u1 else nI u1 &&& ((1 <<< (nI i &&& 31)) ^^^ (-1))) else nI u1) = nI u1 := by
        by_cases k1 : ((nI (visB s (r + 1)) >>> (nI ro &&& 31)) &&& 1) = 0
        · rw [if_pos k1]
          by_cases k2 : nI y < (if 0 ≤ nI ro - rowOf s r then nI ro - rowOf s r else 0 - (nI ro - rowOf s r))
          · rw [if_pos k2]
          · exact absurd ⟨k1, k2⟩ hh
        · rw [if_neg k1]
      rw [m1, m2]
      exact ⟨h, u1, rfl, hu3, hu4⟩
theorem slip_loop {P T K : Nat} {mi ha ba wa : Int32} {mo pa pl pg pf tf to so : Nat → Int32} {s r u0 u : Nat} (hF : FR P T pf tf to so) (hs : s < 2) (hr : r < 4) (hu0 : u0 < 64) (h : PR P T K (mi, ha, ba, nI u, wa, mo, pa, pl) pg) (h2 : u &&& u0 = u) :
    PR P T K (mi, ha, ba, fX3_slipOff pf (nI u) (rowOf s r) (nI (visB s (r + 1))), wa, mo, pa, pl) (itN (stX6_goRound_126 to (nI s) (rowOf s r)) P (nI (subN u0 u), pg)).2 ∧ ∃ v, fX3_slipOff pf (nI u) (rowOf s r) (nI (visB s (r + 1))) = nI v ∧ v &&& u0 = v ∧ (itN (stX6_goRound_126 to (nI s) (rowOf s r)) P (nI (subN u0 u), pg)).1 = nI (subN u0 v) := by
  have key := it_sim (f := stX3_slipOff_2 pf (rowOf s r) (nI (visB s (r + 1)))) (g := stX6_goRound_126 to (nI s) (rowOf s r)) (fun _ st τ => PR P T K (mi, ha, ba, st, wa, mo, pa, pl) τ.2 ∧ ∃ u, st = nI u ∧ u &&& u0 = u ∧ τ.1 = nI (subN u0 u)) P (fun i a b hi h => slip_step hF hs hr hu0 hi h) (a := nI u) (b := (nI (subN u0 u), pg)) ⟨h, u, rfl, h2, rfl⟩
  have hP := hF.1.1
  have e : itN (stX3_slipOff_2 pf (rowOf s r) (nI (visB s (r + 1)))) 6 (nI u) = itN (stX3_slipOff_2 pf (rowOf s r) (nI (visB s (r + 1)))) P (nI u) := by
    refine it_stay 6 hP (fun i h1 h2 => ?_)
    obtain ⟨w, hw, hw2⟩ := key.1.2.2.2.2.1
    dsimp only at hw2
    rw [hw2]
    unfold stX3_slipOff_2
    rw [hid_eq, has5 (lt64 hP hw) h2, bit_big hw h1]
    exact if_pos rfl
  unfold fX3_slipOff
  rw [hid_eq, e]
  exact key
theorem hat_step {P T K : Nat} {mi ha0 wa : Int32} {pa pl pf tf to so : Nat → Int32} {s u0 : Nat} (hF : FR P T pf tf to so) (hs : s < 2) (hu0 : u0 < 64) {i : Nat} (hi : i < 4) {σ : Int32 × Int32 × Int32 × Int32 × (Nat → Int32)} {τ : Int32 × (Nat → Int32)}
    (h : σ.1 = nI (visB s i) ∧ PR P T K (mi, σ.2.1, σ.2.2.1, σ.2.2.2.1, wa, σ.2.2.2.2, pa, pl) τ.2 ∧ (∃ q, q ≤ 60 * i ∧ σ.2.1 = ha0 + nI q) ∧ ∃ u, σ.2.2.2.1 = nI u ∧ u &&& u0 = u ∧ τ.1 = nI (subN u0 u)) :
    (stX3_passHat_10 pf (nI s) i σ).1 = nI (visB s (i + 1)) ∧ PR P T K (mi, (stX3_passHat_10 pf (nI s) i σ).2.1, (stX3_passHat_10 pf (nI s) i σ).2.2.1, (stX3_passHat_10 pf (nI s) i σ).2.2.2.1, wa, (stX3_passHat_10 pf (nI s) i σ).2.2.2.2, pa, pl) (stX6_goRound_13 (nI P) to (nI s) i τ).2 ∧ (∃ q, q ≤ 60 * (i + 1) ∧ (stX3_passHat_10 pf (nI s) i σ).2.1 = ha0 + nI q) ∧ ∃ u, (stX3_passHat_10 pf (nI s) i σ).2.2.2.1 = nI u ∧ u &&& u0 = u ∧ (stX6_goRound_13 (nI P) to (nI s) i τ).1 = nI (subN u0 u) := by
  obtain ⟨vi, ha, ba, st, mo⟩ := σ
  obtain ⟨sl, pg⟩ := τ
  obtain ⟨h1, h2, ⟨q, h3, h4⟩, u, h5, h6, h7⟩ := h
  dsimp only at h1 h2 h4 h5 h7
  subst h1 h5 h7
  have hP := hF.1.1
  have eP := kI (i := P) (by omega)
  have hv := vis_next ⟨s, hs⟩ ⟨i, hi⟩
  dsimp only at hv
  obtain ⟨c1, q2, c2, c3⟩ := coll_loop (x := rowOf s i) hF h2 h3 h4
  obtain ⟨s1, v, s2, s3, s4⟩ := slip_loop hF hs hi hu0 c1 h6
  unfold stX3_passHat_10 stX6_goRound_13
  rw [hid_eq, hid_eq, eP]
  rw [show (if nI s = 0 then nI i else 3 - nI i) = rowOf s i from rfl]
  dsimp only
  rw [hv]
  exact ⟨rfl, s1, ⟨q2, by omega, c3⟩, v, s2, s3, s4⟩
theorem goRound_eq {P T K : Nat} {S : Sc} {pg pf tf to so : Nat → Int32} (hF : FR P T pf tf to so) {s : Nat} (hs : s < 2) (h : PR P T K S pg) :
    PR P T K (gX3_passHat_s pf (nI s) S).2 (fX6_goRound (nI P) to pg (nI s)).2.2 ∧ (fX6_goRound (nI P) to pg (nI s)).1 = (gX3_passHat_s pf (nI s) S).1 ∧ (∃ q, q ≤ 240 ∧ (gX3_passHat_s pf (nI s) S).1 = nI q) ∧ (fX6_goRound (nI P) to pg (nI s)).2.1 = S.2.2.2.1 &&& ((gX3_passHat_s pf (nI s) S).2.2.2.2.1 ^^^ (-1)) := by
  obtain ⟨mi, ha, ba, st, wa, mo, pa, pl⟩ := S
  have hP := hF.1.1
  obtain ⟨u0, hu, hu2⟩ := h.2.2.2.2.1
  dsimp only at hu2
  subst hu2
  have hu6 := lt64 hP hu
  have hv0 : ∀ s : Fin 2, (0 : Int32) = nI (visB s.1 0) := by decide +kernel
  have hs0 : ∀ u : Fin 64, u.1 &&& u.1 = u.1 ∧ (0 : Int32) = nI (subN u.1 u.1) := by decide +kernel
  have key := it_sim (f := stX3_passHat_10 pf (nI s)) (g := stX6_goRound_13 (nI P) to (nI s)) (fun i σ τ => σ.1 = nI (visB s i) ∧ PR P T K (mi, σ.2.1, σ.2.2.1, σ.2.2.2.1, wa, σ.2.2.2.2, pa, pl) τ.2 ∧ (∃ q, q ≤ 60 * i ∧ σ.2.1 = ha + nI q) ∧ ∃ u, σ.2.2.2.1 = nI u ∧ u &&& u0 = u ∧ τ.1 = nI (subN u0 u)) 4 (fun i a b hi h => hat_step hF hs hu6 hi h) (a := (0, ha, ba, nI u0, mo)) (b := (0, pg)) ⟨hv0 ⟨s, hs⟩, h, ⟨0, by omega, (Int32.add_zero ha).symm⟩, u0, rfl, (hs0 ⟨u0, hu6⟩).1, (hs0 ⟨u0, hu6⟩).2⟩
  have hha : pg 15 = ha := h.1.2.1
  have e1 : fX3_passHat pf mi ha ba (nI u0) mo (nI s) = _ := hid_eq _
  have e2 : fX6_goRound (nI P) to pg (nI s) = _ := hid_eq _
  unfold gX3_passHat_s
  dsimp only
  rw [e1, e2]
  generalize itN (stX3_passHat_10 pf (nI s)) 4 (0, ha, ba, nI u0, mo) = z at key ⊢
  generalize itN (stX6_goRound_13 (nI P) to (nI s)) 4 (0, pg) = y at key ⊢
  obtain ⟨z1, z2, z3, z4, z5⟩ := z
  obtain ⟨y1, y2⟩ := y
  obtain ⟨-, k2, ⟨q, k3, k4⟩, u, k5, k6, k7⟩ := key
  dsimp only at k2 k4 k5 k7 ⊢
  rw [show (15 : Int32).toNatClampNeg = 15 from rfl, show (14 : Int32).toNatClampNeg = 14 from rfl, pk_un (show 15 ≠ 14 by decide), hha, show y2 15 = z2 from k2.1.2.1, show y2 14 = mi from k2.1.1]
  refine ⟨PR_mi hP k2, rfl, ⟨q, by omega, ?_⟩, ?_⟩
  · rw [k4, Int32.add_comm, Int32.add_sub_cancel]
  · have hul : u < 64 := by rw [← k6]; exact Nat.lt_of_le_of_lt Nat.and_le_right hu6
    rw [k7, k5]
    exact (subC ⟨u0, hu6⟩ ⟨u, hul⟩).symm
