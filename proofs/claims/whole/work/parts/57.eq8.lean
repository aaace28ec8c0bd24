theorem isSide4 (a : Int32) : (¬ fX5_isSide (a - 4) = 0) ↔ (a = 4 ∨ a = 5) := by
  have e : fX5_isSide (a - 4) = fX5_isWithin (a - 4) (nI 0) (nI 1) := hid_eq _
  constructor
  · intro h
    rw [e] at h
    obtain ⟨n, h1, h2, h3⟩ := W_nat (by decide) (by decide) h
    have h4 : a = nI n + 4 := by rw [← h3, Int32.sub_add_cancel]
    rcases (show n = 0 ∨ n = 1 by omega) with rfl | rfl
    · exact Or.inl h4
    · exact Or.inr h4
  · intro h
    rw [e]
    unfold fX5_isWithin
    rw [hid_eq]
    rcases h with rfl | rfl <;> decide
theorem act_eq {P T K : Nat} {S : Sc} {pg pf tf to so : Nat → Int32} {sl : Int32} (hF : FR P T pf tf to so) (hK : K < 2 ^ 29) (h : PR P T K S pg) (a : Int32) :
    (fX5_enact (nI T) pf tf S a).1 = (fX6_goAct (nI P) (nI T) sl to so pg a).1 ∧ PR P T (K + 1) (fX5_enact (nI T) pf tf S a).2 (fX6_goAct (nI P) (nI T) sl to so pg a).2.2 := by
  have e1 : fX5_enact (nI T) pf tf S a = _ := hid_eq _
  have e2 : fX6_goAct (nI P) (nI T) sl to so pg a = _ := hid_eq _
  rw [e1, e2]
  by_cases c : fX2_hasTune (nI T) a = 0
  · rw [if_pos c]
    by_cases c4 : (4 : Int32) ≤ a
    · rw [if_pos c4]
      by_cases c5 : a ≤ 5
      · have h0 : ¬ a < 0 := fun q => absurd (Int32.lt_of_le_of_lt c4 q) (by decide)
        obtain ⟨j, hj, rfl⟩ := nI_of h0
        have j4 : 4 ≤ j := (nI_leI (a := 4) (by decide) hj).mp c4
        have j5 : j ≤ 5 := (nI_leI (b := 5) hj (by decide)).mp c5
        have hs : ¬ fX5_isSide (nI j - 4) = 0 := (isSide4 _).mpr (by rcases (show j = 4 ∨ j = 5 by omega) with rfl | rfl; exact Or.inl rfl; exact Or.inr rfl)
        rw [if_neg hs, if_pos c5, if_pos c4, show nI j - 4 = nI (j - 4) from pk_sub (b := 4) j4]
        exact ⟨rfl, PR_up (goRound_eq hF (show j - 4 < 2 by omega) h).1 (Nat.le_succ K)⟩
      · have hs : fX5_isSide (a - 4) = 0 := by
          by_cases q : fX5_isSide (a - 4) = 0
          · exact q
          · rcases (isSide4 a).mp q with rfl | rfl <;> exact absurd (by decide) c5
        rw [if_pos hs, if_neg c5]
        exact ⟨rfl, PR_up h (Nat.le_succ K)⟩
    · have hs : fX5_isSide (a - 4) = 0 := by
        by_cases q : fX5_isSide (a - 4) = 0
        · exact q
        · rcases (isSide4 a).mp q with rfl | rfl <;> exact absurd (by decide) c4
      rw [if_neg c4, noT5, if_pos c, if_neg (show ¬ (1 : Int32) = 0 by decide), if_pos hs]
      exact ⟨rfl, PR_up h (Nat.le_succ K)⟩
  · obtain ⟨t, ht, rfl⟩ := hasT_no hF.1.2 c
    have c4 : ¬ (4 : Int32) ≤ nI t := nI_ge (b := 4) (by have := hF.1.2; omega) (by decide)
    rw [if_neg c, if_neg c4, noT5, if_neg c, if_pos (show (0 : Int32) = 0 from rfl), if_neg c4]
    exact ⟨rfl, (goPlay_eq hF hK ht h).1⟩
theorem judged_loop {P T n x : Nat} {pf tf to so : Nat → Int32} (hF : FR P T pf tf to so) (hn : n ≤ 9) (hx : x < 2 ^ 31) : ∀ (m i K : Nat) (S : Sc) (τ : Int32 × (Nat → Int32)), i + m = n → K + m < 2 ^ 29 → PR P T K S τ.2 →
    (frX5_judged_34 (nI T) pf tf (nI n) (nI x) (m + 1) i S).1 = (frX6_judged_44 (nI P) (nI T) to so (nI n) (nI x) (m + 1) i τ).1 := by
  intro m
  induction m with
  | zero =>
    intro i K S τ hi hK h
    have hl : nI n ≤ nI i := nI_le (by omega) (by omega)
    rw [frX5_judged_34, frX6_judged_44, hid_eq, hid_eq, if_pos hl, if_pos hl]
  | succ m ih =>
    intro i K S τ hi hK h
    have hl : ¬ nI n ≤ nI i := nI_ge (by omega) (by omega)
    have e : nI n - 1 - nI i = nI (n - 1 - i) := by rw [show nI n - 1 = nI (n - 1) from pk_sub (b := 1) (by omega), pk_sub (by omega)]
    rw [frX5_judged_34, frX6_judged_44, hid_eq, hid_eq, if_neg hl, if_neg hl, fg5 hn hx (show i < n by omega), e, fg6 (by omega) hx]
    obtain ⟨q1, q2⟩ := act_eq (sl := τ.1) hF (by omega) h (nI (fgN n x i))
    rw [show x / 10 ^ (n - 1 - i) % 10 = fgN n x i from rfl, q1, show (12 : Int32).toNatClampNeg = 12 from rfl, show (fX6_goAct (nI P) (nI T) τ.1 to so τ.2 (nI (fgN n x i))).2.2 12 = (fX5_enact (nI T) pf tf S (nI (fgN n x i))).2.2.2.2.1 from q2.1.2.2.2.1]
    by_cases c1 : (fX6_goAct (nI P) (nI T) τ.1 to so τ.2 (nI (fgN n x i))).1 = 0
    · rw [if_pos c1, if_pos c1]
    · rw [if_neg c1, if_neg c1]
      by_cases c2 : (fX5_enact (nI T) pf tf S (nI (fgN n x i))).2.2.2.2.1 = 0
      · rw [if_pos c2, if_pos c2]
      · rw [if_neg c2, if_neg c2]
        exact ih (i + 1) (K + 1) _ _ (by omega) (by omega) q2
theorem judged_eq {P T K : Nat} {S V : Sc} {pg tr pf tf to so : Nat → Int32} {sl : Int32} (hF : FR P T pf tf to so) (hK : K + 20 < 2 ^ 29) (h : PR P T K S pg) (a b : Int32) : (fX5_judged (nI T) pf tf S V a b).1 = (fX6_judged (nI P) (nI T) sl to so pg tr a b).1 := by
  have e1 : fX5_judged (nI T) pf tf S V a b = _ := hid_eq _
  have e2 : fX6_judged (nI P) (nI T) sl to so pg tr a b = _ := hid_eq _
  rw [e1, e2, show fX6_in a.toInt64 1 8 = fX5_isWithin a (nI 1) (nI 8) from in5 rfl rfl]
  by_cases c : fX5_isWithin a (nI 1) (nI 8) = 0
  · rw [if_pos c, if_pos (show fX5_isWithin a 1 8 = 0 from c)]
  · obtain ⟨n, hn1, hn6, rfl⟩ := W_nat (by decide) (by decide) c
    rw [if_neg c, if_neg (show ¬ fX5_isWithin (nI n) 1 8 = 0 from c)]
    by_cases c2 : fX5_isRow (nI n) b = 0
    · rw [if_pos c2, if_pos ((isRow_eq (by omega) b).mp c2)]
    · rw [if_neg c2, if_neg (fun q => c2 ((isRow_eq (by omega) b).mpr q))]
      obtain ⟨x, hx, rfl⟩ := isRow_x (by omega) c2
      rw [nI_clamp (by omega)]
      exact judged_loop hF (by omega) hx n 0 K S _ (by omega) (by omega) (PR_begin hF.1.1 hF.1.2 h)
theorem day_eq {P T K : Nat} {S V : Sc} {pg tr pf tf to so : Nat → Int32} {sl : Int32} {sd : Int64} (hF : FR P T pf tf to so) (hK : K + 20 < 2 ^ 29) (h : PR P T K S pg) (a : Int32) :
    (fX5_day sd (nI T) pf tf S V a).1 = (fX6_day (nI P) (nI T) sd sl to so pg tr a).1 ∧ (fX5_day sd (nI T) pf tf S V a).2.1 = (fX6_day (nI P) (nI T) sd sl to so pg tr a).2.1 := by
  have e1 : fX5_day sd (nI T) pf tf S V a = _ := hid_eq _
  have e2 : fX6_day (nI P) (nI T) sd sl to so pg tr a = _ := hid_eq _
  rw [e1, e2, show fX6_in a.toInt64 1 20 = fX5_isWithin a (nI 1) (nI 20) from in5 rfl rfl]
  by_cases c : fX5_isWithin a (nI 1) (nI 20) = 0
  · rw [if_pos c, if_pos (show fX5_isWithin a 1 20 = 0 from c)]
    exact ⟨rfl, rfl⟩
  · obtain ⟨n, hn1, hn6, rfl⟩ := W_nat (by decide) (by decide) c
    rw [if_neg c, if_neg (show ¬ fX5_isWithin (nI n) 1 20 = 0 from c), nI_clamp (by omega)]
    have key := it_sim (f := stX5_day_26 (nI T) pf tf) (g := stX6_day_26 (nI P) (nI T) to so) (fun i σ τ => σ.1 = τ.1 ∧ PR P T (K + i) σ.2 τ.2.2) n (fun i σ τ hi hq => by
      obtain ⟨h1, h2⟩ := hq
      unfold stX5_day_26 stX6_day_26
      rw [hid_eq, hid_eq, h1]
      exact ⟨rfl, (act_eq hF (by omega) h2 _).2⟩) (a := (sd, S)) (b := (sd, sl, fX6_begin pg tr)) ⟨rfl, PR_begin hF.1.1 hF.1.2 h⟩
    exact ⟨key.2.1.2.1.symm, key.1⟩
theorem soon_page {P T K t : Nat} {S : Sc} {pg pf tf to so : Nat → Int32} (hF : FR P T pf tf to so) (ht : t < T) (h : PR P T K S pg) : ∀ n, K + n < 2 ^ 29 → PR P T (K + n) (itN (fun _ => gX3_hear_s (nI T) pf tf (nI t)) n S) (itN (stX6_soon_37 (nI P) to so (nI t)) n pg) := fun n hn =>
  it_sim (fun i S pg => PR P T (K + i) S pg) n (fun i a b hi hq => by
    have e : stX6_soon_37 (nI P) to so (nI t) i b = _ := hid_eq _
    rw [e]
    exact (goPlay_eq hF (by omega) ht hq).1) h
/-- the best so far: nothing yet, or the same -/
def BR (i : Nat) (mx ch mo fo : Int32) : Prop := (i = 0 ∧ mx = (-1) ∧ mo = (-9) ∧ ch = fo) ∨ (mx = mo ∧ ch = fo)
theorem BR_step {i q : Nat} {mx ch mo fo v w : Int32} (hq : q ≤ 240) (h : BR i mx ch mo fo) (hv : v = w) : BR (i + 1) (fX1_offer mx ch (nI q) v).1 (fX1_offer mx ch (nI q) v).2 (if nI q ≤ mo then mo else nI q) (if nI q ≤ mo then fo else w) := by
  subst hv
  unfold fX1_offer
  rw [hid_eq]
  rcases h with ⟨h0, rfl, rfl, rfl⟩ | ⟨rfl, rfl⟩
  · have h1 : ¬ nI q ≤ (-1) := fun z => absurd (Int32.lt_of_le_of_lt z (show (-1 : Int32) < 0 by decide)) (nI_pos (by omega))
    have h2 : ¬ nI q ≤ (-9) := fun z => absurd (Int32.lt_of_le_of_lt z (show (-9 : Int32) < 0 by decide)) (nI_pos (by omega))
    rw [if_neg h1, if_neg h2, if_neg h2]
    exact Or.inr ⟨rfl, rfl⟩
  · by_cases c : nI q ≤ mx
    · rw [if_pos c, if_pos c, if_pos c]
      exact Or.inr ⟨rfl, rfl⟩
    · rw [if_neg c, if_neg c, if_neg c]
      exact Or.inr ⟨rfl, rfl⟩
theorem soon_eq {P T K : Nat} {S V U : Sc} {mx ch sl : Int32} {pg tr pf tf to so : Nat → Int32} (hF : FR P T pf tf to so) (hK : K + 20 < 2 ^ 29) (h : PR P T K S pg) (a : Int32) : (fX5_soon (nI T) pf tf S V U mx ch a).1 = (fX6_soon (nI P) (nI T) sl to so pg tr a).1 := by
  have e1 : fX5_soon (nI T) pf tf S V U mx ch a = _ := hid_eq _
  have e2 : fX6_soon (nI P) (nI T) sl to so pg tr a = _ := hid_eq _
  rw [e1, e2, noT5]
  by_cases c : fX2_hasTune (nI T) a = 0
  · rw [if_pos c, if_pos c, if_neg (show ¬ (1 : Int32) = 0 by decide)]
  · obtain ⟨t, ht, rfl⟩ := hasT_no hF.1.2 c
    rw [if_neg c, if_neg c, if_pos (show (0 : Int32) = 0 from rfl)]
    have hcl : fX1_clear = ((-1), 0) := hid_eq _
    rw [hcl]
    have key := it_sim (f := stX5_soon_33 (nI T) pf tf (nI t)) (g := stX6_soon_23 (nI P) to so pg (nI t)) (fun i σ τ => σ.1 = itN (fun _ => gX3_hear_s (nI T) pf tf (nI t)) i S ∧ BR i σ.2.2.1 σ.2.2.2 τ.1 τ.2.1) 10 (fun i σ τ hi hq => by
      obtain ⟨h1, h2⟩ := hq
      unfold stX5_soon_33 stX6_soon_23
      rw [hid_eq, hid_eq, h1, nI_clamp (by omega)]
      have hp := soon_page hF ht (PR_begin (tr := τ.2.2.2) hF.1.1 hF.1.2 h) i (by omega)
      obtain ⟨-, g1, ⟨q, hq, g2⟩, -⟩ := goRound_eq (s := 0) hF (by decide) hp
      have g0 : fX5_hatBehind pf (itN (fun _ => gX3_hear_s (nI T) pf tf (nI t)) i S) 0 = _ := hid_eq _
      rw [g0]
      refine ⟨rfl, ?_⟩
      show BR (i + 1) (fX1_offer σ.2.2.1 σ.2.2.2 ((gX3_passHat_s pf 0 (itN (fun _ => gX3_hear_s (nI T) pf tf (nI t)) i S)).1) (nI i)).1 (fX1_offer σ.2.2.1 σ.2.2.2 ((gX3_passHat_s pf 0 (itN (fun _ => gX3_hear_s (nI T) pf tf (nI t)) i S)).1) (nI i)).2 (if (fX6_goRound (nI P) to (itN (stX6_soon_37 (nI P) to so (nI t)) i (fX6_begin pg τ.2.2.2)) 0).1 ≤ τ.1 then τ.1 else (fX6_goRound (nI P) to (itN (stX6_soon_37 (nI P) to so (nI t)) i (fX6_begin pg τ.2.2.2)) 0).1) (if (fX6_goRound (nI P) to (itN (stX6_soon_37 (nI P) to so (nI t)) i (fX6_begin pg τ.2.2.2)) 0).1 ≤ τ.1 then τ.2.1 else nI i)
      rw [show (fX6_goRound (nI P) to (itN (stX6_soon_37 (nI P) to so (nI t)) i (fX6_begin pg τ.2.2.2)) 0).1 = nI q from g1.trans g2, show (gX3_passHat_s pf 0 (itN (fun _ => gX3_hear_s (nI T) pf tf (nI t)) i S)).1 = nI q from g2]
      exact BR_step hq h2 rfl) (a := (S, U, (-1), 0)) (b := ((-9), 0, sl, tr)) ⟨rfl, Or.inl ⟨rfl, rfl, rfl, rfl⟩⟩
    rcases key.2 with ⟨h0, -⟩ | ⟨-, h2⟩
    · exact absurd h0 (by decide)
    · exact h2
theorem bait_eq {P T K : Nat} {S V U : Sc} {mx ch sl : Int32} {pg tr pf tf to so : Nat → Int32} (hF : FR P T pf tf to so) (h : PR P T K S pg) (a : Int32) : (fX5_bestBait pf S V U mx ch a).1 = (fX6_bestBait (nI P) sl to pg tr a).1 := by
  have e1 : fX5_bestBait pf S V U mx ch a = _ := hid_eq _
  have e2 : fX6_bestBait (nI P) sl to pg tr a = _ := hid_eq _
  have e3 : fX5_isSide a = fX5_isWithin a (nI 0) (nI 1) := hid_eq _
  rw [e1, e2, e3, show fX6_in a.toInt64 0 1 = fX5_isWithin a (nI 0) (nI 1) from in5 rfl rfl]
  by_cases c : fX5_isWithin a (nI 0) (nI 1) = 0
  · rw [if_pos c, if_pos c]
  · obtain ⟨s, -, hs, rfl⟩ := W_nat (by decide) (by decide) c
    rw [if_neg c, if_neg c]
    have hcl : fX1_clear = ((-1), 0) := hid_eq _
    rw [hcl]
    obtain ⟨mi, ha, ba, st, wa, mo, pa, pl⟩ := S
    have key := it_sim (f := stX5_bestBait_30 pf (nI s)) (g := stX6_bestBait_26 (nI P) to pg (nI s)) (fun i σ τ => (∃ b, σ.1 = (mi, ha, b, st, wa, mo, pa, pl)) ∧ BR i σ.2.2.1 σ.2.2.2 τ.1 τ.2.1) 10 (fun i σ τ hi hq => by
      obtain ⟨⟨b, h1⟩, h2⟩ := hq
      unfold stX5_bestBait_30 stX6_bestBait_26
      rw [hid_eq, hid_eq, h1]
      have hp := PR_ba (b := i) hF.1.1 (PR_begin (tr := τ.2.2.2) hF.1.1 hF.1.2 h) (by omega)
      obtain ⟨-, g1, ⟨q, hq, g2⟩, -⟩ := goRound_eq (s := s) hF (by omega) hp
      have g0 : fX5_hatBehind pf (mi, ha, nI i, st, wa, mo, pa, pl) (nI s) = _ := hid_eq _
      refine ⟨⟨nI i, rfl⟩, ?_⟩
      show BR (i + 1) (fX1_offer σ.2.2.1 σ.2.2.2 ((fX5_hatBehind pf (mi, ha, nI i, st, wa, mo, pa, pl) (nI s)).1) (nI i)).1 (fX1_offer σ.2.2.1 σ.2.2.2 ((fX5_hatBehind pf (mi, ha, nI i, st, wa, mo, pa, pl) (nI s)).1) (nI i)).2 (if (fX6_goRound (nI P) to (upd (fX6_begin pg τ.2.2.2) 16 (nI i)) (nI s)).1 ≤ τ.1 then τ.1 else (fX6_goRound (nI P) to (upd (fX6_begin pg τ.2.2.2) 16 (nI i)) (nI s)).1) (if (fX6_goRound (nI P) to (upd (fX6_begin pg τ.2.2.2) 16 (nI i)) (nI s)).1 ≤ τ.1 then τ.2.1 else nI i)
      rw [g0]
      show BR (i + 1) (fX1_offer σ.2.2.1 σ.2.2.2 ((gX3_passHat_s pf (nI s) (mi, ha, nI i, st, wa, mo, pa, pl)).1) (nI i)).1 (fX1_offer σ.2.2.1 σ.2.2.2 ((gX3_passHat_s pf (nI s) (mi, ha, nI i, st, wa, mo, pa, pl)).1) (nI i)).2 _ _
      rw [g1.trans g2, g2]
      exact BR_step hq h2 rfl) (a := ((mi, ha, ba, st, wa, mo, pa, pl), U, (-1), 0)) (b := ((-9), 0, sl, tr)) ⟨⟨ba, rfl⟩, Or.inl ⟨rfl, rfl, rfl, rfl⟩⟩
    rcases key.2 with ⟨h0, -⟩ | ⟨-, h2⟩
    · exact absurd h0 (by decide)
    · exact h2
theorem never_step {P T : Nat} {pf tf to so : Nat → Int32} (hF : FR P T pf tf to so) {i u w : Nat} (hi : i < P) (hu : u < 2 ^ P) (hw : w < 2 ^ P) : stX3_letCome_2 pf i (nI u, nI w) = stX6_never_32 to i (nI u, nI w) ∧ ∃ u' w', u' < 2 ^ P ∧ w' < 2 ^ P ∧ stX6_never_32 to i (nI u, nI w) = (nI u', nI w') := by
  obtain ⟨⟨hP, hT⟩, f1, f2, f3, f4, f5⟩ := hF
  have hu6 := lt64 hP hu
  have hw6 := lt64 hP hw
  have g5 : fX2_ofPerson pf (nI i) 5 = to (6 * i + 5) := (ofP (k := 5) (by omega) (by decide)).trans (f1 _ (by omega))
  have e65 : ((6 : Int32) * nI i + 5).toNatClampNeg = 6 * i + 5 := k6k (c := 5) (by omega) (by decide)
  unfold stX3_letCome_2 stX6_never_32
  rw [hid_eq, hid_eq, g5, e65]
  show (if fX5_has (nI w) (nI i) = 0 then (nI u, nI w) else if fX3_ringSize (nI u) < to (6 * i + 5) then (nI u, nI w) else (nI u ||| (1 <<< (nI i &&& 31)), nI w &&& ((1 <<< (nI i &&& 31)) ^^^ (-1)))) = (if fX6_has (nI w) (nI i) = 0 then (nI u, nI w) else if fX6_many (nI u) < to (6 * i + 5) then (nI u, nI w) else (nI u ||| (1 <<< (nI i &&& 31)), nI w &&& ((1 <<< (nI i &&& 31)) ^^^ (-1)))) ∧ ∃ u' w', u' < 2 ^ P ∧ w' < 2 ^ P ∧ (if fX6_has (nI w) (nI i) = 0 then (nI u, nI w) else if fX6_many (nI u) < to (6 * i + 5) then (nI u, nI w) else (nI u ||| (1 <<< (nI i &&& 31)), nI w &&& ((1 <<< (nI i &&& 31)) ^^^ (-1)))) = (nI u', nI w')
  rw [has5 hw6 (by omega), has6 hw6 (by omega), ring_eq hu6, many_nI hu6, set_eq hu6 (by omega), clr_eq hw6 (by omega)]
  refine ⟨rfl, ?_⟩
  by_cases c : nI (bitN w i) = 0
  · rw [if_pos c]
    exact ⟨u, w, hu, hw, rfl⟩
  · rw [if_neg c]
    by_cases c2 : nI (cnt u) < to (6 * i + 5)
    · rw [if_pos c2]
      exact ⟨u, w, hu, hw, rfl⟩
    · rw [if_neg c2]
      exact ⟨setN u i, clrN w i, set_lt hu hi, clr_lt hw, rfl⟩
theorem never_eq {P T K : Nat} {S : Sc} {pg pf tf to so : Nat → Int32} (hF : FR P T pf tf to so) (h : PR P T K S pg) : (fX5_never pf S).1 = fX6_never (nI P) to pg := by
  have e1 : fX5_never pf S = _ := hid_eq _
  have e2 : fX6_never (nI P) to pg = _ := hid_eq _
  have hP := hF.1.1
  rw [e1, e2]
  obtain ⟨⟨-, -, -, h4, h5⟩, -, -, -, ⟨u, hu, hu2⟩, ⟨w, hw, hw2⟩, -⟩ := h
  rw [show (12 : Int32).toNatClampNeg = 12 from rfl, show (13 : Int32).toNatClampNeg = 13 from rfl, h4, h5, hu2, hw2]
  have key := it_sim (f := stX5_never_13 pf) (g := stX6_never_23 (nI P) to) (fun _ (σ : Sc) (τ : Int32 × Int32) => ∃ u w, u < 2 ^ P ∧ w < 2 ^ P ∧ σ.2.2.2.1 = nI u ∧ σ.2.2.2.2.1 = nI w ∧ τ = (nI u, nI w)) 6 (fun i σ τ hi hq => by
    obtain ⟨u, w, hu, hw, h1, h2, rfl⟩ := hq
    unfold stX5_never_13 stX6_never_23
    rw [hid_eq, hid_eq, kI (i := P) (by omega)]
    have k2 := it_sim (f := stX3_letCome_2 pf) (g := stX6_never_32 to) (fun _ a b => a = b ∧ ∃ u w, u < 2 ^ P ∧ w < 2 ^ P ∧ b = (nI u, nI w)) P (fun i a b hi hq => by
      obtain ⟨rfl, u, w, hu, hw, rfl⟩ := hq
      exact never_step hF hi hu hw) (a := (nI u, nI w)) (b := (nI u, nI w)) ⟨rfl, u, w, hu, hw, rfl⟩
    have e : itN (stX3_letCome_2 pf) 6 (nI u, nI w) = itN (stX3_letCome_2 pf) P (nI u, nI w) := by
      refine it_stay 6 hP (fun i h1 h2 => ?_)
      obtain ⟨k3, u', w', -, hw', k4⟩ := k2
      rw [k3, k4]
      exact come_stay hP hw' h1 h2
    obtain ⟨k3, u', w', hu', hw', k4⟩ := k2
    refine ⟨u', w', hu', hw', ?_, ?_, ?_⟩
    · show (fX3_letCome pf σ.2.2.2.1 σ.2.2.2.2.1).1 = nI u'
      rw [h1, h2]
      unfold fX3_letCome
      rw [hid_eq, e, k3, k4]
    · show (fX3_letCome pf σ.2.2.2.1 σ.2.2.2.2.1).2 = nI w'
      rw [h1, h2]
      unfold fX3_letCome
      rw [hid_eq, e, k3, k4]
    · show ((itN (stX6_never_32 to) P (nI u, nI w)).1, (itN (stX6_never_32 to) P (nI u, nI w)).2) = _
      rw [k4]) (a := S) (b := (nI u, nI w)) ⟨u, w, hu, hw, hu2, hw2, rfl⟩
  obtain ⟨u', w', -, -, -, k5, k6⟩ := key
  rw [k6]
  exact k5
