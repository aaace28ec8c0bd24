theorem gain_eq (a b q : Int32) : fX5_gainOf a b q = fX6_worth b q a := by
  have e1 : fX5_gainOf a b q = _ := hid_eq _
  have e2 : fX6_worth b q a = _ := hid_eq _
  rw [e1, e2]
theorem cont_loop {a o r : Int32} : ∀ m i, i + m = 6 → (frX5_isContent_2 a o r (m + 1) i () = 1 ∧ ∀ k, k < 6 → i ≤ k → fX6_worth (nI k) r a ≤ fX6_worth o r a) ∨ (frX5_isContent_2 a o r (m + 1) i () = 0 ∧ ¬ ∀ k, k < 6 → i ≤ k → fX6_worth (nI k) r a ≤ fX6_worth o r a) := by
  intro m
  induction m with
  | zero =>
    intro i hi
    rw [frX5_isContent_2, hid_eq, if_pos (show (5 : Int32) < nI i from nI_lt (a := 5) (by omega) (by omega))]
    exact Or.inl ⟨rfl, fun k h1 h2 => absurd h1 (by omega)⟩
  | succ m ih =>
    intro i hi
    rw [frX5_isContent_2, hid_eq, if_neg (show ¬ (5 : Int32) < nI i from nI_nlt (a := 5) (by omega) (by decide)), gain_eq, gain_eq]
    by_cases c : fX6_worth (nI i) r a ≤ fX6_worth o r a
    · rw [if_pos c]
      rcases ih (i + 1) (by omega) with ⟨h1, h2⟩ | ⟨h1, h2⟩
      · refine Or.inl ⟨h1, fun k k1 k2 => ?_⟩
        by_cases e : k = i
        · rw [e]; exact c
        · exact h2 k k1 (by omega)
      · exact Or.inr ⟨h1, fun q => h2 (fun k k1 k2 => q k k1 (by omega))⟩
    · rw [if_neg c]
      exact Or.inr ⟨rfl, fun q => c (q i (by omega) (Nat.le_refl _))⟩
theorem cont_eq (a o r : Int32) : (fX5_isContent a o r = 1 ∧ ∀ k, k < 6 → fX6_worth (nI k) r a ≤ fX6_worth o r a) ∨ (fX5_isContent a o r = 0 ∧ ¬ ∀ k, k < 6 → fX6_worth (nI k) r a ≤ fX6_worth o r a) := by
  have e : fX5_isContent a o r = frX5_isContent_2 a o r (6 + 1) 0 () := hid_eq _
  rw [e]
  rcases cont_loop (a := a) (o := o) (r := r) 6 0 rfl with ⟨h1, h2⟩ | ⟨h1, h2⟩
  · exact Or.inl ⟨h1, fun k k1 => h2 k k1 (Nat.zero_le _)⟩
  · exact Or.inr ⟨h1, fun q => h2 (fun k k1 _ => q k k1)⟩
theorem rest_loop {a o r : Int32} : ∀ n, (itN (stX6_louder_62 a o r) n 1 = 1 ∧ ∀ k, k < n → fX6_worth (nI k) r a ≤ fX6_worth o r a ∧ fX6_worth (nI k) o a ≤ fX6_worth r o a) ∨ (itN (stX6_louder_62 a o r) n 1 = 0 ∧ ¬ ∀ k, k < n → fX6_worth (nI k) r a ≤ fX6_worth o r a ∧ fX6_worth (nI k) o a ≤ fX6_worth r o a) := by
  intro n
  induction n with
  | zero => exact Or.inl ⟨rfl, fun k h => absurd h (by omega)⟩
  | succ n ih =>
    show (stX6_louder_62 a o r n (itN (stX6_louder_62 a o r) n 1) = 1 ∧ _) ∨ (stX6_louder_62 a o r n (itN (stX6_louder_62 a o r) n 1) = 0 ∧ _)
    have e : ∀ z, stX6_louder_62 a o r n z = _ := fun z => hid_eq _
    rcases ih with ⟨h1, h2⟩ | ⟨h1, h2⟩
    · rw [h1, e, if_neg (show ¬ (1 : Int32) = 0 by decide)]
      by_cases c1 : fX6_worth o r a < fX6_worth (nI n) r a
      · rw [if_pos c1]
        exact Or.inr ⟨rfl, fun q => absurd c1 (Int32.not_lt.mpr (q n (by omega)).1)⟩
      · rw [if_neg c1]
        by_cases c2 : fX6_worth r o a < fX6_worth (nI n) o a
        · rw [if_pos c2]
          exact Or.inr ⟨rfl, fun q => absurd c2 (Int32.not_lt.mpr (q n (by omega)).2)⟩
        · rw [if_neg c2]
          refine Or.inl ⟨rfl, fun k hk => ?_⟩
          by_cases e : k = n
          · rw [e]; exact ⟨Int32.not_lt.mp c1, Int32.not_lt.mp c2⟩
          · exact h2 k (by omega)
    · rw [h1, e, if_pos (show (0 : Int32) = 0 from rfl)]
      exact Or.inr ⟨rfl, fun q => h2 (fun k hk => q k (by omega))⟩
theorem loud_step {a o : Int32} {i : Nat} {σ : Int32 × Int32} : stX5_louder_40 a o i σ = stX6_louder_49 a o i σ := by
  have e1 : stX5_louder_40 a o i σ = _ := hid_eq _
  have e2 : stX6_louder_49 a o i σ = _ := hid_eq _
  rw [e1, e2]
  have n1 : ¬ (1 : Int32) = 0 := by decide
  rcases rest_loop (a := a) (o := o) (r := nI i) 6 with ⟨r1, r2⟩ | ⟨r1, r2⟩
  · rcases cont_eq a o (nI i) with ⟨c1, c2⟩ | ⟨c1, c2⟩
    · rcases cont_eq a (nI i) o with ⟨d1, d2⟩ | ⟨d1, d2⟩
      · rw [r1, c1, d1, if_neg n1, if_neg n1, if_neg n1, if_neg n1]
      · exact absurd (fun k hk => (r2 k hk).2) d2
    · exact absurd (fun k hk => (r2 k hk).1) c2
  · rw [r1, if_pos (show (0 : Int32) = 0 from rfl), if_pos (show (0 : Int32) = 0 from rfl), Int32.add_zero]
    rcases cont_eq a o (nI i) with ⟨c1, c2⟩ | ⟨c1, c2⟩
    · rcases cont_eq a (nI i) o with ⟨d1, d2⟩ | ⟨d1, d2⟩
      · exact absurd (fun k hk => ⟨c2 k hk, d2 k hk⟩) r2
      · rw [c1, d1, if_neg n1, if_pos (show (0 : Int32) = 0 from rfl)]
    · rw [c1, if_pos (show (0 : Int32) = 0 from rfl)]
theorem louder_eq (a b : Int32) : fX5_louder a b = fX6_louder a b := by
  have e1 : fX5_louder a b = _ := hid_eq _
  have e2 : fX6_louder a b = _ := hid_eq _
  have e3 : itN (stX5_louder_31 a) 6 (0, (-9)) = itN (stX6_louder_39 a) 6 (0, (-9)) := by
    refine it_eq 6 (fun i z hi => ?_)
    unfold stX5_louder_31 stX6_louder_39
    rw [hid_eq, hid_eq, it_eq (f := stX5_louder_40 a (nI i)) (g := stX6_louder_49 a (nI i)) 6 (fun j y hj => loud_step)]
  rw [e1, e2, e3, show fX6_in a.toInt64 1 20 = fX5_isWithin a 1 20 from in5 (lo := 1) (hi := 20) rfl rfl, show fX6_in b.toInt64 0 1 = fX5_isWithin b 0 1 from in5 (lo := 0) (hi := 1) rfl rfl]
theorem shares_loop (a b q : Int32) : ∀ m i, frX5_shares_27 a b q m i () = frX6_shares_47 a b q m i () := by
  intro m
  induction m with
  | zero => intro i; rw [frX5_shares_27, frX6_shares_47]
  | succ m ih =>
    intro i
    rw [frX5_shares_27, frX6_shares_47, hid_eq, hid_eq, ih (i + 1), Int32.mul_comm a (nI i)]
theorem shares_eq (a b q : Int32) : fX5_shares a b q = fX6_shares a b q := by
  have e1 : fX5_shares a b q = _ := hid_eq _
  have e2 : fX6_shares a b q = _ := hid_eq _
  have ec : ∀ x, fX5_isCoins x = fX5_isWithin x 0 99 := fun x => hid_eq _
  have ei : ∀ x : Int32, fX6_in x.toInt64 0 99 = fX5_isWithin x 0 99 := fun x => in5 (lo := 0) (hi := 99) rfl rfl
  rw [e1, e2, ec, ec, ec, ei, ei, ei, shares_loop]
/-- what was seen -/
def SR (sn : Int32) (qw qg : Nat → Int32) (sn' : Int32) (sw sgv : Nat → Int32) : Prop := ∃ n, n ≤ 6 ∧ sn = nI n ∧ sn' = nI n ∧ ∀ j, j < n → qw j = sw j ∧ qg j = sgv j ∧ ∃ p, p < 6 ∧ sw j = nI p
theorem giftsL {P T K : Nat} {S : Sc} {pg : Nat → Int32} (hP : P ≤ 6) (h : PR P T K S pg) {w : Nat} (hw : w < 2 ^ P) : gX3_giftsOf_s (nI w) S = fX6_giftsOf (nI P) pg (nI w) := by
  obtain ⟨⟨h1, h2, h3, h4, h5⟩, h6, -, -, -, -, ⟨b, hb, hb2⟩, h12, -⟩ := h
  have hw6 := lt64 hP hw
  have e1 : gX3_giftsOf_s (nI w) S = itN (stX3_giftsOf_4 S.2.2.1 S.2.2.2.2.2.1 (nI w)) 6 0 := hid_eq _
  have e2 : fX6_giftsOf (nI P) pg (nI w) = _ := hid_eq _
  rw [e1, e2, kI (i := P) (by omega)]
  have e3 : itN (stX3_giftsOf_4 S.2.2.1 S.2.2.2.2.2.1 (nI w)) 6 0 = itN (stX3_giftsOf_4 S.2.2.1 S.2.2.2.2.2.1 (nI w)) P 0 := by
    refine it_stay 6 hP (fun i q1 q2 => ?_)
    unfold stX3_giftsOf_4
    rw [hid_eq, has5 hw6 q2, bit_big hw q1, if_pos (show nI 0 = 0 from rfl), Int32.add_zero]
  rw [e3]
  refine it_eq P (fun i z hi => ?_)
  obtain ⟨m, hm, hm2⟩ := h12 i hi
  unfold stX3_giftsOf_4 stX6_giftsOf_4
  rw [hid_eq, hid_eq, has5 hw6 (by omega), has6 hw6 (by omega), hb2, gift5 (by omega) hm hb hm2, gift6 (by omega) hm hb ((h6 i hi).trans hm2) (h3.trans hb2)]
theorem seen_loop {P n w : Nat} {qw qg sw sgv : Nat → Int32} (hP : P ≤ 6) (hn : n ≤ 6) (hw : w < 64) (hs : ∀ j, j < n → qw j = sw j ∧ qg j = sgv j ∧ ∃ p, p < 6 ∧ sw j = nI p) : ∀ m i d, i + m = n → fuX6_gave_91 (nI P) (nI n) sw sgv (nI w) (m + 1) i 1 = frX5_isAsSeen_2 (nI n) (nI P) qw qg (nI w) (m + 1 + d) i () ∧ fuX6_gave_91 (nI P) (nI n) sw sgv (nI w) (m + 1) i 0 = 0 := by
  intro m
  induction m with
  | zero =>
    intro i d hi
    have hl : nI n ≤ nI i := nI_le (by omega) (by omega)
    rw [show 0 + 1 + d = d + 1 by omega, fuX6_gave_91, frX5_isAsSeen_2, hid_eq, hid_eq, if_pos hl, if_pos hl, fuX6_gave_91, hid_eq, if_pos hl]
    exact ⟨rfl, rfl⟩
  | succ m ih =>
    intro i d hi
    have hl : ¬ nI n ≤ nI i := nI_ge (by omega) (by omega)
    have h6 : ¬ (6 : Int32) ≤ nI i := nI_ge (b := 6) (by omega) (by decide)
    obtain ⟨s1, s2, p, hp, s3⟩ := hs i (by omega)
    obtain ⟨i1, i0⟩ := ih (i + 1) d (by omega)
    rw [show m + 1 + 1 + d = (m + 1 + d) + 1 by omega]
    refine ⟨?_, ?_⟩
    · rw [fuX6_gave_91, frX5_isAsSeen_2, hid_eq, hid_eq, if_neg hl, if_neg hl, if_neg h6, if_neg (show ¬ (1 : Int32) = 0 by decide), nI_clamp (by omega), s1, s2, s3, has5 hw hp, has6 hw hp]
      by_cases c : p < P
      · have c1 : ¬ nI P ≤ nI p := nI_ge c (by omega)
        rw [if_neg c1, if_neg (hasP_eq hP c)]
        by_cases c2 : nI (bitN w p) = sgv i
        · rw [if_pos c2, if_pos c2]
          exact i1
        · rw [if_neg c2, if_neg c2]
          exact i0
      · have c1 : nI P ≤ nI p := nI_le (by omega) (by omega)
        have c3 : fX2_hasPerson (nI P) (nI p) = 0 := by
          by_cases q : fX2_hasPerson (nI P) (nI p) = 0
          · exact q
          · obtain ⟨t, ht, h2⟩ := hasP_no hP q
            exact absurd ((nI_eq (by omega) (by omega)).mp h2 ▸ ht) c
        rw [if_pos c1, if_pos c3]
        exact i1
    · rw [fuX6_gave_91, hid_eq, if_neg hl, if_pos (show (0 : Int32) = 0 from rfl)]
