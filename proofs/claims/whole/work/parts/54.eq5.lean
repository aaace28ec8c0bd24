def mostN (k : Nat) : Nat := if k = 0 then 3 else if k = 3 then 3 else if k = 4 then 2 else if k = 5 then 5 else 9
theorem most6 : ∀ k : Nat, k < 6 → fX6_mostOf (nI k) = nI (mostN k) := by
  intro k hk
  unfold fX6_mostOf
  rw [hid_eq]
  revert k
  decide +kernel
theorem most5 : ∀ k : Nat, k < 6 → tPM k = nI (mostN k) ∧ mostN k ≤ 9 := by decide +kernel
theorem isW_b {x : Int32} {lo hi : Int32} : fX5_isWithin x lo hi = 0 ∨ (¬ x < lo ∧ ¬ hi < x ∧ ¬ fX5_isWithin x lo hi = 0) := by
  by_cases h : fX5_isWithin x lo hi = 0
  · exact Or.inl h
  · exact Or.inr ⟨(isW_in h).1, (isW_in h).2, h⟩
theorem dig {x : Int32} {lo hi : Nat} (hhi : hi < 2 ^ 31) (h1 : ¬ x < nI lo) (h2 : ¬ nI hi < x) (hlo : lo < 2 ^ 31) : ∃ d, d ≤ hi ∧ x = nI d := by
  have h0 : ¬ x < 0 := fun q => h1 (Int32.lt_of_lt_of_le q (nI_pos' hlo))
  obtain ⟨j, hj, rfl⟩ := nI_of h0
  have := lt_nI2 hj h2
  exact ⟨j, by omega, rfl⟩
theorem dig_ne {d : Nat} (hd : d < 100) : ¬ nI d = (-9) := fun q => absurd (show nI d < 0 by rw [q]; decide) (nI_pos (by omega))
/-- one figure, as the reference reads it -/
theorem fig_cases {n p : Nat} (hn : n ≤ 64) (hp : p ≤ n) (ty : Nat → Int32) (lo hi : Nat) (hlo : lo ≤ 9) (hhi : hi ≤ 9) :
    (p < n ∧ (∃ d, d ≤ hi ∧ ty p - 48 = nI d) ∧ ¬ fX5_isWithin (ty p - 48) (nI lo) (nI hi) = 0 ∧ fX6_figure (nI n) (nI p) ty (nI lo) (nI hi) = (ty p - 48, nI (p + 1))) ∨ ((p = n ∨ p < n ∧ fX5_isWithin (ty p - 48) (nI lo) (nI hi) = 0) ∧ fX6_figure (nI n) (nI p) ty (nI lo) (nI hi) = ((-9), nI p)) := by
  by_cases e : p = n
  · refine Or.inr ⟨Or.inl e, ?_⟩
    unfold fX6_figure
    rw [hid_eq, if_pos (by rw [e])]
  · have hne : ¬ nI p = nI n := fun q => e ((nI_eq (by omega) (by omega)).mp q)
    have hfig : fX6_figure (nI n) (nI p) ty (nI lo) (nI hi) = if fX5_isWithin (ty p - 48) (nI lo) (nI hi) = 0 then ((-9), nI p) else (ty p - 48, nI (p + 1)) := by
      unfold fX6_figure
      rw [hid_eq, if_neg hne, in_eq, nI_1, show nI (p + 1) - 1 = nI p from nI_pred p, nI_clamp (by omega)]
    rcases isW_b (x := ty p - 48) (lo := nI lo) (hi := nI hi) with h | ⟨h1, h2, h3⟩
    · exact Or.inr ⟨Or.inr ⟨by omega, h⟩, by rw [hfig, if_pos h]⟩
    · exact Or.inl ⟨by omega, dig (by omega) h1 h2 (by omega), h3, by rw [hfig, if_neg h3]⟩
theorem byte_at {n j : Nat} (hn : n ≤ 64) (hj : j < n) (tx : Nat → Int32) : fX4_byteAt (nI n) tx (nI j) = tx j := by
  unfold fX4_byteAt
  rw [hid_eq, if_neg (nI_pos (by omega)), if_neg (nI_ge hj (by omega)), if_neg (show ¬ (64 : Int32) ≤ nI j from nI_ge (b := 64) (by omega) (by decide)), nI_clamp (by omega)]
theorem byte_no {n j : Nat} (hn : n ≤ 64) (hj : n ≤ j) (hj2 : j < 1000) (tx : Nat → Int32) : fX4_byteAt (nI n) tx (nI j) = (-9) := by
  unfold fX4_byteAt
  rw [hid_eq, if_neg (nI_pos (by omega)), if_pos (nI_le hj (by omega))]
theorem pers_loop {n a r : Nat} {tx ty : Nat → Int32} (hn : n ≤ 64) (ht : ∀ j, j < n → tx j = ty j) (hr : r < 6) : ∀ (m i : Nat) (σ : Nat → Int32), i + m = 6 → a + i ≤ n →
    (frpX4_firstWrongFigure_3 (nI n) tx (nI a) (m + 1) i () = (-9) ∧ a + 6 ≤ n ∧ (∀ k, i ≤ k → k < 6 → ∃ d, d ≤ mostN k ∧ ty (a + k) - 48 = nI d) ∧ ∃ σ', frX6_readPerson_2 (nI n) (nI r) ty (m + 1) i (nI (a + i), σ) = (1, nI (a + 6), nI (r + 1), σ') ∧ ∀ j, σ' j = if 6 * r + i ≤ j ∧ j < 6 * r + 6 then ty (a + (j - 6 * r)) - 48 else σ j) ∨
    (∃ b, a + i ≤ b ∧ b ≤ n ∧ frpX4_firstWrongFigure_3 (nI n) tx (nI a) (m + 1) i () = nI b ∧ ∃ σ', frX6_readPerson_2 (nI n) (nI r) ty (m + 1) i (nI (a + i), σ) = (0, nI b, nI r, σ')) := by
  intro m
  induction m with
  | zero =>
    intro i σ hi ha
    have hi6 : i = 6 := by omega
    subst hi6
    refine Or.inl ⟨?_, ha, fun k h1 h2 => absurd h2 (by omega), σ, ?_, fun j => ?_⟩
    · unfold frpX4_firstWrongFigure_3
      rw [hid_eq, if_pos (show (6 : Int32) ≤ nI 6 by decide)]
    · unfold frX6_readPerson_2
      rw [hid_eq, if_pos (show (6 : Int32) ≤ nI 6 by decide), nI_1]
    · rw [if_neg (by omega)]
  | succ m ih =>
    intro i σ hi ha
    have h6 : ¬ (6 : Int32) ≤ nI i := nI_ge (b := 6) (by omega) (by decide)
    obtain ⟨hm5, hm9⟩ := most5 i (by omega)
    have e5 : frpX4_firstWrongFigure_3 (nI n) tx (nI a) (m + 1 + 1) i () = if nI (a + i) < nI n then (if (fX5_isWithin ((fX4_byteAt (nI n) tx (nI (a + i))) - 48) (nI 0) (nI (mostN i))) = 0 then nI (a + i) else frpX4_firstWrongFigure_3 (nI n) tx (nI a) (m + 1) (i + 1) ()) else nI n := by
      rw [frpX4_firstWrongFigure_3, hid_eq, if_neg h6, if_neg h6, nI_add, nI_clamp (by omega), hm5]
      rfl
    have e6 : frX6_readPerson_2 (nI n) (nI r) ty (m + 1 + 1) i (nI (a + i), σ) = if ((fX6_figure (nI n) (nI (a + i)) ty (nI 0) (nI (mostN i))).1) = (-9) then (0, (fX6_figure (nI n) (nI (a + i)) ty (nI 0) (nI (mostN i))).2, nI r, σ) else frX6_readPerson_2 (nI n) (nI r) ty (m + 1) (i + 1) ((fX6_figure (nI n) (nI (a + i)) ty (nI 0) (nI (mostN i))).2, upd σ (6 * r + i) ((fX6_figure (nI n) (nI (a + i)) ty (nI 0) (nI (mostN i))).1)) := by
      rw [frX6_readPerson_2, hid_eq, if_neg h6, most6 i (by omega), k6k hr (by omega)]
      rfl
    rw [e5, e6]
    rcases fig_cases hn ha ty 0 (mostN i) (by omega) hm9 with ⟨p1, ⟨d, p2, p3⟩, p4, p5⟩ | ⟨p1, p2⟩
    · rw [if_pos (nI_lt p1 (by omega)), byte_at hn p1, ht _ p1, if_neg p4, p5]
      have hd : ¬ ty (a + i) - 48 = (-9) := by rw [p3]; exact dig_ne (by omega)
      rw [if_neg hd]
      rcases ih (i + 1) (upd σ (6 * r + i) (ty (a + i) - 48)) (by omega) (by omega) with ⟨q1, q2, q3, σ', q4, q5⟩ | ⟨b, q1, q2, q3, σ', q4⟩
      · refine Or.inl ⟨q1, q2, fun k h1 h2 => ?_, σ', q4, fun j => ?_⟩
        · by_cases ek : k = i
          · rw [ek]
            exact ⟨d, p2, p3⟩
          · exact q3 k (by omega) h2
        · rw [q5 j]
          by_cases c1 : 6 * r + (i + 1) ≤ j ∧ j < 6 * r + 6
          · rw [if_pos c1, if_pos (by omega)]
          · rw [if_neg c1]
            by_cases c2 : j = 6 * r + i
            · rw [c2, pk_us, if_pos (by omega), show 6 * r + i - 6 * r = i by omega]
            · rw [pk_un c2, if_neg (by omega)]
      · exact Or.inr ⟨b, by omega, q2, q3, σ', q4⟩
    · rw [p2, if_pos rfl]
      refine Or.inr ⟨a + i, Nat.le_refl _, ha, ?_, σ, rfl⟩
      rcases p1 with p1 | ⟨p1, p3⟩
      · rw [if_neg (nI_nlt (by omega) (by omega)), p1]
      · rw [if_pos (nI_lt p1 (by omega)), byte_at hn p1, ht _ p1, if_pos p3]
theorem pers_eq {n a r : Nat} {tx ty σ : Nat → Int32} (hn : n ≤ 64) (ht : ∀ j, j < n → tx j = ty j) (hr : r < 6) (ha : a ≤ n) :
    (fpX4_firstWrongFigure (nI n) tx (nI a) = (-9) ∧ a + 6 ≤ n ∧ (∀ k, k < 6 → ∃ d, d ≤ mostN k ∧ ty (a + k) - 48 = nI d) ∧ ∃ σ', fX6_readPerson (nI n) (nI a) (nI r) ty σ = (1, nI (a + 6), nI (r + 1), σ') ∧ ∀ j, σ' j = if 6 * r ≤ j ∧ j < 6 * r + 6 then ty (a + (j - 6 * r)) - 48 else σ j) ∨
    (∃ b, b ≤ n ∧ fpX4_firstWrongFigure (nI n) tx (nI a) = nI b ∧ ∃ σ', fX6_readPerson (nI n) (nI a) (nI r) ty σ = (0, nI b, nI r, σ')) := by
  have e1 : fpX4_firstWrongFigure (nI n) tx (nI a) = frpX4_firstWrongFigure_3 (nI n) tx (nI a) (6 + 1) 0 () := hid_eq _
  have e2 : fX6_readPerson (nI n) (nI a) (nI r) ty σ = frX6_readPerson_2 (nI n) (nI r) ty (6 + 1) 0 (nI (a + 0), σ) := hid_eq _
  rw [e1, e2]
  rcases pers_loop hn ht hr 6 0 σ rfl ha with ⟨q1, q2, q3, q4⟩ | ⟨b, q1, q2, q3, q4⟩
  · exact Or.inl ⟨q1, q2, fun k hk => q3 k (by omega) hk, q4⟩
  · exact Or.inr ⟨b, q2, q3, q4⟩
def tLo (k : Nat) : Nat := if k = 1 then 1 else 0
def tHi (k : Nat) : Nat := if k = 0 then 2 else 9
theorem tune5 : ∀ k : Nat, k < 3 → tTL k = nI (tLo k) ∧ tTM k = nI (tHi k) ∧ tLo k ≤ 9 ∧ tHi k ≤ 9 := by decide +kernel
theorem tune_un {n a : Nat} {tx : Nat → Int32} (m i : Nat) (hi : i < 3) : frtX4_firstWrongFigure_3 (nI n) tx (nI a) (m + 1) i () = if nI (a + i) < nI n then (if (fX5_isWithin ((fX4_byteAt (nI n) tx (nI (a + i))) - 48) (nI (tLo i)) (nI (tHi i))) = 0 then nI (a + i) else frtX4_firstWrongFigure_3 (nI n) tx (nI a) m (i + 1) ()) else nI n := by
  have h3 : ¬ (3 : Int32) ≤ nI i := nI_ge (b := 3) hi (by decide)
  obtain ⟨h1, h2, -, -⟩ := tune5 i hi
  rw [frtX4_firstWrongFigure_3, hid_eq, if_neg h3, if_neg h3, nI_add, nI_clamp (by omega), h1, h2]
theorem tune_eq {n a r : Nat} {tx ty σ : Nat → Int32} (hn : n ≤ 64) (ht : ∀ j, j < n → tx j = ty j) (hr : r < 4) (ha : a ≤ n) :
    (ftX4_firstWrongFigure (nI n) tx (nI a) = (-9) ∧ a + 3 ≤ n ∧ (∀ k, k < 3 → ∃ d, d ≤ 9 ∧ ty (a + k) - 48 = nI d) ∧ ∃ σ', fX6_readTune (nI n) (nI a) (nI r) ty σ = (1, nI (a + 3), nI (r + 1), σ') ∧ ∀ j, σ' j = if 3 * r ≤ j ∧ j < 3 * r + 3 then ty (a + (j - 3 * r)) - 48 else σ j) ∨
    (∃ b, b ≤ n ∧ ftX4_firstWrongFigure (nI n) tx (nI a) = nI b ∧ ∃ σ', fX6_readTune (nI n) (nI a) (nI r) ty σ = (0, nI b, nI r, σ')) := by
  have e1 : ftX4_firstWrongFigure (nI n) tx (nI a) = frtX4_firstWrongFigure_3 (nI n) tx (nI a) (3 + 1) 0 () := hid_eq _
  have e9 : frtX4_firstWrongFigure_3 (nI n) tx (nI a) 1 3 () = (-9) := by
    rw [frtX4_firstWrongFigure_3, hid_eq, if_pos (show (3 : Int32) ≤ nI 3 by decide)]
  have e2 : fX6_readTune (nI n) (nI a) (nI r) ty σ = _ := hid_eq _
  have f0 := fig_cases hn ha ty 0 2 (by decide) (by decide)
  rw [show nI 0 = 0 from rfl, show nI 2 = 2 from rfl] at f0
  rw [e1, tune_un 3 0 (by decide), tune_un 2 1 (by decide), tune_un 1 2 (by decide), e9, e2]
  rw [show nI (tLo 0) = 0 from rfl, show nI (tHi 0) = 2 from rfl, show nI (tLo 1) = 1 from rfl, show nI (tHi 1) = 9 from rfl, show nI (tLo 2) = 0 from rfl, show nI (tHi 2) = 9 from rfl, Nat.add_zero]
  rcases f0 with ⟨p1, ⟨d, p2, p3⟩, p4, p5⟩ | ⟨p1, p2⟩
  · have g0 : ¬ ty a - 48 = (-9) := by rw [p3]; exact dig_ne (by omega)
    rw [p5]
    dsimp only
    rw [if_neg g0, if_pos (nI_lt p1 (by omega)), byte_at hn p1, ht _ p1, if_neg p4]
    have f1 := fig_cases hn (show a + 1 ≤ n by omega) ty 1 9 (by decide) (by decide)
    rw [show nI 1 = 1 from rfl, show nI 9 = 9 from rfl] at f1
    rcases f1 with ⟨q1, ⟨d1, q2, q3⟩, q4, q5⟩ | ⟨q1, q2⟩
    · have g1 : ¬ ty (a + 1) - 48 = (-9) := by rw [q3]; exact dig_ne (by omega)
      rw [q5]
      dsimp only
      rw [if_neg g1, if_pos (nI_lt q1 (by omega)), byte_at hn q1, ht _ q1, if_neg q4]
      have f2 := fig_cases hn (show a + 1 + 1 ≤ n by omega) ty 0 9 (by decide) (by decide)
      rw [show nI 0 = 0 from rfl, show nI 9 = 9 from rfl] at f2
      rcases f2 with ⟨s1, ⟨d2, s2, s3⟩, s4, s5⟩ | ⟨s1, s2⟩
      · have g2 : ¬ ty (a + 1 + 1) - 48 = (-9) := by rw [s3]; exact dig_ne (by omega)
        rw [s5]
        dsimp only
        rw [if_neg g2, if_pos (nI_lt s1 (by omega)), byte_at hn s1, ht _ s1, if_neg s4, k30 hr, show ((3 : Int32) * nI r + 1).toNatClampNeg = 3 * r + 1 from k3k (c := 1) hr (by decide), show ((3 : Int32) * nI r + 2).toNatClampNeg = 3 * r + 2 from k3k (c := 2) hr (by decide), nI_1]
        refine Or.inl ⟨rfl, by omega, fun k hk => ?_, _, rfl, fun j => ?_⟩
        · rcases (show k = 0 ∨ k = 1 ∨ k = 2 by omega) with rfl | rfl | rfl
          · exact ⟨d, by omega, p3⟩
          · exact ⟨d1, q2, q3⟩
          · exact ⟨d2, s2, s3⟩
        · by_cases c2 : j = 3 * r + 2
          · rw [c2, pk_us, if_pos (by omega), show 3 * r + 2 - 3 * r = 2 by omega]
          · rw [pk_un c2]
            by_cases c1 : j = 3 * r + 1
            · rw [c1, pk_us, if_pos (by omega), show 3 * r + 1 - 3 * r = 1 by omega]
            · rw [pk_un c1]
              by_cases c0 : j = 3 * r
              · rw [c0, pk_us, if_pos (by omega), Nat.sub_self, Nat.add_zero]
              · rw [pk_un c0, if_neg (by omega)]
      · rw [s2]
        dsimp only
        rw [if_pos rfl]
        refine Or.inr ⟨a + 1 + 1, by omega, ?_, σ, rfl⟩
        rcases s1 with s1 | ⟨s1, s3⟩
        · rw [if_neg (nI_nlt (by omega) (by omega)), s1]
        · rw [if_pos (nI_lt s1 (by omega)), byte_at hn s1, ht _ s1, if_pos s3]
    · rw [q2]
      dsimp only
      rw [if_pos rfl]
      refine Or.inr ⟨a + 1, by omega, ?_, σ, rfl⟩
      rcases q1 with q1 | ⟨q1, q3⟩
      · rw [if_neg (nI_nlt (by omega) (by omega)), q1]
      · rw [if_pos (nI_lt q1 (by omega)), byte_at hn q1, ht _ q1, if_pos q3]
  · rw [p2]
    dsimp only
    rw [if_pos rfl]
    refine Or.inr ⟨a, ha, ?_, σ, rfl⟩
    rcases p1 with p1 | ⟨p1, p3⟩
    · rw [if_neg (nI_nlt (by omega) (by omega)), p1]
    · rw [if_pos (nI_lt p1 (by omega)), byte_at hn p1, ht _ p1, if_pos p3]
