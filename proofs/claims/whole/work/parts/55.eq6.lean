def RG (r : Nat) (to : Nat → Int32) : Prop := ∀ p, p < r → ∀ k, k < 6 → ∃ d, d ≤ mostN k ∧ to (6 * p + k) = nI d
def SG (q : Nat) (so : Nat → Int32) : Prop := ∀ t, t < q → ∀ k, k < 3 → ∃ d, d ≤ 9 ∧ so (3 * t + k) = nI d
theorem copyP {n a r : Nat} {tx : Nat → Int32} (hn : n ≤ 64) (hr : r < 6) (ha : a + 6 ≤ n) : ∀ (m i : Nat) (σ : Nat → Int32), i + m = 6 → ∀ j, frpX2_copyFigures_3 (nI n) tx (nI a) (nI (r * 6)) (m + 1) i σ j = if 6 * r + i ≤ j ∧ j < 6 * r + 6 then tx (a + (j - 6 * r)) - 48 else σ j := by
  intro m
  induction m with
  | zero =>
    intro i σ hi j
    have hi6 : i = 6 := by omega
    subst hi6
    rw [frpX2_copyFigures_3, hid_eq, if_pos (show (6 : Int32) ≤ nI 6 by decide), if_neg (by omega)]
  | succ m ih =>
    intro i σ hi j
    rw [frpX2_copyFigures_3, hid_eq, if_neg (show ¬ (6 : Int32) ≤ nI i from nI_ge (b := 6) (by omega) (by decide)), nI_add, nI_add, if_neg (show ¬ (36 : Int32) ≤ nI (r * 6 + i) from nI_ge (b := 36) (by omega) (by decide)), nI_clamp (by omega), byte_at hn (by omega), ih (i + 1) _ (by omega) j]
    by_cases c1 : 6 * r + (i + 1) ≤ j ∧ j < 6 * r + 6
    · rw [if_pos c1, if_pos (by omega)]
    · rw [if_neg c1]
      by_cases c2 : j = r * 6 + i
      · rw [c2, pk_us, if_pos (by omega), show r * 6 + i - 6 * r = i by omega]
      · rw [pk_un c2, if_neg (by omega)]
theorem copyT {n a r : Nat} {tx : Nat → Int32} (hn : n ≤ 64) (hr : r < 4) (ha : a + 3 ≤ n) : ∀ (m i : Nat) (σ : Nat → Int32), i + m = 3 → ∀ j, frtX2_copyFigures_3 (nI n) tx (nI a) (nI (r * 3)) (m + 1) i σ j = if 3 * r + i ≤ j ∧ j < 3 * r + 3 then tx (a + (j - 3 * r)) - 48 else σ j := by
  intro m
  induction m with
  | zero =>
    intro i σ hi j
    have hi6 : i = 3 := by omega
    subst hi6
    rw [frtX2_copyFigures_3, hid_eq, if_pos (show (3 : Int32) ≤ nI 3 by decide), if_neg (by omega)]
  | succ m ih =>
    intro i σ hi j
    rw [frtX2_copyFigures_3, hid_eq, if_neg (show ¬ (3 : Int32) ≤ nI i from nI_ge (b := 3) (by omega) (by decide)), nI_add, nI_add, if_neg (show ¬ (12 : Int32) ≤ nI (r * 3 + i) from nI_ge (b := 12) (by omega) (by decide)), nI_clamp (by omega), byte_at hn (by omega), ih (i + 1) _ (by omega) j]
    by_cases c1 : 3 * r + (i + 1) ≤ j ∧ j < 3 * r + 3
    · rw [if_pos c1, if_pos (by omega)]
    · rw [if_neg c1]
      by_cases c2 : j = r * 3 + i
      · rw [c2, pk_us, if_pos (by omega), show r * 3 + i - 3 * r = i by omega]
      · rw [pk_un c2, if_neg (by omega)]
theorem parse {n : Nat} {tx ty : Nat → Int32} (hn : n ≤ 64) (ht : ∀ j, j < n → tx j = ty j) : ∀ (m i p r q : Nat) (x : Int32) (pf tf rto rso : Nat → Int32), i + m = 64 → i < p → p ≤ n → r ≤ 6 → q ≤ 4 → (∀ j, j < 6 * r → pf j = rto j) → (∀ j, j < 3 * q → tf j = rso j) → RG r rto → SG q rso →
    frX4_firstFault_21 (nI n) tx (m + 1) i (nI r, nI q, x, nI p) = (frX6_readSquare_40 (nI n) ty (m + 1) i (nI p, nI r, nI q, rto, rso)).1 ∧
    ((frX6_readSquare_40 (nI n) ty (m + 1) i (nI p, nI r, nI q, rto, rso)).1 = (-9) → ∃ R Q pf' tf', R ≤ 6 ∧ Q ≤ 4 ∧ (frX6_readSquare_40 (nI n) ty (m + 1) i (nI p, nI r, nI q, rto, rso)).2.2.1 = nI R ∧ (frX6_readSquare_40 (nI n) ty (m + 1) i (nI p, nI r, nI q, rto, rso)).2.2.2.1 = nI Q ∧ frX2_learn_14 (nI n) tx (m + 1) i (nI p, nI r, nI q, pf, tf) = (nI R, nI Q, pf', tf') ∧
      (∀ j, j < 6 * R → pf' j = (frX6_readSquare_40 (nI n) ty (m + 1) i (nI p, nI r, nI q, rto, rso)).2.2.2.2.1 j) ∧ (∀ j, j < 3 * Q → tf' j = (frX6_readSquare_40 (nI n) ty (m + 1) i (nI p, nI r, nI q, rto, rso)).2.2.2.2.2 j) ∧ RG R (frX6_readSquare_40 (nI n) ty (m + 1) i (nI p, nI r, nI q, rto, rso)).2.2.2.2.1 ∧ SG Q (frX6_readSquare_40 (nI n) ty (m + 1) i (nI p, nI r, nI q, rto, rso)).2.2.2.2.2) := by
  intro m
  induction m with
  | zero =>
    intro i p r q x pf tf rto rso hi hip hp
    exact absurd hip (by omega)
  | succ m ih =>
    intro i p r q x pf tf rto rso hi hip hp hr hq hpf htf hrg hsg
    rw [frX4_firstFault_21, frX6_readSquare_40, frX2_learn_14, hid_eq, hid_eq, hid_eq]
    dsimp only
    by_cases hpn : p = n
    · have hle : nI n ≤ nI p := by rw [hpn]; exact Int32.le_refl _
      rw [if_pos hle, if_pos hle, if_pos hle]
      exact ⟨rfl, fun _ => ⟨r, q, pf, tf, hr, hq, rfl, rfl, rfl, hpf, htf, hrg, hsg⟩⟩
    · have hlt : p < n := by omega
      have hle : ¬ nI n ≤ nI p := nI_ge hlt (by omega)
      have hb : fX4_byteAt (nI n) tx (nI p) = ty p := (byte_at hn hlt tx).trans (ht p hlt)
      have hcl : (nI p).toNatClampNeg = p := nI_clamp (by omega)
      have hp9 : ¬ nI p = (-9) := dig_ne (by omega)
      have eR : fX6_readPart (nI n) (nI p) (nI r) (nI q) ty rto rso = _ := hid_eq _
      rw [if_neg hle, if_neg hle, if_neg hle, hb, eR, hcl, show nI p + 1 = nI (p + 1) from nI_1 p]
      -- no part at this place
      have bad : ∀ {α : Type} (a b : α), (if nI p = (-9) then a else b) = b := fun a b => if_neg hp9
      by_cases c80 : ty p = 80
      · rw [if_pos c80, if_pos c80, if_pos c80]
        by_cases c6 : r = 6
        · have h6 : (6 : Int32) ≤ nI r := by rw [c6]; decide
          have c84 : ¬ ty p = 84 := by rw [c80]; decide
          rw [if_pos h6, if_pos h6, if_neg c84, if_neg c84, bad]
          dsimp only
          rw [if_pos rfl]
          exact ⟨rfl, fun h => absurd h hp9⟩
        · have h6 : ¬ (6 : Int32) ≤ nI r := nI_ge (b := 6) (by omega) (by decide)
          rw [if_neg h6, if_neg h6]
          rcases pers_eq (σ := rto) hn ht (show r < 6 by omega) (show p + 1 ≤ n by omega) with ⟨q1, q2, q3, σ', q4, q5⟩ | ⟨b, q1, q2, σ', q4⟩
          · rw [q1, q4]
            dsimp only
            rw [if_pos rfl, if_neg (show ¬ (1 : Int32) = 0 by decide), show nI r + 1 = nI (r + 1) from nI_1 r, show nI p + 7 = nI (p + 7) from nI_add p 7, show nI r * 6 = nI (r * 6) from pk_mul r 6, show p + 1 + 6 = p + 7 by omega]
            have hcp : ∀ j, fpX2_copyFigures (nI n) tx pf (nI (p + 1)) (nI (r * 6)) j = if 6 * r ≤ j ∧ j < 6 * r + 6 then tx (p + 1 + (j - 6 * r)) - 48 else pf j := fun j => by
              have e := copyP (tx := tx) hn (show r < 6 by omega) (show p + 1 + 6 ≤ n by omega) 6 0 pf rfl j
              exact (congrFun (hid_eq _) j).trans e
            refine ih (i + 1) (p + 7) (r + 1) q 7 _ tf σ' rso (by omega) (by omega) (by omega) (by omega) hq (fun j hj => ?_) htf (fun p' hp' k hk => ?_) hsg
            · rw [hcp j, q5 j]
              by_cases c : 6 * r ≤ j ∧ j < 6 * r + 6
              · rw [if_pos c, if_pos c, ht _ (by omega)]
              · rw [if_neg c, if_neg c]
                exact hpf j (by omega)
            · rw [q5]
              by_cases c : p' = r
              · rw [c, if_pos (by omega), show 6 * r + k - 6 * r = k by omega]
                exact q3 k hk
              · rw [if_neg (by omega)]
                exact hrg p' (by omega) k hk
          · have hb9 : ¬ nI b = (-9) := dig_ne (by omega)
            rw [q2, q4]
            dsimp only
            rw [if_neg hb9, if_pos rfl]
            exact ⟨rfl, fun h => absurd h hb9⟩
      · rw [if_neg c80, if_neg c80, if_neg c80]
        by_cases c84 : ty p = 84
        · rw [if_pos c84, if_pos c84]
          by_cases c4 : q = 4
          · have h4 : (4 : Int32) ≤ nI q := by rw [c4]; decide
            rw [if_pos h4, if_pos h4, bad]
            dsimp only
            rw [if_pos rfl]
            exact ⟨rfl, fun h => absurd h hp9⟩
          · have h4 : ¬ (4 : Int32) ≤ nI q := nI_ge (b := 4) (by omega) (by decide)
            rw [if_neg h4, if_neg h4]
            rcases tune_eq (σ := rso) hn ht (show q < 4 by omega) (show p + 1 ≤ n by omega) with ⟨q1, q2, q3, σ', q4, q5⟩ | ⟨b, q1, q2, σ', q4⟩
            · rw [q1, q4]
              dsimp only
              rw [if_pos rfl, if_neg (show ¬ (1 : Int32) = 0 by decide), show nI q + 1 = nI (q + 1) from nI_1 q, show nI p + 4 = nI (p + 4) from nI_add p 4, show nI q * 3 = nI (q * 3) from pk_mul q 3, show p + 1 + 3 = p + 4 by omega]
              have hcp : ∀ j, ftX2_copyFigures (nI n) tx tf (nI (p + 1)) (nI (q * 3)) j = if 3 * q ≤ j ∧ j < 3 * q + 3 then tx (p + 1 + (j - 3 * q)) - 48 else tf j := fun j => by
                have e := copyT (tx := tx) hn (show q < 4 by omega) (show p + 1 + 3 ≤ n by omega) 3 0 tf rfl j
                exact (congrFun (hid_eq _) j).trans e
              refine ih (i + 1) (p + 4) r (q + 1) 4 pf _ rto σ' (by omega) (by omega) (by omega) hr (by omega) hpf (fun j hj => ?_) hrg (fun p' hp' k hk => ?_)
              · rw [hcp j, q5 j]
                by_cases c : 3 * q ≤ j ∧ j < 3 * q + 3
                · rw [if_pos c, if_pos c, ht _ (by omega)]
                · rw [if_neg c, if_neg c]
                  exact htf j (by omega)
              · rw [q5]
                by_cases c : p' = q
                · rw [c, if_pos (by omega), show 3 * q + k - 3 * q = k by omega]
                  exact q3 k hk
                · rw [if_neg (by omega)]
                  exact hsg p' (by omega) k hk
            · have hb9 : ¬ nI b = (-9) := dig_ne (by omega)
              rw [q2, q4]
              dsimp only
              rw [if_neg hb9, if_pos rfl]
              exact ⟨rfl, fun h => absurd h hb9⟩
        · rw [if_neg c84, if_neg c84, bad]
          dsimp only
          rw [if_pos rfl]
          exact ⟨rfl, fun h => absurd h hp9⟩
/-- the text -/
def TR (tl : Int32) (tx : Nat → Int32) (ts : Int32) (ty : Nat → Int32) : Prop := ∃ n, n ≤ 64 ∧ tl = nI n ∧ ts = nI n ∧ ∀ j, j < n → tx j = ty j
theorem fault_eq {tl ts : Int32} {tx ty pf tf rto rso : Nat → Int32} (h : TR tl tx ts ty) : fX4_firstFault tl tx = (fX6_readSquare ts ty rto rso).1 ∧ ((fX6_readSquare ts ty rto rso).1 = (-9) → ∃ R Q pf' tf', R ≤ 6 ∧ Q ≤ 4 ∧ (fX6_readSquare ts ty rto rso).2.2.1 = nI R ∧ (fX6_readSquare ts ty rto rso).2.2.2.1 = nI Q ∧ fX2_learn pf tf tl tx = (nI R, nI Q, pf', tf') ∧
      (∀ j, j < 6 * R → pf' j = (fX6_readSquare ts ty rto rso).2.2.2.2.1 j) ∧ (∀ j, j < 3 * Q → tf' j = (fX6_readSquare ts ty rto rso).2.2.2.2.2 j) ∧ RG R (fX6_readSquare ts ty rto rso).2.2.2.2.1 ∧ SG Q (fX6_readSquare ts ty rto rso).2.2.2.2.2) := by
  obtain ⟨n, hn, rfl, rfl, ht⟩ := h
  have e1 : fX4_firstFault (nI n) tx = _ := hid_eq _
  have e2 : fX6_readSquare (nI n) ty rto rso = _ := hid_eq _
  have e3 : fX2_learn pf tf (nI n) tx = _ := hid_eq _
  rw [e1, e2, e3]
  rcases Nat.eq_zero_or_pos n with rfl | hpos
  · have hb : fX4_byteAt (nI 0) tx 0 = (-9) := byte_no (j := 0) (by decide) (Nat.le_refl _) (by decide) tx
    rw [hb, if_neg (show ¬ (-9 : Int32) = 72 by decide), if_pos (show nI 0 = 0 from rfl)]
    exact ⟨rfl, fun h => absurd h (by show ¬ (0 : Int32) = (-9); decide)⟩
  · have h0 : ¬ nI n = 0 := nI_ne0 hpos (by omega)
    have hb : fX4_byteAt (nI n) tx 0 = ty 0 := (byte_at (j := 0) hn hpos tx).trans (ht 0 hpos)
    rw [hb, if_neg h0, show (0 : Int32).toNatClampNeg = 0 from rfl]
    by_cases c : ty 0 = 72
    · rw [if_pos c, if_pos c]
      exact parse hn ht 64 0 1 0 0 0 pf tf rto rso rfl (by omega) (by omega) (by decide) (by decide) (fun j hj => absurd hj (by omega)) (fun j hj => absurd hj (by omega)) (fun p hp => absurd hp (by omega)) (fun p hp => absurd hp (by omega))
    · rw [if_neg c, if_neg c]
      exact ⟨rfl, fun h => absurd h (by show ¬ (0 : Int32) = (-9); decide)⟩
