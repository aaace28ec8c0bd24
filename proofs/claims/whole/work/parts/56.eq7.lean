theorem pw5L (j : Nat) : ∀ n : Nat, itN (stX5_power_4 (nI j)) n 1 = nI (j ^ n)
  | 0 => rfl
  | n + 1 => by
    show stX5_power_4 (nI j) n (itN (stX5_power_4 (nI j)) n 1) = _
    rw [pw5L j n]
    unfold stX5_power_4
    rw [hid_eq, pk_mul, Nat.pow_succ]
theorem pw5 (j n : Nat) (hn : n < 2 ^ 31) : fX5_power (nI j) (nI n) = nI (j ^ n) := by
  unfold fX5_power
  rw [hid_eq, nI_clamp hn]
  exact pw5L j n
theorem p10 {n : Nat} (hn : n ≤ 9) : 10 ^ n < 2 ^ 31 ∧ 0 < 10 ^ n := ⟨Nat.lt_of_le_of_lt (Nat.pow_le_pow_right (by decide) hn) (by decide), Nat.pow_pos (by decide)⟩
/-- the figure at a place of a row of n figures -/
def fgN (n x i : Nat) : Nat := x / 10 ^ (n - 1 - i) % 10
theorem fg_lt (n x i : Nat) : fgN n x i < 10 := Nat.mod_lt _ (by decide)
theorem dvL {x : Nat} (hx : x < 2 ^ 31) : ∀ k, itN stX5_figureAt_7 k (nI x) = nI (x / 10 ^ k)
  | 0 => by show nI x = _; rw [Nat.pow_zero, Nat.div_one]
  | k + 1 => by
    show stX5_figureAt_7 k (itN stX5_figureAt_7 k (nI x)) = _
    rw [dvL hx k]
    unfold stX5_figureAt_7
    rw [hid_eq, Nat.pow_succ, ← Nat.div_div_eq_div_mul]
    exact pk_div (d := 10) (Nat.lt_of_le_of_lt (Nat.div_le_self _ _) hx) (by decide) (by decide)
theorem fg5 {n x i : Nat} (hn : n ≤ 9) (hx : x < 2 ^ 31) (hi : i < n) : fX5_figureAt (nI n) (nI x) (nI i) = nI (fgN n x i) := by
  unfold fX5_figureAt
  rw [hid_eq, nI_clamp (by omega), nI_clamp (by omega), dvL hx]
  exact pk_rem (d := 10) (Nat.lt_of_le_of_lt (Nat.div_le_self _ _) hx) (by decide) (by decide)
theorem fg6 {x k : Nat} (hk : k ≤ 9) (hx : x < 2 ^ 31) : (nI x / fX6_power 10 (nI k)) - (nI x / fX6_power 10 (nI k)) / 10 * 10 = nI (x / 10 ^ k % 10) := by
  rw [show fX6_power 10 (nI k) = nI (10 ^ k) from pw6 10 k (by omega), pk_div hx (p10 hk).2 (p10 hk).1]
  exact pk_rem (d := 10) (Nat.lt_of_le_of_lt (Nat.div_le_self _ _) hx) (by decide) (by decide)
theorem fg6d {n x i : Nat} (hn : n ≤ 9) (hx : x < 2 ^ 31) (hi : i < n) : (nI x / fX6_power 10 (dcr (nI n - 1) i)) - (nI x / fX6_power 10 (dcr (nI n - 1) i)) / 10 * 10 = nI (fgN n x i) := by
  have h := dc_at (a := nI n) (vp_in_nI (by omega) (by decide)) (i := i) (by rw [nI_clamp (by omega)]; exact hi)
  rw [nI_clamp (by omega)] at h
  rw [h]
  exact fg6 (by omega) hx
theorem hasT_iff {T : Nat} (hT : T ≤ 4) {d : Nat} (hd : d < 2 ^ 31) : (fX2_hasTune (nI T) (nI d) = 0) ↔ ¬ d < T := by
  constructor
  · intro h q
    exact hasT_eq hT q h
  · intro h
    by_cases c : fX2_hasTune (nI T) (nI d) = 0
    · exact c
    · obtain ⟨t, ht, h2⟩ := hasT_no hT c
      exact absurd ((nI_eq hd (by omega)).mp h2 ▸ ht) h
theorem at_loop {T n x : Nat} (hT : T ≤ 4) (hn : n ≤ 9) (hx : x < 2 ^ 31) : ∀ m i, i + m = n → frX5_areTunes_2 (nI T) (nI n) (nI x) (m + 1) i () = if ∀ k, k < n → i ≤ k → fgN n x k < T then 1 else 0 := by
  intro m
  induction m with
  | zero =>
    intro i hi
    rw [frX5_areTunes_2, hid_eq, if_pos (nI_le (by omega) (by omega)), if_pos (fun k h1 h2 => absurd h1 (by omega))]
  | succ m ih =>
    intro i hi
    rw [frX5_areTunes_2, hid_eq, if_neg (nI_ge (show i < n by omega) (by omega)), fg5 hn hx (show i < n by omega), ih (i + 1) (by omega)]
    by_cases c : fgN n x i < T
    · rw [if_neg (fun q => (hasT_iff hT (by have := fg_lt n x i; omega)).mp q c)]
      by_cases c2 : ∀ k, k < n → i + 1 ≤ k → fgN n x k < T
      · rw [if_pos c2, if_pos (fun k h1 h2 => by
          by_cases e : k = i
          · rw [e]; exact c
          · exact c2 k h1 (by omega))]
      · rw [if_neg c2, if_neg (fun q => c2 (fun k h1 h2 => q k h1 (by omega)))]
    · rw [if_pos ((hasT_iff hT (by have := fg_lt n x i; omega)).mpr c), if_neg (fun q => c (q i (by omega) (Nat.le_refl _)))]
theorem areT {T n x : Nat} (hT : T ≤ 4) (hn : n ≤ 9) (hx : x < 2 ^ 31) : fX5_areTunes (nI T) (nI n) (nI x) = if ∀ k, k < n → fgN n x k < T then 1 else 0 := by
  have e : fX5_areTunes (nI T) (nI n) (nI x) = frX5_areTunes_2 (nI T) (nI n) (nI x) ((nI n).toNatClampNeg + 1) 0 () := hid_eq _
  rw [e, nI_clamp (by omega), at_loop hT hn hx n 0 (by omega)]
  by_cases c : ∀ k, k < n → fgN n x k < T
  · rw [if_pos c, if_pos (fun k h1 _ => c k h1)]
  · rw [if_neg c, if_neg (fun q => c (fun k h1 => q k h1 (Nat.zero_le _)))]
/-- a row of tunes heard, played -/
noncomputable def hearN (T : Nat) (pf tf : Nat → Int32) (n x : Nat) (i : Nat) (S : Sc) : Sc := gX3_hear_s (nI T) pf tf (nI (fgN n x i)) S
theorem hearRow_eq {T n x : Nat} {pf tf : Nat → Int32} {S : Sc} (hn : n ≤ 9) (hx : x < 2 ^ 31) : fX5_hearRow (nI T) pf tf S (nI n) (nI x) = itN (hearN T pf tf n x) n S := by
  unfold fX5_hearRow
  rw [hid_eq, nI_clamp (by omega)]
  refine it_eq n (fun i z hi => ?_)
  unfold stX5_hearRow_2 hearN
  rw [hid_eq, fg5 hn hx hi]
noncomputable def playN (P : Nat) (to so : Nat → Int32) (n x : Nat) (i : Nat) (pg : Nat → Int32) : Nat → Int32 := (fX6_goPlay (nI P) to so pg (nI (fgN n x i))).2
theorem row_sim {P T K n x : Nat} {S : Sc} {pg pf tf to so : Nat → Int32} (hF : FR P T pf tf to so) (hK : K + n < 2 ^ 29) (hv : ∀ k, k < n → fgN n x k < T) (h : PR P T K S pg) : PR P T (K + n) (itN (hearN T pf tf n x) n S) (itN (playN P to so n x) n pg) :=
  it_sim (fun i S pg => PR P T (K + i) S pg) n (fun i a b hi h => (goPlay_eq hF (by omega) (hv i hi) h).1) h
/-- isRow, as both ask it -/
theorem isRow_eq {n : Nat} (hn : n ≤ 9) (b : Int32) : (fX5_isRow (nI n) b = 0) ↔ (fX6_in b.toInt64 0 ((fX6_power 10 (nI n) - 1).toInt64) = 0) := by
  have hp := p10 hn
  rw [show (0 : Int64) = (0 : Int32).toInt64 from rfl, in_eq, show fX6_power 10 (nI n) = nI (10 ^ n) from pw6 10 n (by omega), show nI (10 ^ n) - 1 = nI (10 ^ n - 1) from pk_sub (b := 1) hp.2]
  unfold fX5_isRow fX5_isWithin
  rw [hid_eq, hid_eq, show fX5_power 10 (nI n) = nI (10 ^ n) from pw5 10 n (by omega)]
  by_cases c1 : b < 0
  · rw [if_pos c1, if_pos c1]
  · rw [if_neg c1, if_neg c1]
    obtain ⟨x, hx, rfl⟩ := nI_of c1
    by_cases c2 : 10 ^ n ≤ x
    · rw [if_pos (nI_le c2 hx), if_pos (nI_lt (by omega) hx)]
    · rw [if_neg (nI_ge (by omega) hp.1), if_neg (nI_nlt (by omega) (by omega))]
theorem isRow_x {n : Nat} (hn : n ≤ 9) {b : Int32} (h : ¬ fX5_isRow (nI n) b = 0) : ∃ x, x < 2 ^ 31 ∧ b = nI x := by
  have h1 : ¬ b < 0 := fun q => h ((hid_eq _).trans (if_pos q))
  exact nI_of h1
theorem W_nat {a : Int32} {lo hi : Nat} (hlo : lo < 2 ^ 31) (hhi : hi < 2 ^ 31) (h : ¬ fX5_isWithin a (nI lo) (nI hi) = 0) : ∃ n, lo ≤ n ∧ n ≤ hi ∧ a = nI n := by
  obtain ⟨h1, h2⟩ := isW_in h
  have h0 : ¬ a < 0 := fun q => h1 (Int32.lt_of_lt_of_le q (nI_pos' hlo))
  obtain ⟨j, hj, rfl⟩ := nI_of h0
  refine ⟨j, ?_, ?_, rfl⟩
  · rcases Nat.lt_or_ge j lo with q | q
    · exact absurd (nI_lt q hlo) h1
    · exact q
  · have := lt_nI2 hj h2
    omega
theorem in5 {a : Int32} {b' q' : Int64} {lo hi : Nat} (h1 : b' = (nI lo).toInt64) (h2 : q' = (nI hi).toInt64) : fX6_in a.toInt64 b' q' = fX5_isWithin a (nI lo) (nI hi) := by
  subst h1 h2
  exact in_eq _ _ _
theorem grows_loop {P T n x : Nat} {pf tf to so : Nat → Int32} (hF : FR P T pf tf to so) (hn : n ≤ 9) (hx : x < 2 ^ 31) : ∀ (m i K : Nat) (S : Sc) (pg : Nat → Int32), i + m = n → K + m < 2 ^ 29 → PR P T K S pg → (∀ k, k < i → fgN n x k < T) →
    (frX6_grows_46 (nI P) (nI T) to so (nI n) (nI x) (m + 1) i pg).1 = if ∀ k, k < n → fgN n x k < T then gX3_ringSize_s (itN (fun j => hearN T pf tf n x (i + j)) m S) else (-2) := by
  intro m
  have hP := hF.1.1
  induction m with
  | zero =>
    intro i K S pg hi hK h hv
    have e : i = n := by omega
    have hd : dcr (nI n - 1) i < 0 := by
      have := dc_done (a := nI n) (vp_in_nI (by omega) (by decide))
      rw [nI_clamp (by omega)] at this
      rw [e]
      exact this
    rw [frX6_grows_46, hid_eq, if_pos hd, if_pos (fun k hk => hv k (by omega))]
    obtain ⟨u, hu, hu2⟩ := h.2.2.2.2.1
    have h4 := h.1.2.2.2.1
    show fX6_many (pg 12) = fX3_ringSize S.2.2.2.1
    rw [h4, hu2, many_nI (lt64 hP hu), ring_eq (lt64 hP hu)]
  | succ m ih =>
    intro i K S pg hi hK h hv
    have hd : ¬ dcr (nI n - 1) i < 0 := dc_cont (a := nI n) (vp_in_nI (by omega) (by decide)) (by rw [nI_clamp (by omega)]; omega)
    rw [frX6_grows_46, hid_eq, if_neg hd, fg6d hn hx (show i < n by omega), noT5]
    by_cases c : fgN n x i < T
    · have hne : ¬ fX2_hasTune (nI T) (nI (fgN n x i)) = 0 := hasT_eq hF.1.2 c
      rw [if_neg hne, if_pos (show (0 : Int32) = 0 from rfl)]
      have q := (goPlay_eq hF (by omega) c h).1
      rw [ih (i + 1) (K + 1) _ _ (by omega) (by omega) q (fun k hk => by
        by_cases e : k = i
        · rw [e]; exact c
        · exact hv k (by omega))]
      congr 2
      have key : ∀ m, itN (fun j => hearN T pf tf n x (i + j)) (m + 1) S = itN (fun j => hearN T pf tf n x (i + 1 + j)) m (hearN T pf tf n x i S) := by
        intro m
        induction m with
        | zero => rfl
        | succ m ih2 =>
          show hearN T pf tf n x (i + (m + 1)) (itN (fun j => hearN T pf tf n x (i + j)) (m + 1) S) = _
          rw [ih2, show i + (m + 1) = i + 1 + m by omega]
          rfl
      exact (key m).symm
    · have hne : fX2_hasTune (nI T) (nI (fgN n x i)) = 0 := (hasT_iff hF.1.2 (by have := fg_lt n x i; omega)).mpr c
      rw [if_pos hne, if_neg (show ¬ (1 : Int32) = 0 by decide), if_neg (fun q => c (q i (by omega)))]
theorem grows_eq {P T K : Nat} {S V : Sc} {pg tr pf tf to so : Nat → Int32} (hF : FR P T pf tf to so) (hK : K + 20 < 2 ^ 29) (h : PR P T K S pg) (a b : Int32) : (fX5_grows (nI T) pf tf S V a b).1 = (fX6_grows (nI P) (nI T) to so pg tr a b).1 := by
  have e1 : fX5_grows (nI T) pf tf S V a b = _ := hid_eq _
  have e2 : fX6_grows (nI P) (nI T) to so pg tr a b = _ := hid_eq _
  rw [e1, e2, show fX6_in a.toInt64 1 6 = fX5_isWithin a (nI 1) (nI 6) from in5 rfl rfl]
  by_cases c : fX5_isWithin a (nI 1) (nI 6) = 0
  · rw [if_pos c, if_pos (show fX5_isWithin a 1 6 = 0 from c)]
  · obtain ⟨n, hn1, hn6, rfl⟩ := W_nat (by decide) (by decide) c
    rw [if_neg c, if_neg (show ¬ fX5_isWithin (nI n) 1 6 = 0 from c)]
    by_cases c2 : fX5_isRow (nI n) b = 0
    · rw [if_pos c2, if_pos ((isRow_eq (by omega) b).mp c2)]
    · rw [if_neg c2, if_neg (fun q => c2 ((isRow_eq (by omega) b).mpr q))]
      obtain ⟨x, hx, rfl⟩ := isRow_x (by omega) c2
      rw [areT hF.1.2 (by omega) hx, nI_clamp (by omega), grows_loop hF (by omega) hx n 0 K S _ (by omega) (by omega) (PR_begin hF.1.1 hF.1.2 h) (fun k hk => absurd hk (by omega)), hearRow_eq (by omega) hx]
      by_cases c3 : ∀ k, k < n → fgN n x k < T
      · rw [if_pos c3, if_pos c3, if_neg (show ¬ (1 : Int32) = 0 by decide)]
        show gX3_ringSize_s _ = gX3_ringSize_s _
        congr 1
        exact it_eq n (fun i z hi => by rw [Nat.zero_add])
      · rw [if_neg c3, if_neg c3, if_pos (show (0 : Int32) = 0 from rfl)]
