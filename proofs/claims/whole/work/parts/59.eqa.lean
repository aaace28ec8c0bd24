theorem sub0 : ∀ i u : Fin 64, subN i.1 u.1 = 0 → i.1 ≤ u.1 ∧ (nI u.1 &&& nI i.1) = nI i.1 := by decide +kernel
theorem all_and : ∀ (P : Fin 7) (i : Fin 64), i.1 < 2 ^ P.1 → (nI (2 ^ P.1 - 1) &&& nI i.1) = nI i.1 := by decide +kernel
theorem stand_iff {i u : Nat} (hi : i < 64) (hu : u < 64) : ((nI i &&& (nI u ^^^ (-1))) = 0) ↔ subN i u = 0 := by
  have hs : subN i u < 64 := Nat.lt_of_le_of_lt Nat.and_le_left hi
  rw [show (nI i &&& (nI u ^^^ (-1))) = nI (subN i u) from subC ⟨i, hi⟩ ⟨u, hu⟩]
  constructor
  · intro h
    exact (nI_eq (b := 0) (by omega) (by decide)).mp h
  · intro h
    rw [h]
    rfl
theorem are5 {S : Sc} {u i : Nat} (hu : S.2.2.2.1 = nI u) : gX3_areStanding_s (nI i) S = if (nI i &&& (nI u ^^^ (-1))) = 0 then 1 else 0 := by
  have e : gX3_areStanding_s (nI i) S = _ := hid_eq _
  rw [e, hu]
theorem are_big {S : Sc} {u i P : Nat} (hu : S.2.2.2.1 = nI u) (h1 : u < 2 ^ P) (h2 : 2 ^ P ≤ i) (h3 : i < 64) : gX3_areStanding_s (nI i) S = 0 := by
  rw [are5 hu, if_neg (fun q => ?_)]
  have h4 := sub0 ⟨i, h3⟩ ⟨u, by omega⟩ ((stand_iff h3 (by omega)).mp q)
  dsimp only at h4
  omega
theorem pow64 {P : Nat} (hP : P ≤ 6) : 2 ^ P ≤ 64 := Nat.pow_le_pow_right (n := 2) (by decide) hP
theorem shlP {P : Nat} (hP : P ≤ 6) : ((1 : Int32) <<< (nI P &&& 31)) = nI (2 ^ P) := by
  obtain ⟨k, hk, h1, h2⟩ := shl_pe (pe := nI P) (vp_in_nI (by omega) (by decide))
  rw [h2, (nI_eq (by omega) (by omega)).mp h1]
theorem gave_step {P T K n u : Nat} {S : Sc} {pg qw qg sw sgv : Nat → Int32} {a : Int32} (hP : P ≤ 6) (hn : n ≤ 6) (h : PR P T K S pg) (hs : ∀ j, j < n → qw j = sw j ∧ qg j = sgv j ∧ ∃ p, p < 6 ∧ sw j = nI p) (hu : u < 2 ^ P) (hu2 : S.2.2.2.1 = nI u) {i : Nat} (hi : i < 2 ^ P) {σ τ : Int32 × Int32}
    (hq : ∃ c, c ≤ i ∧ σ.1 = nI c ∧ τ.1 = nI c ∧ (c = 0 → σ.2 = nI u ∧ τ.2 = nI (2 ^ P - 1)) ∧ (c ≠ 0 → σ.2 = τ.2)) :
    ∃ c, c ≤ i + 1 ∧ (stX5_gave_33 (nI n) (nI P) S qw qg a i σ).1 = nI c ∧ (stX6_gave_45 (nI P) (nI n) pg sw sgv a i τ).1 = nI c ∧ (c = 0 → (stX5_gave_33 (nI n) (nI P) S qw qg a i σ).2 = nI u ∧ (stX6_gave_45 (nI P) (nI n) pg sw sgv a i τ).2 = nI (2 ^ P - 1)) ∧ (c ≠ 0 → (stX5_gave_33 (nI n) (nI P) S qw qg a i σ).2 = (stX6_gave_45 (nI P) (nI n) pg sw sgv a i τ).2) := by
  obtain ⟨c, h1, h2, h3, h4, h5⟩ := hq
  have p64 := pow64 hP
  have e1 : stX5_gave_33 (nI n) (nI P) S qw qg a i σ = _ := hid_eq _
  have e2 : stX6_gave_45 (nI P) (nI n) pg sw sgv a i τ = _ := hid_eq _
  have e3 : fX5_isAsSeen (nI n) (nI P) qw qg (nI i) = frX5_isAsSeen_2 (nI n) (nI P) qw qg (nI i) (6 + 1) 0 () := hid_eq _
  obtain ⟨s1, s0⟩ := seen_loop (w := i) hP hn (by omega) hs n 0 (6 - n) (by omega)
  rw [show n + 1 + (6 - n) = 6 + 1 by omega] at s1
  have hst : pg 12 = nI u := h.1.2.2.2.1.trans hu2
  have n1 : ¬ (1 : Int32) = 0 := by decide
  rw [e1, e2, are5 hu2, e3, giftsL hP h hi, show (12 : Int32).toNatClampNeg = 12 from rfl, hst, kI (i := n) (by omega)]
  by_cases c1 : (nI i &&& (nI u ^^^ (-1))) = 0
  · rw [if_pos c1, if_pos c1, if_neg n1]
    by_cases c2 : fX6_giftsOf (nI P) pg (nI i) = a
    · rw [if_pos c2, if_pos c2, s1]
      by_cases c3 : frX5_isAsSeen_2 (nI n) (nI P) qw qg (nI i) (6 + 1) 0 () = 0
      · rw [if_pos c3, if_pos c3]
        exact ⟨c, by omega, h2, h3, h4, h5⟩
      · rw [if_neg c3, if_neg c3]
        refine ⟨c + 1, by omega, ?_, ?_, fun q => absurd q (by omega), fun _ => ?_⟩
        · show σ.1 + 1 = _
          rw [h2, nI_1]
        · show τ.1 + 1 = _
          rw [h3, nI_1]
        · show σ.2 &&& nI i = τ.2 &&& nI i
          by_cases c0 : c = 0
          · obtain ⟨a1, a2⟩ := h4 c0
            rw [a1, a2, (sub0 ⟨i, by omega⟩ ⟨u, by omega⟩ ((stand_iff (by omega) (by omega)).mp c1)).2, all_and ⟨P, by omega⟩ ⟨i, by omega⟩ hi]
          · rw [h5 c0]
    · rw [if_neg c2, if_neg c2, s0, if_pos (show (0 : Int32) = 0 from rfl)]
      refine ⟨c, by omega, ?_, h3, ?_, ?_⟩
      · by_cases c3 : frX5_isAsSeen_2 (nI n) (nI P) qw qg (nI i) (6 + 1) 0 () = 0
        · rw [if_pos c3]; exact h2
        · rw [if_neg c3]; exact h2
      · by_cases c3 : frX5_isAsSeen_2 (nI n) (nI P) qw qg (nI i) (6 + 1) 0 () = 0
        · rw [if_pos c3]; exact h4
        · rw [if_neg c3]; exact h4
      · by_cases c3 : frX5_isAsSeen_2 (nI n) (nI P) qw qg (nI i) (6 + 1) 0 () = 0
        · rw [if_pos c3]; exact h5
        · rw [if_neg c3]; exact h5
  · rw [if_neg c1, if_neg c1, if_pos (show (0 : Int32) = 0 from rfl), s0, if_pos (show (0 : Int32) = 0 from rfl)]
    exact ⟨c, by omega, h2, h3, h4, h5⟩
theorem gave_eq {P T K : Nat} {S : Sc} {pg qw qg sw sgv : Nat → Int32} {sn sn' : Int32} (hP : P ≤ 6) (h : PR P T K S pg) (hs : SR sn qw qg sn' sw sgv) (a b : Int32) : fX5_gave sn (nI P) S qw qg a b = fX6_gave (nI P) sn' pg sw sgv a b := by
  obtain ⟨n, hn, rfl, rfl, hs⟩ := hs
  have e1 : fX5_gave (nI n) (nI P) S qw qg a b = _ := hid_eq _
  have e2 : fX6_gave (nI P) (nI n) pg sw sgv a b = _ := hid_eq _
  have ec : fX5_isCoins a = fX5_isWithin a 0 99 := hid_eq _
  have p64 := pow64 hP
  have hpos : 0 < 2 ^ P := Nat.pow_pos (by decide)
  obtain ⟨u, hu, hu2⟩ := h.2.2.2.2.1
  rw [e1, e2, ec, show fX6_in a.toInt64 0 99 = fX5_isWithin a 0 99 from in5 (lo := 0) (hi := 99) rfl rfl, show fX6_in b.toInt64 0 1 = fX5_isWithin b 0 1 from in5 (lo := 0) (hi := 1) rfl rfl, shlP hP, nI_clamp (by omega), show nI (2 ^ P) - 1 = nI (2 ^ P - 1) from pk_sub (b := 1) (by omega)]
  have key := it_sim (f := stX5_gave_33 (nI n) (nI P) S qw qg a) (g := stX6_gave_45 (nI P) (nI n) pg sw sgv a) (fun i σ τ => ∃ c, c ≤ i ∧ σ.1 = nI c ∧ τ.1 = nI c ∧ (c = 0 → σ.2 = nI u ∧ τ.2 = nI (2 ^ P - 1)) ∧ (c ≠ 0 → σ.2 = τ.2)) (2 ^ P) (fun i σ τ hi hq => gave_step hP hn h hs hu hu2 hi hq) (a := (0, S.2.2.2.1)) (b := (0, nI (2 ^ P - 1))) ⟨0, Nat.le_refl _, rfl, rfl, fun _ => ⟨hu2, rfl⟩, fun q => absurd rfl q⟩
  have es : itN (stX5_gave_33 (nI n) (nI P) S qw qg a) 64 (0, S.2.2.2.1) = itN (stX5_gave_33 (nI n) (nI P) S qw qg a) (2 ^ P) (0, S.2.2.2.1) := by
    refine it_stay 64 p64 (fun i q1 q2 => ?_)
    have e3 : stX5_gave_33 (nI n) (nI P) S qw qg a i (itN (stX5_gave_33 (nI n) (nI P) S qw qg a) (2 ^ P) (0, S.2.2.2.1)) = _ := hid_eq _
    rw [e3, are_big hu2 hu q1 q2, if_pos (show (0 : Int32) = 0 from rfl)]
  rw [es]
  obtain ⟨c, h1, h2, h3, h4, h5⟩ := key
  rw [h2, h3]
  by_cases c0 : c = 0
  · rw [c0, if_pos (show nI 0 = 0 from rfl), if_pos (show nI 0 = 0 from rfl)]
  · rw [h5 c0]
theorem gcd_st (j k : Nat) : Nat.gcd j k = Nat.gcd k (j % k) := by
  rw [Nat.gcd_comm j k, Nat.gcd_rec k j, Nat.gcd_comm]
theorem cd_un {n i j k : Nat} (hi : i ≤ 63) : frX5_commonDivisor_7 (n + 1) i (nI j, nI k) = if nI k = 0 then nI j else frX5_commonDivisor_7 n (i + 1) (nI k, nI j - nI j / nI k * nI k) := by
  rw [frX5_commonDivisor_7, hid_eq, if_neg (show ¬ (64 : Int32) ≤ nI i from nI_ge (b := 64) (by omega) (by decide))]
theorem cd_loop : ∀ m n i j k, k < 2 ^ m → i + 2 * m ≤ 63 → 2 * m + 1 ≤ n → j < 2 ^ 31 → k < 2 ^ 31 → frX5_commonDivisor_7 n i (nI j, nI k) = nI (Nat.gcd j k) := by
  intro m
  induction m with
  | zero =>
    intro n i j k h1 h2 h3 hj hk
    have k0 : k = 0 := by omega
    obtain ⟨n', rfl⟩ : ∃ n', n = n' + 1 := ⟨n - 1, by omega⟩
    rw [k0, cd_un (by omega), if_pos (show nI 0 = 0 from rfl), Nat.gcd_zero_right]
  | succ m ih =>
    intro n i j k h1 h2 h3 hj hk
    obtain ⟨n', rfl⟩ : ∃ n', n = n' + 1 + 1 := ⟨n - 2, by omega⟩
    rcases Nat.eq_zero_or_pos k with rfl | hp
    · rw [cd_un (by omega), if_pos (show nI 0 = 0 from rfl), Nat.gcd_zero_right]
    · have hr := Nat.mod_lt j hp
      rw [cd_un (by omega), if_neg (nI_ne0 hp hk), pk_rem hj hp hk, gcd_st j k, cd_un (by omega)]
      rcases Nat.eq_zero_or_pos (j % k) with e | hp2
      · rw [e, if_pos (show nI 0 = 0 from rfl), Nat.gcd_zero_right]
      · have hr2 := Nat.mod_lt k hp2
        have hd := Nat.div_add_mod k (j % k)
        have hq : 1 ≤ k / (j % k) := Nat.div_pos (by omega) hp2
        have hm := Nat.mul_le_mul_left (j % k) hq
        have hpw : 2 ^ (m + 1) = 2 ^ m * 2 := Nat.pow_succ 2 m
        rw [if_neg (nI_ne0 hp2 (by omega)), pk_rem hk hp2 (by omega), gcd_st k (j % k)]
        exact ih n' (i + 1 + 1) (j % k) (k % (j % k)) (by omega) (by omega) (by omega) (by omega) (by omega)
theorem cd_eq {j k : Nat} (hj : j < 2 ^ 31) (hk : k < 2 ^ 20) : fX5_commonDivisor (nI j) (nI k) = nI (Nat.gcd j k) := by
  have e : fX5_commonDivisor (nI j) (nI k) = frX5_commonDivisor_7 (64 + 1) 0 (nI j, nI k) := hid_eq _
  rw [e]
  exact cd_loop 20 65 0 j k hk (by omega) (by omega) hj (by omega)
theorem luck_step {P T K u x : Nat} {S : Sc} {pg : Nat → Int32} {b z : Int32} (hP : P ≤ 6) (h : PR P T K S pg) (hu : u < 2 ^ P) (hu2 : S.2.2.2.1 = nI u) (hx : x ≤ 10) {i : Nat} (hi : i < 2 ^ P) : stX5_luck_26 S (nI x) b i z = stX6_luck_47 (nI P) pg (nI x) b (nI u) i z := by
  have p64 := pow64 hP
  have e1 : stX5_luck_26 S (nI x) b i z = _ := hid_eq _
  have e2 : stX6_luck_47 (nI P) pg (nI x) b (nI u) i z = _ := hid_eq _
  rw [e1, e2, are5 hu2, giftsL hP h hi]
  by_cases c1 : (nI i &&& (nI u ^^^ (-1))) = 0
  · rw [if_pos c1, if_pos c1, if_neg (show ¬ (1 : Int32) = 0 by decide)]
    by_cases c2 : fX6_giftsOf (nI P) pg (nI i) < b
    · rw [if_pos c2, if_pos c2]
    · obtain ⟨m1, m2⟩ := many_sub (u := u) (w := i) (by omega) (by omega) c1
      have l1 := cnt_le u
      have l2 := cnt_le i
      have e3 : fX5_waysToStay S (nI x) (fJ6_bitCount_0f7a4 (nI i)) = _ := hid_eq _
      have e4 : gX3_ringSize_s S = nI (cnt u) := by
        show fX3_ringSize S.2.2.2.1 = _
        rw [hu2, ring_eq (by omega)]
      rw [if_neg c2, if_neg c2, e3, bc_all i (by omega), e4, m1, many_nI (by omega), pk_sub m2, show (10 : Int32) = nI 10 from rfl, pk_sub hx, pw5 _ _ (by omega), pw5 _ _ (by omega), pw6 _ _ (by omega), pw6 _ _ (by omega)]
  · rw [if_neg c1, if_neg c1, if_pos (show (0 : Int32) = 0 from rfl)]
theorem luck_eq {P T K : Nat} {S : Sc} {pg : Nat → Int32} (hP : P ≤ 6) (h : PR P T K S pg) (a b q : Int32) : fX5_luck S a b q = fX6_luck (nI P) pg a b q := by
  have e1 : fX5_luck S a b q = _ := hid_eq _
  have e2 : fX6_luck (nI P) pg a b q = _ := hid_eq _
  have ec : fX5_isCoins b = fX5_isWithin b 0 99 := hid_eq _
  have p64 := pow64 hP
  obtain ⟨u, hu, hu2⟩ := h.2.2.2.2.1
  have hst : pg 12 = nI u := h.1.2.2.2.1.trans hu2
  have hvp : vp_in (nI P) 7 := vp_in_nI (by omega) (by decide)
  have hvs : vp_in (pg (12 : Int32).toNatClampNeg) 64 := by
    rw [show (12 : Int32).toNatClampNeg = 12 from rfl, hst]
    exact vp_in_nI (by omega) (by decide)
  rw [e1, e2, ec, show fX6_in a.toInt64 0 10 = fX5_isWithin a (nI 0) (nI 10) from in5 rfl rfl, show fX6_in b.toInt64 0 99 = fX5_isWithin b 0 99 from in5 (lo := 0) (hi := 99) rfl rfl]
  by_cases c : fX5_isWithin a (nI 0) (nI 10) = 0
  · rw [if_pos c, if_pos (show fX5_isWithin a 0 10 = 0 from c)]
  · have ci : ¬ fX6_in a.toInt64 0 10 = 0 := fun z => c ((in5 (lo := 0) (hi := 10) rfl rfl).symm.trans z)
    obtain ⟨k, k1, k2⟩ := lk_sum (b := b) hvp hvs ci
    obtain ⟨x, -, hx, rfl⟩ := W_nat (by decide) (by decide) c
    rw [show (12 : Int32).toNatClampNeg = 12 from rfl, hst, shlP hP, nI_clamp (by omega)] at k1
    rw [if_neg c, if_neg (show ¬ fX5_isWithin (nI x) 0 10 = 0 from c), show (12 : Int32).toNatClampNeg = 12 from rfl, hst, shlP hP, nI_clamp (by omega)]
    have es : itN (stX5_luck_26 S (nI x) b) 64 0 = itN (stX6_luck_47 (nI P) pg (nI x) b (nI u)) (2 ^ P) 0 := by
      rw [it_stay (m := 2 ^ P) 64 p64 (fun i q1 q2 => by
        have e3 : stX5_luck_26 S (nI x) b i (itN (stX5_luck_26 S (nI x) b) (2 ^ P) 0) = _ := hid_eq _
        rw [e3, are_big hu2 hu q1 q2, if_pos (show (0 : Int32) = 0 from rfl)])]
      exact it_eq _ (fun i z hi => luck_step hP h hu hu2 hx hi)
    have e4 : gX3_ringSize_s S = nI (cnt u) := by
      show fX3_ringSize S.2.2.2.1 = _
      rw [hu2, ring_eq (by omega)]
    obtain ⟨l1, l2, l3⟩ := lk_all (u := u) (by omega)
    have hc := cnt_le u
    have h20 : 10 ^ cnt u < 2 ^ 20 := Nat.lt_of_le_of_lt (Nat.pow_le_pow_right (by decide) hc) (by decide)
    have g1 := Nat.gcd_pos_of_pos_right k l2
    have g2 := Nat.gcd_le_right k l2
    rw [es, k1, e4, l1, show fX5_power 10 (nI (cnt u)) = nI (10 ^ cnt u) from pw5 10 _ (by omega), cd_eq k2 h20, dv_eq k2 l3, if_neg (nI_ne0 g1 (by omega))]
