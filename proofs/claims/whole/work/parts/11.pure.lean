theorem cl_neg {x : Int32} (h : x < 0) : x.toNatClampNeg = 0 := by
  have h1 : x.toInt < 0 := by simpa using Int32.lt_iff_toInt_lt.mp h
  show x.toInt.toNat = 0
  omega
theorem cl_done (x : Int32) : x ≤ nI x.toNatClampNeg := by
  by_cases h : x < 0
  · rw [cl_neg h]
    have h1 : x.toInt < 0 := by simpa using Int32.lt_iff_toInt_lt.mp h
    refine Int32.le_iff_toInt_le.mpr ?_
    rw [nI_toInt (by decide)]
    simp
    omega
  · obtain ⟨j, hj, rfl⟩ := nI_of h
    rw [nI_clamp hj]
    exact Int32.le_refl _
theorem cl_cont {x : Int32} {i : Nat} (h : i < x.toNatClampNeg) : ¬ x ≤ nI i := by
  by_cases h0 : x < 0
  · rw [cl_neg h0] at h
    omega
  · obtain ⟨j, hj, rfl⟩ := nI_of h0
    rw [nI_clamp hj] at h
    exact nI_ge h hj
theorem cl_lt (x : Int32) : x.toNatClampNeg < 2 ^ 31 := by
  have h : x.toInt < 2 ^ 31 := Int32.toInt_lt x
  show x.toInt.toNat < 2 ^ 31
  omega
theorem lt_nI {N i : Nat} (hi : i < 2 ^ 31) (h : ¬ nI N ≤ nI i) : i < N := by
  rcases Nat.lt_or_ge i N with q | q
  · exact q
  · exact absurd (nI_le q hi) h
theorem lt_nI2 {N i : Nat} (hi : i < 2 ^ 31) (h : ¬ nI N < nI i) : i < N + 1 := by
  rcases Nat.lt_or_ge i (N + 1) with q | q
  · exact q
  · exact absurd (nI_lt q hi) h
theorem lt_cl {x : Int32} {i : Nat} (hi : i < 2 ^ 31) (h : ¬ x ≤ nI i) : i < x.toNatClampNeg := by
  rcases Nat.lt_or_ge i x.toNatClampNeg with q | q
  · exact q
  · exact absurd (Int32.le_trans (cl_done x) (nI_le q hi)) h
theorem vp_of {x N : Int32} {n : Nat} (hN : N = nI n) (hn : n < 2 ^ 31) (h0 : ¬ x < 0) (h1 : ¬ N ≤ x) : vp_in x n := by
  obtain ⟨j, hj, rfl⟩ := nI_of h0
  rw [hN] at h1
  refine vp_in_nI ?_ hn
  rcases Nat.lt_or_ge j n with q | q
  · exact q
  · exact absurd (nI_le q hj) h1
theorem vp_cl {x : Int32} {n : Nat} (h : vp_in x n) : x.toNatClampNeg < n := Nat.not_le.mp fun q => h (Or.inr q)
theorem vp_nI {x : Int32} (h : ¬ x < 0) : x = nI x.toNatClampNeg := by
  obtain ⟨j, hj, rfl⟩ := nI_of h
  rw [nI_clamp hj]
theorem nar01 {x : Int32} (h : x = 0 ∨ x = 1) : narrow .boolean (.int x) = .int x := by
  rcases h with rfl | rfl <;> rfl
/-- a counter that counts down -/
def dcr (x : Int32) : Nat → Int32
  | 0 => x
  | n + 1 => dcr x n + (-1)
theorem dcr_nI (a : Nat) : ∀ i, i ≤ a → dcr (nI a) i = nI (a - i)
  | 0, _ => rfl
  | i + 1, h => by
    show dcr (nI a) i + (-1) = _
    rw [dcr_nI a i (by omega), show a - i = (a - (i + 1)) + 1 by omega, pk_m1]
theorem fa_at {a : Int32} (ha : vp_in a 10) (h0 : ¬ a ≤ 0) {i : Nat} (hi : i ≤ a.toNatClampNeg - 1) : dcr (a - 1) i = nI (a.toNatClampNeg - 1 - i) := by
  obtain ⟨j, hj, rfl⟩ := vp_in_of ha (by decide)
  have hj0 : 0 < j := by
    rcases Nat.eq_zero_or_pos j with rfl | q
    · exact absurd (Int32.le_refl _) h0
    · exact q
  rw [nI_clamp (by omega)] at hi ⊢
  rw [show nI j - 1 = nI (j - 1) from pk_sub (b := 1) hj0, dcr_nI _ _ hi]
theorem fa_done {a q : Int32} (ha : vp_in a 10) (h0 : ¬ q < 0) (hq : ¬ a ≤ q) : dcr (a - 1) (a.toNatClampNeg - 1 - q.toNatClampNeg) ≤ q := by
  obtain ⟨k, hk, rfl⟩ := nI_of h0
  have h1 : ¬ a ≤ 0 := fun h => hq (Int32.le_trans h (nI_pos' hk))
  have h2 := lt_cl hk hq
  rw [fa_at ha h1 (by omega), nI_clamp hk]
  exact nI_le (by omega) hk
theorem fa_cont {a q : Int32} (ha : vp_in a 10) (h0 : ¬ q < 0) (hq : ¬ a ≤ q) {i : Nat} (hi : i < a.toNatClampNeg - 1 - q.toNatClampNeg) : ¬ dcr (a - 1) i ≤ q := by
  obtain ⟨k, hk, rfl⟩ := nI_of h0
  have h1 : ¬ a ≤ 0 := fun h => hq (Int32.le_trans h (nI_pos' hk))
  have h2 := lt_cl hk hq
  have h3 := vp_cl ha
  rw [nI_clamp hk] at hi
  rw [fa_at ha h1 (by omega)]
  exact nI_ge (by omega) (by omega)
