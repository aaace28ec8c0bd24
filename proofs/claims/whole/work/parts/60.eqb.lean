theorem is_loop {T n x : Nat} (hT : T ≤ 4) (hn : n ≤ 9) (hx : x < 2 ^ 31) : ∀ m, m ≤ n → (itN (stX6_plan_61 (nI T) (nI x)) m 1 = 1 ∧ ∀ k, k < m → x / 10 ^ k % 10 < T) ∨ (itN (stX6_plan_61 (nI T) (nI x)) m 1 = 0 ∧ ¬ ∀ k, k < m → x / 10 ^ k % 10 < T) := by
  intro m
  induction m with
  | zero => exact fun _ => Or.inl ⟨rfl, fun k h => absurd h (by omega)⟩
  | succ m ih =>
    intro hm
    have hlt : x / 10 ^ m % 10 < 10 := Nat.mod_lt _ (by decide)
    show (stX6_plan_61 (nI T) (nI x) m (itN (stX6_plan_61 (nI T) (nI x)) m 1) = 1 ∧ _) ∨ (stX6_plan_61 (nI T) (nI x) m (itN (stX6_plan_61 (nI T) (nI x)) m 1) = 0 ∧ _)
    have e : ∀ z, stX6_plan_61 (nI T) (nI x) m z = _ := fun z => hid_eq _
    rcases ih (by omega) with ⟨h1, h2⟩ | ⟨h1, h2⟩
    · rw [h1, e, if_neg (show ¬ (1 : Int32) = 0 by decide), fg6 (by omega) hx, noT5]
      by_cases c : x / 10 ^ m % 10 < T
      · rw [if_neg (hasT_eq hT c), if_pos (show (0 : Int32) = 0 from rfl)]
        refine Or.inl ⟨rfl, fun k hk => ?_⟩
        by_cases e : k = m
        · rw [e]; exact c
        · exact h2 k (by omega)
      · rw [if_pos ((hasT_iff hT (by omega)).mpr c), if_neg (show ¬ (1 : Int32) = 0 by decide)]
        exact Or.inr ⟨rfl, fun q => c (q m (by omega))⟩
    · rw [h1, e, if_pos (show (0 : Int32) = 0 from rfl)]
      exact Or.inr ⟨rfl, fun q => h2 (fun k hk => q k (by omega))⟩
theorem is_eq {T n x : Nat} (hT : T ≤ 4) (hn : n ≤ 9) (hx : x < 2 ^ 31) : (itN (stX6_plan_61 (nI T) (nI x)) n 1 = 1 ∧ ∀ k, k < n → fgN n x k < T) ∨ (itN (stX6_plan_61 (nI T) (nI x)) n 1 = 0 ∧ ¬ ∀ k, k < n → fgN n x k < T) := by
  rcases is_loop hT hn hx n (Nat.le_refl _) with ⟨h1, h2⟩ | ⟨h1, h2⟩
  · exact Or.inl ⟨h1, fun k hk => h2 (n - 1 - k) (by omega)⟩
  · refine Or.inr ⟨h1, fun q => h2 (fun k hk => ?_)⟩
    have := q (n - 1 - k) (by omega)
    unfold fgN at this
    rw [show n - 1 - (n - 1 - k) = k by omega] at this
    exact this
/-- the best row so far -/
def BP (mx ch mo fo fr : Int32) : Prop := ∃ q f s, q ≤ 240 ∧ f < 1000 ∧ s < 2 ∧ mx = nI q ∧ mo = nI q ∧ fo = nI f ∧ fr = nI s ∧ ch = nI (f * 2 + s)
def BP0 (mx ch mo fo fr : Int32) : Prop := mx = (-1) ∧ mo = (-9)
theorem BP_step {q f s : Nat} {mx ch mo fo fr : Int32} (hq : q ≤ 240) (hf : f < 1000) (hs : s < 2) (h : BP0 mx ch mo fo fr ∨ BP mx ch mo fo fr) :
    BP (fX1_offer mx ch (nI q) (nI f * 2 + nI s)).1 (fX1_offer mx ch (nI q) (nI f * 2 + nI s)).2 (if nI q ≤ mo then mo else nI q) (if nI q ≤ mo then fo else nI f) (if nI q ≤ mo then fr else nI s) := by
  have e : fX1_offer mx ch (nI q) (nI f * 2 + nI s) = _ := hid_eq _
  have e2 : nI f * 2 + nI s = nI (f * 2 + s) := by rw [show nI f * 2 = nI (f * 2) from pk_mul f 2, nI_add]
  rw [e, e2]
  rcases h with ⟨rfl, rfl⟩ | ⟨q', f', s', a1, a2, a3, rfl, rfl, rfl, rfl, rfl⟩
  · have h1 : ¬ nI q ≤ (-1) := fun z => absurd (Int32.lt_of_le_of_lt z (show (-1 : Int32) < 0 by decide)) (nI_pos (by omega))
    have h2 : ¬ nI q ≤ (-9) := fun z => absurd (Int32.lt_of_le_of_lt z (show (-9 : Int32) < 0 by decide)) (nI_pos (by omega))
    rw [if_neg h1, if_neg h2, if_neg h2, if_neg h2]
    exact ⟨q, f, s, hq, hf, hs, rfl, rfl, rfl, rfl, rfl⟩
  · by_cases c : nI q ≤ nI q'
    · rw [if_pos c, if_pos c, if_pos c, if_pos c]
      exact ⟨q', f', s', a1, a2, a3, rfl, rfl, rfl, rfl, rfl⟩
    · rw [if_neg c, if_neg c, if_neg c, if_neg c]
      exact ⟨q, f, s, hq, hf, hs, rfl, rfl, rfl, rfl, rfl⟩
theorem fu_end {pe x6 x7 : Int32} {to so pg : Nat → Int32} {a : Int32} {m : Nat} {σ : Int32 × Int32 × Int32 × Int32 × (Nat → Int32)} : fuX6_plan_108 pe to so pg a x6 x7 (m + 1) 2 σ = σ := by
  rw [fuX6_plan_108, hid_eq, if_pos (show (2 : Int32) ≤ nI 2 by decide)]
theorem fu_no {pe x6 : Int32} {to so pg : Nat → Int32} {a : Int32} {m : Nat} {σ : Int32 × Int32 × Int32 × Int32 × (Nat → Int32)} : fuX6_plan_108 pe to so pg a x6 0 (m + 1) 0 σ = σ := by
  rw [fuX6_plan_108, hid_eq, if_neg (show ¬ (2 : Int32) ≤ nI 0 by decide), if_pos (show (0 : Int32) = 0 from rfl)]
theorem fu_side {P T K n x : Nat} {S : Sc} {pg pf tf to so : Nat → Int32} (hF : FR P T pf tf to so) (hK : K + 20 < 2 ^ 29) (hn : n ≤ 9) (hx : x < 2 ^ 31) (hv : ∀ k, k < n → fgN n x k < T) (h : PR P T K S pg) {m i : Nat} (hi : i < 2) (σ : Int32 × Int32 × Int32 × Int32 × (Nat → Int32)) :
    ∃ q, q ≤ 240 ∧ (gX3_passHat_s pf (nI i) (itN (hearN T pf tf n x) n S)).1 = nI q ∧ ∃ sl tr, fuX6_plan_108 (nI P) to so pg (nI n) (nI x) 1 (m + 1) i σ = fuX6_plan_108 (nI P) to so pg (nI n) (nI x) 1 m (i + 1) (if nI q ≤ σ.1 then σ.1 else nI q, if nI q ≤ σ.1 then σ.2.1 else nI x, if nI q ≤ σ.1 then σ.2.2.1 else nI i, sl, tr) := by
  have hp := row_sim hF (show K + n < 2 ^ 29 by omega) hv (PR_begin (tr := σ.2.2.2.2) hF.1.1 hF.1.2 h)
  obtain ⟨-, g1, ⟨q, hq, g2⟩, -⟩ := goRound_eq (s := i) hF hi hp
  have e : itN (stX6_plan_128 (nI P) to so (nI n) (nI x)) n (fX6_begin pg σ.2.2.2.2) = itN (playN P to so n x) n (fX6_begin pg σ.2.2.2.2) := by
    refine it_eq n (fun k z hk => ?_)
    unfold stX6_plan_128 playN
    rw [hid_eq, fg6d hn hx hk]
  refine ⟨q, hq, g2, ?_⟩
  rw [fuX6_plan_108, hid_eq, if_neg (show ¬ (2 : Int32) ≤ nI i from nI_ge (b := 2) hi (by decide)), if_neg (show ¬ (1 : Int32) = 0 by decide), kI (i := n) (by omega), e, g1.trans g2]
  by_cases c : nI q ≤ σ.1
  · rw [if_pos c, if_pos c, if_pos c, if_pos c]
    exact ⟨_, _, rfl⟩
  · rw [if_neg c, if_neg c, if_neg c, if_neg c]
    exact ⟨_, _, rfl⟩
theorem plan_step {P T K n : Nat} {S : Sc} {pg pf tf to so : Nat → Int32} (hF : FR P T pf tf to so) (hK : K + 20 < 2 ^ 29) (hn : n ≤ 3) (h : PR P T K S pg) {i : Nat} (hi : i < 10 ^ n) {σ : Sc × Sc × Int32 × Int32} {τ : Int32 × Int32 × Int32 × Int32 × (Nat → Int32)}
    (hq : ((i = 0 ∨ n ≠ 0 ∧ T = 0) ∧ BP0 σ.2.2.1 σ.2.2.2 τ.1 τ.2.1 τ.2.2.1) ∨ (¬ (n ≠ 0 ∧ T = 0) ∧ BP σ.2.2.1 σ.2.2.2 τ.1 τ.2.1 τ.2.2.1)) :
    ((i + 1 = 0 ∨ n ≠ 0 ∧ T = 0) ∧ BP0 (stX5_searchPlan_16 (nI T) pf tf S (nI n) i σ).2.2.1 (stX5_searchPlan_16 (nI T) pf tf S (nI n) i σ).2.2.2 (stX6_plan_44 (nI P) (nI T) to so pg (nI n) i τ).1 (stX6_plan_44 (nI P) (nI T) to so pg (nI n) i τ).2.1 (stX6_plan_44 (nI P) (nI T) to so pg (nI n) i τ).2.2.1) ∨
    (¬ (n ≠ 0 ∧ T = 0) ∧ BP (stX5_searchPlan_16 (nI T) pf tf S (nI n) i σ).2.2.1 (stX5_searchPlan_16 (nI T) pf tf S (nI n) i σ).2.2.2 (stX6_plan_44 (nI P) (nI T) to so pg (nI n) i τ).1 (stX6_plan_44 (nI P) (nI T) to so pg (nI n) i τ).2.1 (stX6_plan_44 (nI P) (nI T) to so pg (nI n) i τ).2.2.1) := by
  have h10 : 10 ^ n ≤ 10 ^ 3 := Nat.pow_le_pow_right (by decide) hn
  have hx : i < 2 ^ 31 := by omega
  have e1 : stX5_searchPlan_16 (nI T) pf tf S (nI n) i σ = _ := hid_eq _
  have e2 : stX6_plan_44 (nI P) (nI T) to so pg (nI n) i τ = _ := hid_eq _
  rw [e1, e2, areT hF.1.2 (by omega) hx, kI (i := n) (by omega)]
  rcases is_eq (x := i) hF.1.2 (show n ≤ 9 by omega) hx with ⟨v1, v2⟩ | ⟨v1, v2⟩
  · rw [v1, if_pos v2, if_neg (show ¬ (1 : Int32) = 0 by decide), hearRow_eq (by omega) hx]
    have hnt : ¬ (n ≠ 0 ∧ T = 0) := fun q => by
      have := v2 0 (by omega)
      omega
    have hB : BP0 σ.2.2.1 σ.2.2.2 τ.1 τ.2.1 τ.2.2.1 ∨ BP σ.2.2.1 σ.2.2.2 τ.1 τ.2.1 τ.2.2.1 := by
      rcases hq with ⟨-, hq⟩ | ⟨-, hq⟩
      · exact Or.inl hq
      · exact Or.inr hq
    obtain ⟨q0, hq0, p0, sl0, tr0, f0⟩ := fu_side (m := 2) (i := 0) hF hK (show n ≤ 9 by omega) hx v2 h (by decide) (τ.1, τ.2.1, τ.2.2.1, τ.2.2.2.1, τ.2.2.2.2)
    obtain ⟨q1, hq1, p1, sl1, tr1, f1⟩ := fu_side (m := 1) (i := 1) hF hK (show n ≤ 9 by omega) hx v2 h (by decide) (if nI q0 ≤ τ.1 then τ.1 else nI q0, if nI q0 ≤ τ.1 then τ.2.1 else nI i, if nI q0 ≤ τ.1 then τ.2.2.1 else nI 0, sl0, tr0)
    have f2 := f0.trans (f1.trans fu_end)
    have b0 := BP_step hq0 (show i < 1000 by omega) (show 0 < 2 by decide) hB
    have b1 := BP_step hq1 (show i < 1000 by omega) (show 1 < 2 by decide) (Or.inr b0)
    have s0 : ∀ z, stX5_searchPlan_56 pf (nI i) (itN (hearN T pf tf n i) n S) 0 z = _ := fun z => hid_eq _
    have s1 : ∀ z, stX5_searchPlan_56 pf (nI i) (itN (hearN T pf tf n i) n S) 1 z = _ := fun z => hid_eq _
    have t0 : fX5_hatBehind pf (itN (hearN T pf tf n i) n S) (nI 0) = _ := hid_eq _
    have t1 : fX5_hatBehind pf (itN (hearN T pf tf n i) n S) (nI 1) = _ := hid_eq _
    have l2 : ∃ U, itN (stX5_searchPlan_56 pf (nI i) (itN (hearN T pf tf n i) n S)) 2 (σ.2.1, σ.2.2.1, σ.2.2.2) = (U, (fX1_offer (fX1_offer σ.2.2.1 σ.2.2.2 (nI q0) (nI i * 2 + nI 0)).1 (fX1_offer σ.2.2.1 σ.2.2.2 (nI q0) (nI i * 2 + nI 0)).2 (nI q1) (nI i * 2 + nI 1)).1, (fX1_offer (fX1_offer σ.2.2.1 σ.2.2.2 (nI q0) (nI i * 2 + nI 0)).1 (fX1_offer σ.2.2.1 σ.2.2.2 (nI q0) (nI i * 2 + nI 0)).2 (nI q1) (nI i * 2 + nI 1)).2) := by
      refine ⟨(gX3_passHat_s pf (nI 1) (itN (hearN T pf tf n i) n S)).2, ?_⟩
      show stX5_searchPlan_56 pf (nI i) (itN (hearN T pf tf n i) n S) 1 (stX5_searchPlan_56 pf (nI i) (itN (hearN T pf tf n i) n S) 0 (σ.2.1, σ.2.2.1, σ.2.2.2)) = _
      rw [s1, s0, t0, t1, p0, p1]
    obtain ⟨U, l2⟩ := l2
    rw [f2, l2]
    exact Or.inr ⟨hnt, b1⟩
  · rw [v1, if_neg v2, if_pos (show (0 : Int32) = 0 from rfl), fu_no]
    rcases hq with ⟨q1, q2⟩ | ⟨q1, q2⟩
    · refine Or.inl ⟨Or.inr ?_, q2⟩
      rcases q1 with q1 | q1
      · subst q1
        refine ⟨fun z => v2 (fun k hk => absurd hk (by omega)), ?_⟩
        rcases Nat.eq_zero_or_pos T with z | z
        · exact z
        · exact absurd (fun k hk => by unfold fgN; rw [Nat.zero_div]; exact z) v2
      · exact q1
    · exact Or.inr ⟨q1, q2⟩
theorem plan_eq {P T K : Nat} {S V U : Sc} {mx ch sl : Int32} {pg tr pf tf to so : Nat → Int32} (hF : FR P T pf tf to so) (hK : K + 20 < 2 ^ 29) (h : PR P T K S pg) (a b : Int32) : (fX5_plan (nI T) pf tf S V U mx ch a b).1 = (fX6_plan (nI P) (nI T) sl to so pg tr a b).1 := by
  have e1 : fX5_plan (nI T) pf tf S V U mx ch a b = _ := hid_eq _
  have e2 : fX6_plan (nI P) (nI T) sl to so pg tr a b = _ := hid_eq _
  rw [e1, e2, show fX6_in a.toInt64 0 3 = fX5_isWithin a (nI 0) (nI 3) from in5 rfl rfl, show fX6_in b.toInt64 0 2 = fX5_isWithin b (nI 0) (nI 2) from in5 rfl rfl]
  by_cases c : fX5_isWithin a (nI 0) (nI 3) = 0
  · rw [if_pos c, if_pos (show fX5_isWithin a 0 3 = 0 from c)]
  · obtain ⟨n, -, hn, rfl⟩ := W_nat (by decide) (by decide) c
    rw [if_neg c, if_neg (show ¬ fX5_isWithin (nI n) 0 3 = 0 from c)]
    by_cases cb : fX5_isWithin b (nI 0) (nI 2) = 0
    · rw [if_pos cb, if_pos (show fX5_isWithin b 0 2 = 0 from cb)]
    · obtain ⟨w, -, hw, rfl⟩ := W_nat (by decide) (by decide) cb
      rw [if_neg cb, if_neg (show ¬ fX5_isWithin (nI w) 0 2 = 0 from cb)]
      have hp := p10 (show n ≤ 9 by omega)
      have es : fX5_searchPlan (nI T) pf tf S V U (nI n) = _ := hid_eq _
      have hcl : fX1_clear = ((-1), 0) := hid_eq _
      rw [hcl, show fX5_power 10 (nI n) = nI (10 ^ n) from pw5 10 n (by omega), nI_clamp hp.1] at es
      rw [es, show fX6_power 10 (nI n) = nI (10 ^ n) from pw6 10 n (by omega), nI_clamp hp.1]
      have key := it_sim (f := stX5_searchPlan_16 (nI T) pf tf S (nI n)) (g := stX6_plan_44 (nI P) (nI T) to so pg (nI n)) (fun i σ τ => ((i = 0 ∨ n ≠ 0 ∧ T = 0) ∧ BP0 σ.2.2.1 σ.2.2.2 τ.1 τ.2.1 τ.2.2.1) ∨ (¬ (n ≠ 0 ∧ T = 0) ∧ BP σ.2.2.1 σ.2.2.2 τ.1 τ.2.1 τ.2.2.1)) (10 ^ n) (fun i σ τ hi hq => plan_step hF hK hn h hi hq) (a := (V, U, (-1), 0)) (b := ((-9), 0, 0, sl, tr)) (Or.inl ⟨Or.inl rfl, rfl, rfl⟩)
      generalize itN (stX5_searchPlan_16 (nI T) pf tf S (nI n)) (10 ^ n) (V, U, (-1), 0) = z at key ⊢
      generalize itN (stX6_plan_44 (nI P) (nI T) to so pg (nI n)) (10 ^ n) ((-9), 0, 0, sl, tr) = y at key ⊢
      rcases key with ⟨k1, k2, k3⟩ | ⟨k1, q, f, s, hq, hf, hs, k2, k3, k4, k5, k6⟩
      · have hnT : n ≠ 0 ∧ T = 0 := by
          rcases k1 with k1 | k1
          · omega
          · exact k1
        rw [if_neg (show ¬ nI n ≤ 0 from nI_nle (by omega) (by omega)), if_pos (show nI T = 0 by rw [hnT.2]; rfl), k3, if_pos rfl]
      · have hq9 : ¬ nI q = (-9) := fun z => absurd (show nI q < 0 by rw [z]; decide) (nI_pos (by omega))
        have d1 : nI (f * 2 + s) / 2 = nI f := by
          rw [show nI (f * 2 + s) / 2 = nI ((f * 2 + s) / 2) from pk_div (d := 2) (by omega) (by decide) (by decide), show (f * 2 + s) / 2 = f by omega]
        have d2 : nI (f * 2 + s) - nI (f * 2 + s) / 2 * 2 = nI s := by
          rw [show nI (f * 2 + s) - nI (f * 2 + s) / 2 * 2 = nI ((f * 2 + s) % 2) from pk_rem (d := 2) (by omega) (by decide) (by decide), show (f * 2 + s) % 2 = s by omega]
        dsimp only
        rw [k2, k3, k4, k5, k6, d2, d1, if_neg hq9]
        by_cases c0 : nI n ≤ 0
        · rw [if_pos c0]
          by_cases b0 : nI w = 0
          · rw [if_pos b0, if_pos b0]
          · rw [if_neg b0, if_neg b0]
        · have hT0 : ¬ nI T = 0 := fun z => by
            have hT := hF.1.2
            have t0 : T = 0 := (nI_eq (b := 0) (by omega) (by decide)).mp z
            exact k1 ⟨fun n0 => c0 (by rw [n0]; decide), t0⟩
          rw [if_neg c0, if_neg hT0]
          by_cases b0 : nI w = 0
          · rw [if_pos b0, if_pos b0]
          · rw [if_neg b0, if_neg b0]
