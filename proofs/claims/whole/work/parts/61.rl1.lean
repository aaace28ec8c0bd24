theorem it_add {α : Type} {f : Nat → α → α} {a : α} (m : Nat) : ∀ n, itN f (m + n) a = itN (fun i => f (m + i)) n (itN f m a)
  | 0 => rfl
  | n + 1 => by
    show f (m + n) (itN f (m + n) a) = f (m + n) (itN (fun i => f (m + i)) n (itN f m a))
    rw [it_add m n]
def Amk (K : Nat) (pe tu : Int32) (pf tf : Nat → Int32) (S : Sc) (af ac : Int32) (B KB : Nat → Sc) (kf : Nat → Int32) (pe1 tu1 : Int32) (to so pg bk : Nat → Int32) (ac1 : Int32) (kp ik : Nat → Int32) : Prop :=
  ∃ P Q, (pe = nI P ∧ tu = nI Q ∧ pe1 = nI P ∧ tu1 = nI Q) ∧ FR P Q pf tf to so ∧ PR P Q K S pg ∧ AR P Q K af ac B ac1 bk ∧ KR P Q K KB kf kp ik
/-- class and reference alike, ahead of the K-th call at most -/
def Alk (K : Nat) (tl : Int32) (tx : Nat → Int32) (pe tu : Int32) (pf tf : Nat → Int32) (S : Sc) (af ac : Int32) (B KB : Nat → Sc) (kf : Nat → Int32) (sn : Int32) (qw qg : Nat → Int32) (sd : Int64) (ts : Int32) (ty : Nat → Int32) (pe1 tu1 : Int32) (to so pg bk : Nat → Int32) (ac1 : Int32) (kp ik : Nat → Int32) (sn1 : Int32) (sw sgv : Nat → Int32) (sd1 : Int64) : Prop :=
  TR tl tx ts ty ∧ Amk K pe tu pf tf S af ac B KB kf pe1 tu1 to so pg bk ac1 kp ik ∧ SR sn qw qg sn1 sw sgv ∧ sd = sd1
theorem Amk_up {K : Nat} {pe tu : Int32} {pf tf : Nat → Int32} {S : Sc} {af ac : Int32} {B KB : Nat → Sc} {kf : Nat → Int32} {pe1 tu1 : Int32} {to so pg bk : Nat → Int32} {ac1 : Int32} {kp ik : Nat → Int32} (h : Amk K pe tu pf tf S af ac B KB kf pe1 tu1 to so pg bk ac1 kp ik) : Amk (K + 1) pe tu pf tf S af ac B KB kf pe1 tu1 to so pg bk ac1 kp ik := by
  obtain ⟨P, Q, h1, h2, h3, h4, h5⟩ := h
  exact ⟨P, Q, h1, h2, PR_up h3 (Nat.le_succ K), AR_up h4 (Nat.le_succ K), KR_up h5 (Nat.le_succ K)⟩
theorem nar0 : vp_nar .boolean 0 = 0 := by decide
theorem open_step {R Q : Nat} {pf tf to so : Nat → Int32} (hR : R ≤ 6) (hf : ∀ j, j < 6 * R → pf j = to j) (hg : RG R to) {i : Nat} (hi : i < R) {σ : Int32 × Int32 × (Nat → Int32) × (Nat → Int32)} {pg : Nat → Int32}
    (h : (pg 14 = 0 ∧ pg 15 = 0 ∧ pg 16 = 0 ∧ pg 12 = σ.1 ∧ pg 13 = σ.2.1) ∧ (∀ p, p < i → pg p = σ.2.2.1 p ∧ pg (6 + p) = σ.2.2.2 p ∧ ∃ m, m ≤ 20 ∧ σ.2.2.1 p = nI m) ∧ (∀ t, t < 4 → pg (17 + t) = 0) ∧ (∃ u, u < 2 ^ R ∧ σ.1 = nI u) ∧ ∃ w, w < 2 ^ R ∧ σ.2.1 = nI w) :
    ((stX6_square_117 to i pg) 14 = 0 ∧ (stX6_square_117 to i pg) 15 = 0 ∧ (stX6_square_117 to i pg) 16 = 0 ∧ (stX6_square_117 to i pg) 12 = (stX3_open_35 (nI R) pf i σ).1 ∧ (stX6_square_117 to i pg) 13 = (stX3_open_35 (nI R) pf i σ).2.1) ∧ (∀ p, p < i + 1 → (stX6_square_117 to i pg) p = (stX3_open_35 (nI R) pf i σ).2.2.1 p ∧ (stX6_square_117 to i pg) (6 + p) = (stX3_open_35 (nI R) pf i σ).2.2.2 p ∧ ∃ m, m ≤ 20 ∧ (stX3_open_35 (nI R) pf i σ).2.2.1 p = nI m) ∧ (∀ t, t < 4 → (stX6_square_117 to i pg) (17 + t) = 0) ∧ (∃ u, u < 2 ^ R ∧ (stX3_open_35 (nI R) pf i σ).1 = nI u) ∧ ∃ w, w < 2 ^ R ∧ (stX3_open_35 (nI R) pf i σ).2.1 = nI w := by
  obtain ⟨⟨h1, h2, h3, h4, h5⟩, h6, h7, ⟨u, hu, hu2⟩, w, hw, hw2⟩ := h
  have hu6 := lt64 hR hu
  have hw6 := lt64 hR hw
  have g1 : fX2_ofPerson pf (nI i) 1 = to (6 * i + 1) := (ofP (k := 1) (by omega) (by decide)).trans (hf _ (by omega))
  have g2 : fX2_ofPerson pf (nI i) 2 = to (6 * i + 2) := (ofP (k := 2) (by omega) (by decide)).trans (hf _ (by omega))
  have g5 : fX2_ofPerson pf (nI i) 5 = to (6 * i + 5) := (ofP (k := 5) (by omega) (by decide)).trans (hf _ (by omega))
  have e61 : ((6 : Int32) * nI i + 1).toNatClampNeg = 6 * i + 1 := k6k (c := 1) (by omega) (by decide)
  have e62 : ((6 : Int32) * nI i + 2).toNatClampNeg = 6 * i + 2 := k6k (c := 2) (by omega) (by decide)
  have e65 : ((6 : Int32) * nI i + 5).toNatClampNeg = 6 * i + 5 := k6k (c := 5) (by omega) (by decide)
  have e6 := k6 (i := i) (by omega)
  have ei := kI (i := i) (by omega)
  obtain ⟨d, hd, hd2⟩ := hg i hi 1 (by decide)
  have hd20 : d ≤ 20 := Nat.le_trans hd (by decide)
  have e1 : stX3_open_35 (nI R) pf i σ = _ := hid_eq _
  have e2 : stX6_square_117 to i pg = _ := hid_eq _
  rw [g1, g2, g5, if_neg (hasP_eq hR hi), ei, hu2, hw2] at e1
  rw [e61, e62, e65, e6, ei] at e2
  have hcells : ∀ (x : Int32) (k : Nat), (k = 12 ∨ k = 13) → (∀ p, p < i + 1 → upd (upd (upd pg i (to (6 * i + 1))) (6 + i) (to (6 * i + 2))) k x p = upd σ.2.2.1 i (to (6 * i + 1)) p ∧ upd (upd (upd pg i (to (6 * i + 1))) (6 + i) (to (6 * i + 2))) k x (6 + p) = upd σ.2.2.2 i (to (6 * i + 2)) p ∧ ∃ m, m ≤ 20 ∧ upd σ.2.2.1 i (to (6 * i + 1)) p = nI m) ∧ (∀ t, t < 4 → upd (upd (upd pg i (to (6 * i + 1))) (6 + i) (to (6 * i + 2))) k x (17 + t) = 0) := by
    intro x k hk
    refine ⟨fun p hp => ?_, fun t ht => ?_⟩
    · rw [pk_un (show p ≠ k by omega), pk_un (show p ≠ 6 + i by omega), pk_un (show 6 + p ≠ k by omega)]
      by_cases e : p = i
      · rw [e, pk_us, pk_us, pk_us, pk_us]
        exact ⟨rfl, rfl, d, hd20, hd2⟩
      · rw [pk_un e, pk_un e, pk_un e, pk_un (show 6 + p ≠ 6 + i by omega), pk_un (show 6 + p ≠ i by omega)]
        exact h6 p (by omega)
    · rw [pk_un (show 17 + t ≠ k by omega), pk_un (show 17 + t ≠ 6 + i by omega), pk_un (show 17 + t ≠ i by omega)]
      exact h7 t ht
  by_cases c : to (6 * i + 5) = 0
  · rw [if_pos c, if_neg (show ¬ (1 : Int32) = 0 by decide), if_neg (show ¬ (1 : Int32) = 0 by decide), set_eq hu6 (by omega), Int32.or_zero] at e1
    rw [if_pos c, show (12 : Int32).toNatClampNeg = 12 from rfl, pk_un (show 12 ≠ 6 + i by omega), pk_un (show 12 ≠ i by omega), h4, hu2, set_eq hu6 (by omega)] at e2
    rw [e1, e2]
    obtain ⟨q1, q2⟩ := hcells (nI (setN u i)) 12 (Or.inl rfl)
    refine ⟨⟨?_, ?_, ?_, pk_us, ?_⟩, q1, q2, ⟨_, set_lt hu hi, rfl⟩, w, hw, rfl⟩
    · rw [pk_un (by decide), pk_un (by omega), pk_un (by omega)]; exact h1
    · rw [pk_un (by decide), pk_un (by omega), pk_un (by omega)]; exact h2
    · rw [pk_un (by decide), pk_un (by omega), pk_un (by omega)]; exact h3
    · rw [pk_un (by decide), pk_un (by omega), pk_un (by omega)]; exact h5.trans hw2
  · rw [if_neg c, if_pos (show (0 : Int32) = 0 from rfl), if_pos (show (0 : Int32) = 0 from rfl), set_eq hw6 (by omega), Int32.or_zero] at e1
    rw [if_neg c, show (13 : Int32).toNatClampNeg = 13 from rfl, pk_un (show 13 ≠ 6 + i by omega), pk_un (show 13 ≠ i by omega), h5, hw2, set_eq hw6 (by omega)] at e2
    rw [e1, e2]
    obtain ⟨q1, q2⟩ := hcells (nI (setN w i)) 13 (Or.inr rfl)
    refine ⟨⟨?_, ?_, ?_, ?_, pk_us⟩, q1, q2, ⟨u, hu, rfl⟩, _, set_lt hw hi, rfl⟩
    · rw [pk_un (by decide), pk_un (by omega), pk_un (by omega)]; exact h1
    · rw [pk_un (by decide), pk_un (by omega), pk_un (by omega)]; exact h2
    · rw [pk_un (by decide), pk_un (by omega), pk_un (by omega)]; exact h3
    · rw [pk_un (by decide), pk_un (by omega), pk_un (by omega)]; exact h4.trans hu2
theorem hasP_big {R i : Nat} (hR : R ≤ i) (hi : i < 6) : fX2_hasPerson (nI R) (nI i) = 0 := by
  by_cases q : fX2_hasPerson (nI R) (nI i) = 0
  · exact q
  · obtain ⟨t, ht, h2⟩ := hasP_no (by omega) q
    have := (nI_eq (by omega) (by omega)).mp h2
    omega
theorem open_eq {R Q K : Nat} {pf tf to so pg : Nat → Int32} {S : Sc} (hR : R ≤ 6) (hQ : Q ≤ 4) (hf : ∀ j, j < 6 * R → pf j = to j) (hg : RG R to) : PR R Q K (gX3_open_s (nI R) pf S) (itN (stX6_square_117 to) R (itN stX6_square_35 21 pg)) := by
  obtain ⟨mi, ha, ba, st, wa, mo, pa, pl⟩ := S
  have h0 : ∀ j, j < 21 → itN stX6_square_35 21 pg j = 0 := fun j hj => by
    rw [copy_it (d := 0) (N := 21) (src := fun _ => 0) (fun i σ hi => by unfold stX6_square_35; rw [hid_eq, nI_clamp (by omega), Nat.zero_add]) 21 (Nat.le_refl _) j, if_pos (by omega)]
  have key := it_sim (f := stX3_open_35 (nI R) pf) (g := stX6_square_117 to) (fun i σ pg => (pg 14 = 0 ∧ pg 15 = 0 ∧ pg 16 = 0 ∧ pg 12 = σ.1 ∧ pg 13 = σ.2.1) ∧ (∀ p, p < i → pg p = σ.2.2.1 p ∧ pg (6 + p) = σ.2.2.2 p ∧ ∃ m, m ≤ 20 ∧ σ.2.2.1 p = nI m) ∧ (∀ t, t < 4 → pg (17 + t) = 0) ∧ (∃ u, u < 2 ^ R ∧ σ.1 = nI u) ∧ ∃ w, w < 2 ^ R ∧ σ.2.1 = nI w) R (fun i a b hi h => open_step (Q := Q) (tf := tf) (so := so) hR hf hg hi h) (a := (0, 0, mo, pa)) (b := itN stX6_square_35 21 pg) ⟨⟨h0 14 (by decide), h0 15 (by decide), h0 16 (by decide), h0 12 (by decide), h0 13 (by decide)⟩, fun p hp => absurd hp (by omega), fun t ht => h0 _ (by omega), ⟨0, Nat.pow_pos (by decide), rfl⟩, 0, Nat.pow_pos (by decide), rfl⟩
  have e6 : itN (stX3_open_35 (nI R) pf) 6 (0, 0, mo, pa) = itN (fun i => stX3_open_35 (nI R) pf (R + i)) (6 - R) (itN (stX3_open_35 (nI R) pf) R (0, 0, mo, pa)) := by
    rw [← it_add R (6 - R), show R + (6 - R) = 6 by omega]
  have k2 := it_inv (f := fun i => stX3_open_35 (nI R) pf (R + i)) (fun _ σ => σ.1 = (itN (stX3_open_35 (nI R) pf) R (0, 0, mo, pa)).1 ∧ σ.2.1 = (itN (stX3_open_35 (nI R) pf) R (0, 0, mo, pa)).2.1 ∧ ∀ p, p < R → σ.2.2.1 p = (itN (stX3_open_35 (nI R) pf) R (0, 0, mo, pa)).2.2.1 p ∧ σ.2.2.2 p = (itN (stX3_open_35 (nI R) pf) R (0, 0, mo, pa)).2.2.2 p) (6 - R) (fun i σ hi hq => by
    obtain ⟨q1, q2, q3⟩ := hq
    have e : stX3_open_35 (nI R) pf (R + i) σ = _ := hid_eq _
    rw [hasP_big (by omega) (by omega), if_pos (show (0 : Int32) = 0 from rfl), kI (i := R + i) (by omega)] at e
    show (stX3_open_35 (nI R) pf (R + i) σ).1 = _ ∧ (stX3_open_35 (nI R) pf (R + i) σ).2.1 = _ ∧ ∀ p, p < R → (stX3_open_35 (nI R) pf (R + i) σ).2.2.1 p = _ ∧ (stX3_open_35 (nI R) pf (R + i) σ).2.2.2 p = _
    rw [e]
    refine ⟨q1, q2, fun p hp => ⟨?_, ?_⟩⟩
    · exact (pk_un (by omega)).trans (q3 p hp).1
    · exact (pk_un (by omega)).trans (q3 p hp).2) (a := itN (stX3_open_35 (nI R) pf) R (0, 0, mo, pa)) ⟨rfl, rfl, fun p _ => ⟨rfl, rfl⟩⟩
  rw [← e6] at k2
  have hfill : ∀ t, t < 4 → fJ7_fill_53178 pl 0 t = 0 := fun t ht => by
    unfold fJ7_fill_53178
    rw [hid_eq, copy_it (d := 0) (N := 4) (src := fun _ => 0) (fun i σ hi => by unfold stJ7_fill_53178_5; rw [hid_eq, nI_clamp (by omega), Nat.zero_add]) 4 (Nat.le_refl _) t, if_pos (by omega)]
  have e1 : fX3_open (nI R) pf mo pa pl = _ := hid_eq _
  have e2 : gX3_open_s (nI R) pf (mi, ha, ba, st, wa, mo, pa, pl) = (0, 0, 0, (itN (stX3_open_35 (nI R) pf) 6 (0, 0, mo, pa)).1, (itN (stX3_open_35 (nI R) pf) 6 (0, 0, mo, pa)).2.1, (itN (stX3_open_35 (nI R) pf) 6 (0, 0, mo, pa)).2.2.1, (itN (stX3_open_35 (nI R) pf) 6 (0, 0, mo, pa)).2.2.2, fJ7_fill_53178 pl 0) := by
    unfold gX3_open_s
    dsimp only
    rw [e1]
  rw [e2]
  generalize itN (stX3_open_35 (nI R) pf) 6 (0, 0, mo, pa) = z at k2 ⊢
  generalize itN (stX3_open_35 (nI R) pf) R (0, 0, mo, pa) = y at k2 key
  obtain ⟨⟨a1, a2, a3, a4, a5⟩, b1, b2, ⟨u, hu, hu2⟩, w, hw, hw2⟩ := key
  obtain ⟨q1, q2, q3⟩ := k2
  refine ⟨⟨a1, a2, a3, a4.trans q1.symm, a5.trans q2.symm⟩, fun p hp => (b1 p hp).1.trans (q3 p hp).1.symm, fun p hp => (b1 p hp).2.1.trans (q3 p hp).2.symm, fun t ht => (b2 t (by omega)).trans (hfill t (by omega)).symm, ⟨u, hu, q1.trans hu2⟩, ⟨w, hw, q2.trans hw2⟩, ⟨0, by omega, rfl⟩, fun p hp => ?_, fun t ht => ⟨0, by omega, hfill t (by omega)⟩⟩
  obtain ⟨m, hm, hm2⟩ := (b1 p hp).2.2
  exact ⟨m, hm, (q3 p hp).1.trans hm2⟩
