set_option maxHeartbeats 4000000 in
set_option maxRecDepth 100000 in
theorem rl_write {K : Nat} {tl : Int32} {tx : Nat → Int32} {pe tu : Int32} {pf tf : Nat → Int32} {S : Sc} {af ac : Int32} {B KB : Nat → Sc} {kf : Nat → Int32} {sn : Int32} {qw qg : Nat → Int32} {sd : Int64} {ts : Int32} {ty : Nat → Int32} {pe1 tu1 : Int32} {to so pg bk : Nat → Int32} {ac1 : Int32} {kp ik : Nat → Int32} {sn1 : Int32} {sw sgv : Nat → Int32} {sd1 : Int64} (hK : K < 1000) (h : Alk K tl tx pe tu pf tf S af ac B KB kf sn qw qg sd ts ty pe1 tu1 to so pg bk ac1 kp ik sn1 sw sgv sd1) (a : Int32) : (fX5_write tl tx a).1 = (fX6_write ts ty a).1 ∧ Alk (K + 1) ((fX5_write tl tx a).2.1) ((fX5_write tl tx a).2.2) pe tu pf tf S af ac B KB kf sn qw qg sd ((fX6_write ts ty a).2.1) ((fX6_write ts ty a).2.2) pe1 tu1 to so pg bk ac1 kp ik sn1 sw sgv sd1 := by
  obtain ⟨⟨n, hn, rfl, rfl, ht⟩, hm, hs, hd⟩ := h
  have e1 : fX5_write (nI n) tx a = _ := hid_eq _
  have e2 : fX6_write (nI n) ty a = _ := hid_eq _
  rw [e1, e2, show fX6_in a.toInt64 0 255 = fX5_isWithin a 0 255 from in5 (lo := 0) (hi := 255) rfl rfl]
  by_cases c : fX5_isWithin a 0 255 = 0
  · rw [if_pos c, if_pos c]
    exact ⟨rfl, ⟨n, hn, rfl, rfl, ht⟩, Amk_up hm, hs, hd⟩
  · rw [if_neg c, if_neg c]
    by_cases c2 : n = 64
    · rw [if_neg (show ¬ nI n < 64 from nI_nlt (b := 64) (by omega) (by omega)), if_pos (show nI n = 64 by rw [c2]; rfl)]
      exact ⟨rfl, ⟨n, hn, rfl, rfl, ht⟩, Amk_up hm, hs, hd⟩
    · have e3 : fX4_append (nI n) tx a = _ := hid_eq _
      rw [if_pos (show nI n < 64 from nI_lt (b := 64) (by omega) (by decide)), if_neg (show ¬ nI n = 64 from fun q => c2 ((nI_eq (b := 64) (by omega) (by decide)).mp q)), e3, if_neg (show ¬ (64 : Int32) ≤ nI n from nI_ge (b := 64) (by omega) (by decide)), nI_1, nI_clamp (by omega)]
      refine ⟨rfl, ⟨n + 1, by omega, rfl, rfl, fun j hj => ?_⟩, Amk_up hm, hs, hd⟩
      show upd tx n a j = upd ty n a j
      by_cases e : j = n
      · rw [e, pk_us, pk_us]
      · rw [pk_un e, pk_un e]
        exact ht j (by omega)
set_option maxHeartbeats 4000000 in
set_option maxRecDepth 100000 in
theorem rl_wipe {K : Nat} {tl : Int32} {tx : Nat → Int32} {pe tu : Int32} {pf tf : Nat → Int32} {S : Sc} {af ac : Int32} {B KB : Nat → Sc} {kf : Nat → Int32} {sn : Int32} {qw qg : Nat → Int32} {sd : Int64} {ts : Int32} {ty : Nat → Int32} {pe1 tu1 : Int32} {to so pg bk : Nat → Int32} {ac1 : Int32} {kp ik : Nat → Int32} {sn1 : Int32} {sw sgv : Nat → Int32} {sd1 : Int64} (hK : K < 1000) (h : Alk K tl tx pe tu pf tf S af ac B KB kf sn qw qg sd ts ty pe1 tu1 to so pg bk ac1 kp ik sn1 sw sgv sd1)  : (fX5_wipe tl).1 = (fX6_wipe ts).1 ∧ Alk (K + 1) ((fX5_wipe tl).2) tx pe tu pf tf S af ac B KB kf sn qw qg sd ((fX6_wipe ts).2) ty pe1 tu1 to so pg bk ac1 kp ik sn1 sw sgv sd1 := by
  obtain ⟨⟨n, hn, rfl, rfl, ht⟩, hm, hs, hd⟩ := h
  have e1 : fX5_wipe (nI n) = _ := hid_eq _
  have e2 : fX6_wipe (nI n) = _ := hid_eq _
  have e3 : fX4_clear = 0 := hid_eq _
  rw [e1, e2, e3]
  exact ⟨rfl, ⟨0, by omega, rfl, rfl, fun j hj => absurd hj (by omega)⟩, Amk_up hm, hs, hd⟩
set_option maxHeartbeats 4000000 in
set_option maxRecDepth 100000 in
theorem rl_fault {K : Nat} {tl : Int32} {tx : Nat → Int32} {pe tu : Int32} {pf tf : Nat → Int32} {S : Sc} {af ac : Int32} {B KB : Nat → Sc} {kf : Nat → Int32} {sn : Int32} {qw qg : Nat → Int32} {sd : Int64} {ts : Int32} {ty : Nat → Int32} {pe1 tu1 : Int32} {to so pg bk : Nat → Int32} {ac1 : Int32} {kp ik : Nat → Int32} {sn1 : Int32} {sw sgv : Nat → Int32} {sd1 : Int64} {rto rso : Nat → Int32} (hK : K < 1000) (h : Alk K tl tx pe tu pf tf S af ac B KB kf sn qw qg sd ts ty pe1 tu1 to so pg bk ac1 kp ik sn1 sw sgv sd1)  : (fX5_fault tl tx) = (fX6_fault ts ty rto rso).1 ∧ Alk (K + 1) tl tx pe tu pf tf S af ac B KB kf sn qw qg sd ts ty pe1 tu1 to so pg bk ac1 kp ik sn1 sw sgv sd1 := by
  obtain ⟨ht, hm, hs, hd⟩ := h
  have e1 : fX5_fault tl tx = _ := hid_eq _
  have e2 : fX6_fault ts ty rto rso = _ := hid_eq _
  rw [e1, e2]
  exact ⟨(fault_eq (pf := pf) (tf := tf) ht).1, ht, Amk_up hm, hs, hd⟩
set_option maxHeartbeats 4000000 in
set_option maxRecDepth 100000 in
theorem rl_square {K : Nat} {tl : Int32} {tx : Nat → Int32} {pe tu : Int32} {pf tf : Nat → Int32} {S : Sc} {af ac : Int32} {B KB : Nat → Sc} {kf : Nat → Int32} {sn : Int32} {qw qg : Nat → Int32} {sd : Int64} {ts : Int32} {ty : Nat → Int32} {pe1 tu1 : Int32} {to so pg bk : Nat → Int32} {ac1 : Int32} {kp ik : Nat → Int32} {sn1 : Int32} {sw sgv : Nat → Int32} {sd1 : Int64} {rto rso : Nat → Int32} (hK : K < 1000) (h : Alk K tl tx pe tu pf tf S af ac B KB kf sn qw qg sd ts ty pe1 tu1 to so pg bk ac1 kp ik sn1 sw sgv sd1)  : (fX5_square tl tx pe tu pf tf S af ac kf).1 = (fX6_square ts pe1 tu1 ac1 ty to so rto rso pg ik).1 ∧ Alk (K + 1) tl tx ((fX5_square tl tx pe tu pf tf S af ac kf).2.1) ((fX5_square tl tx pe tu pf tf S af ac kf).2.2.1) ((fX5_square tl tx pe tu pf tf S af ac kf).2.2.2.1) ((fX5_square tl tx pe tu pf tf S af ac kf).2.2.2.2.1) ((fX5_square tl tx pe tu pf tf S af ac kf).2.2.2.2.2.1) ((fX5_square tl tx pe tu pf tf S af ac kf).2.2.2.2.2.2.1) ((fX5_square tl tx pe tu pf tf S af ac kf).2.2.2.2.2.2.2.1) B KB ((fX5_square tl tx pe tu pf tf S af ac kf).2.2.2.2.2.2.2.2) sn qw qg sd ts ty ((fX6_square ts pe1 tu1 ac1 ty to so rto rso pg ik).2.2.1) ((fX6_square ts pe1 tu1 ac1 ty to so rto rso pg ik).2.2.2.1) ((fX6_square ts pe1 tu1 ac1 ty to so rto rso pg ik).2.2.2.2.2.2.2.1) ((fX6_square ts pe1 tu1 ac1 ty to so rto rso pg ik).2.2.2.2.2.2.2.2.1) ((fX6_square ts pe1 tu1 ac1 ty to so rto rso pg ik).2.2.2.2.2.2.2.2.2.2.2.1) bk ((fX6_square ts pe1 tu1 ac1 ty to so rto rso pg ik).2.2.2.2.2.2.1) kp ((fX6_square ts pe1 tu1 ac1 ty to so rto rso pg ik).2.2.2.2.2.2.2.2.2.2.2.2) sn1 sw sgv sd1 := by
  obtain ⟨ht, hm, hs, hd⟩ := h
  have e1 : fX5_square tl tx pe tu pf tf S af ac kf = _ := hid_eq _
  have e2 : fX6_square ts pe1 tu1 ac1 ty to so rto rso pg ik = _ := hid_eq _
  obtain ⟨f1, f2⟩ := fault_eq (pf := pf) (tf := tf) (rto := rto) (rso := rso) ht
  rw [e1, e2, f1]
  by_cases c : (fX6_readSquare ts ty rto rso).1 = (-9)
  · rw [if_pos c, if_pos c]
    obtain ⟨R, Q, pf', tf', hR, hQ, r1, r2, r3, r4, r5, r6, r7⟩ := f2 c
    have ef : fX0_forgetAll = (0, 0) := hid_eq _
    rw [r3, ef, r1, r2, show (6 : Int32) * nI R = nI (6 * R) from pk_mul 6 R, show (3 : Int32) * nI Q = nI (3 * Q) from pk_mul 3 Q, nI_clamp (show 6 * R < 2 ^ 31 by omega), nI_clamp (show 3 * Q < 2 ^ 31 by omega), kI (i := R) (by omega)]
    have hto : ∀ j, j < 6 * R → itN (stX6_square_56 (fX6_readSquare ts ty rto rso).2.2.2.2.1) (6 * R) to j = (fX6_readSquare ts ty rto rso).2.2.2.2.1 j := fun j hj => by
      rw [copy_it (d := 0) (N := 6 * R) (src := (fX6_readSquare ts ty rto rso).2.2.2.2.1) (fun i σ hi => by unfold stX6_square_56; rw [hid_eq, nI_clamp (by omega), Nat.zero_add]) (6 * R) (Nat.le_refl _) j, if_pos (by omega), Nat.sub_zero]
    have hso : ∀ j, j < 3 * Q → itN (stX6_square_87 (fX6_readSquare ts ty rto rso).2.2.2.2.2) (3 * Q) so j = (fX6_readSquare ts ty rto rso).2.2.2.2.2 j := fun j hj => by
      rw [copy_it (d := 0) (N := 3 * Q) (src := (fX6_readSquare ts ty rto rso).2.2.2.2.2) (fun i σ hi => by unfold stX6_square_87; rw [hid_eq, nI_clamp (by omega), Nat.zero_add]) (3 * Q) (Nat.le_refl _) j, if_pos (by omega), Nat.sub_zero]
    have hf : ∀ j, j < 6 * R → pf' j = itN (stX6_square_56 (fX6_readSquare ts ty rto rso).2.2.2.2.1) (6 * R) to j := fun j hj => (r4 j hj).trans (hto j hj).symm
    have hg : RG R (itN (stX6_square_56 (fX6_readSquare ts ty rto rso).2.2.2.2.1) (6 * R) to) := fun p hp k hk => by
      rw [hto _ (by omega)]
      exact r6 p hp k hk
    refine ⟨rfl, ht, ⟨R, Q, ⟨rfl, rfl, rfl, rfl⟩, ⟨⟨hR, hQ⟩, hf, fun j hj => (r5 j hj).trans (hso j hj).symm, fun p hp => ?_, fun p hp => ?_, fun t ht => ?_⟩, open_eq (tf := tf) (so := so) hR hQ hf hg, ⟨0, 0, by omega, by omega, rfl, rfl, rfl, fun i hi => absurd hi (by omega)⟩, fun k hk => ?_⟩, hs, hd⟩
    · obtain ⟨d, d1, d2⟩ := hg p hp 0 (by decide)
      exact ⟨d, d1, d2⟩
    · obtain ⟨d, d1, d2⟩ := hg p hp 3 (by decide)
      exact ⟨d, d1, d2⟩
    · obtain ⟨d, d1, d2⟩ := r7 t ht 2 (by decide)
      exact ⟨d, d1, (hso _ (by omega)).trans d2⟩
    · have h0 : itN stX5_square_42 2 kf k = 0 := by
        rw [copy_it (d := 0) (N := 2) (src := fun _ => vp_nar .boolean 0) (fun i σ hi => by unfold stX5_square_42; rw [hid_eq, nI_clamp (by omega), Nat.zero_add]) 2 (Nat.le_refl _) k, if_pos (by omega), nar0]
      refine ⟨h0.trans ?_, fun q => absurd h0 q⟩
      show 0 = upd (upd ik 0 (vp_nar .boolean 0)) 1 (vp_nar .boolean 0) k
      rw [nar0]
      rcases (show k = 0 ∨ k = 1 by omega) with rfl | rfl <;> rfl
  · rw [if_neg c, if_neg c]
    exact ⟨rfl, ht, Amk_up hm, hs, hd⟩
set_option maxHeartbeats 4000000 in
set_option maxRecDepth 100000 in
theorem rl_about {K : Nat} {tl : Int32} {tx : Nat → Int32} {pe tu : Int32} {pf tf : Nat → Int32} {S : Sc} {af ac : Int32} {B KB : Nat → Sc} {kf : Nat → Int32} {sn : Int32} {qw qg : Nat → Int32} {sd : Int64} {ts : Int32} {ty : Nat → Int32} {pe1 tu1 : Int32} {to so pg bk : Nat → Int32} {ac1 : Int32} {kp ik : Nat → Int32} {sn1 : Int32} {sw sgv : Nat → Int32} {sd1 : Int64} (hK : K < 1000) (h : Alk K tl tx pe tu pf tf S af ac B KB kf sn qw qg sd ts ty pe1 tu1 to so pg bk ac1 kp ik sn1 sw sgv sd1) (a : Int32) : (fX5_about sn tl pe tu S ac a) = (fX6_about ts pe1 tu1 ac1 sn1 pg a) ∧ Alk (K + 1) tl tx pe tu pf tf S af ac B KB kf sn qw qg sd ts ty pe1 tu1 to so pg bk ac1 kp ik sn1 sw sgv sd1 := by
  obtain ⟨ht, hm, hs, hd⟩ := id h
  obtain ⟨n, -, rfl, rfl, -⟩ := ht
  obtain ⟨P, Q, ⟨rfl, rfl, rfl, rfl⟩, hF, ⟨⟨h1, h2, h3, h4, h5⟩, -⟩, hA, -⟩ := id hm
  obtain ⟨k, -, rfl, rfl, -⟩ := hs
  have e1 : fX5_about (nI k) (nI n) (nI P) (nI Q) S ac a = _ := hid_eq _
  have e2 : fX6_about (nI n) (nI P) (nI Q) ac1 (nI k) pg a = _ := hid_eq _
  refine ⟨?_, h.1, Amk_up hm, h.2.2⟩
  rw [e1, e2, show (12 : Int32).toNatClampNeg = 12 from rfl, show (13 : Int32).toNatClampNeg = 13 from rfl, show (14 : Int32).toNatClampNeg = 14 from rfl, show (15 : Int32).toNatClampNeg = 15 from rfl, show (16 : Int32).toNatClampNeg = 16 from rfl, h1, h2, h3, h4, h5, (AR_pos hA).2.2]
set_option maxHeartbeats 4000000 in
set_option maxRecDepth 100000 in
theorem rl_person {K : Nat} {tl : Int32} {tx : Nat → Int32} {pe tu : Int32} {pf tf : Nat → Int32} {S : Sc} {af ac : Int32} {B KB : Nat → Sc} {kf : Nat → Int32} {sn : Int32} {qw qg : Nat → Int32} {sd : Int64} {ts : Int32} {ty : Nat → Int32} {pe1 tu1 : Int32} {to so pg bk : Nat → Int32} {ac1 : Int32} {kp ik : Nat → Int32} {sn1 : Int32} {sw sgv : Nat → Int32} {sd1 : Int64} (hK : K < 1000) (h : Alk K tl tx pe tu pf tf S af ac B KB kf sn qw qg sd ts ty pe1 tu1 to so pg bk ac1 kp ik sn1 sw sgv sd1) (a : Int32) (b : Int32) : (fX5_person pe pf S a b) = (fX6_person pe1 to pg a b) ∧ Alk (K + 1) tl tx pe tu pf tf S af ac B KB kf sn qw qg sd ts ty pe1 tu1 to so pg bk ac1 kp ik sn1 sw sgv sd1 := by
  obtain ⟨ht, hm, hs, hd⟩ := h
  obtain ⟨P, Q, ⟨rfl, rfl, rfl, rfl⟩, hF, hP, hA, hKK⟩ := id hm
  refine ⟨?_, ht, Amk_up hm, hs, hd⟩
  obtain ⟨⟨hP6, hQ4⟩, f1, -⟩ := hF
  obtain ⟨⟨h1, h2, h3, h4, h5⟩, h6, h7, h8, -, -, ⟨bb, hb, hb2⟩, h12, -⟩ := hP
  have e1 : fX5_person (nI P) pf S a b = _ := hid_eq _
  have e2 : fX6_person (nI P) to pg a b = _ := hid_eq _
  rw [e1, e2, noO5]
  by_cases c : fX2_hasPerson (nI P) a = 0
  · rw [if_pos c, if_pos c, if_neg (show ¬ (1 : Int32) = 0 by decide)]
  · obtain ⟨p, hp, rfl⟩ := hasP_no hP6 c
    rw [if_neg c, if_neg c, if_pos (show (0 : Int32) = 0 from rfl)]
    have kk : ∀ k, k < 6 → fX2_ofPerson pf (nI p) (nI k) = to ((6 * nI p + nI k).toNatClampNeg) := fun k hk => by
      rw [ofP (by omega) hk, k6k (by omega) hk]
      exact f1 _ (by omega)
    have m1 : gX3_moodOf_s (nI p) S = pg p := (mood_at (by omega)).trans (h6 p hp).symm
    have m2 : gX3_patienceOf_s (nI p) S = pg (6 + p) := by
      have e3 : gX3_patienceOf_s (nI p) S = _ := hid_eq _
      rw [e3, if_neg (nI_pos (by omega)), if_neg (show ¬ (6 : Int32) ≤ nI p from nI_ge (b := 6) (by omega) (by decide)), nI_clamp (by omega)]
      exact (h7 p hp).symm
    obtain ⟨m, hm1, hm2⟩ := h12 p hp
    have m3 : gX3_giftOf_s (nI p) S = fX6_giftOf pg (nI p) := by
      show fX3_giftOf S.2.2.1 S.2.2.2.2.2.1 (nI p) = _
      rw [hb2, gift5 (by omega) hm1 hb hm2, gift6 (by omega) hm1 hb ((h6 p hp).trans hm2) (h3.trans hb2)]
    rw [m1, m2, m3, k6 (by omega), kI (i := p) (by omega)]
    by_cases b0 : b = 0
    · subst b0; exact kk 0 (by decide)
    · rw [if_neg b0, if_neg b0]
      by_cases b1 : b = 1
      · rw [if_pos b1, if_pos b1]
      · rw [if_neg b1, if_neg b1]
        by_cases b2 : b = 2
        · rw [if_pos b2, if_pos b2]
        · rw [if_neg b2, if_neg b2]
          by_cases b3 : b = 3
          · subst b3; exact kk 3 (by decide)
          · rw [if_neg b3, if_neg b3]
            by_cases b4 : b = 4
            · subst b4; exact kk 4 (by decide)
            · rw [if_neg b4, if_neg b4]
              by_cases b5 : b = 5
              · subst b5; exact kk 5 (by decide)
              · rw [if_neg b5, if_neg b5]
set_option maxHeartbeats 4000000 in
set_option maxRecDepth 100000 in
theorem rl_tune {K : Nat} {tl : Int32} {tx : Nat → Int32} {pe tu : Int32} {pf tf : Nat → Int32} {S : Sc} {af ac : Int32} {B KB : Nat → Sc} {kf : Nat → Int32} {sn : Int32} {qw qg : Nat → Int32} {sd : Int64} {ts : Int32} {ty : Nat → Int32} {pe1 tu1 : Int32} {to so pg bk : Nat → Int32} {ac1 : Int32} {kp ik : Nat → Int32} {sn1 : Int32} {sw sgv : Nat → Int32} {sd1 : Int64} (hK : K < 1000) (h : Alk K tl tx pe tu pf tf S af ac B KB kf sn qw qg sd ts ty pe1 tu1 to so pg bk ac1 kp ik sn1 sw sgv sd1) (a : Int32) (b : Int32) : (fX5_tune tu tf S a b) = (fX6_tune tu1 so pg a b) ∧ Alk (K + 1) tl tx pe tu pf tf S af ac B KB kf sn qw qg sd ts ty pe1 tu1 to so pg bk ac1 kp ik sn1 sw sgv sd1 := by
  obtain ⟨ht, hm, hs, hd⟩ := h
  obtain ⟨P, Q, ⟨rfl, rfl, rfl, rfl⟩, hF, hP, hA, hKK⟩ := id hm
  refine ⟨?_, ht, Amk_up hm, hs, hd⟩
  obtain ⟨⟨hP6, hQ4⟩, -, f2, -⟩ := hF
  obtain ⟨-, -, -, h8, -⟩ := hP
  have e1 : fX5_tune (nI Q) tf S a b = _ := hid_eq _
  have e2 : fX6_tune (nI Q) so pg a b = _ := hid_eq _
  rw [e1, e2, noT5]
  by_cases c : fX2_hasTune (nI Q) a = 0
  · rw [if_pos c, if_pos c, if_neg (show ¬ (1 : Int32) = 0 by decide)]
  · obtain ⟨t, htt, rfl⟩ := hasT_no hQ4 c
    rw [if_neg c, if_neg c, if_pos (show (0 : Int32) = 0 from rfl), show fX6_in b.toInt64 0 2 = fX5_isWithin b (nI 0) (nI 2) from in5 rfl rfl, k17 (by omega)]
    have kk : ∀ k, k < 3 → fX2_ofTune tf (nI t) (nI k) = so ((3 * nI t + nI k).toNatClampNeg) := fun k hk => by
      rw [ofT (by omega) hk, k3k (by omega) hk]
      exact f2 _ (by omega)
    have m1 : gX3_timesPlayed_s (nI t) S = pg (17 + t) := by
      have e3 : gX3_timesPlayed_s (nI t) S = _ := hid_eq _
      rw [e3, if_neg (nI_pos (by omega)), if_neg (show ¬ (4 : Int32) ≤ nI t from nI_ge (b := 4) (by omega) (by decide)), nI_clamp (by omega)]
      exact (h8 t htt).symm
    have ni : ∀ k, k < 3 → ¬ fX5_isWithin (nI k) (nI 0) (nI 2) = 0 := fun k hk => by
      have e4 : fX5_isWithin (nI k) (nI 0) (nI 2) = _ := hid_eq _
      rw [e4, if_neg (nI_nlt (by omega) (by omega)), if_neg (nI_nlt (by omega) (by omega))]
      decide
    rw [m1]
    by_cases b0 : b = 0
    · subst b0; rw [if_pos rfl, if_neg (show ¬ fX5_isWithin 0 (nI 0) (nI 2) = 0 from ni 0 (by decide))]; exact kk 0 (by decide)
    · rw [if_neg b0]
      by_cases b1 : b = 1
      · subst b1; rw [if_pos rfl, if_neg (show ¬ fX5_isWithin 1 (nI 0) (nI 2) = 0 from ni 1 (by decide))]; exact kk 1 (by decide)
      · rw [if_neg b1]
        by_cases b2 : b = 2
        · subst b2; rw [if_pos rfl, if_neg (show ¬ fX5_isWithin 2 (nI 0) (nI 2) = 0 from ni 2 (by decide))]; exact kk 2 (by decide)
        · rw [if_neg b2]
          by_cases cw : fX5_isWithin b (nI 0) (nI 2) = 0
          · rw [if_pos cw]
          · obtain ⟨k, -, hk, rfl⟩ := W_nat (by decide) (by decide) cw
            rcases (show k = 0 ∨ k = 1 ∨ k = 2 by omega) with rfl | rfl | rfl
            · exact absurd rfl b0
            · exact absurd rfl b1
            · exact absurd rfl b2
set_option maxHeartbeats 4000000 in
set_option maxRecDepth 100000 in
theorem rl_play {K : Nat} {tl : Int32} {tx : Nat → Int32} {pe tu : Int32} {pf tf : Nat → Int32} {S : Sc} {af ac : Int32} {B KB : Nat → Sc} {kf : Nat → Int32} {sn : Int32} {qw qg : Nat → Int32} {sd : Int64} {ts : Int32} {ty : Nat → Int32} {pe1 tu1 : Int32} {to so pg bk : Nat → Int32} {ac1 : Int32} {kp ik : Nat → Int32} {sn1 : Int32} {sw sgv : Nat → Int32} {sd1 : Int64} (hK : K < 1000) (h : Alk K tl tx pe tu pf tf S af ac B KB kf sn qw qg sd ts ty pe1 tu1 to so pg bk ac1 kp ik sn1 sw sgv sd1) (a : Int32) : (fX5_play tu pf tf S af ac B a ((fX0_remember af ac B S).1) ((fX0_remember af ac B S).2.1) ((fX0_remember af ac B S).2.2)).1 = (fX6_play pe1 tu1 ac1 to so pg bk a).1 ∧ Alk (K + 1) tl tx pe tu pf tf ((fX5_play tu pf tf S af ac B a ((fX0_remember af ac B S).1) ((fX0_remember af ac B S).2.1) ((fX0_remember af ac B S).2.2)).2.2.2.2) ((fX5_play tu pf tf S af ac B a ((fX0_remember af ac B S).1) ((fX0_remember af ac B S).2.1) ((fX0_remember af ac B S).2.2)).2.1) ((fX5_play tu pf tf S af ac B a ((fX0_remember af ac B S).1) ((fX0_remember af ac B S).2.1) ((fX0_remember af ac B S).2.2)).2.2.1) ((fX5_play tu pf tf S af ac B a ((fX0_remember af ac B S).1) ((fX0_remember af ac B S).2.1) ((fX0_remember af ac B S).2.2)).2.2.2.1) KB kf sn qw qg sd ts ty pe1 tu1 to so ((fX6_play pe1 tu1 ac1 to so pg bk a).2.2.1) ((fX6_play pe1 tu1 ac1 to so pg bk a).2.2.2) ((fX6_play pe1 tu1 ac1 to so pg bk a).2.1) kp ik sn1 sw sgv sd1 := by
  obtain ⟨ht, hm, hs, hd⟩ := h
  obtain ⟨P, Q, ⟨rfl, rfl, rfl, rfl⟩, hF, hP, hA, hKK⟩ := id hm
  have e1 : fX5_play (nI Q) pf tf S af ac B a (fX0_remember af ac B S).1 (fX0_remember af ac B S).2.1 (fX0_remember af ac B S).2.2 = _ := hid_eq _
  have e2 : fX6_play (nI P) (nI Q) ac1 to so pg bk a = _ := hid_eq _
  rw [e1, e2, noT5]
  by_cases c : fX2_hasTune (nI Q) a = 0
  · rw [if_pos c, if_pos c, if_neg (show ¬ (1 : Int32) = 0 by decide)]
    exact ⟨rfl, ht, Amk_up hm, hs, hd⟩
  · obtain ⟨t, htt, rfl⟩ := hasT_no hF.1.2 c
    rw [if_neg c, if_neg c, if_pos (show (0 : Int32) = 0 from rfl)]
    obtain ⟨g1, g2⟩ := goPlay_eq hF (show K < 2 ^ 29 by omega) htt hP
    exact ⟨g2.symm, ht, ⟨P, Q, ⟨rfl, rfl, rfl, rfl⟩, hF, g1, AR_up (AR_note hF.1.1 hF.1.2 hP hA) (Nat.le_succ K), KR_up hKK (Nat.le_succ K)⟩, hs, hd⟩
set_option maxHeartbeats 4000000 in
set_option maxRecDepth 100000 in
theorem rl_round {K : Nat} {tl : Int32} {tx : Nat → Int32} {pe tu : Int32} {pf tf : Nat → Int32} {S : Sc} {af ac : Int32} {B KB : Nat → Sc} {kf : Nat → Int32} {sn : Int32} {qw qg : Nat → Int32} {sd : Int64} {ts : Int32} {ty : Nat → Int32} {pe1 tu1 : Int32} {to so pg bk : Nat → Int32} {ac1 : Int32} {kp ik : Nat → Int32} {sn1 : Int32} {sw sgv : Nat → Int32} {sd1 : Int64} {sl : Int32} (hK : K < 1000) (h : Alk K tl tx pe tu pf tf S af ac B KB kf sn qw qg sd ts ty pe1 tu1 to so pg bk ac1 kp ik sn1 sw sgv sd1) (a : Int32) : (fX5_round pf S af ac B a ((fX0_remember af ac B S).1) ((fX0_remember af ac B S).2.1) ((fX0_remember af ac B S).2.2)).1 = (fX6_round pe1 ac1 sl to pg bk a).1 ∧ Alk (K + 1) tl tx pe tu pf tf ((fX5_round pf S af ac B a ((fX0_remember af ac B S).1) ((fX0_remember af ac B S).2.1) ((fX0_remember af ac B S).2.2)).2.2.2.2) ((fX5_round pf S af ac B a ((fX0_remember af ac B S).1) ((fX0_remember af ac B S).2.1) ((fX0_remember af ac B S).2.2)).2.1) ((fX5_round pf S af ac B a ((fX0_remember af ac B S).1) ((fX0_remember af ac B S).2.1) ((fX0_remember af ac B S).2.2)).2.2.1) ((fX5_round pf S af ac B a ((fX0_remember af ac B S).1) ((fX0_remember af ac B S).2.1) ((fX0_remember af ac B S).2.2)).2.2.2.1) KB kf sn qw qg sd ts ty pe1 tu1 to so ((fX6_round pe1 ac1 sl to pg bk a).2.2.2.1) ((fX6_round pe1 ac1 sl to pg bk a).2.2.2.2) ((fX6_round pe1 ac1 sl to pg bk a).2.1) kp ik sn1 sw sgv sd1 := by
  obtain ⟨ht, hm, hs, hd⟩ := h
  obtain ⟨P, Q, ⟨rfl, rfl, rfl, rfl⟩, hF, hP, hA, hKK⟩ := id hm
  have e1 : fX5_round pf S af ac B a (fX0_remember af ac B S).1 (fX0_remember af ac B S).2.1 (fX0_remember af ac B S).2.2 = _ := hid_eq _
  have e2 : fX6_round (nI P) ac1 sl to pg bk a = _ := hid_eq _
  have e3 : fX5_isSide a = fX5_isWithin a (nI 0) (nI 1) := hid_eq _
  rw [e1, e2, e3, show fX6_in a.toInt64 0 1 = fX5_isWithin a (nI 0) (nI 1) from in5 rfl rfl]
  by_cases c : fX5_isWithin a (nI 0) (nI 1) = 0
  · rw [if_pos c, if_pos c]
    exact ⟨rfl, ht, Amk_up hm, hs, hd⟩
  · obtain ⟨s, -, hs1, rfl⟩ := W_nat (by decide) (by decide) c
    rw [if_neg c, if_neg c]
    obtain ⟨g1, g2, -, -⟩ := goRound_eq hF (show s < 2 by omega) hP
    exact ⟨g2.symm, ht, ⟨P, Q, ⟨rfl, rfl, rfl, rfl⟩, hF, PR_up g1 (Nat.le_succ K), AR_up (AR_note hF.1.1 hF.1.2 hP hA) (Nat.le_succ K), KR_up hKK (Nat.le_succ K)⟩, hs, hd⟩
set_option maxHeartbeats 4000000 in
set_option maxRecDepth 100000 in
theorem rl_bait {K : Nat} {tl : Int32} {tx : Nat → Int32} {pe tu : Int32} {pf tf : Nat → Int32} {S : Sc} {af ac : Int32} {B KB : Nat → Sc} {kf : Nat → Int32} {sn : Int32} {qw qg : Nat → Int32} {sd : Int64} {ts : Int32} {ty : Nat → Int32} {pe1 tu1 : Int32} {to so pg bk : Nat → Int32} {ac1 : Int32} {kp ik : Nat → Int32} {sn1 : Int32} {sw sgv : Nat → Int32} {sd1 : Int64} (hK : K < 1000) (h : Alk K tl tx pe tu pf tf S af ac B KB kf sn qw qg sd ts ty pe1 tu1 to so pg bk ac1 kp ik sn1 sw sgv sd1) (a : Int32) : (fX5_bait S af ac B a ((fX0_remember af ac B S).1) ((fX0_remember af ac B S).2.1) ((fX0_remember af ac B S).2.2)).1 = (fX6_bait ac1 pg bk a).1 ∧ Alk (K + 1) tl tx pe tu pf tf ((fX5_bait S af ac B a ((fX0_remember af ac B S).1) ((fX0_remember af ac B S).2.1) ((fX0_remember af ac B S).2.2)).2.2.2.2) ((fX5_bait S af ac B a ((fX0_remember af ac B S).1) ((fX0_remember af ac B S).2.1) ((fX0_remember af ac B S).2.2)).2.1) ((fX5_bait S af ac B a ((fX0_remember af ac B S).1) ((fX0_remember af ac B S).2.1) ((fX0_remember af ac B S).2.2)).2.2.1) ((fX5_bait S af ac B a ((fX0_remember af ac B S).1) ((fX0_remember af ac B S).2.1) ((fX0_remember af ac B S).2.2)).2.2.2.1) KB kf sn qw qg sd ts ty pe1 tu1 to so ((fX6_bait ac1 pg bk a).2.2.1) ((fX6_bait ac1 pg bk a).2.2.2) ((fX6_bait ac1 pg bk a).2.1) kp ik sn1 sw sgv sd1 := by
  obtain ⟨ht, hm, hs, hd⟩ := h
  obtain ⟨P, Q, ⟨rfl, rfl, rfl, rfl⟩, hF, hP, hA, hKK⟩ := id hm
  have e1 : fX5_bait S af ac B a (fX0_remember af ac B S).1 (fX0_remember af ac B S).2.1 (fX0_remember af ac B S).2.2 = _ := hid_eq _
  have e2 : fX6_bait ac1 pg bk a = _ := hid_eq _
  have h16 : pg 16 = S.2.2.1 := hP.1.2.2.1
  rw [e1, e2, show fX6_in a.toInt64 0 9 = fX5_isWithin a (nI 0) (nI 9) from in5 rfl rfl, show (16 : Int32).toNatClampNeg = 16 from rfl, h16]
  by_cases c : fX5_isWithin a (nI 0) (nI 9) = 0
  · rw [if_pos c, if_pos (show fX5_isWithin a 0 9 = 0 from c)]
    exact ⟨rfl, ht, Amk_up hm, hs, hd⟩
  · obtain ⟨v, -, hv, rfl⟩ := W_nat (by decide) (by decide) c
    rw [if_neg c, if_neg (show ¬ fX5_isWithin (nI v) 0 9 = 0 from c)]
    by_cases c2 : nI v = S.2.2.1
    · rw [if_pos c2, if_pos c2.symm]
      exact ⟨rfl, ht, Amk_up hm, hs, hd⟩
    · rw [if_neg c2, if_neg (show ¬ S.2.2.1 = nI v from fun q => c2 q.symm)]
      refine ⟨rfl, ht, ⟨P, Q, ⟨rfl, rfl, rfl, rfl⟩, hF, ?_, AR_up (AR_note hF.1.1 hF.1.2 hP hA) (Nat.le_succ K), KR_up hKK (Nat.le_succ K)⟩, hs, hd⟩
      exact PR_up (PR_ba (b := v) hF.1.1 hP (by omega)) (Nat.le_succ K)
set_option maxHeartbeats 4000000 in
set_option maxRecDepth 100000 in
theorem rl_undo {K : Nat} {tl : Int32} {tx : Nat → Int32} {pe tu : Int32} {pf tf : Nat → Int32} {S : Sc} {af ac : Int32} {B KB : Nat → Sc} {kf : Nat → Int32} {sn : Int32} {qw qg : Nat → Int32} {sd : Int64} {ts : Int32} {ty : Nat → Int32} {pe1 tu1 : Int32} {to so pg bk : Nat → Int32} {ac1 : Int32} {kp ik : Nat → Int32} {sn1 : Int32} {sw sgv : Nat → Int32} {sd1 : Int64} (hK : K < 1000) (h : Alk K tl tx pe tu pf tf S af ac B KB kf sn qw qg sd ts ty pe1 tu1 to so pg bk ac1 kp ik sn1 sw sgv sd1)  : (fX5_undo S ac ((fX0_takeBackInto af ac B).1) ((fX0_takeBackInto af ac B).2)).1 = (fX6_undo ac1 pg bk).1 ∧ Alk (K + 1) tl tx pe tu pf tf ((fX5_undo S ac ((fX0_takeBackInto af ac B).1) ((fX0_takeBackInto af ac B).2)).2.2) af ((fX5_undo S ac ((fX0_takeBackInto af ac B).1) ((fX0_takeBackInto af ac B).2)).2.1) B KB kf sn qw qg sd ts ty pe1 tu1 to so ((fX6_undo ac1 pg bk).2.2) bk ((fX6_undo ac1 pg bk).2.1) kp ik sn1 sw sgv sd1 := by
  obtain ⟨ht, hm, hs, hd⟩ := h
  obtain ⟨P, Q, ⟨rfl, rfl, rfl, rfl⟩, hF, hP, hA, hKK⟩ := id hm
  have e1 : fX5_undo S ac (fX0_takeBackInto af ac B).1 (fX0_takeBackInto af ac B).2 = _ := hid_eq _
  have e2 : fX6_undo ac1 pg bk = _ := hid_eq _
  have hac := (AR_pos hA).2.2
  rw [e1, e2]
  by_cases c : ac = 0
  · rw [if_pos c, if_pos (show ac1 = 0 from hac.symm.trans c)]
    exact ⟨rfl, ht, Amk_up hm, hs, hd⟩
  · rw [if_neg c, if_neg (show ¬ ac1 = 0 from fun q => c (hac.trans q))]
    obtain ⟨u1, u2, u3⟩ := AR_undo (pg := pg) hF.1.1 hF.1.2 hA c
    exact ⟨u3, ht, ⟨P, Q, ⟨rfl, rfl, rfl, rfl⟩, hF, PR_up u2 (Nat.le_succ K), AR_up u1 (Nat.le_succ K), KR_up hKK (Nat.le_succ K)⟩, hs, hd⟩
set_option maxHeartbeats 4000000 in
set_option maxRecDepth 100000 in
theorem rl_would {K : Nat} {tl : Int32} {tx : Nat → Int32} {pe tu : Int32} {pf tf : Nat → Int32} {S : Sc} {af ac : Int32} {B KB : Nat → Sc} {kf : Nat → Int32} {sn : Int32} {qw qg : Nat → Int32} {sd : Int64} {ts : Int32} {ty : Nat → Int32} {pe1 tu1 : Int32} {to so pg bk : Nat → Int32} {ac1 : Int32} {kp ik : Nat → Int32} {sn1 : Int32} {sw sgv : Nat → Int32} {sd1 : Int64} {T : Sc} {tr : Nat → Int32} {sl : Int32} (hK : K < 1000) (h : Alk K tl tx pe tu pf tf S af ac B KB kf sn qw qg sd ts ty pe1 tu1 to so pg bk ac1 kp ik sn1 sw sgv sd1) (a : Int32) (b : Int32) : (fX5_would pf S T a b).1 = (fX6_would pe1 sl to pg tr a b).1 ∧ Alk (K + 1) tl tx pe tu pf tf S af ac B KB kf sn qw qg sd ts ty pe1 tu1 to so pg bk ac1 kp ik sn1 sw sgv sd1 := by
  obtain ⟨ht, hm, hs, hd⟩ := h
  obtain ⟨P, Q, ⟨rfl, rfl, rfl, rfl⟩, hF, hP, hA, hKK⟩ := id hm
  refine ⟨?_, ht, Amk_up hm, hs, hd⟩
  have e1 : fX5_would pf S T a b = _ := hid_eq _
  have e2 : fX6_would (nI P) sl to pg tr a b = _ := hid_eq _
  have e3 : fX5_isSide a = fX5_isWithin a (nI 0) (nI 1) := hid_eq _
  rw [e1, e2, e3, show fX6_in a.toInt64 0 1 = fX5_isWithin a (nI 0) (nI 1) from in5 rfl rfl, show fX6_in b.toInt64 0 1 = fX5_isWithin b 0 1 from in5 (lo := 0) (hi := 1) rfl rfl]
  by_cases c : fX5_isWithin a (nI 0) (nI 1) = 0
  · rw [if_pos c, if_pos c]
  · obtain ⟨s, -, hs1, rfl⟩ := W_nat (by decide) (by decide) c
    rw [if_neg c, if_neg c]
    by_cases c2 : fX5_isWithin b 0 1 = 0
    · rw [if_pos c2, if_pos c2]
    · rw [if_neg c2, if_neg c2]
      obtain ⟨-, g2, -, g4⟩ := goRound_eq hF (show s < 2 by omega) (PR_begin (tr := tr) hF.1.1 hF.1.2 hP)
      show (if b = 0 then (gX3_passHat_s pf (nI s) S).1 else S.2.2.2.1 &&& ((gX3_passHat_s pf (nI s) S).2.2.2.2.1 ^^^ (-1))) = (if b = 0 then (fX6_goRound (nI P) to (fX6_begin pg tr) (nI s)).1 else (fX6_goRound (nI P) to (fX6_begin pg tr) (nI s)).2.1)
      rw [g2, g4]
set_option maxHeartbeats 4000000 in
set_option maxRecDepth 100000 in
theorem rl_plan {K : Nat} {tl : Int32} {tx : Nat → Int32} {pe tu : Int32} {pf tf : Nat → Int32} {S : Sc} {af ac : Int32} {B KB : Nat → Sc} {kf : Nat → Int32} {sn : Int32} {qw qg : Nat → Int32} {sd : Int64} {ts : Int32} {ty : Nat → Int32} {pe1 tu1 : Int32} {to so pg bk : Nat → Int32} {ac1 : Int32} {kp ik : Nat → Int32} {sn1 : Int32} {sw sgv : Nat → Int32} {sd1 : Int64} {T U : Sc} {mx ch : Int32} {tr : Nat → Int32} {sl : Int32} (hK : K < 1000) (h : Alk K tl tx pe tu pf tf S af ac B KB kf sn qw qg sd ts ty pe1 tu1 to so pg bk ac1 kp ik sn1 sw sgv sd1) (a : Int32) (b : Int32) : (fX5_plan tu pf tf S T U mx ch a b).1 = (fX6_plan pe1 tu1 sl to so pg tr a b).1 ∧ Alk (K + 1) tl tx pe tu pf tf S af ac B KB kf sn qw qg sd ts ty pe1 tu1 to so pg bk ac1 kp ik sn1 sw sgv sd1 := by
  obtain ⟨ht, hm, hs, hd⟩ := h
  obtain ⟨P, Q, ⟨rfl, rfl, rfl, rfl⟩, hF, hP, hA, hKK⟩ := id hm
  exact ⟨plan_eq hF (by omega) hP a b, ht, Amk_up hm, hs, hd⟩
set_option maxHeartbeats 4000000 in
set_option maxRecDepth 100000 in
theorem rl_soon {K : Nat} {tl : Int32} {tx : Nat → Int32} {pe tu : Int32} {pf tf : Nat → Int32} {S : Sc} {af ac : Int32} {B KB : Nat → Sc} {kf : Nat → Int32} {sn : Int32} {qw qg : Nat → Int32} {sd : Int64} {ts : Int32} {ty : Nat → Int32} {pe1 tu1 : Int32} {to so pg bk : Nat → Int32} {ac1 : Int32} {kp ik : Nat → Int32} {sn1 : Int32} {sw sgv : Nat → Int32} {sd1 : Int64} {T U : Sc} {mx ch : Int32} {tr : Nat → Int32} {sl : Int32} (hK : K < 1000) (h : Alk K tl tx pe tu pf tf S af ac B KB kf sn qw qg sd ts ty pe1 tu1 to so pg bk ac1 kp ik sn1 sw sgv sd1) (a : Int32) : (fX5_soon tu pf tf S T U mx ch a).1 = (fX6_soon pe1 tu1 sl to so pg tr a).1 ∧ Alk (K + 1) tl tx pe tu pf tf S af ac B KB kf sn qw qg sd ts ty pe1 tu1 to so pg bk ac1 kp ik sn1 sw sgv sd1 := by
  obtain ⟨ht, hm, hs, hd⟩ := h
  obtain ⟨P, Q, ⟨rfl, rfl, rfl, rfl⟩, hF, hP, hA, hKK⟩ := id hm
  exact ⟨soon_eq hF (by omega) hP a, ht, Amk_up hm, hs, hd⟩
set_option maxHeartbeats 4000000 in
set_option maxRecDepth 100000 in
theorem rl_grows {K : Nat} {tl : Int32} {tx : Nat → Int32} {pe tu : Int32} {pf tf : Nat → Int32} {S : Sc} {af ac : Int32} {B KB : Nat → Sc} {kf : Nat → Int32} {sn : Int32} {qw qg : Nat → Int32} {sd : Int64} {ts : Int32} {ty : Nat → Int32} {pe1 tu1 : Int32} {to so pg bk : Nat → Int32} {ac1 : Int32} {kp ik : Nat → Int32} {sn1 : Int32} {sw sgv : Nat → Int32} {sd1 : Int64} {T : Sc} {tr : Nat → Int32} (hK : K < 1000) (h : Alk K tl tx pe tu pf tf S af ac B KB kf sn qw qg sd ts ty pe1 tu1 to so pg bk ac1 kp ik sn1 sw sgv sd1) (a : Int32) (b : Int32) : (fX5_grows tu pf tf S T a b).1 = (fX6_grows pe1 tu1 to so pg tr a b).1 ∧ Alk (K + 1) tl tx pe tu pf tf S af ac B KB kf sn qw qg sd ts ty pe1 tu1 to so pg bk ac1 kp ik sn1 sw sgv sd1 := by
  obtain ⟨ht, hm, hs, hd⟩ := h
  obtain ⟨P, Q, ⟨rfl, rfl, rfl, rfl⟩, hF, hP, hA, hKK⟩ := id hm
  exact ⟨grows_eq hF (by omega) hP a b, ht, Amk_up hm, hs, hd⟩
set_option maxHeartbeats 4000000 in
set_option maxRecDepth 100000 in
theorem rl_bestBait {K : Nat} {tl : Int32} {tx : Nat → Int32} {pe tu : Int32} {pf tf : Nat → Int32} {S : Sc} {af ac : Int32} {B KB : Nat → Sc} {kf : Nat → Int32} {sn : Int32} {qw qg : Nat → Int32} {sd : Int64} {ts : Int32} {ty : Nat → Int32} {pe1 tu1 : Int32} {to so pg bk : Nat → Int32} {ac1 : Int32} {kp ik : Nat → Int32} {sn1 : Int32} {sw sgv : Nat → Int32} {sd1 : Int64} {T U : Sc} {mx ch : Int32} {tr : Nat → Int32} {sl : Int32} (hK : K < 1000) (h : Alk K tl tx pe tu pf tf S af ac B KB kf sn qw qg sd ts ty pe1 tu1 to so pg bk ac1 kp ik sn1 sw sgv sd1) (a : Int32) : (fX5_bestBait pf S T U mx ch a).1 = (fX6_bestBait pe1 sl to pg tr a).1 ∧ Alk (K + 1) tl tx pe tu pf tf S af ac B KB kf sn qw qg sd ts ty pe1 tu1 to so pg bk ac1 kp ik sn1 sw sgv sd1 := by
  obtain ⟨ht, hm, hs, hd⟩ := h
  obtain ⟨P, Q, ⟨rfl, rfl, rfl, rfl⟩, hF, hP, hA, hKK⟩ := id hm
  exact ⟨bait_eq hF hP a, ht, Amk_up hm, hs, hd⟩
set_option maxHeartbeats 4000000 in
set_option maxRecDepth 100000 in
theorem rl_judged {K : Nat} {tl : Int32} {tx : Nat → Int32} {pe tu : Int32} {pf tf : Nat → Int32} {S : Sc} {af ac : Int32} {B KB : Nat → Sc} {kf : Nat → Int32} {sn : Int32} {qw qg : Nat → Int32} {sd : Int64} {ts : Int32} {ty : Nat → Int32} {pe1 tu1 : Int32} {to so pg bk : Nat → Int32} {ac1 : Int32} {kp ik : Nat → Int32} {sn1 : Int32} {sw sgv : Nat → Int32} {sd1 : Int64} {T : Sc} {tr : Nat → Int32} {sl : Int32} (hK : K < 1000) (h : Alk K tl tx pe tu pf tf S af ac B KB kf sn qw qg sd ts ty pe1 tu1 to so pg bk ac1 kp ik sn1 sw sgv sd1) (a : Int32) (b : Int32) : (fX5_judged tu pf tf S T a b).1 = (fX6_judged pe1 tu1 sl to so pg tr a b).1 ∧ Alk (K + 1) tl tx pe tu pf tf S af ac B KB kf sn qw qg sd ts ty pe1 tu1 to so pg bk ac1 kp ik sn1 sw sgv sd1 := by
  obtain ⟨ht, hm, hs, hd⟩ := h
  obtain ⟨P, Q, ⟨rfl, rfl, rfl, rfl⟩, hF, hP, hA, hKK⟩ := id hm
  exact ⟨judged_eq hF (by omega) hP a b, ht, Amk_up hm, hs, hd⟩
set_option maxHeartbeats 4000000 in
set_option maxRecDepth 100000 in
theorem rl_never {K : Nat} {tl : Int32} {tx : Nat → Int32} {pe tu : Int32} {pf tf : Nat → Int32} {S : Sc} {af ac : Int32} {B KB : Nat → Sc} {kf : Nat → Int32} {sn : Int32} {qw qg : Nat → Int32} {sd : Int64} {ts : Int32} {ty : Nat → Int32} {pe1 tu1 : Int32} {to so pg bk : Nat → Int32} {ac1 : Int32} {kp ik : Nat → Int32} {sn1 : Int32} {sw sgv : Nat → Int32} {sd1 : Int64} (hK : K < 1000) (h : Alk K tl tx pe tu pf tf S af ac B KB kf sn qw qg sd ts ty pe1 tu1 to so pg bk ac1 kp ik sn1 sw sgv sd1)  : (fX5_never pf S).1 = (fX6_never pe1 to pg) ∧ Alk (K + 1) tl tx pe tu pf tf S af ac B KB kf sn qw qg sd ts ty pe1 tu1 to so pg bk ac1 kp ik sn1 sw sgv sd1 := by
  obtain ⟨ht, hm, hs, hd⟩ := h
  obtain ⟨P, Q, ⟨rfl, rfl, rfl, rfl⟩, hF, hP, hA, hKK⟩ := id hm
  exact ⟨never_eq hF hP, ht, Amk_up hm, hs, hd⟩
set_option maxHeartbeats 4000000 in
set_option maxRecDepth 100000 in
theorem rl_louder {K : Nat} {tl : Int32} {tx : Nat → Int32} {pe tu : Int32} {pf tf : Nat → Int32} {S : Sc} {af ac : Int32} {B KB : Nat → Sc} {kf : Nat → Int32} {sn : Int32} {qw qg : Nat → Int32} {sd : Int64} {ts : Int32} {ty : Nat → Int32} {pe1 tu1 : Int32} {to so pg bk : Nat → Int32} {ac1 : Int32} {kp ik : Nat → Int32} {sn1 : Int32} {sw sgv : Nat → Int32} {sd1 : Int64} (hK : K < 1000) (h : Alk K tl tx pe tu pf tf S af ac B KB kf sn qw qg sd ts ty pe1 tu1 to so pg bk ac1 kp ik sn1 sw sgv sd1) (a : Int32) (b : Int32) : (fX5_louder a b) = (fX6_louder a b) ∧ Alk (K + 1) tl tx pe tu pf tf S af ac B KB kf sn qw qg sd ts ty pe1 tu1 to so pg bk ac1 kp ik sn1 sw sgv sd1 := by
  exact ⟨louder_eq a b, h.1, Amk_up h.2.1, h.2.2⟩
set_option maxHeartbeats 4000000 in
set_option maxRecDepth 100000 in
theorem rl_shares {K : Nat} {tl : Int32} {tx : Nat → Int32} {pe tu : Int32} {pf tf : Nat → Int32} {S : Sc} {af ac : Int32} {B KB : Nat → Sc} {kf : Nat → Int32} {sn : Int32} {qw qg : Nat → Int32} {sd : Int64} {ts : Int32} {ty : Nat → Int32} {pe1 tu1 : Int32} {to so pg bk : Nat → Int32} {ac1 : Int32} {kp ik : Nat → Int32} {sn1 : Int32} {sw sgv : Nat → Int32} {sd1 : Int64} (hK : K < 1000) (h : Alk K tl tx pe tu pf tf S af ac B KB kf sn qw qg sd ts ty pe1 tu1 to so pg bk ac1 kp ik sn1 sw sgv sd1) (a : Int32) (b : Int32) (q : Int32) : (fX5_shares a b q) = (fX6_shares a b q) ∧ Alk (K + 1) tl tx pe tu pf tf S af ac B KB kf sn qw qg sd ts ty pe1 tu1 to so pg bk ac1 kp ik sn1 sw sgv sd1 := by
  exact ⟨shares_eq a b q, h.1, Amk_up h.2.1, h.2.2⟩
set_option maxHeartbeats 4000000 in
set_option maxRecDepth 100000 in
theorem rl_gave {K : Nat} {tl : Int32} {tx : Nat → Int32} {pe tu : Int32} {pf tf : Nat → Int32} {S : Sc} {af ac : Int32} {B KB : Nat → Sc} {kf : Nat → Int32} {sn : Int32} {qw qg : Nat → Int32} {sd : Int64} {ts : Int32} {ty : Nat → Int32} {pe1 tu1 : Int32} {to so pg bk : Nat → Int32} {ac1 : Int32} {kp ik : Nat → Int32} {sn1 : Int32} {sw sgv : Nat → Int32} {sd1 : Int64} (hK : K < 1000) (h : Alk K tl tx pe tu pf tf S af ac B KB kf sn qw qg sd ts ty pe1 tu1 to so pg bk ac1 kp ik sn1 sw sgv sd1) (a : Int32) (b : Int32) : (fX5_gave sn pe S qw qg a b) = (fX6_gave pe1 sn1 pg sw sgv a b) ∧ Alk (K + 1) tl tx pe tu pf tf S af ac B KB kf sn qw qg sd ts ty pe1 tu1 to so pg bk ac1 kp ik sn1 sw sgv sd1 := by
  obtain ⟨ht, hm, hs, hd⟩ := h
  obtain ⟨P, Q, ⟨rfl, rfl, rfl, rfl⟩, hF, hP, hA, hKK⟩ := id hm
  exact ⟨gave_eq hF.1.1 hP hs a b, ht, Amk_up hm, hs, hd⟩
set_option maxHeartbeats 4000000 in
set_option maxRecDepth 100000 in
theorem rl_see {K : Nat} {tl : Int32} {tx : Nat → Int32} {pe tu : Int32} {pf tf : Nat → Int32} {S : Sc} {af ac : Int32} {B KB : Nat → Sc} {kf : Nat → Int32} {sn : Int32} {qw qg : Nat → Int32} {sd : Int64} {ts : Int32} {ty : Nat → Int32} {pe1 tu1 : Int32} {to so pg bk : Nat → Int32} {ac1 : Int32} {kp ik : Nat → Int32} {sn1 : Int32} {sw sgv : Nat → Int32} {sd1 : Int64} (hK : K < 1000) (h : Alk K tl tx pe tu pf tf S af ac B KB kf sn qw qg sd ts ty pe1 tu1 to so pg bk ac1 kp ik sn1 sw sgv sd1) (a : Int32) (b : Int32) : (fX5_see sn pe qw qg a b).1 = (fX6_see pe1 sn1 sw sgv a b).1 ∧ Alk (K + 1) tl tx pe tu pf tf S af ac B KB kf ((fX5_see sn pe qw qg a b).2.1) ((fX5_see sn pe qw qg a b).2.2.1) ((fX5_see sn pe qw qg a b).2.2.2) sd ts ty pe1 tu1 to so pg bk ac1 kp ik ((fX6_see pe1 sn1 sw sgv a b).2.1) ((fX6_see pe1 sn1 sw sgv a b).2.2.1) ((fX6_see pe1 sn1 sw sgv a b).2.2.2) sd1 := by
  obtain ⟨ht, hm, hs, hd⟩ := h
  obtain ⟨P, Q, ⟨rfl, rfl, rfl, rfl⟩, hF, hP, hA, hKK⟩ := id hm
  obtain ⟨n, hn, rfl, rfl, hq⟩ := id hs
  have e1 : fX5_see (nI n) (nI P) qw qg a b = _ := hid_eq _
  have e2 : fX6_see (nI P) (nI n) sw sgv a b = _ := hid_eq _
  have hP6 := hF.1.1
  rw [e1, e2, noO5]
  by_cases c : fX2_hasPerson (nI P) a = 0
  · rw [if_pos c, if_pos c, if_neg (show ¬ (1 : Int32) = 0 by decide)]
    exact ⟨rfl, ht, Amk_up hm, hs, hd⟩
  · obtain ⟨p, hp, rfl⟩ := hasP_no hP6 c
    rw [if_neg c, if_neg c, if_pos (show (0 : Int32) = 0 from rfl)]
    by_cases c2 : n = 6
    · rw [if_neg (show ¬ nI n < 6 from nI_nlt (b := 6) (by omega) (by omega)), if_pos (show nI n = 6 by rw [c2]; rfl)]
      exact ⟨rfl, ht, Amk_up hm, hs, hd⟩
    · rw [if_pos (show nI n < 6 from nI_lt (b := 6) (by omega) (by decide)), if_neg (show ¬ nI n = 6 from fun z => c2 ((nI_eq (b := 6) (by omega) (by decide)).mp z)), nI_1, nI_clamp (by omega)]
      refine ⟨rfl, ht, Amk_up hm, ⟨n + 1, by omega, rfl, rfl, fun j hj => ?_⟩, hd⟩
      show upd qw n (nI p) j = upd sw n (nI p) j ∧ upd qg n (vp_nar .boolean b) j = upd sgv n (vp_nar .boolean b) j ∧ ∃ p', p' < 6 ∧ upd sw n (nI p) j = nI p'
      by_cases e : j = n
      · rw [e, pk_us, pk_us, pk_us, pk_us]
        exact ⟨rfl, rfl, p, by omega, rfl⟩
      · rw [pk_un e, pk_un e, pk_un e, pk_un e]
        exact hq j (by omega)
set_option maxHeartbeats 4000000 in
set_option maxRecDepth 100000 in
theorem rl_unsee {K : Nat} {tl : Int32} {tx : Nat → Int32} {pe tu : Int32} {pf tf : Nat → Int32} {S : Sc} {af ac : Int32} {B KB : Nat → Sc} {kf : Nat → Int32} {sn : Int32} {qw qg : Nat → Int32} {sd : Int64} {ts : Int32} {ty : Nat → Int32} {pe1 tu1 : Int32} {to so pg bk : Nat → Int32} {ac1 : Int32} {kp ik : Nat → Int32} {sn1 : Int32} {sw sgv : Nat → Int32} {sd1 : Int64} (hK : K < 1000) (h : Alk K tl tx pe tu pf tf S af ac B KB kf sn qw qg sd ts ty pe1 tu1 to so pg bk ac1 kp ik sn1 sw sgv sd1)  : (fX5_unsee sn).1 = (fX6_unsee sn1).1 ∧ Alk (K + 1) tl tx pe tu pf tf S af ac B KB kf ((fX5_unsee sn).2) qw qg sd ts ty pe1 tu1 to so pg bk ac1 kp ik ((fX6_unsee sn1).2) sw sgv sd1 := by
  obtain ⟨ht, hm, hs, hd⟩ := h
  obtain ⟨n, hn, rfl, rfl, hq⟩ := id hs
  have e1 : fX5_unsee (nI n) = _ := hid_eq _
  have e2 : fX6_unsee (nI n) = _ := hid_eq _
  rw [e1, e2]
  exact ⟨rfl, ht, Amk_up hm, ⟨0, by omega, rfl, rfl, fun j hj => absurd hj (by omega)⟩, hd⟩
set_option maxHeartbeats 4000000 in
set_option maxRecDepth 100000 in
theorem rl_luck {K : Nat} {tl : Int32} {tx : Nat → Int32} {pe tu : Int32} {pf tf : Nat → Int32} {S : Sc} {af ac : Int32} {B KB : Nat → Sc} {kf : Nat → Int32} {sn : Int32} {qw qg : Nat → Int32} {sd : Int64} {ts : Int32} {ty : Nat → Int32} {pe1 tu1 : Int32} {to so pg bk : Nat → Int32} {ac1 : Int32} {kp ik : Nat → Int32} {sn1 : Int32} {sw sgv : Nat → Int32} {sd1 : Int64} (hK : K < 1000) (h : Alk K tl tx pe tu pf tf S af ac B KB kf sn qw qg sd ts ty pe1 tu1 to so pg bk ac1 kp ik sn1 sw sgv sd1) (a : Int32) (b : Int32) (q : Int32) : (fX5_luck S a b q) = (fX6_luck pe1 pg a b q) ∧ Alk (K + 1) tl tx pe tu pf tf S af ac B KB kf sn qw qg sd ts ty pe1 tu1 to so pg bk ac1 kp ik sn1 sw sgv sd1 := by
  obtain ⟨ht, hm, hs, hd⟩ := h
  obtain ⟨P, Q, ⟨rfl, rfl, rfl, rfl⟩, hF, hP, hA, hKK⟩ := id hm
  exact ⟨luck_eq hF.1.1 hP a b q, ht, Amk_up hm, hs, hd⟩
set_option maxHeartbeats 4000000 in
set_option maxRecDepth 100000 in
theorem rl_seed {K : Nat} {tl : Int32} {tx : Nat → Int32} {pe tu : Int32} {pf tf : Nat → Int32} {S : Sc} {af ac : Int32} {B KB : Nat → Sc} {kf : Nat → Int32} {sn : Int32} {qw qg : Nat → Int32} {sd : Int64} {ts : Int32} {ty : Nat → Int32} {pe1 tu1 : Int32} {to so pg bk : Nat → Int32} {ac1 : Int32} {kp ik : Nat → Int32} {sn1 : Int32} {sw sgv : Nat → Int32} {sd1 : Int64} (hK : K < 1000) (h : Alk K tl tx pe tu pf tf S af ac B KB kf sn qw qg sd ts ty pe1 tu1 to so pg bk ac1 kp ik sn1 sw sgv sd1) (v : Int64) : (fX5_seed sd v).1 = (fX6_seed sd1 v).1 ∧ Alk (K + 1) tl tx pe tu pf tf S af ac B KB kf sn qw qg ((fX5_seed sd v).2) ts ty pe1 tu1 to so pg bk ac1 kp ik sn1 sw sgv ((fX6_seed sd1 v).2) := by
  obtain ⟨ht, hm, hs, rfl⟩ := h
  have e1 : fX5_seed sd v = _ := hid_eq _
  have e2 : fX6_seed sd v = _ := hid_eq _
  rw [e1, e2]
  exact ⟨rfl, ht, Amk_up hm, hs, rfl⟩
set_option maxHeartbeats 4000000 in
set_option maxRecDepth 100000 in
theorem rl_day {K : Nat} {tl : Int32} {tx : Nat → Int32} {pe tu : Int32} {pf tf : Nat → Int32} {S : Sc} {af ac : Int32} {B KB : Nat → Sc} {kf : Nat → Int32} {sn : Int32} {qw qg : Nat → Int32} {sd : Int64} {ts : Int32} {ty : Nat → Int32} {pe1 tu1 : Int32} {to so pg bk : Nat → Int32} {ac1 : Int32} {kp ik : Nat → Int32} {sn1 : Int32} {sw sgv : Nat → Int32} {sd1 : Int64} {T : Sc} {tr : Nat → Int32} {sl : Int32} (hK : K < 1000) (h : Alk K tl tx pe tu pf tf S af ac B KB kf sn qw qg sd ts ty pe1 tu1 to so pg bk ac1 kp ik sn1 sw sgv sd1) (a : Int32) : (fX5_day sd tu pf tf S T a).1 = (fX6_day pe1 tu1 sd1 sl to so pg tr a).1 ∧ Alk (K + 1) tl tx pe tu pf tf S af ac B KB kf sn qw qg ((fX5_day sd tu pf tf S T a).2.1) ts ty pe1 tu1 to so pg bk ac1 kp ik sn1 sw sgv ((fX6_day pe1 tu1 sd1 sl to so pg tr a).2.1) := by
  obtain ⟨ht, hm, hs, rfl⟩ := h
  obtain ⟨P, Q, ⟨rfl, rfl, rfl, rfl⟩, hF, hP, hA, hKK⟩ := id hm
  obtain ⟨d1, d2⟩ := day_eq (V := T) (tr := tr) (sl := sl) (sd := sd) hF (by omega) hP a
  exact ⟨d1, ht, Amk_up hm, hs, d2⟩
set_option maxHeartbeats 4000000 in
set_option maxRecDepth 100000 in
theorem rl_keep {K : Nat} {tl : Int32} {tx : Nat → Int32} {pe tu : Int32} {pf tf : Nat → Int32} {S : Sc} {af ac : Int32} {B KB : Nat → Sc} {kf : Nat → Int32} {sn : Int32} {qw qg : Nat → Int32} {sd : Int64} {ts : Int32} {ty : Nat → Int32} {pe1 tu1 : Int32} {to so pg bk : Nat → Int32} {ac1 : Int32} {kp ik : Nat → Int32} {sn1 : Int32} {sw sgv : Nat → Int32} {sd1 : Int64} (hK : K < 1000) (h : Alk K tl tx pe tu pf tf S af ac B KB kf sn qw qg sd ts ty pe1 tu1 to so pg bk ac1 kp ik sn1 sw sgv sd1) (a : Int32) : (fX5_keep S KB kf a).1 = (fX6_keep pg kp ik a).1 ∧ Alk (K + 1) tl tx pe tu pf tf S af ac B ((fX5_keep S KB kf a).2.1) ((fX5_keep S KB kf a).2.2) sn qw qg sd ts ty pe1 tu1 to so pg bk ac1 ((fX6_keep pg kp ik a).2.1) ((fX6_keep pg kp ik a).2.2) sn1 sw sgv sd1 := by
  obtain ⟨ht, hm, hs, hd⟩ := h
  obtain ⟨P, Q, ⟨rfl, rfl, rfl, rfl⟩, hF, hP, hA, hKK⟩ := id hm
  have hP6 := hF.1.1
  have e1 : fX5_keep S KB kf a = _ := hid_eq _
  have e2 : fX6_keep pg kp ik a = _ := hid_eq _
  have z0 : fz0X5_keep S KB kf = _ := hid_eq _
  have z1 : fz1X5_keep S KB kf = _ := hid_eq _
  have zn : fznX5_keep = (-1) := hid_eq _
  obtain ⟨u, hu, hu2⟩ := hP.2.2.2.2.1
  have hr : gX3_ringSize_s S = fX6_many (pg 12) := by
    show fX3_ringSize S.2.2.2.1 = _
    rw [hP.1.2.2.2.1, hu2, ring_eq (lt64 hP6 hu), many_nI (lt64 hP6 hu)]
  rw [e1, e2, z0, z1, zn, hr, show fX6_in a.toInt64 0 1 = fX5_isWithin a (nI 0) (nI 1) from in5 rfl rfl]
  by_cases c : fX5_isWithin a (nI 0) (nI 1) = 0
  · have h0 : ¬ a = 0 := fun z => isSlot_ok (a := a) (by rw [z]; decide) (by rw [z]; decide) ((hid_eq _).trans c)
    have h1 : ¬ a = 1 := fun z => isSlot_ok (a := a) (by rw [z]; decide) (by rw [z]; decide) ((hid_eq _).trans c)
    rw [if_neg h0, if_neg h1, if_pos c]
    exact ⟨rfl, ht, Amk_up hm, hs, hd⟩
  · obtain ⟨s, -, hs1, rfl⟩ := W_nat (by decide) (by decide) c
    rw [if_neg c]
    have hk := KR_keep hP6 hF.1.2 hP hKK (show s < 2 by omega) (vp_nar .boolean 1)
    rcases (show s = 0 ∨ s = 1 by omega) with rfl | rfl
    · rw [if_pos (show nI 0 = 0 from rfl)]
      exact ⟨rfl, ht, ⟨P, Q, ⟨rfl, rfl, rfl, rfl⟩, hF, PR_up hP (Nat.le_succ K), AR_up hA (Nat.le_succ K), KR_up hk (Nat.le_succ K)⟩, hs, hd⟩
    · rw [if_neg (show ¬ nI 1 = 0 by decide), if_pos (show nI 1 = 1 from rfl)]
      exact ⟨rfl, ht, ⟨P, Q, ⟨rfl, rfl, rfl, rfl⟩, hF, PR_up hP (Nat.le_succ K), AR_up hA (Nat.le_succ K), KR_up hk (Nat.le_succ K)⟩, hs, hd⟩
set_option maxHeartbeats 4000000 in
set_option maxRecDepth 100000 in
theorem rl_again {K : Nat} {tl : Int32} {tx : Nat → Int32} {pe tu : Int32} {pf tf : Nat → Int32} {S : Sc} {af ac : Int32} {B KB : Nat → Sc} {kf : Nat → Int32} {sn : Int32} {qw qg : Nat → Int32} {sd : Int64} {ts : Int32} {ty : Nat → Int32} {pe1 tu1 : Int32} {to so pg bk : Nat → Int32} {ac1 : Int32} {kp ik : Nat → Int32} {sn1 : Int32} {sw sgv : Nat → Int32} {sd1 : Int64} (hK : K < 1000) (h : Alk K tl tx pe tu pf tf S af ac B KB kf sn qw qg sd ts ty pe1 tu1 to so pg bk ac1 kp ik sn1 sw sgv sd1) (a : Int32) : (fX5_again S KB kf af ac a).1 = (fX6_again ac1 pg kp ik a).1 ∧ Alk (K + 1) tl tx pe tu pf tf ((fX5_again S KB kf af ac a).2.1) ((fX5_again S KB kf af ac a).2.2.1) ((fX5_again S KB kf af ac a).2.2.2) B KB kf sn qw qg sd ts ty pe1 tu1 to so ((fX6_again ac1 pg kp ik a).2.2) bk ((fX6_again ac1 pg kp ik a).2.1) kp ik sn1 sw sgv sd1 := by
  obtain ⟨ht, hm, hs, hd⟩ := h
  obtain ⟨P, Q, ⟨rfl, rfl, rfl, rfl⟩, hF, hP, hA, hKK⟩ := id hm
  have hP6 := hF.1.1
  have e1 : fX5_again S KB kf af ac a = _ := hid_eq _
  have e2 : fX6_again ac1 pg kp ik a = _ := hid_eq _
  have z0 : fz0X5_again S KB kf af ac = _ := hid_eq _
  have z1 : fz1X5_again S KB kf af ac = _ := hid_eq _
  have zn : fznX5_again = (-1) := hid_eq _
  have ef : fX0_forgetAll = (0, 0) := hid_eq _
  rw [e1, e2, z0, z1, zn, ef, show fX6_in a.toInt64 0 1 = fX5_isWithin a (nI 0) (nI 1) from in5 rfl rfl]
  by_cases c : fX5_isWithin a (nI 0) (nI 1) = 0
  · have h0 : ¬ a = 0 := fun z => isSlot_ok (a := a) (by rw [z]; decide) (by rw [z]; decide) ((hid_eq _).trans c)
    have h1 : ¬ a = 1 := fun z => isSlot_ok (a := a) (by rw [z]; decide) (by rw [z]; decide) ((hid_eq _).trans c)
    rw [if_neg h0, if_neg h1, if_pos c]
    exact ⟨rfl, ht, Amk_up hm, hs, hd⟩
  · obtain ⟨s, -, hs1, rfl⟩ := W_nat (by decide) (by decide) c
    rw [if_neg c, kI (i := s) (by omega), ← (hKK s (by omega)).1]
    have key : ∀ h0 : ¬ kf s = 0, gX3_ringSize_s (KB s) = fX6_many ((itN (stX6_again_31 kp (nI s)) 21 pg) 12) ∧ Amk (K + 1) (nI P) (nI Q) pf tf (KB s) 0 0 B KB kf (nI P) (nI Q) to so (itN (stX6_again_31 kp (nI s)) 21 pg) bk 0 kp ik := fun h0 => by
      have hp := again_page (pg := pg) hP6 hF.1.2 hKK (show s < 2 by omega) h0
      refine ⟨?_, ⟨P, Q, ⟨rfl, rfl, rfl, rfl⟩, hF, PR_up hp (Nat.le_succ K), ⟨0, 0, by omega, by omega, rfl, rfl, rfl, fun i hi => absurd hi (by omega)⟩, KR_up hKK (Nat.le_succ K)⟩⟩
      obtain ⟨u, hu, hu2⟩ := hp.2.2.2.2.1
      show fX3_ringSize (KB s).2.2.2.1 = _
      rw [hp.1.2.2.2.1, hu2, ring_eq (lt64 hP6 hu), many_nI (lt64 hP6 hu)]
    rcases (show s = 0 ∨ s = 1 by omega) with rfl | rfl
    · rw [if_pos (show nI 0 = 0 from rfl), show (0 : Int32).toNatClampNeg = 0 from rfl]
      by_cases h0 : kf 0 = 0
      · rw [if_pos h0, if_pos h0]
        exact ⟨rfl, ht, Amk_up hm, hs, hd⟩
      · rw [if_neg h0, if_neg h0]
        exact ⟨(key h0).1, ht, (key h0).2, hs, hd⟩
    · rw [if_neg (show ¬ nI 1 = 0 by decide), if_pos (show nI 1 = 1 from rfl), show (1 : Int32).toNatClampNeg = 1 from rfl]
      by_cases h0 : kf 1 = 0
      · rw [if_pos h0, if_pos h0]
        exact ⟨rfl, ht, Amk_up hm, hs, hd⟩
      · rw [if_neg h0, if_neg h0]
        exact ⟨(key h0).1, ht, (key h0).2, hs, hd⟩
