theorem ix_lit {n k : Nat} (h : k < n) (hn : n < 2 ^ 31) : vp_in (nI k) n := vp_in_nI h hn
theorem ix_6 {k : Nat} (h : k < 6) : vp_in (6 + nI k) 21 := by
  rw [show (6 : Int32) + nI k = nI (6 + k) from nI_add 6 k]
  exact vp_in_nI (by omega) (by decide)
theorem ix_17 {t : Int32} (h : vp_in t 4) : vp_in (17 + t) 21 := by
  obtain ⟨j, hj, rfl⟩ := vp_in_of h (by decide)
  rw [show (17 : Int32) + nI j = nI (17 + j) from nI_add 17 j]
  exact vp_in_nI (by omega) (by decide)
theorem ix_3 {t : Int32} (h : vp_in t 4) : vp_in (3 * t) 12 := by
  obtain ⟨j, hj, rfl⟩ := vp_in_of h (by decide)
  rw [show (3 : Int32) * nI j = nI (3 * j) from pk_mul 3 j]
  exact vp_in_nI (by omega) (by decide)
theorem ix_31 {t : Int32} (h : vp_in t 4) : vp_in (3 * t + 1) 12 := by
  obtain ⟨j, hj, rfl⟩ := vp_in_of h (by decide)
  rw [show (3 : Int32) * nI j = nI (3 * j) from pk_mul 3 j, show nI (3 * j) + 1 = nI (3 * j + 1) from nI_1 _]
  exact vp_in_nI (by omega) (by decide)
theorem ix_32 {t : Int32} (h : vp_in t 4) : vp_in (3 * t + 2) 12 := by
  obtain ⟨j, hj, rfl⟩ := vp_in_of h (by decide)
  rw [show (3 : Int32) * nI j = nI (3 * j) from pk_mul 3 j, show nI (3 * j) + 2 = nI (3 * j + 2) from nI_add _ 2]
  exact vp_in_nI (by omega) (by decide)
theorem ix_60 {k : Nat} (h : k < 6) : vp_in (6 * nI k) 36 := by
  rw [show (6 : Int32) * nI k = nI (6 * k) from pk_mul 6 k]
  exact vp_in_nI (by omega) (by decide)
theorem ix_6k {k : Nat} (h : k < 6) {c : Nat} (hc : c < 6) : vp_in (6 * nI k + nI c) 36 := by
  rw [show (6 : Int32) * nI k = nI (6 * k) from pk_mul 6 k, nI_add]
  exact vp_in_nI (by omega) (by decide)
theorem ix_21 {k : Nat} {c : Int32} (hc : vp_in c 12) (h : k < 21) : vp_in (21 * c + nI k) 252 := by
  obtain ⟨j, hj, rfl⟩ := vp_in_of hc (by decide)
  rw [show (21 : Int32) * nI j = nI (21 * j) from pk_mul 21 j, nI_add]
  exact vp_in_nI (by omega) (by decide)
theorem ix_p21 {k : Nat} (h : k < 231) : vp_in (nI k + 21) 252 := by
  rw [show nI k + (21 : Int32) = nI (k + 21) from nI_add k 21]
  exact vp_in_nI (by omega) (by decide)
theorem ac_m1 {c : Int32} (h : c = 12) : vp_in (c - 1) 12 := by
  subst h
  unfold vp_in
  decide
theorem ac_lt {c : Int32} (h : vp_in c 13) (h1 : ¬ c = 12) : vp_in c 12 := by
  obtain ⟨j, hj, rfl⟩ := vp_in_of h (by decide)
  refine vp_in_nI ?_ (by decide)
  rcases Nat.lt_or_ge j 12 with q | q
  · exact q
  · exact absurd (show nI j = nI 12 by rw [show j = 12 by omega]) h1
/-- the greatest common divisor's course: what is left falls -/
def dvI (N i : Nat) (x y : Int32) : Prop := ∃ j k : Nat, x = nI j ∧ y = nI k ∧ j < 2 ^ 31 ∧ k < 2 ^ 31 ∧ k + i ≤ N
theorem dv_0 {a b : Int32} (ha : ¬ a < 0) (hb : ¬ b < 0) : dvI b.toNatClampNeg 0 a b := by
  obtain ⟨j, hj, rfl⟩ := nI_of ha
  obtain ⟨k, hk, rfl⟩ := nI_of hb
  exact ⟨j, k, rfl, rfl, hj, hk, by rw [nI_clamp hk]; omega⟩
theorem dv_lt {N i : Nat} {x y : Int32} (h : dvI N i x y) (hy : ¬ y = 0) : i < N := by
  obtain ⟨j, k, rfl, rfl, hj, hk, h1⟩ := h
  rcases Nat.eq_zero_or_pos k with rfl | q
  · exact absurd rfl hy
  · omega
theorem dv_s {N i : Nat} {x y : Int32} (h : dvI N i x y) (hy : ¬ y = 0) : dvI N (i + 1) y (x - x / y * y) := by
  obtain ⟨j, k, rfl, rfl, hj, hk, h1⟩ := h
  rcases Nat.eq_zero_or_pos k with rfl | q
  · exact absurd rfl hy
  · have h2 := Nat.mod_lt j q
    exact ⟨k, j % k, rfl, pk_rem hj q hk, hk, by omega, by omega⟩

abbrev rmX6_in : Room := { frames := 0, cells := 0, slots := 0, locals := 0 }
theorem hfX6_in : hCF yX6_in wsX6_in rmX6_in cX6_in 6 (some .boolean) 3 := ⟨⟨_, rfl⟩, by decide +kernel, rfl, rfl⟩
noncomputable def fX6_in (a : Int64) (b : Int64) (q : Int64) : Int32 := hid (if (lg_cmp a b) < 0 then 0 else if (0 : Int32) < (lg_cmp a q) then 0 else 1)
set_option maxHeartbeats 4000000 in
set_option maxRecDepth 100000 in
theorem kX6_in (l : Launch) (E : hE) (a : Int64) (b : Int64) (q : Int64) : hC l yX6_in wsX6_in rmX6_in E [.long a, .long b, .long q] [] (some (.int (fX6_in a b q))) [] := by
  refine hC_intro (cc := cX6_in) (maxL := 6) (ret := (some .boolean)) (lv0 := [(0, .long a), (2, .long b), (4, .long q)]) (by decide) rfl (Nat.le_of_ble_eq_true rfl) rfl ?_
  intro p e s m below meth c A C
  refine hg_lload_n C dX6_in_0 rfl 0 rfl ?_
  refine hg_lload_n C dX6_in_1 rfl 1 rfl ?_
  refine hg_lcmp C dX6_in_2 ?_
  refine hg_if_lt C (tgt := 17) dX6_in_3 (by decide) (fun c1 => ?_) (fun c1 => ?_)
  · refine hg_iconst C (v := 0) dX6_in_17 (by decide) ?_
    have e9 : (fX6_in a b q) = 0 := (hid_eq _).trans ((if_pos c1).trans rfl)
    rw [e9]
    exact hg_zret C dX6_in_18 rfl rfl rfl
  · refine hg_lload_n C dX6_in_6 rfl 0 rfl ?_
    refine hg_lload C dX6_in_7 2 rfl ?_
    refine hg_lcmp C dX6_in_9 ?_
    refine hg_if_gt C (tgt := 17) dX6_in_10 (by decide) (fun c2 => ?_) (fun c2 => ?_)
    · refine hg_iconst C (v := 0) dX6_in_17 (by decide) ?_
      have e9 : (fX6_in a b q) = 0 := (hid_eq _).trans ((if_neg c1).trans ((if_pos c2).trans rfl))
      rw [e9]
      exact hg_zret C dX6_in_18 rfl rfl rfl
    · refine hg_iconst C (v := 1) dX6_in_13 (by decide) ?_
      refine hg_goto C (tgt := 18) dX6_in_14 (by decide) ?_
      have e9 : (fX6_in a b q) = 1 := (hid_eq _).trans ((if_neg c1).trans ((if_neg c2).trans rfl))
      rw [e9]
      exact hg_zret C dX6_in_18 rfl rfl rfl
theorem bbX6_in (a : Int64) (b : Int64) (q : Int64) : (fX6_in a b q) = 0 ∨ (fX6_in a b q) = 1 := by
  unfold fX6_in
  rw [hid_eq]
  (repeat' split) <;> first | exact Or.inl rfl | exact Or.inr rfl
abbrev rmX6_has : Room := { frames := 0, cells := 0, slots := 0, locals := 0 }
theorem hfX6_has : hCF yX6_has wsX6_has rmX6_has cX6_has 2 (some .boolean) 2 := ⟨⟨_, rfl⟩, by decide +kernel, rfl, rfl⟩
noncomputable def fX6_has (a : Int32) (b : Int32) : Int32 := hid (if ((a >>> (b &&& 31)) &&& 1) = 1 then 1 else 0)
set_option maxHeartbeats 4000000 in
set_option maxRecDepth 100000 in
theorem kX6_has (l : Launch) (E : hE) (a : Int32) (b : Int32) : hC l yX6_has wsX6_has rmX6_has E [.int a, .int b] [] (some (.int (fX6_has a b))) [] := by
  refine hC_intro (cc := cX6_has) (maxL := 2) (ret := (some .boolean)) (lv0 := [(0, .int a), (1, .int b)]) (by decide) rfl (Nat.le_of_ble_eq_true rfl) rfl ?_
  intro p e s m below meth c A C
  refine hg_iload_n C dX6_has_0 rfl 0 rfl ?_
  refine hg_iload_n C dX6_has_1 rfl 1 rfl ?_
  refine hg_ishr C dX6_has_2 ?_
  refine hg_iconst C (v := 1) dX6_has_3 (by decide) ?_
  refine hg_iand C dX6_has_4 ?_
  refine hg_iconst C (v := 1) dX6_has_5 (by decide) ?_
  refine hg_icmp_ne C (tgt := 13) dX6_has_6 (by decide) (fun c1 => ?_) (fun c1 => ?_)
  · refine hg_iconst C (v := 0) dX6_has_13 (by decide) ?_
    have e9 : (fX6_has a b) = 0 := (hid_eq _).trans ((if_neg c1).trans rfl)
    rw [e9]
    exact hg_zret C dX6_has_14 rfl rfl rfl
  · refine hg_iconst C (v := 1) dX6_has_9 (by decide) ?_
    refine hg_goto C (tgt := 14) dX6_has_10 (by decide) ?_
    have e9 : (fX6_has a b) = 1 := (hid_eq _).trans ((if_pos c1).trans rfl)
    rw [e9]
    exact hg_zret C dX6_has_14 rfl rfl rfl
theorem bbX6_has (a : Int32) (b : Int32) : (fX6_has a b) = 0 ∨ (fX6_has a b) = 1 := by
  unfold fX6_has
  rw [hid_eq]
  (repeat' split) <;> first | exact Or.inl rfl | exact Or.inr rfl
abbrev rmX6_many : Room := { frames := 0, cells := 0, slots := 0, locals := 0 }
theorem hfX6_many : hCF yX6_many wsX6_many rmX6_many cX6_many 3 (some .int) 1 := ⟨⟨_, rfl⟩, by decide +kernel, rfl, rfl⟩
noncomputable def stX6_many_4 (a : Int32) (i : Nat) (σ : Int32) : Int32 := hid (σ + ((a >>> ((nI i) &&& 31)) &&& 1))
set_option maxHeartbeats 4000000 in
set_option maxRecDepth 100000 in
theorem lpX6_many_4 {p : Program} {l : Launch} {e : Env} {s : State} {m : MethodId} {args : Array Value} {below : List Frame} {meth : Method} {c : Code} {E : hE} {A : Nat → Prop} {Q : State → Prop} (C : hX p s m args meth c E A cX6_many 3 RX6 wsX6_many (some .int)) (a : Int32) (σ0 : Int32) (k : hG p l e rmX6_many s m args below meth c E A 3 Q 0 0 24 [(1, .int (itN (stX6_many_4 a) 6 σ0))] [] []) : ∀ (n i : Nat) (σ : Int32), i + n = 6 → σ = itN (stX6_many_4 a) i σ0 → hG p l e rmX6_many s m args below meth c E A 3 Q 0 0 4 [(0, .int a), (1, .int σ), (2, .int (nI i))] [] [] := by
  intro n
  induction n with
  | zero =>
    intro i σ hi hσ
    have hi : i = 6 := by omega
    rw [hi] at hσ
    rw [hi]
    subst hσ
    refine hg_iload_n C dX6_many_4 rfl 2 rfl ?_
    refine hg_bipush C (v := 6) dX6_many_5 (by decide) ?_
    refine hg_icmp_ge C (tgt := 24) dX6_many_7 (by decide) (fun _ => ?_) (fun h => absurd (by decide) h)
    exact hg_sub [1] rfl k
  | succ n ih =>
    intro i σ hi hσ
    have hlt : i < 6 := by omega
    refine hg_iload_n C dX6_many_4 rfl 2 rfl ?_
    refine hg_bipush C (v := 6) dX6_many_5 (by decide) ?_
    refine hg_icmp_ge C (tgt := 24) dX6_many_7 (by decide) (fun h => absurd h (nI_ge hlt (by decide))) (fun _ => ?_)
    refine hg_iload_n C dX6_many_10 rfl 1 rfl ?_
    refine hg_iload_n C dX6_many_11 rfl 0 rfl ?_
    refine hg_iload_n C dX6_many_12 rfl 2 rfl ?_
    refine hg_ishr C dX6_many_13 ?_
    refine hg_iconst C (v := 1) dX6_many_14 (by decide) ?_
    refine hg_iand C dX6_many_15 ?_
    refine hg_iadd C dX6_many_16 ?_
    refine hg_istore_n C (lv' := [(1, .int (σ + ((a >>> ((nI i) &&& 31)) &&& 1))), (0, .int a), (2, .int (nI i))]) dX6_many_17 rfl (by decide) rfl ?_
    refine hg_iinc C (v := nI (i + 1)) (lv' := [(2, .int (nI (i + 1))), (1, .int (σ + ((a >>> ((nI i) &&& 31)) &&& 1))), (0, .int a)]) dX6_many_18 2 rfl (nI_inc _) (by decide) rfl ?_
    refine hg_goto C (tgt := 4) dX6_many_21 (by decide) ?_
    have e9 : (stX6_many_4 a) i σ = σ + ((a >>> ((nI i) &&& 31)) &&& 1) := hid_eq _
    have h9 := ih (i + 1) (σ + ((a >>> ((nI i) &&& 31)) &&& 1)) (by omega) (e9.symm.trans (congrArg ((stX6_many_4 a) i) hσ))
    exact hg_sub [2, 1, 0] rfl h9
noncomputable def fX6_many (a : Int32) : Int32 := hid ((itN (stX6_many_4 a) 6 0))
set_option maxHeartbeats 4000000 in
set_option maxRecDepth 100000 in
theorem kX6_many (l : Launch) (E : hE) (a : Int32) : hC l yX6_many wsX6_many rmX6_many E [.int a] [] (some (.int (fX6_many a))) [] := by
  refine hC_intro (cc := cX6_many) (maxL := 3) (ret := (some .int)) (lv0 := [(0, .int a)]) (by decide) rfl (Nat.le_of_ble_eq_true rfl) rfl ?_
  intro p e s m below meth c A C
  refine hg_iconst C (v := 0) dX6_many_0 (by decide) ?_
  refine hg_istore_n C (lv' := [(1, .int 0), (0, .int a)]) dX6_many_1 rfl (by decide) rfl ?_
  refine hg_iconst C (v := 0) dX6_many_2 (by decide) ?_
  refine hg_istore_n C (lv' := [(2, .int 0), (1, .int 0), (0, .int a)]) dX6_many_3 rfl (by decide) rfl ?_
  refine hg_sub [2, 1, 0] rfl ?_
  refine lpX6_many_4 C a 0 ?_ 6 0 0 (by omega) rfl
  refine hg_iload_n C dX6_many_24 rfl 0 rfl ?_
  have e9 : (fX6_many a) = (itN (stX6_many_4 a) 6 0) := hid_eq _
  rw [e9]
  exact hg_iret C dX6_many_25 rfl rfl
abbrev rmX6_mostOf : Room := { frames := 0, cells := 0, slots := 0, locals := 0 }
theorem hfX6_mostOf : hCF yX6_mostOf wsX6_mostOf rmX6_mostOf cX6_mostOf 1 (some .int) 1 := ⟨⟨_, rfl⟩, by decide +kernel, rfl, rfl⟩
noncomputable def fX6_mostOf (a : Int32) : Int32 := hid (if a = 0 then (3 : Int32) else (if a = 3 then (3 : Int32) else (if a = 4 then (2 : Int32) else (if a = 5 then (5 : Int32) else (9 : Int32)))))
set_option maxHeartbeats 4000000 in
set_option maxRecDepth 100000 in
theorem kX6_mostOf (l : Launch) (E : hE) (a : Int32) : hC l yX6_mostOf wsX6_mostOf rmX6_mostOf E [.int a] [] (some (.int (fX6_mostOf a))) [] := by
  refine hC_intro (cc := cX6_mostOf) (maxL := 1) (ret := (some .int)) (lv0 := [(0, .int a)]) (by decide) rfl (Nat.le_of_ble_eq_true rfl) rfl ?_
  intro p e s m below meth c A C
  refine hg_iload_n C dX6_mostOf_0 rfl 0 rfl ?_
  refine hg_join (J := 33) (v := if a = 0 then (3 : Int32) else (if a = 3 then (3 : Int32) else (if a = 4 then (2 : Int32) else (if a = 5 then (5 : Int32) else (9 : Int32))))) (st1 := []) (fun jj => ?_) ?_
  · refine hg_if_eq C (tgt := 9) dX6_mostOf_1 (by decide) (fun c1 => ?_) (fun c1 => ?_)
    · refine hg_iconst C (v := 3) dX6_mostOf_9 (by decide) ?_
      refine hg_goto C (tgt := 33) dX6_mostOf_10 (by decide) ?_
      exact hg_top (v := if a = 0 then (3 : Int32) else (if a = 3 then (3 : Int32) else (if a = 4 then (2 : Int32) else (if a = 5 then (5 : Int32) else (9 : Int32))))) (v' := 3) ((if_pos c1).trans rfl) jj
    · refine hg_iload_n C dX6_mostOf_4 rfl 0 rfl ?_
      refine hg_iconst C (v := 3) dX6_mostOf_5 (by decide) ?_
      refine hg_join (J := 33) (v := if a = 3 then (3 : Int32) else (if a = 4 then (2 : Int32) else (if a = 5 then (5 : Int32) else (9 : Int32)))) (st1 := []) (fun jj => ?_) ?_
      · refine hg_icmp_ne C (tgt := 13) dX6_mostOf_6 (by decide) (fun c2 => ?_) (fun c2 => ?_)
        · refine hg_iload_n C dX6_mostOf_13 rfl 0 rfl ?_
          refine hg_iconst C (v := 4) dX6_mostOf_14 (by decide) ?_
          refine hg_join (J := 33) (v := if a = 4 then (2 : Int32) else (if a = 5 then (5 : Int32) else (9 : Int32))) (st1 := []) (fun jj => ?_) ?_
          · refine hg_icmp_ne C (tgt := 22) dX6_mostOf_15 (by decide) (fun c3 => ?_) (fun c3 => ?_)
            · refine hg_iload_n C dX6_mostOf_22 rfl 0 rfl ?_
              refine hg_iconst C (v := 5) dX6_mostOf_23 (by decide) ?_
              refine hg_join (J := 33) (v := if a = 5 then (5 : Int32) else (9 : Int32)) (st1 := []) (fun jj => ?_) ?_
              · refine hg_icmp_ne C (tgt := 31) dX6_mostOf_24 (by decide) (fun c4 => ?_) (fun c4 => ?_)
                · refine hg_bipush C (v := 9) dX6_mostOf_31 (by decide) ?_
                  exact hg_top (v := if a = 5 then (5 : Int32) else (9 : Int32)) (v' := 9) ((if_neg c4).trans rfl) jj
                · refine hg_iconst C (v := 5) dX6_mostOf_27 (by decide) ?_
                  refine hg_goto C (tgt := 33) dX6_mostOf_28 (by decide) ?_
                  exact hg_top (v := if a = 5 then (5 : Int32) else (9 : Int32)) (v' := 5) ((if_pos c4).trans rfl) jj
              exact hg_top (v := if a = 4 then (2 : Int32) else (if a = 5 then (5 : Int32) else (9 : Int32))) (v' := if a = 5 then (5 : Int32) else (9 : Int32)) ((if_neg c3).trans rfl) jj
            · refine hg_iconst C (v := 2) dX6_mostOf_18 (by decide) ?_
              refine hg_goto C (tgt := 33) dX6_mostOf_19 (by decide) ?_
              exact hg_top (v := if a = 4 then (2 : Int32) else (if a = 5 then (5 : Int32) else (9 : Int32))) (v' := 2) ((if_pos c3).trans rfl) jj
          exact hg_top (v := if a = 3 then (3 : Int32) else (if a = 4 then (2 : Int32) else (if a = 5 then (5 : Int32) else (9 : Int32)))) (v' := if a = 4 then (2 : Int32) else (if a = 5 then (5 : Int32) else (9 : Int32))) ((if_neg c2).trans rfl) jj
        · refine hg_iconst C (v := 3) dX6_mostOf_9 (by decide) ?_
          refine hg_goto C (tgt := 33) dX6_mostOf_10 (by decide) ?_
          exact hg_top (v := if a = 3 then (3 : Int32) else (if a = 4 then (2 : Int32) else (if a = 5 then (5 : Int32) else (9 : Int32)))) (v' := 3) ((if_pos c2).trans rfl) jj
      exact hg_top (v := if a = 0 then (3 : Int32) else (if a = 3 then (3 : Int32) else (if a = 4 then (2 : Int32) else (if a = 5 then (5 : Int32) else (9 : Int32))))) (v' := if a = 3 then (3 : Int32) else (if a = 4 then (2 : Int32) else (if a = 5 then (5 : Int32) else (9 : Int32)))) ((if_neg c1).trans rfl) jj
  have e9 : (fX6_mostOf a) = if a = 0 then (3 : Int32) else (if a = 3 then (3 : Int32) else (if a = 4 then (2 : Int32) else (if a = 5 then (5 : Int32) else (9 : Int32)))) := hid_eq _
  rw [e9]
  exact hg_iret C dX6_mostOf_33 rfl rfl
abbrev rmX6_power : Room := { frames := 0, cells := 0, slots := 0, locals := 0 }
theorem hfX6_power : hCF yX6_power wsX6_power rmX6_power cX6_power 4 (some .int) 2 := ⟨⟨_, rfl⟩, by decide +kernel, rfl, rfl⟩
noncomputable def stX6_power_4 (a : Int32) (i : Nat) (σ : Int32) : Int32 := hid (σ * a)
set_option maxHeartbeats 4000000 in
set_option maxRecDepth 100000 in
theorem lpX6_power_4 {p : Program} {l : Launch} {e : Env} {s : State} {m : MethodId} {args : Array Value} {below : List Frame} {meth : Method} {c : Code} {E : hE} {A : Nat → Prop} {Q : State → Prop} (C : hX p s m args meth c E A cX6_power 4 RX6 wsX6_power (some .int)) (a : Int32) (b : Int32) (σ0 : Int32) (k : hG p l e rmX6_power s m args below meth c E A 4 Q 0 0 19 [(2, .int (itN (stX6_power_4 a) b.toNatClampNeg σ0))] [] []) : ∀ (n i : Nat) (σ : Int32), i + n = b.toNatClampNeg → σ = itN (stX6_power_4 a) i σ0 → hG p l e rmX6_power s m args below meth c E A 4 Q 0 0 4 [(0, .int a), (1, .int b), (2, .int σ), (3, .int (nI i))] [] [] := by
  intro n
  induction n with
  | zero =>
    intro i σ hi hσ
    have hi : i = b.toNatClampNeg := by omega
    rw [hi] at hσ
    rw [hi]
    subst hσ
    refine hg_iload_n C dX6_power_4 rfl 3 rfl ?_
    refine hg_iload_n C dX6_power_5 rfl 1 rfl ?_
    refine hg_icmp_ge C (tgt := 19) dX6_power_6 (by decide) (fun _ => ?_) (fun h => absurd (cl_done _) h)
    exact hg_sub [2] rfl k
  | succ n ih =>
    intro i σ hi hσ
    have hlt : i < b.toNatClampNeg := by omega
    refine hg_iload_n C dX6_power_4 rfl 3 rfl ?_
    refine hg_iload_n C dX6_power_5 rfl 1 rfl ?_
    refine hg_icmp_ge C (tgt := 19) dX6_power_6 (by decide) (fun h => absurd h (cl_cont hlt)) (fun _ => ?_)
    refine hg_iload_n C dX6_power_9 rfl 2 rfl ?_
    refine hg_iload_n C dX6_power_10 rfl 0 rfl ?_
    refine hg_imul C dX6_power_11 ?_
    refine hg_istore_n C (lv' := [(2, .int (σ * a)), (0, .int a), (1, .int b), (3, .int (nI i))]) dX6_power_12 rfl (by decide) rfl ?_
    refine hg_iinc C (v := nI (i + 1)) (lv' := [(3, .int (nI (i + 1))), (2, .int (σ * a)), (0, .int a), (1, .int b)]) dX6_power_13 3 rfl (nI_inc _) (by decide) rfl ?_
    refine hg_goto C (tgt := 4) dX6_power_16 (by decide) ?_
    have e9 : (stX6_power_4 a) i σ = σ * a := hid_eq _
    have h9 := ih (i + 1) (σ * a) (by omega) (e9.symm.trans (congrArg ((stX6_power_4 a) i) hσ))
    exact hg_sub [2, 3, 1, 0] rfl h9
noncomputable def fX6_power (a : Int32) (b : Int32) : Int32 := hid ((itN (stX6_power_4 a) b.toNatClampNeg 1))
set_option maxHeartbeats 4000000 in
set_option maxRecDepth 100000 in
theorem kX6_power (l : Launch) (E : hE) (a : Int32) (b : Int32) : hC l yX6_power wsX6_power rmX6_power E [.int a, .int b] [] (some (.int (fX6_power a b))) [] := by
  refine hC_intro (cc := cX6_power) (maxL := 4) (ret := (some .int)) (lv0 := [(0, .int a), (1, .int b)]) (by decide) rfl (Nat.le_of_ble_eq_true rfl) rfl ?_
  intro p e s m below meth c A C
  refine hg_iconst C (v := 1) dX6_power_0 (by decide) ?_
  refine hg_istore_n C (lv' := [(2, .int 1), (0, .int a), (1, .int b)]) dX6_power_1 rfl (by decide) rfl ?_
  refine hg_iconst C (v := 0) dX6_power_2 (by decide) ?_
  refine hg_istore_n C (lv' := [(3, .int 0), (2, .int 1), (0, .int a), (1, .int b)]) dX6_power_3 rfl (by decide) rfl ?_
  refine hg_sub [2, 3, 1, 0] rfl ?_
  refine lpX6_power_4 C a b 1 ?_ b.toNatClampNeg 0 1 (by omega) rfl
  refine hg_iload_n C dX6_power_19 rfl 0 rfl ?_
  have e9 : (fX6_power a b) = (itN (stX6_power_4 a) b.toNatClampNeg 1) := hid_eq _
  rw [e9]
  exact hg_iret C dX6_power_20 rfl rfl
abbrev rmX6_worth : Room := { frames := 0, cells := 0, slots := 0, locals := 0 }
theorem hfX6_worth : hCF yX6_worth wsX6_worth rmX6_worth cX6_worth 3 (some .int) 3 := ⟨⟨_, rfl⟩, by decide +kernel, rfl, rfl⟩
noncomputable def fX6_worth (a : Int32) (b : Int32) (q : Int32) : Int32 := hid ((if a ≤ b then (if a = b then q else (0 : Int32)) else (2 * q)) - (a * a))
set_option maxHeartbeats 4000000 in
set_option maxRecDepth 100000 in
theorem kX6_worth (l : Launch) (E : hE) (a : Int32) (b : Int32) (q : Int32) : hC l yX6_worth wsX6_worth rmX6_worth E [.int a, .int b, .int q] [] (some (.int (fX6_worth a b q))) [] := by
  refine hC_intro (cc := cX6_worth) (maxL := 3) (ret := (some .int)) (lv0 := [(0, .int a), (1, .int b), (2, .int q)]) (by decide) rfl (Nat.le_of_ble_eq_true rfl) rfl ?_
  intro p e s m below meth c A C
  refine hg_iload_n C dX6_worth_0 rfl 0 rfl ?_
  refine hg_iload_n C dX6_worth_1 rfl 1 rfl ?_
  refine hg_join (J := 21) (v := if a ≤ b then (if a = b then q else (0 : Int32)) else (2 * q)) (st1 := []) (fun jj => ?_) ?_
  · refine hg_icmp_le C (tgt := 11) dX6_worth_2 (by decide) (fun c1 => ?_) (fun c1 => ?_)
    · refine hg_iload_n C dX6_worth_11 rfl 0 rfl ?_
      refine hg_iload_n C dX6_worth_12 rfl 1 rfl ?_
      refine hg_join (J := 21) (v := if a = b then q else (0 : Int32)) (st1 := []) (fun jj => ?_) ?_
      · refine hg_icmp_ne C (tgt := 20) dX6_worth_13 (by decide) (fun c2 => ?_) (fun c2 => ?_)
        · refine hg_iconst C (v := 0) dX6_worth_20 (by decide) ?_
          exact hg_top (v := if a = b then q else (0 : Int32)) (v' := 0) ((if_neg c2).trans rfl) jj
        · refine hg_iload_n C dX6_worth_16 rfl 2 rfl ?_
          refine hg_goto C (tgt := 21) dX6_worth_17 (by decide) ?_
          exact hg_top (v := if a = b then q else (0 : Int32)) (v' := q) ((if_pos c2).trans rfl) jj
      exact hg_top (v := if a ≤ b then (if a = b then q else (0 : Int32)) else (2 * q)) (v' := if a = b then q else (0 : Int32)) ((if_pos c1).trans rfl) jj
    · refine hg_iconst C (v := 2) dX6_worth_5 (by decide) ?_
      refine hg_iload_n C dX6_worth_6 rfl 2 rfl ?_
      refine hg_imul C dX6_worth_7 ?_
      refine hg_goto C (tgt := 21) dX6_worth_8 (by decide) ?_
      exact hg_top (v := if a ≤ b then (if a = b then q else (0 : Int32)) else (2 * q)) (v' := 2 * q) ((if_neg c1).trans rfl) jj
  refine hg_iload_n C dX6_worth_21 rfl 0 rfl ?_
  refine hg_iload_n C dX6_worth_22 rfl 0 rfl ?_
  refine hg_imul C dX6_worth_23 ?_
  refine hg_isub C dX6_worth_24 ?_
  have e9 : (fX6_worth a b q) = (if a ≤ b then (if a = b then q else (0 : Int32)) else (2 * q)) - (a * a) := hid_eq _
  rw [e9]
  exact hg_iret C dX6_worth_25 rfl rfl
abbrev rmX6_divisor : Room := { frames := 0, cells := 0, slots := 0, locals := 0 }
theorem hfX6_divisor : hCF yX6_divisor wsX6_divisor rmX6_divisor cX6_divisor 5 (some .int) 2 := ⟨⟨_, rfl⟩, by decide +kernel, rfl, rfl⟩
noncomputable def frX6_divisor_4  : Nat → Nat → (Int32 × Int32) → Int32
  | 0, _, σ => 0
  | n + 1, i, σ => hid (if σ.2 = 0 then σ.1 else frX6_divisor_4 n (i + 1) (σ.2, σ.1 - σ.1 / σ.2 * σ.2))
set_option maxHeartbeats 4000000 in
set_option maxRecDepth 100000 in
theorem lpX6_divisor_4 {p : Program} {l : Launch} {e : Env} {s : State} {m : MethodId} {args : Array Value} {below : List Frame} {meth : Method} {c : Code} {E : hE} {A : Nat → Prop} (C : hX p s m args meth c E A cX6_divisor 5 RX6 wsX6_divisor (some .int)) (a : Int32) (b : Int32) (ha : ¬ a < 0) (hb : ¬ b < 0) : ∀ (n i : Nat) (σ : Int32 × Int32), i + n = b.toNatClampNeg + 1 → i ≤ b.toNatClampNeg → dvI b.toNatClampNeg i σ.1 σ.2 → hG p l e rmX6_divisor s m args below meth c E A 5 (hQ E A below args s (some (.int (frX6_divisor_4 n i σ))) []) 0 0 4 [(2, .int σ.1), (3, .int σ.2)] [] [] := by
  intro n
  induction n with
  | zero =>
    intro i σ hi hiN hv
    exact absurd hi (by omega)
  | succ n ih =>
    intro i σ hi hiN hv
    refine hg_iload_n C dX6_divisor_4 rfl 1 rfl ?_
    refine hg_if_eq C (tgt := 21) dX6_divisor_5 (by decide) (fun c2 => ?_) (fun c2 => ?_)
    · refine hg_iload_n C dX6_divisor_21 rfl 0 rfl ?_
      have e9 : frX6_divisor_4 (n + 1) i σ = σ.1 := (hid_eq _).trans ((if_pos c2).trans rfl)
      rw [e9]
      exact hg_iret C dX6_divisor_22 rfl rfl
    · refine hg_iload_n C dX6_divisor_8 rfl 0 rfl ?_
      refine hg_iload_n C dX6_divisor_9 rfl 1 rfl ?_
      refine hg_irem C dX6_divisor_10 (by assumption) ?_
      refine hg_istore C (lv' := [(4, .int (σ.1 - σ.1 / σ.2 * σ.2)), (2, .int σ.1), (3, .int σ.2)]) dX6_divisor_11 (by decide) rfl ?_
      refine hg_iload_n C dX6_divisor_13 rfl 2 rfl ?_
      refine hg_istore_n C (lv' := [(2, .int σ.2), (4, .int (σ.1 - σ.1 / σ.2 * σ.2)), (3, .int σ.2)]) dX6_divisor_14 rfl (by decide) rfl ?_
      refine hg_iload C dX6_divisor_15 1 rfl ?_
      refine hg_istore_n C (lv' := [(3, .int (σ.1 - σ.1 / σ.2 * σ.2)), (2, .int σ.2), (4, .int (σ.1 - σ.1 / σ.2 * σ.2))]) dX6_divisor_17 rfl (by decide) rfl ?_
      refine hg_goto C (tgt := 4) dX6_divisor_18 (by decide) ?_
      have hlt : i < b.toNatClampNeg := (dv_lt hv (by assumption))
      have e9 : frX6_divisor_4 (n + 1) i σ = frX6_divisor_4 n (i + 1) (σ.2, σ.1 - σ.1 / σ.2 * σ.2) := (hid_eq _).trans ((if_neg c2).trans rfl)
      rw [e9]
      exact hg_sub [1, 0] rfl (ih (i + 1) (σ.2, σ.1 - σ.1 / σ.2 * σ.2) (by omega) (by omega) (dv_s hv (by assumption)))
noncomputable def fX6_divisor (a : Int32) (b : Int32) : Int32 := hid (frX6_divisor_4 (b.toNatClampNeg + 1) 0 (a, b))
set_option maxHeartbeats 4000000 in
set_option maxRecDepth 100000 in
theorem kX6_divisor (l : Launch) (E : hE) (a : Int32) (b : Int32) (ha : ¬ a < 0) (hb : ¬ b < 0) : hC l yX6_divisor wsX6_divisor rmX6_divisor E [.int a, .int b] [] (some (.int (fX6_divisor a b))) [] := by
  refine hC_intro (cc := cX6_divisor) (maxL := 5) (ret := (some .int)) (lv0 := [(0, .int a), (1, .int b)]) (by decide) rfl (Nat.le_of_ble_eq_true rfl) rfl ?_
  intro p e s m below meth c A C
  refine hg_iload_n C dX6_divisor_0 rfl 0 rfl ?_
  refine hg_istore_n C (lv' := [(2, .int a), (0, .int a), (1, .int b)]) dX6_divisor_1 rfl (by decide) rfl ?_
  refine hg_iload_n C dX6_divisor_2 rfl 2 rfl ?_
  refine hg_istore_n C (lv' := [(3, .int b), (2, .int a), (0, .int a), (1, .int b)]) dX6_divisor_3 rfl (by decide) rfl ?_
  have e9 : (fX6_divisor a b) = frX6_divisor_4 (b.toNatClampNeg + 1) 0 (a, b) := hid_eq _
  rw [e9]
  refine hg_sub [1, 0] rfl ?_
  exact lpX6_divisor_4 C a b ha hb (b.toNatClampNeg + 1) 0 (a, b) (by omega) (by omega) (dv_0 ha hb)
abbrev rmX6_giftOf : Room := { frames := 0, cells := 0, slots := 0, locals := 0 }
theorem hfX6_giftOf : hCF yX6_giftOf wsX6_giftOf rmX6_giftOf cX6_giftOf 3 (some .int) 2 := ⟨⟨_, rfl⟩, by decide +kernel, rfl, rfl⟩
noncomputable def fX6_giftOf (pg : Nat → Int32) (a : Int32) : Int32 := hid (if ((pg a.toNatClampNeg) / 2) ≤ ((pg (16 : Int32).toNatClampNeg) + 1) then ((pg a.toNatClampNeg) / 2) else ((pg (16 : Int32).toNatClampNeg) + 1))
set_option maxHeartbeats 4000000 in
set_option maxRecDepth 100000 in
theorem kX6_giftOf (l : Launch) (E : hE) (pp : Nat) (pg : Nat → Int32) (a : Int32) (hw : vp_in a 21) : hC l yX6_giftOf wsX6_giftOf rmX6_giftOf E [.ref pp, .int a] [(pp, .inl (E.2.1.1, 21, .inl pg))] (some (.int (fX6_giftOf pg a))) [(pp, .inl (E.2.1.1, 21, .inl pg))] := by
  refine hC_intro (cc := cX6_giftOf) (maxL := 3) (ret := (some .int)) (lv0 := [(0, .ref pp), (1, .int a)]) (by decide) rfl (Nat.le_of_ble_eq_true rfl) rfl ?_
  intro p e s m below meth c A C
  refine hg_aload_n C dX6_giftOf_0 rfl 0 rfl ?_
  refine hg_iload_n C dX6_giftOf_1 rfl 1 rfl ?_
  refine hg_iald C 0 rfl hw dX6_giftOf_2 ?_
  refine hg_iconst C (v := 2) dX6_giftOf_3 (by decide) ?_
  refine hg_idiv C dX6_giftOf_4 (by decide) ?_
  refine hg_istore_n C (lv' := [(2, .int ((pg a.toNatClampNeg) / 2)), (0, .ref pp), (1, .int a)]) dX6_giftOf_5 rfl (by decide) rfl ?_
  refine hg_iload_n C dX6_giftOf_6 rfl 0 rfl ?_
  refine hg_aload_n C dX6_giftOf_7 rfl 1 rfl ?_
  refine hg_bipush C (v := 16) dX6_giftOf_8 (by decide) ?_
  refine hg_iald C 0 rfl (by unfold vp_in; decide) dX6_giftOf_10 ?_
  refine hg_iconst C (v := 1) dX6_giftOf_11 (by decide) ?_
  refine hg_iadd C dX6_giftOf_12 ?_
  refine hg_join (J := 26) (v := if ((pg a.toNatClampNeg) / 2) ≤ ((pg (16 : Int32).toNatClampNeg) + 1) then ((pg a.toNatClampNeg) / 2) else ((pg (16 : Int32).toNatClampNeg) + 1)) (st1 := []) (fun jj => ?_) ?_
  · refine hg_icmp_le C (tgt := 25) dX6_giftOf_13 (by decide) (fun c1 => ?_) (fun c1 => ?_)
    · refine hg_iload_n C dX6_giftOf_25 rfl 0 rfl ?_
      exact hg_top (v := if ((pg a.toNatClampNeg) / 2) ≤ ((pg (16 : Int32).toNatClampNeg) + 1) then ((pg a.toNatClampNeg) / 2) else ((pg (16 : Int32).toNatClampNeg) + 1)) (v' := (pg a.toNatClampNeg) / 2) ((if_pos c1).trans rfl) jj
    · refine hg_aload_n C dX6_giftOf_16 rfl 1 rfl ?_
      refine hg_bipush C (v := 16) dX6_giftOf_17 (by decide) ?_
      refine hg_iald C 0 rfl (by unfold vp_in; decide) dX6_giftOf_19 ?_
      refine hg_iconst C (v := 1) dX6_giftOf_20 (by decide) ?_
      refine hg_iadd C dX6_giftOf_21 ?_
      refine hg_goto C (tgt := 26) dX6_giftOf_22 (by decide) ?_
      exact hg_top (v := if ((pg a.toNatClampNeg) / 2) ≤ ((pg (16 : Int32).toNatClampNeg) + 1) then ((pg a.toNatClampNeg) / 2) else ((pg (16 : Int32).toNatClampNeg) + 1)) (v' := (pg (16 : Int32).toNatClampNeg) + 1) ((if_neg c1).trans rfl) jj
  have e9 : (fX6_giftOf pg a) = if ((pg a.toNatClampNeg) / 2) ≤ ((pg (16 : Int32).toNatClampNeg) + 1) then ((pg a.toNatClampNeg) / 2) else ((pg (16 : Int32).toNatClampNeg) + 1) := hid_eq _
  rw [e9]
  exact hg_iret C dX6_giftOf_26 rfl rfl
theorem mmX6_noOne_f51 : (Cond.fieldLink RX6 51 "HatRoundModel" "people" "I") ∈ wsX6_noOne := (List.mem_cons_of_mem _ (List.mem_append_left _ (List.mem_of_getElem? (i := 0) rfl)))
theorem mrX6_noOne_6 : ∀ w ∈ u_ws RX6 TX6 23, w ∈ wsX6_noOne := fun _ h => (List.mem_cons_of_mem _ (List.mem_append_right _ h))
abbrev rmX6_noOne : Room := { frames := 1, cells := 0, slots := 0, locals := 25 }
theorem hfX6_noOne : hCF yX6_noOne wsX6_noOne rmX6_noOne cX6_noOne 2 (some .boolean) 1 := ⟨⟨_, rfl⟩, by decide +kernel, rfl, rfl⟩
noncomputable def fX6_noOne (pe : Int32) (a : Int32) : Int32 := hid (if (fX6_in a.toInt64 0 ((pe - 1).toInt64)) = 0 then 1 else 0)
set_option maxHeartbeats 4000000 in
set_option maxRecDepth 100000 in
theorem kX6_noOne (l : Launch) (E : hE) (mm : Nat) (m1 : Nat) (m6 : Nat) (m7 : Nat) (ma : Nat) (mb : Nat) (mc : Nat) (md : Nat) (me : Nat) (mg : Nat) (mh : Nat) (mj : Nat) (mk : Nat) (ts : Int32) (pc : Int32) (pe : Int32) (tu : Int32) (rp : Int32) (rt : Int32) (ac : Int32) (sn : Int32) (sd : Int64) (sl : Int32) (a : Int32) : hC l yX6_noOne wsX6_noOne rmX6_noOne E [.ref mm, .int a] [(mm, .inr (6, [.int 0, .ref m1, .int ts, .int pc, .int pe, .int tu, .ref m6, .ref m7, .int rp, .int rt, .ref ma, .ref mb, .ref mc, .ref md, .ref me, .int ac, .ref mg, .ref mh, .int sn, .ref mj, .ref mk, .long sd, .int sl]))] (some (.int (fX6_noOne pe a))) [(mm, .inr (6, [.int 0, .ref m1, .int ts, .int pc, .int pe, .int tu, .ref m6, .ref m7, .int rp, .int rt, .ref ma, .ref mb, .ref mc, .ref md, .ref me, .int ac, .ref mg, .ref mh, .int sn, .ref mj, .ref mk, .long sd, .int sl]))] := by
  refine hC_intro (cc := cX6_noOne) (maxL := 2) (ret := (some .boolean)) (lv0 := [(0, .ref mm), (1, .int a)]) (by decide) rfl (Nat.le_of_ble_eq_true rfl) rfl ?_
  intro p e s m below meth c A C
  refine hg_iload_n C dX6_noOne_0 rfl 1 rfl ?_
  refine hg_i2l C dX6_noOne_1 ?_
  refine hg_lconst C (v := 0) dX6_noOne_2 rfl ?_
  refine hg_aload_n C dX6_noOne_3 rfl 0 rfl ?_
  refine hg_get C (Cn := RX6) (T := TX6) (N := 23) (v := .int pe) mrX6_noOne_6 0 rfl rfl 4 (by decide) mmX6_noOne_f51 rfl dX6_noOne_4 ?_
  refine hg_iconst C (v := 1) dX6_noOne_7 (by decide) ?_
  refine hg_isub C dX6_noOne_8 ?_
  refine hg_i2l C dX6_noOne_9 ?_
  refine hg_callS C (ws' := [(mm, .inr (6, [.int 0, .ref m1, .int ts, .int pc, .int pe, .int tu, .ref m6, .ref m7, .int rp, .int rt, .ref ma, .ref mb, .ref mc, .ref md, .ref me, .int ac, .ref mg, .ref mh, .int sn, .ref mj, .ref mk, .long sd, .int sl]))]) (rest := []) (kX6_in l E a.toInt64 0 ((pe - 1).toInt64)) hfX6_in gX6_noOne_X6_in ⟨Nat.le_of_ble_eq_true rfl, Nat.le_of_ble_eq_true rfl⟩ ⟨Nat.zero_le _, Nat.zero_le _⟩ [] rfl (by decide) [] rfl rfl rfl rfl (Nat.le_of_ble_eq_true rfl) dX6_noOne_10 ?_
  refine hg_if_ne C (tgt := 20) dX6_noOne_13 (by decide) (fun c1 => ?_) (fun c1 => ?_)
  · refine hg_iconst C (v := 0) dX6_noOne_20 (by decide) ?_
    have e9 : (fX6_noOne pe a) = 0 := (hid_eq _).trans ((if_neg c1).trans rfl)
    rw [e9]
    exact hg_zret C dX6_noOne_21 rfl rfl rfl
  · refine hg_iconst C (v := 1) dX6_noOne_16 (by decide) ?_
    refine hg_goto C (tgt := 21) dX6_noOne_17 (by decide) ?_
    have e9 : (fX6_noOne pe a) = 1 := (hid_eq _).trans ((if_pos c1).trans rfl)
    rw [e9]
    exact hg_zret C dX6_noOne_21 rfl rfl rfl
theorem bbX6_noOne (pe : Int32) (a : Int32) : (fX6_noOne pe a) = 0 ∨ (fX6_noOne pe a) = 1 := by
  unfold fX6_noOne
  rw [hid_eq]
  (repeat' split) <;> first | exact Or.inl rfl | exact Or.inr rfl | exact bbX6_in _ _ _
theorem mmX6_noTune_f58 : (Cond.fieldLink RX6 58 "HatRoundModel" "tunes" "I") ∈ wsX6_noTune := (List.mem_cons_of_mem _ (List.mem_append_left _ (List.mem_of_getElem? (i := 0) rfl)))
theorem mrX6_noTune_6 : ∀ w ∈ u_ws RX6 TX6 23, w ∈ wsX6_noTune := fun _ h => (List.mem_cons_of_mem _ (List.mem_append_right _ h))
abbrev rmX6_noTune : Room := { frames := 1, cells := 0, slots := 0, locals := 25 }
theorem hfX6_noTune : hCF yX6_noTune wsX6_noTune rmX6_noTune cX6_noTune 2 (some .boolean) 1 := ⟨⟨_, rfl⟩, by decide +kernel, rfl, rfl⟩
noncomputable def fX6_noTune (tu : Int32) (a : Int32) : Int32 := hid (if (fX6_in a.toInt64 0 ((tu - 1).toInt64)) = 0 then 1 else 0)
set_option maxHeartbeats 4000000 in
set_option maxRecDepth 100000 in
theorem kX6_noTune (l : Launch) (E : hE) (mm : Nat) (m1 : Nat) (m6 : Nat) (m7 : Nat) (ma : Nat) (mb : Nat) (mc : Nat) (md : Nat) (me : Nat) (mg : Nat) (mh : Nat) (mj : Nat) (mk : Nat) (ts : Int32) (pc : Int32) (pe : Int32) (tu : Int32) (rp : Int32) (rt : Int32) (ac : Int32) (sn : Int32) (sd : Int64) (sl : Int32) (a : Int32) : hC l yX6_noTune wsX6_noTune rmX6_noTune E [.ref mm, .int a] [(mm, .inr (6, [.int 0, .ref m1, .int ts, .int pc, .int pe, .int tu, .ref m6, .ref m7, .int rp, .int rt, .ref ma, .ref mb, .ref mc, .ref md, .ref me, .int ac, .ref mg, .ref mh, .int sn, .ref mj, .ref mk, .long sd, .int sl]))] (some (.int (fX6_noTune tu a))) [(mm, .inr (6, [.int 0, .ref m1, .int ts, .int pc, .int pe, .int tu, .ref m6, .ref m7, .int rp, .int rt, .ref ma, .ref mb, .ref mc, .ref md, .ref me, .int ac, .ref mg, .ref mh, .int sn, .ref mj, .ref mk, .long sd, .int sl]))] := by
  refine hC_intro (cc := cX6_noTune) (maxL := 2) (ret := (some .boolean)) (lv0 := [(0, .ref mm), (1, .int a)]) (by decide) rfl (Nat.le_of_ble_eq_true rfl) rfl ?_
  intro p e s m below meth c A C
  refine hg_iload_n C dX6_noTune_0 rfl 1 rfl ?_
  refine hg_i2l C dX6_noTune_1 ?_
  refine hg_lconst C (v := 0) dX6_noTune_2 rfl ?_
  refine hg_aload_n C dX6_noTune_3 rfl 0 rfl ?_
  refine hg_get C (Cn := RX6) (T := TX6) (N := 23) (v := .int tu) mrX6_noTune_6 0 rfl rfl 5 (by decide) mmX6_noTune_f58 rfl dX6_noTune_4 ?_
  refine hg_iconst C (v := 1) dX6_noTune_7 (by decide) ?_
  refine hg_isub C dX6_noTune_8 ?_
  refine hg_i2l C dX6_noTune_9 ?_
  refine hg_callS C (ws' := [(mm, .inr (6, [.int 0, .ref m1, .int ts, .int pc, .int pe, .int tu, .ref m6, .ref m7, .int rp, .int rt, .ref ma, .ref mb, .ref mc, .ref md, .ref me, .int ac, .ref mg, .ref mh, .int sn, .ref mj, .ref mk, .long sd, .int sl]))]) (rest := []) (kX6_in l E a.toInt64 0 ((tu - 1).toInt64)) hfX6_in gX6_noTune_X6_in ⟨Nat.le_of_ble_eq_true rfl, Nat.le_of_ble_eq_true rfl⟩ ⟨Nat.zero_le _, Nat.zero_le _⟩ [] rfl (by decide) [] rfl rfl rfl rfl (Nat.le_of_ble_eq_true rfl) dX6_noTune_10 ?_
  refine hg_if_ne C (tgt := 20) dX6_noTune_13 (by decide) (fun c1 => ?_) (fun c1 => ?_)
  · refine hg_iconst C (v := 0) dX6_noTune_20 (by decide) ?_
    have e9 : (fX6_noTune tu a) = 0 := (hid_eq _).trans ((if_neg c1).trans rfl)
    rw [e9]
    exact hg_zret C dX6_noTune_21 rfl rfl rfl
  · refine hg_iconst C (v := 1) dX6_noTune_16 (by decide) ?_
    refine hg_goto C (tgt := 21) dX6_noTune_17 (by decide) ?_
    have e9 : (fX6_noTune tu a) = 1 := (hid_eq _).trans ((if_pos c1).trans rfl)
    rw [e9]
    exact hg_zret C dX6_noTune_21 rfl rfl rfl
theorem bbX6_noTune (tu : Int32) (a : Int32) : (fX6_noTune tu a) = 0 ∨ (fX6_noTune tu a) = 1 := by
  unfold fX6_noTune
  rw [hid_eq]
  (repeat' split) <;> first | exact Or.inl rfl | exact Or.inr rfl | exact bbX6_in _ _ _
theorem mmX6_goPlay_f16 : (Cond.fieldLink RX6 16 "HatRoundModel" "song" "[I") ∈ wsX6_goPlay := (List.mem_cons_of_mem _ (List.mem_append_left _ (List.mem_of_getElem? (i := 0) rfl)))
theorem mrX6_goPlay_6 : ∀ w ∈ u_ws RX6 TX6 23, w ∈ wsX6_goPlay := fun _ h => (List.mem_cons_of_mem _ (List.mem_append_right _ h))
theorem mmX6_goPlay_f51 : (Cond.fieldLink RX6 51 "HatRoundModel" "people" "I") ∈ wsX6_goPlay := (List.mem_cons_of_mem _ (List.mem_append_left _ (List.mem_of_getElem? (i := 1) rfl)))
theorem mmX6_goPlay_f13 : (Cond.fieldLink RX6 13 "HatRoundModel" "told" "[I") ∈ wsX6_goPlay := (List.mem_cons_of_mem _ (List.mem_append_left _ (List.mem_of_getElem? (i := 2) rfl)))
abbrev rmX6_goPlay : Room := { frames := 1, cells := 0, slots := 0, locals := 22 }
theorem hfX6_goPlay : hCF yX6_goPlay wsX6_goPlay rmX6_goPlay cX6_goPlay 5 (some .int) 2 := ⟨⟨_, rfl⟩, by decide +kernel, rfl, rfl⟩
noncomputable def stX6_goPlay_45 (to : Nat → Int32) (so : Nat → Int32) (a : Int32) (x3 : Int32) (i : Nat) (σ : (Nat → Int32)) : (Nat → Int32) := hid (if (fX6_has (σ (12 : Int32).toNatClampNeg) (nI i)) = 0 then σ else if (0 : Int32) ≤ ((upd σ (6 + (nI i)).toNatClampNeg ((σ (6 + (nI i)).toNatClampNeg) - (so ((3 * a) + 1).toNatClampNeg))) (6 + (nI i)).toNatClampNeg) then upd (upd (upd σ (6 + (nI i)).toNatClampNeg ((σ (6 + (nI i)).toNatClampNeg) - (so ((3 * a) + 1).toNatClampNeg))) (nI i).toNatClampNeg (((upd σ (6 + (nI i)).toNatClampNeg ((σ (6 + (nI i)).toNatClampNeg) - (so ((3 * a) + 1).toNatClampNeg))) (nI i).toNatClampNeg) + (x3 + (if (to ((6 * (nI i)) + 4).toNatClampNeg) = (so (3 * a).toNatClampNeg) then (2 : Int32) else (0 : Int32))))) (nI i).toNatClampNeg (if ((upd (upd σ (6 + (nI i)).toNatClampNeg ((σ (6 + (nI i)).toNatClampNeg) - (so ((3 * a) + 1).toNatClampNeg))) (nI i).toNatClampNeg (((upd σ (6 + (nI i)).toNatClampNeg ((σ (6 + (nI i)).toNatClampNeg) - (so ((3 * a) + 1).toNatClampNeg))) (nI i).toNatClampNeg) + (x3 + (if (to ((6 * (nI i)) + 4).toNatClampNeg) = (so (3 * a).toNatClampNeg) then (2 : Int32) else (0 : Int32))))) (nI i).toNatClampNeg) ≤ 20 then ((upd (upd σ (6 + (nI i)).toNatClampNeg ((σ (6 + (nI i)).toNatClampNeg) - (so ((3 * a) + 1).toNatClampNeg))) (nI i).toNatClampNeg (((upd σ (6 + (nI i)).toNatClampNeg ((σ (6 + (nI i)).toNatClampNeg) - (so ((3 * a) + 1).toNatClampNeg))) (nI i).toNatClampNeg) + (x3 + (if (to ((6 * (nI i)) + 4).toNatClampNeg) = (so (3 * a).toNatClampNeg) then (2 : Int32) else (0 : Int32))))) (nI i).toNatClampNeg) else (20 : Int32)) else upd (upd σ (6 + (nI i)).toNatClampNeg ((σ (6 + (nI i)).toNatClampNeg) - (so ((3 * a) + 1).toNatClampNeg))) (12 : Int32).toNatClampNeg (((upd σ (6 + (nI i)).toNatClampNeg ((σ (6 + (nI i)).toNatClampNeg) - (so ((3 * a) + 1).toNatClampNeg))) (12 : Int32).toNatClampNeg) &&& ((1 <<< ((nI i) &&& 31)) ^^^ (-1))))
set_option maxHeartbeats 4000000 in
set_option maxRecDepth 100000 in
theorem lpX6_goPlay_45 {p : Program} {l : Launch} {e : Env} {s : State} {m : MethodId} {args : Array Value} {below : List Frame} {meth : Method} {c : Code} {E : hE} {A : Nat → Prop} {Q : State → Prop} (C : hX p s m args meth c E A cX6_goPlay 5 RX6 wsX6_goPlay (some .int)) (mm : Nat) (m1 : Nat) (m6 : Nat) (m7 : Nat) (ma : Nat) (mb : Nat) (mc : Nat) (md : Nat) (me : Nat) (mg : Nat) (mh : Nat) (mj : Nat) (mk : Nat) (ts : Int32) (pc : Int32) (pe : Int32) (tu : Int32) (rp : Int32) (rt : Int32) (ac : Int32) (sn : Int32) (sd : Int64) (sl : Int32) (to : Nat → Int32) (so : Nat → Int32) (pp : Nat) (pg : Nat → Int32) (a : Int32) (x3 : Int32) (hpe : pe.toNatClampNeg ≤ 6) (ht : vp_in a 4) (σ0 : (Nat → Int32)) (k : hG p l e rmX6_goPlay s m args below meth c E A 5 Q 0 0 177 [(0, .ref mm), (1, .ref pp), (2, .int a)] [] [(mm, .inr (6, [.int 0, .ref m1, .int ts, .int pc, .int pe, .int tu, .ref m6, .ref m7, .int rp, .int rt, .ref ma, .ref mb, .ref mc, .ref md, .ref me, .int ac, .ref mg, .ref mh, .int sn, .ref mj, .ref mk, .long sd, .int sl])), (m6, .inl (E.2.1.1, 36, .inl to)), (m7, .inl (E.2.1.1, 12, .inl so)), (pp, .inl (E.2.1.1, 21, .inl (itN (stX6_goPlay_45 to so a x3) pe.toNatClampNeg σ0)))]) : ∀ (n i : Nat) (σ : (Nat → Int32)), i + n = pe.toNatClampNeg → σ = itN (stX6_goPlay_45 to so a x3) i σ0 → hG p l e rmX6_goPlay s m args below meth c E A 5 Q 0 0 45 [(0, .ref mm), (1, .ref pp), (2, .int a), (3, .int x3), (4, .int (nI i))] [] [(mm, .inr (6, [.int 0, .ref m1, .int ts, .int pc, .int pe, .int tu, .ref m6, .ref m7, .int rp, .int rt, .ref ma, .ref mb, .ref mc, .ref md, .ref me, .int ac, .ref mg, .ref mh, .int sn, .ref mj, .ref mk, .long sd, .int sl])), (m6, .inl (E.2.1.1, 36, .inl to)), (m7, .inl (E.2.1.1, 12, .inl so)), (pp, .inl (E.2.1.1, 21, .inl σ))] := by
  intro n
  induction n with
  | zero =>
    intro i σ hi hσ
    have hi : i = pe.toNatClampNeg := by omega
    rw [hi] at hσ
    rw [hi]
    subst hσ
    refine hg_iload C dX6_goPlay_45 4 rfl ?_
    refine hg_aload_n C dX6_goPlay_47 rfl 0 rfl ?_
    refine hg_get C (Cn := RX6) (T := TX6) (N := 23) (v := .int pe) mrX6_goPlay_6 0 rfl rfl 4 (by decide) mmX6_goPlay_f51 rfl dX6_goPlay_48 ?_
    refine hg_icmp_ge C (tgt := 177) dX6_goPlay_51 (by decide) (fun _ => ?_) (fun h => absurd (cl_done _) h)
    exact hg_sub [0, 1, 2] rfl k
  | succ n ih =>
    intro i σ hi hσ
    have hlt : i < pe.toNatClampNeg := by omega
    refine hg_iload C dX6_goPlay_45 4 rfl ?_
    refine hg_aload_n C dX6_goPlay_47 rfl 0 rfl ?_
    refine hg_get C (Cn := RX6) (T := TX6) (N := 23) (v := .int pe) mrX6_goPlay_6 0 rfl rfl 4 (by decide) mmX6_goPlay_f51 rfl dX6_goPlay_48 ?_
    refine hg_icmp_ge C (tgt := 177) dX6_goPlay_51 (by decide) (fun h => absurd h (cl_cont hlt)) (fun _ => ?_)
    refine hg_aload_n C dX6_goPlay_54 rfl 1 rfl ?_
    refine hg_bipush C (v := 12) dX6_goPlay_55 (by decide) ?_
    refine hg_iald C 3 rfl (by unfold vp_in; decide) dX6_goPlay_57 ?_
    refine hg_iload C dX6_goPlay_58 4 rfl ?_
    refine hg_callS C (ws' := [(mm, .inr (6, [.int 0, .ref m1, .int ts, .int pc, .int pe, .int tu, .ref m6, .ref m7, .int rp, .int rt, .ref ma, .ref mb, .ref mc, .ref md, .ref me, .int ac, .ref mg, .ref mh, .int sn, .ref mj, .ref mk, .long sd, .int sl])), (m6, .inl (E.2.1.1, 36, .inl to)), (m7, .inl (E.2.1.1, 12, .inl so)), (pp, .inl (E.2.1.1, 21, .inl σ))]) (rest := []) (kX6_has l E (σ (12 : Int32).toNatClampNeg) (nI i)) hfX6_has gX6_goPlay_X6_has ⟨Nat.le_of_ble_eq_true rfl, Nat.le_of_ble_eq_true rfl⟩ ⟨Nat.zero_le _, Nat.zero_le _⟩ [] rfl (by decide) [] rfl rfl rfl rfl (Nat.le_of_ble_eq_true rfl) dX6_goPlay_60 ?_
    refine hg_if_eq C (tgt := 171) dX6_goPlay_63 (by decide) (fun c6 => ?_) (fun c6 => ?_)
    · refine hg_iinc C (v := nI (i + 1)) (lv' := [(4, .int (nI (i + 1))), (0, .ref mm), (1, .ref pp), (2, .int a), (3, .int x3)]) dX6_goPlay_171 4 rfl (nI_inc _) (by decide) rfl ?_
      refine hg_goto C (tgt := 45) dX6_goPlay_174 (by decide) ?_
      have e9 : (stX6_goPlay_45 to so a x3) i σ = σ := (hid_eq _).trans ((if_pos c6).trans rfl)
      have h9 := ih (i + 1) σ (by omega) (e9.symm.trans (congrArg ((stX6_goPlay_45 to so a x3) i) hσ))
      exact hg_sub [1, 2, 3, 4, 0] rfl h9
    · refine hg_aload_n C dX6_goPlay_66 rfl 1 rfl ?_
      refine hg_bipush C (v := 6) dX6_goPlay_67 (by decide) ?_
      refine hg_iload C dX6_goPlay_69 4 rfl ?_
      refine hg_iadd C dX6_goPlay_71 ?_
      refine hg_dup2 C dX6_goPlay_72 rfl rfl ?_
      refine hg_iald C 3 rfl (ix_6 (by omega)) dX6_goPlay_73 ?_
      refine hg_aload_n C dX6_goPlay_74 rfl 0 rfl ?_
      refine hg_get C (Cn := RX6) (T := TX6) (N := 23) (v := .ref m7) mrX6_goPlay_6 0 rfl rfl 7 (by decide) mmX6_goPlay_f16 rfl dX6_goPlay_75 ?_
      refine hg_iconst C (v := 3) dX6_goPlay_78 (by decide) ?_
      refine hg_iload_n C dX6_goPlay_79 rfl 2 rfl ?_
      refine hg_imul C dX6_goPlay_80 ?_
      refine hg_iconst C (v := 1) dX6_goPlay_81 (by decide) ?_
      refine hg_iadd C dX6_goPlay_82 ?_
      refine hg_iald C 2 rfl (ix_31 ht) dX6_goPlay_83 ?_
      refine hg_isub C dX6_goPlay_84 ?_
      refine hg_iast C (ws' := [(mm, .inr (6, [.int 0, .ref m1, .int ts, .int pc, .int pe, .int tu, .ref m6, .ref m7, .int rp, .int rt, .ref ma, .ref mb, .ref mc, .ref md, .ref me, .int ac, .ref mg, .ref mh, .int sn, .ref mj, .ref mk, .long sd, .int sl])), (m6, .inl (E.2.1.1, 36, .inl to)), (m7, .inl (E.2.1.1, 12, .inl so)), (pp, .inl (E.2.1.1, 21, .inl (upd σ (6 + (nI i)).toNatClampNeg ((σ (6 + (nI i)).toNatClampNeg) - (so ((3 * a) + 1).toNatClampNeg)))))]) 3 rfl (ix_6 (by omega)) rfl dX6_goPlay_85 ?_
      refine hg_aload_n C dX6_goPlay_86 rfl 1 rfl ?_
      refine hg_bipush C (v := 6) dX6_goPlay_87 (by decide) ?_
      refine hg_iload C dX6_goPlay_89 4 rfl ?_
      refine hg_iadd C dX6_goPlay_91 ?_
      refine hg_iald C 3 rfl (ix_6 (by omega)) dX6_goPlay_92 ?_
      refine hg_if_ge C (tgt := 112) dX6_goPlay_93 (by decide) (fun c7 => ?_) (fun c7 => ?_)
      · refine hg_aload_n C dX6_goPlay_112 rfl 1 rfl ?_
        refine hg_iload C dX6_goPlay_113 4 rfl ?_
        refine hg_dup2 C dX6_goPlay_115 rfl rfl ?_
        refine hg_iald C 3 rfl (vp_in_nI (by omega) (by decide)) dX6_goPlay_116 ?_
        refine hg_iload_n C dX6_goPlay_117 rfl 3 rfl ?_
        refine hg_aload_n C dX6_goPlay_118 rfl 0 rfl ?_
        refine hg_get C (Cn := RX6) (T := TX6) (N := 23) (v := .ref m6) mrX6_goPlay_6 0 rfl rfl 6 (by decide) mmX6_goPlay_f13 rfl dX6_goPlay_119 ?_
        refine hg_bipush C (v := 6) dX6_goPlay_122 (by decide) ?_
        refine hg_iload C dX6_goPlay_124 4 rfl ?_
        refine hg_imul C dX6_goPlay_126 ?_
        refine hg_iconst C (v := 4) dX6_goPlay_127 (by decide) ?_
        refine hg_iadd C dX6_goPlay_128 ?_
        refine hg_iald C 1 rfl (ix_6k (c := 4) (by omega) (by decide)) dX6_goPlay_129 ?_
        refine hg_aload_n C dX6_goPlay_130 rfl 0 rfl ?_
        refine hg_get C (Cn := RX6) (T := TX6) (N := 23) (v := .ref m7) mrX6_goPlay_6 0 rfl rfl 7 (by decide) mmX6_goPlay_f16 rfl dX6_goPlay_131 ?_
        refine hg_iconst C (v := 3) dX6_goPlay_134 (by decide) ?_
        refine hg_iload_n C dX6_goPlay_135 rfl 2 rfl ?_
        refine hg_imul C dX6_goPlay_136 ?_
        refine hg_iald C 2 rfl (ix_3 ht) dX6_goPlay_137 ?_
        refine hg_join (J := 146) (v := if (to ((6 * (nI i)) + 4).toNatClampNeg) = (so (3 * a).toNatClampNeg) then (2 : Int32) else (0 : Int32)) (st1 := [.int x3, .int ((upd σ (6 + (nI i)).toNatClampNeg ((σ (6 + (nI i)).toNatClampNeg) - (so ((3 * a) + 1).toNatClampNeg))) (nI i).toNatClampNeg), .int (nI i), .ref pp]) (fun jj => ?_) ?_
        · refine hg_icmp_ne C (tgt := 145) dX6_goPlay_138 (by decide) (fun c8 => ?_) (fun c8 => ?_)
          · refine hg_iconst C (v := 0) dX6_goPlay_145 (by decide) ?_
            exact hg_top (v := if (to ((6 * (nI i)) + 4).toNatClampNeg) = (so (3 * a).toNatClampNeg) then (2 : Int32) else (0 : Int32)) (v' := 0) ((if_neg c8).trans rfl) jj
          · refine hg_iconst C (v := 2) dX6_goPlay_141 (by decide) ?_
            refine hg_goto C (tgt := 146) dX6_goPlay_142 (by decide) ?_
            exact hg_top (v := if (to ((6 * (nI i)) + 4).toNatClampNeg) = (so (3 * a).toNatClampNeg) then (2 : Int32) else (0 : Int32)) (v' := 2) ((if_pos c8).trans rfl) jj
        refine hg_iadd C dX6_goPlay_146 ?_
        refine hg_iadd C dX6_goPlay_147 ?_
        refine hg_iast C (ws' := [(mm, .inr (6, [.int 0, .ref m1, .int ts, .int pc, .int pe, .int tu, .ref m6, .ref m7, .int rp, .int rt, .ref ma, .ref mb, .ref mc, .ref md, .ref me, .int ac, .ref mg, .ref mh, .int sn, .ref mj, .ref mk, .long sd, .int sl])), (m6, .inl (E.2.1.1, 36, .inl to)), (m7, .inl (E.2.1.1, 12, .inl so)), (pp, .inl (E.2.1.1, 21, .inl (upd (upd σ (6 + (nI i)).toNatClampNeg ((σ (6 + (nI i)).toNatClampNeg) - (so ((3 * a) + 1).toNatClampNeg))) (nI i).toNatClampNeg (((upd σ (6 + (nI i)).toNatClampNeg ((σ (6 + (nI i)).toNatClampNeg) - (so ((3 * a) + 1).toNatClampNeg))) (nI i).toNatClampNeg) + (x3 + (if (to ((6 * (nI i)) + 4).toNatClampNeg) = (so (3 * a).toNatClampNeg) then (2 : Int32) else (0 : Int32)))))))]) 3 rfl (vp_in_nI (by omega) (by decide)) rfl dX6_goPlay_148 ?_
        refine hg_aload_n C dX6_goPlay_149 rfl 1 rfl ?_
        refine hg_iload C dX6_goPlay_150 4 rfl ?_
        refine hg_aload_n C dX6_goPlay_152 rfl 1 rfl ?_
        refine hg_iload C dX6_goPlay_153 4 rfl ?_
        refine hg_iald C 3 rfl (vp_in_nI (by omega) (by decide)) dX6_goPlay_155 ?_
        refine hg_bipush C (v := 20) dX6_goPlay_156 (by decide) ?_
        refine hg_join (J := 170) (v := if ((upd (upd σ (6 + (nI i)).toNatClampNeg ((σ (6 + (nI i)).toNatClampNeg) - (so ((3 * a) + 1).toNatClampNeg))) (nI i).toNatClampNeg (((upd σ (6 + (nI i)).toNatClampNeg ((σ (6 + (nI i)).toNatClampNeg) - (so ((3 * a) + 1).toNatClampNeg))) (nI i).toNatClampNeg) + (x3 + (if (to ((6 * (nI i)) + 4).toNatClampNeg) = (so (3 * a).toNatClampNeg) then (2 : Int32) else (0 : Int32))))) (nI i).toNatClampNeg) ≤ 20 then ((upd (upd σ (6 + (nI i)).toNatClampNeg ((σ (6 + (nI i)).toNatClampNeg) - (so ((3 * a) + 1).toNatClampNeg))) (nI i).toNatClampNeg (((upd σ (6 + (nI i)).toNatClampNeg ((σ (6 + (nI i)).toNatClampNeg) - (so ((3 * a) + 1).toNatClampNeg))) (nI i).toNatClampNeg) + (x3 + (if (to ((6 * (nI i)) + 4).toNatClampNeg) = (so (3 * a).toNatClampNeg) then (2 : Int32) else (0 : Int32))))) (nI i).toNatClampNeg) else (20 : Int32)) (st1 := [.int (nI i), .ref pp]) (fun jj => ?_) ?_
        · refine hg_icmp_le C (tgt := 166) dX6_goPlay_158 (by decide) (fun c9 => ?_) (fun c9 => ?_)
          · refine hg_aload_n C dX6_goPlay_166 rfl 1 rfl ?_
            refine hg_iload C dX6_goPlay_167 4 rfl ?_
            refine hg_iald C 3 rfl (vp_in_nI (by omega) (by decide)) dX6_goPlay_169 ?_
            exact hg_top (v := if ((upd (upd σ (6 + (nI i)).toNatClampNeg ((σ (6 + (nI i)).toNatClampNeg) - (so ((3 * a) + 1).toNatClampNeg))) (nI i).toNatClampNeg (((upd σ (6 + (nI i)).toNatClampNeg ((σ (6 + (nI i)).toNatClampNeg) - (so ((3 * a) + 1).toNatClampNeg))) (nI i).toNatClampNeg) + (x3 + (if (to ((6 * (nI i)) + 4).toNatClampNeg) = (so (3 * a).toNatClampNeg) then (2 : Int32) else (0 : Int32))))) (nI i).toNatClampNeg) ≤ 20 then ((upd (upd σ (6 + (nI i)).toNatClampNeg ((σ (6 + (nI i)).toNatClampNeg) - (so ((3 * a) + 1).toNatClampNeg))) (nI i).toNatClampNeg (((upd σ (6 + (nI i)).toNatClampNeg ((σ (6 + (nI i)).toNatClampNeg) - (so ((3 * a) + 1).toNatClampNeg))) (nI i).toNatClampNeg) + (x3 + (if (to ((6 * (nI i)) + 4).toNatClampNeg) = (so (3 * a).toNatClampNeg) then (2 : Int32) else (0 : Int32))))) (nI i).toNatClampNeg) else (20 : Int32)) (v' := (upd (upd σ (6 + (nI i)).toNatClampNeg ((σ (6 + (nI i)).toNatClampNeg) - (so ((3 * a) + 1).toNatClampNeg))) (nI i).toNatClampNeg (((upd σ (6 + (nI i)).toNatClampNeg ((σ (6 + (nI i)).toNatClampNeg) - (so ((3 * a) + 1).toNatClampNeg))) (nI i).toNatClampNeg) + (x3 + (if (to ((6 * (nI i)) + 4).toNatClampNeg) = (so (3 * a).toNatClampNeg) then (2 : Int32) else (0 : Int32))))) (nI i).toNatClampNeg) ((if_pos c9).trans rfl) jj
          · refine hg_bipush C (v := 20) dX6_goPlay_161 (by decide) ?_
            refine hg_goto C (tgt := 170) dX6_goPlay_163 (by decide) ?_
            exact hg_top (v := if ((upd (upd σ (6 + (nI i)).toNatClampNeg ((σ (6 + (nI i)).toNatClampNeg) - (so ((3 * a) + 1).toNatClampNeg))) (nI i).toNatClampNeg (((upd σ (6 + (nI i)).toNatClampNeg ((σ (6 + (nI i)).toNatClampNeg) - (so ((3 * a) + 1).toNatClampNeg))) (nI i).toNatClampNeg) + (x3 + (if (to ((6 * (nI i)) + 4).toNatClampNeg) = (so (3 * a).toNatClampNeg) then (2 : Int32) else (0 : Int32))))) (nI i).toNatClampNeg) ≤ 20 then ((upd (upd σ (6 + (nI i)).toNatClampNeg ((σ (6 + (nI i)).toNatClampNeg) - (so ((3 * a) + 1).toNatClampNeg))) (nI i).toNatClampNeg (((upd σ (6 + (nI i)).toNatClampNeg ((σ (6 + (nI i)).toNatClampNeg) - (so ((3 * a) + 1).toNatClampNeg))) (nI i).toNatClampNeg) + (x3 + (if (to ((6 * (nI i)) + 4).toNatClampNeg) = (so (3 * a).toNatClampNeg) then (2 : Int32) else (0 : Int32))))) (nI i).toNatClampNeg) else (20 : Int32)) (v' := 20) ((if_neg c9).trans rfl) jj
        refine hg_iast C (ws' := [(mm, .inr (6, [.int 0, .ref m1, .int ts, .int pc, .int pe, .int tu, .ref m6, .ref m7, .int rp, .int rt, .ref ma, .ref mb, .ref mc, .ref md, .ref me, .int ac, .ref mg, .ref mh, .int sn, .ref mj, .ref mk, .long sd, .int sl])), (m6, .inl (E.2.1.1, 36, .inl to)), (m7, .inl (E.2.1.1, 12, .inl so)), (pp, .inl (E.2.1.1, 21, .inl (upd (upd (upd σ (6 + (nI i)).toNatClampNeg ((σ (6 + (nI i)).toNatClampNeg) - (so ((3 * a) + 1).toNatClampNeg))) (nI i).toNatClampNeg (((upd σ (6 + (nI i)).toNatClampNeg ((σ (6 + (nI i)).toNatClampNeg) - (so ((3 * a) + 1).toNatClampNeg))) (nI i).toNatClampNeg) + (x3 + (if (to ((6 * (nI i)) + 4).toNatClampNeg) = (so (3 * a).toNatClampNeg) then (2 : Int32) else (0 : Int32))))) (nI i).toNatClampNeg (if ((upd (upd σ (6 + (nI i)).toNatClampNeg ((σ (6 + (nI i)).toNatClampNeg) - (so ((3 * a) + 1).toNatClampNeg))) (nI i).toNatClampNeg (((upd σ (6 + (nI i)).toNatClampNeg ((σ (6 + (nI i)).toNatClampNeg) - (so ((3 * a) + 1).toNatClampNeg))) (nI i).toNatClampNeg) + (x3 + (if (to ((6 * (nI i)) + 4).toNatClampNeg) = (so (3 * a).toNatClampNeg) then (2 : Int32) else (0 : Int32))))) (nI i).toNatClampNeg) ≤ 20 then ((upd (upd σ (6 + (nI i)).toNatClampNeg ((σ (6 + (nI i)).toNatClampNeg) - (so ((3 * a) + 1).toNatClampNeg))) (nI i).toNatClampNeg (((upd σ (6 + (nI i)).toNatClampNeg ((σ (6 + (nI i)).toNatClampNeg) - (so ((3 * a) + 1).toNatClampNeg))) (nI i).toNatClampNeg) + (x3 + (if (to ((6 * (nI i)) + 4).toNatClampNeg) = (so (3 * a).toNatClampNeg) then (2 : Int32) else (0 : Int32))))) (nI i).toNatClampNeg) else (20 : Int32)))))]) 3 rfl (vp_in_nI (by omega) (by decide)) rfl dX6_goPlay_170 ?_
        refine hg_iinc C (v := nI (i + 1)) (lv' := [(4, .int (nI (i + 1))), (0, .ref mm), (1, .ref pp), (2, .int a), (3, .int x3)]) dX6_goPlay_171 4 rfl (nI_inc _) (by decide) rfl ?_
        refine hg_goto C (tgt := 45) dX6_goPlay_174 (by decide) ?_
        have e9 : (stX6_goPlay_45 to so a x3) i σ = upd (upd (upd σ (6 + (nI i)).toNatClampNeg ((σ (6 + (nI i)).toNatClampNeg) - (so ((3 * a) + 1).toNatClampNeg))) (nI i).toNatClampNeg (((upd σ (6 + (nI i)).toNatClampNeg ((σ (6 + (nI i)).toNatClampNeg) - (so ((3 * a) + 1).toNatClampNeg))) (nI i).toNatClampNeg) + (x3 + (if (to ((6 * (nI i)) + 4).toNatClampNeg) = (so (3 * a).toNatClampNeg) then (2 : Int32) else (0 : Int32))))) (nI i).toNatClampNeg (if ((upd (upd σ (6 + (nI i)).toNatClampNeg ((σ (6 + (nI i)).toNatClampNeg) - (so ((3 * a) + 1).toNatClampNeg))) (nI i).toNatClampNeg (((upd σ (6 + (nI i)).toNatClampNeg ((σ (6 + (nI i)).toNatClampNeg) - (so ((3 * a) + 1).toNatClampNeg))) (nI i).toNatClampNeg) + (x3 + (if (to ((6 * (nI i)) + 4).toNatClampNeg) = (so (3 * a).toNatClampNeg) then (2 : Int32) else (0 : Int32))))) (nI i).toNatClampNeg) ≤ 20 then ((upd (upd σ (6 + (nI i)).toNatClampNeg ((σ (6 + (nI i)).toNatClampNeg) - (so ((3 * a) + 1).toNatClampNeg))) (nI i).toNatClampNeg (((upd σ (6 + (nI i)).toNatClampNeg ((σ (6 + (nI i)).toNatClampNeg) - (so ((3 * a) + 1).toNatClampNeg))) (nI i).toNatClampNeg) + (x3 + (if (to ((6 * (nI i)) + 4).toNatClampNeg) = (so (3 * a).toNatClampNeg) then (2 : Int32) else (0 : Int32))))) (nI i).toNatClampNeg) else (20 : Int32)) := (hid_eq _).trans ((if_neg c6).trans ((if_pos c7).trans rfl))
        have h9 := ih (i + 1) (upd (upd (upd σ (6 + (nI i)).toNatClampNeg ((σ (6 + (nI i)).toNatClampNeg) - (so ((3 * a) + 1).toNatClampNeg))) (nI i).toNatClampNeg (((upd σ (6 + (nI i)).toNatClampNeg ((σ (6 + (nI i)).toNatClampNeg) - (so ((3 * a) + 1).toNatClampNeg))) (nI i).toNatClampNeg) + (x3 + (if (to ((6 * (nI i)) + 4).toNatClampNeg) = (so (3 * a).toNatClampNeg) then (2 : Int32) else (0 : Int32))))) (nI i).toNatClampNeg (if ((upd (upd σ (6 + (nI i)).toNatClampNeg ((σ (6 + (nI i)).toNatClampNeg) - (so ((3 * a) + 1).toNatClampNeg))) (nI i).toNatClampNeg (((upd σ (6 + (nI i)).toNatClampNeg ((σ (6 + (nI i)).toNatClampNeg) - (so ((3 * a) + 1).toNatClampNeg))) (nI i).toNatClampNeg) + (x3 + (if (to ((6 * (nI i)) + 4).toNatClampNeg) = (so (3 * a).toNatClampNeg) then (2 : Int32) else (0 : Int32))))) (nI i).toNatClampNeg) ≤ 20 then ((upd (upd σ (6 + (nI i)).toNatClampNeg ((σ (6 + (nI i)).toNatClampNeg) - (so ((3 * a) + 1).toNatClampNeg))) (nI i).toNatClampNeg (((upd σ (6 + (nI i)).toNatClampNeg ((σ (6 + (nI i)).toNatClampNeg) - (so ((3 * a) + 1).toNatClampNeg))) (nI i).toNatClampNeg) + (x3 + (if (to ((6 * (nI i)) + 4).toNatClampNeg) = (so (3 * a).toNatClampNeg) then (2 : Int32) else (0 : Int32))))) (nI i).toNatClampNeg) else (20 : Int32))) (by omega) (e9.symm.trans (congrArg ((stX6_goPlay_45 to so a x3) i) hσ))
        exact hg_sub [1, 2, 3, 4, 0] rfl h9
      · refine hg_aload_n C dX6_goPlay_96 rfl 1 rfl ?_
        refine hg_bipush C (v := 12) dX6_goPlay_97 (by decide) ?_
        refine hg_dup2 C dX6_goPlay_99 rfl rfl ?_
        refine hg_iald C 3 rfl (by unfold vp_in; decide) dX6_goPlay_100 ?_
        refine hg_iconst C (v := 1) dX6_goPlay_101 (by decide) ?_
        refine hg_iload C dX6_goPlay_102 4 rfl ?_
        refine hg_ishl C dX6_goPlay_104 ?_
        refine hg_iconst C (v := (-1)) dX6_goPlay_105 (by decide) ?_
        refine hg_ixor C dX6_goPlay_106 ?_
        refine hg_iand C dX6_goPlay_107 ?_
        refine hg_iast C (ws' := [(mm, .inr (6, [.int 0, .ref m1, .int ts, .int pc, .int pe, .int tu, .ref m6, .ref m7, .int rp, .int rt, .ref ma, .ref mb, .ref mc, .ref md, .ref me, .int ac, .ref mg, .ref mh, .int sn, .ref mj, .ref mk, .long sd, .int sl])), (m6, .inl (E.2.1.1, 36, .inl to)), (m7, .inl (E.2.1.1, 12, .inl so)), (pp, .inl (E.2.1.1, 21, .inl (upd (upd σ (6 + (nI i)).toNatClampNeg ((σ (6 + (nI i)).toNatClampNeg) - (so ((3 * a) + 1).toNatClampNeg))) (12 : Int32).toNatClampNeg (((upd σ (6 + (nI i)).toNatClampNeg ((σ (6 + (nI i)).toNatClampNeg) - (so ((3 * a) + 1).toNatClampNeg))) (12 : Int32).toNatClampNeg) &&& ((1 <<< ((nI i) &&& 31)) ^^^ (-1))))))]) 3 rfl (by unfold vp_in; decide) rfl dX6_goPlay_108 ?_
        refine hg_goto C (tgt := 171) dX6_goPlay_109 (by decide) ?_
        refine hg_iinc C (v := nI (i + 1)) (lv' := [(4, .int (nI (i + 1))), (0, .ref mm), (1, .ref pp), (2, .int a), (3, .int x3)]) dX6_goPlay_171 4 rfl (nI_inc _) (by decide) rfl ?_
        refine hg_goto C (tgt := 45) dX6_goPlay_174 (by decide) ?_
        have e9 : (stX6_goPlay_45 to so a x3) i σ = upd (upd σ (6 + (nI i)).toNatClampNeg ((σ (6 + (nI i)).toNatClampNeg) - (so ((3 * a) + 1).toNatClampNeg))) (12 : Int32).toNatClampNeg (((upd σ (6 + (nI i)).toNatClampNeg ((σ (6 + (nI i)).toNatClampNeg) - (so ((3 * a) + 1).toNatClampNeg))) (12 : Int32).toNatClampNeg) &&& ((1 <<< ((nI i) &&& 31)) ^^^ (-1))) := (hid_eq _).trans ((if_neg c6).trans ((if_neg c7).trans rfl))
        have h9 := ih (i + 1) (upd (upd σ (6 + (nI i)).toNatClampNeg ((σ (6 + (nI i)).toNatClampNeg) - (so ((3 * a) + 1).toNatClampNeg))) (12 : Int32).toNatClampNeg (((upd σ (6 + (nI i)).toNatClampNeg ((σ (6 + (nI i)).toNatClampNeg) - (so ((3 * a) + 1).toNatClampNeg))) (12 : Int32).toNatClampNeg) &&& ((1 <<< ((nI i) &&& 31)) ^^^ (-1)))) (by omega) (e9.symm.trans (congrArg ((stX6_goPlay_45 to so a x3) i) hσ))
        exact hg_sub [1, 2, 3, 4, 0] rfl h9
noncomputable def stX6_goPlay_180 (to : Nat → Int32) (i : Nat) (σ : (Nat → Int32)) : (Nat → Int32) := hid (if (fX6_has (σ (13 : Int32).toNatClampNeg) (nI i)) = 0 then σ else if (fX6_many (σ (12 : Int32).toNatClampNeg)) < (to ((6 * (nI i)) + 5).toNatClampNeg) then σ else upd (upd σ (12 : Int32).toNatClampNeg ((σ (12 : Int32).toNatClampNeg) ||| (1 <<< ((nI i) &&& 31)))) (13 : Int32).toNatClampNeg (((upd σ (12 : Int32).toNatClampNeg ((σ (12 : Int32).toNatClampNeg) ||| (1 <<< ((nI i) &&& 31)))) (13 : Int32).toNatClampNeg) &&& ((1 <<< ((nI i) &&& 31)) ^^^ (-1))))
set_option maxHeartbeats 4000000 in
set_option maxRecDepth 100000 in
theorem lpX6_goPlay_180 {p : Program} {l : Launch} {e : Env} {s : State} {m : MethodId} {args : Array Value} {below : List Frame} {meth : Method} {c : Code} {E : hE} {A : Nat → Prop} {Q : State → Prop} (C : hX p s m args meth c E A cX6_goPlay 5 RX6 wsX6_goPlay (some .int)) (mm : Nat) (m1 : Nat) (m6 : Nat) (m7 : Nat) (ma : Nat) (mb : Nat) (mc : Nat) (md : Nat) (me : Nat) (mg : Nat) (mh : Nat) (mj : Nat) (mk : Nat) (ts : Int32) (pc : Int32) (pe : Int32) (tu : Int32) (rp : Int32) (rt : Int32) (ac : Int32) (sn : Int32) (sd : Int64) (sl : Int32) (to : Nat → Int32) (so : Nat → Int32) (pp : Nat) (pg : Nat → Int32) (a : Int32) (hpe : pe.toNatClampNeg ≤ 6) (ht : vp_in a 4) (σ0 : (Nat → Int32)) (k : hG p l e rmX6_goPlay s m args below meth c E A 5 Q 0 0 253 [(0, .ref mm), (1, .ref pp), (2, .int a)] [] [(mm, .inr (6, [.int 0, .ref m1, .int ts, .int pc, .int pe, .int tu, .ref m6, .ref m7, .int rp, .int rt, .ref ma, .ref mb, .ref mc, .ref md, .ref me, .int ac, .ref mg, .ref mh, .int sn, .ref mj, .ref mk, .long sd, .int sl])), (m6, .inl (E.2.1.1, 36, .inl to)), (m7, .inl (E.2.1.1, 12, .inl so)), (pp, .inl (E.2.1.1, 21, .inl (itN (stX6_goPlay_180 to) pe.toNatClampNeg σ0)))]) : ∀ (n i : Nat) (σ : (Nat → Int32)), i + n = pe.toNatClampNeg → σ = itN (stX6_goPlay_180 to) i σ0 → hG p l e rmX6_goPlay s m args below meth c E A 5 Q 0 0 180 [(0, .ref mm), (1, .ref pp), (2, .int a), (4, .int (nI i))] [] [(mm, .inr (6, [.int 0, .ref m1, .int ts, .int pc, .int pe, .int tu, .ref m6, .ref m7, .int rp, .int rt, .ref ma, .ref mb, .ref mc, .ref md, .ref me, .int ac, .ref mg, .ref mh, .int sn, .ref mj, .ref mk, .long sd, .int sl])), (m6, .inl (E.2.1.1, 36, .inl to)), (m7, .inl (E.2.1.1, 12, .inl so)), (pp, .inl (E.2.1.1, 21, .inl σ))] := by
  intro n
  induction n with
  | zero =>
    intro i σ hi hσ
    have hi : i = pe.toNatClampNeg := by omega
    rw [hi] at hσ
    rw [hi]
    subst hσ
    refine hg_iload C dX6_goPlay_180 3 rfl ?_
    refine hg_aload_n C dX6_goPlay_182 rfl 0 rfl ?_
    refine hg_get C (Cn := RX6) (T := TX6) (N := 23) (v := .int pe) mrX6_goPlay_6 0 rfl rfl 4 (by decide) mmX6_goPlay_f51 rfl dX6_goPlay_183 ?_
    refine hg_icmp_ge C (tgt := 253) dX6_goPlay_186 (by decide) (fun _ => ?_) (fun h => absurd (cl_done _) h)
    exact hg_sub [0, 1, 2] rfl k
  | succ n ih =>
    intro i σ hi hσ
    have hlt : i < pe.toNatClampNeg := by omega
    refine hg_iload C dX6_goPlay_180 3 rfl ?_
    refine hg_aload_n C dX6_goPlay_182 rfl 0 rfl ?_
    refine hg_get C (Cn := RX6) (T := TX6) (N := 23) (v := .int pe) mrX6_goPlay_6 0 rfl rfl 4 (by decide) mmX6_goPlay_f51 rfl dX6_goPlay_183 ?_
    refine hg_icmp_ge C (tgt := 253) dX6_goPlay_186 (by decide) (fun h => absurd h (cl_cont hlt)) (fun _ => ?_)
    refine hg_aload_n C dX6_goPlay_189 rfl 1 rfl ?_
    refine hg_bipush C (v := 13) dX6_goPlay_190 (by decide) ?_
    refine hg_iald C 3 rfl (by unfold vp_in; decide) dX6_goPlay_192 ?_
    refine hg_iload C dX6_goPlay_193 3 rfl ?_
    refine hg_callS C (ws' := [(mm, .inr (6, [.int 0, .ref m1, .int ts, .int pc, .int pe, .int tu, .ref m6, .ref m7, .int rp, .int rt, .ref ma, .ref mb, .ref mc, .ref md, .ref me, .int ac, .ref mg, .ref mh, .int sn, .ref mj, .ref mk, .long sd, .int sl])), (m6, .inl (E.2.1.1, 36, .inl to)), (m7, .inl (E.2.1.1, 12, .inl so)), (pp, .inl (E.2.1.1, 21, .inl σ))]) (rest := []) (kX6_has l E (σ (13 : Int32).toNatClampNeg) (nI i)) hfX6_has gX6_goPlay_X6_has ⟨Nat.le_of_ble_eq_true rfl, Nat.le_of_ble_eq_true rfl⟩ ⟨Nat.zero_le _, Nat.zero_le _⟩ [] rfl (by decide) [] rfl rfl rfl rfl (Nat.le_of_ble_eq_true rfl) dX6_goPlay_195 ?_
    refine hg_if_eq C (tgt := 247) dX6_goPlay_198 (by decide) (fun c12 => ?_) (fun c12 => ?_)
    · refine hg_iinc C (v := nI (i + 1)) (lv' := [(4, .int (nI (i + 1))), (0, .ref mm), (1, .ref pp), (2, .int a)]) dX6_goPlay_247 3 rfl (nI_inc _) (by decide) rfl ?_
      refine hg_goto C (tgt := 180) dX6_goPlay_250 (by decide) ?_
      have e9 : (stX6_goPlay_180 to) i σ = σ := (hid_eq _).trans ((if_pos c12).trans rfl)
      have h9 := ih (i + 1) σ (by omega) (e9.symm.trans (congrArg ((stX6_goPlay_180 to) i) hσ))
      exact hg_sub [1, 2, 3, 0] rfl h9
    · refine hg_aload_n C dX6_goPlay_201 rfl 1 rfl ?_
      refine hg_bipush C (v := 12) dX6_goPlay_202 (by decide) ?_
      refine hg_iald C 3 rfl (by unfold vp_in; decide) dX6_goPlay_204 ?_
      refine hg_callS C (ws' := [(mm, .inr (6, [.int 0, .ref m1, .int ts, .int pc, .int pe, .int tu, .ref m6, .ref m7, .int rp, .int rt, .ref ma, .ref mb, .ref mc, .ref md, .ref me, .int ac, .ref mg, .ref mh, .int sn, .ref mj, .ref mk, .long sd, .int sl])), (m6, .inl (E.2.1.1, 36, .inl to)), (m7, .inl (E.2.1.1, 12, .inl so)), (pp, .inl (E.2.1.1, 21, .inl σ))]) (rest := []) (kX6_many l E (σ (12 : Int32).toNatClampNeg)) hfX6_many gX6_goPlay_X6_many ⟨Nat.le_of_ble_eq_true rfl, Nat.le_of_ble_eq_true rfl⟩ ⟨Nat.zero_le _, Nat.zero_le _⟩ [] rfl (by decide) [] rfl rfl rfl rfl (Nat.le_of_ble_eq_true rfl) dX6_goPlay_205 ?_
      refine hg_aload_n C dX6_goPlay_208 rfl 0 rfl ?_
      refine hg_get C (Cn := RX6) (T := TX6) (N := 23) (v := .ref m6) mrX6_goPlay_6 0 rfl rfl 6 (by decide) mmX6_goPlay_f13 rfl dX6_goPlay_209 ?_
      refine hg_bipush C (v := 6) dX6_goPlay_212 (by decide) ?_
      refine hg_iload C dX6_goPlay_214 3 rfl ?_
      refine hg_imul C dX6_goPlay_216 ?_
      refine hg_iconst C (v := 5) dX6_goPlay_217 (by decide) ?_
      refine hg_iadd C dX6_goPlay_218 ?_
      refine hg_iald C 1 rfl (ix_6k (c := 5) (by omega) (by decide)) dX6_goPlay_219 ?_
      refine hg_icmp_lt C (tgt := 247) dX6_goPlay_220 (by decide) (fun c13 => ?_) (fun c13 => ?_)
      · refine hg_iinc C (v := nI (i + 1)) (lv' := [(4, .int (nI (i + 1))), (0, .ref mm), (1, .ref pp), (2, .int a)]) dX6_goPlay_247 3 rfl (nI_inc _) (by decide) rfl ?_
        refine hg_goto C (tgt := 180) dX6_goPlay_250 (by decide) ?_
        have e9 : (stX6_goPlay_180 to) i σ = σ := (hid_eq _).trans ((if_neg c12).trans ((if_pos c13).trans rfl))
        have h9 := ih (i + 1) σ (by omega) (e9.symm.trans (congrArg ((stX6_goPlay_180 to) i) hσ))
        exact hg_sub [1, 2, 3, 0] rfl h9
      · refine hg_aload_n C dX6_goPlay_223 rfl 1 rfl ?_
        refine hg_bipush C (v := 12) dX6_goPlay_224 (by decide) ?_
        refine hg_dup2 C dX6_goPlay_226 rfl rfl ?_
        refine hg_iald C 3 rfl (by unfold vp_in; decide) dX6_goPlay_227 ?_
        refine hg_iconst C (v := 1) dX6_goPlay_228 (by decide) ?_
        refine hg_iload C dX6_goPlay_229 3 rfl ?_
        refine hg_ishl C dX6_goPlay_231 ?_
        refine hg_ior C dX6_goPlay_232 ?_
        refine hg_iast C (ws' := [(mm, .inr (6, [.int 0, .ref m1, .int ts, .int pc, .int pe, .int tu, .ref m6, .ref m7, .int rp, .int rt, .ref ma, .ref mb, .ref mc, .ref md, .ref me, .int ac, .ref mg, .ref mh, .int sn, .ref mj, .ref mk, .long sd, .int sl])), (m6, .inl (E.2.1.1, 36, .inl to)), (m7, .inl (E.2.1.1, 12, .inl so)), (pp, .inl (E.2.1.1, 21, .inl (upd σ (12 : Int32).toNatClampNeg ((σ (12 : Int32).toNatClampNeg) ||| (1 <<< ((nI i) &&& 31))))))]) 3 rfl (by unfold vp_in; decide) rfl dX6_goPlay_233 ?_
        refine hg_aload_n C dX6_goPlay_234 rfl 1 rfl ?_
        refine hg_bipush C (v := 13) dX6_goPlay_235 (by decide) ?_
        refine hg_dup2 C dX6_goPlay_237 rfl rfl ?_
        refine hg_iald C 3 rfl (by unfold vp_in; decide) dX6_goPlay_238 ?_
        refine hg_iconst C (v := 1) dX6_goPlay_239 (by decide) ?_
        refine hg_iload C dX6_goPlay_240 3 rfl ?_
        refine hg_ishl C dX6_goPlay_242 ?_
        refine hg_iconst C (v := (-1)) dX6_goPlay_243 (by decide) ?_
        refine hg_ixor C dX6_goPlay_244 ?_
        refine hg_iand C dX6_goPlay_245 ?_
        refine hg_iast C (ws' := [(mm, .inr (6, [.int 0, .ref m1, .int ts, .int pc, .int pe, .int tu, .ref m6, .ref m7, .int rp, .int rt, .ref ma, .ref mb, .ref mc, .ref md, .ref me, .int ac, .ref mg, .ref mh, .int sn, .ref mj, .ref mk, .long sd, .int sl])), (m6, .inl (E.2.1.1, 36, .inl to)), (m7, .inl (E.2.1.1, 12, .inl so)), (pp, .inl (E.2.1.1, 21, .inl (upd (upd σ (12 : Int32).toNatClampNeg ((σ (12 : Int32).toNatClampNeg) ||| (1 <<< ((nI i) &&& 31)))) (13 : Int32).toNatClampNeg (((upd σ (12 : Int32).toNatClampNeg ((σ (12 : Int32).toNatClampNeg) ||| (1 <<< ((nI i) &&& 31)))) (13 : Int32).toNatClampNeg) &&& ((1 <<< ((nI i) &&& 31)) ^^^ (-1))))))]) 3 rfl (by unfold vp_in; decide) rfl dX6_goPlay_246 ?_
        refine hg_iinc C (v := nI (i + 1)) (lv' := [(4, .int (nI (i + 1))), (0, .ref mm), (1, .ref pp), (2, .int a)]) dX6_goPlay_247 3 rfl (nI_inc _) (by decide) rfl ?_
        refine hg_goto C (tgt := 180) dX6_goPlay_250 (by decide) ?_
        have e9 : (stX6_goPlay_180 to) i σ = upd (upd σ (12 : Int32).toNatClampNeg ((σ (12 : Int32).toNatClampNeg) ||| (1 <<< ((nI i) &&& 31)))) (13 : Int32).toNatClampNeg (((upd σ (12 : Int32).toNatClampNeg ((σ (12 : Int32).toNatClampNeg) ||| (1 <<< ((nI i) &&& 31)))) (13 : Int32).toNatClampNeg) &&& ((1 <<< ((nI i) &&& 31)) ^^^ (-1))) := (hid_eq _).trans ((if_neg c12).trans ((if_neg c13).trans rfl))
        have h9 := ih (i + 1) (upd (upd σ (12 : Int32).toNatClampNeg ((σ (12 : Int32).toNatClampNeg) ||| (1 <<< ((nI i) &&& 31)))) (13 : Int32).toNatClampNeg (((upd σ (12 : Int32).toNatClampNeg ((σ (12 : Int32).toNatClampNeg) ||| (1 <<< ((nI i) &&& 31)))) (13 : Int32).toNatClampNeg) &&& ((1 <<< ((nI i) &&& 31)) ^^^ (-1)))) (by omega) (e9.symm.trans (congrArg ((stX6_goPlay_180 to) i) hσ))
        exact hg_sub [1, 2, 3, 0] rfl h9
noncomputable def fX6_goPlay (pe : Int32) (to : Nat → Int32) (so : Nat → Int32) (pg : Nat → Int32) (a : Int32) : Int32 × (Nat → Int32) := hid ((fX6_many ((upd (upd (itN (stX6_goPlay_180 to) pe.toNatClampNeg (itN (stX6_goPlay_45 to so a (if (0 : Int32) ≤ ((so ((3 * a) + 2).toNatClampNeg) - (pg (17 + a).toNatClampNeg)) then ((so ((3 * a) + 2).toNatClampNeg) - (pg (17 + a).toNatClampNeg)) else (0 : Int32))) pe.toNatClampNeg pg)) (17 + a).toNatClampNeg (((itN (stX6_goPlay_180 to) pe.toNatClampNeg (itN (stX6_goPlay_45 to so a (if (0 : Int32) ≤ ((so ((3 * a) + 2).toNatClampNeg) - (pg (17 + a).toNatClampNeg)) then ((so ((3 * a) + 2).toNatClampNeg) - (pg (17 + a).toNatClampNeg)) else (0 : Int32))) pe.toNatClampNeg pg)) (17 + a).toNatClampNeg) + 1)) (14 : Int32).toNatClampNeg (((upd (itN (stX6_goPlay_180 to) pe.toNatClampNeg (itN (stX6_goPlay_45 to so a (if (0 : Int32) ≤ ((so ((3 * a) + 2).toNatClampNeg) - (pg (17 + a).toNatClampNeg)) then ((so ((3 * a) + 2).toNatClampNeg) - (pg (17 + a).toNatClampNeg)) else (0 : Int32))) pe.toNatClampNeg pg)) (17 + a).toNatClampNeg (((itN (stX6_goPlay_180 to) pe.toNatClampNeg (itN (stX6_goPlay_45 to so a (if (0 : Int32) ≤ ((so ((3 * a) + 2).toNatClampNeg) - (pg (17 + a).toNatClampNeg)) then ((so ((3 * a) + 2).toNatClampNeg) - (pg (17 + a).toNatClampNeg)) else (0 : Int32))) pe.toNatClampNeg pg)) (17 + a).toNatClampNeg) + 1)) (14 : Int32).toNatClampNeg) + (so ((3 * a) + 1).toNatClampNeg))) (12 : Int32).toNatClampNeg), upd (upd (itN (stX6_goPlay_180 to) pe.toNatClampNeg (itN (stX6_goPlay_45 to so a (if (0 : Int32) ≤ ((so ((3 * a) + 2).toNatClampNeg) - (pg (17 + a).toNatClampNeg)) then ((so ((3 * a) + 2).toNatClampNeg) - (pg (17 + a).toNatClampNeg)) else (0 : Int32))) pe.toNatClampNeg pg)) (17 + a).toNatClampNeg (((itN (stX6_goPlay_180 to) pe.toNatClampNeg (itN (stX6_goPlay_45 to so a (if (0 : Int32) ≤ ((so ((3 * a) + 2).toNatClampNeg) - (pg (17 + a).toNatClampNeg)) then ((so ((3 * a) + 2).toNatClampNeg) - (pg (17 + a).toNatClampNeg)) else (0 : Int32))) pe.toNatClampNeg pg)) (17 + a).toNatClampNeg) + 1)) (14 : Int32).toNatClampNeg (((upd (itN (stX6_goPlay_180 to) pe.toNatClampNeg (itN (stX6_goPlay_45 to so a (if (0 : Int32) ≤ ((so ((3 * a) + 2).toNatClampNeg) - (pg (17 + a).toNatClampNeg)) then ((so ((3 * a) + 2).toNatClampNeg) - (pg (17 + a).toNatClampNeg)) else (0 : Int32))) pe.toNatClampNeg pg)) (17 + a).toNatClampNeg (((itN (stX6_goPlay_180 to) pe.toNatClampNeg (itN (stX6_goPlay_45 to so a (if (0 : Int32) ≤ ((so ((3 * a) + 2).toNatClampNeg) - (pg (17 + a).toNatClampNeg)) then ((so ((3 * a) + 2).toNatClampNeg) - (pg (17 + a).toNatClampNeg)) else (0 : Int32))) pe.toNatClampNeg pg)) (17 + a).toNatClampNeg) + 1)) (14 : Int32).toNatClampNeg) + (so ((3 * a) + 1).toNatClampNeg))))
set_option maxHeartbeats 4000000 in
set_option maxRecDepth 100000 in
theorem kX6_goPlay (l : Launch) (E : hE) (mm : Nat) (m1 : Nat) (m6 : Nat) (m7 : Nat) (ma : Nat) (mb : Nat) (mc : Nat) (md : Nat) (me : Nat) (mg : Nat) (mh : Nat) (mj : Nat) (mk : Nat) (ts : Int32) (pc : Int32) (pe : Int32) (tu : Int32) (rp : Int32) (rt : Int32) (ac : Int32) (sn : Int32) (sd : Int64) (sl : Int32) (to : Nat → Int32) (so : Nat → Int32) (pp : Nat) (pg : Nat → Int32) (a : Int32) (hpe : pe.toNatClampNeg ≤ 6) (ht : vp_in a 4) : hC l yX6_goPlay wsX6_goPlay rmX6_goPlay E [.ref mm, .ref pp, .int a] [(mm, .inr (6, [.int 0, .ref m1, .int ts, .int pc, .int pe, .int tu, .ref m6, .ref m7, .int rp, .int rt, .ref ma, .ref mb, .ref mc, .ref md, .ref me, .int ac, .ref mg, .ref mh, .int sn, .ref mj, .ref mk, .long sd, .int sl])), (m6, .inl (E.2.1.1, 36, .inl to)), (m7, .inl (E.2.1.1, 12, .inl so)), (pp, .inl (E.2.1.1, 21, .inl pg))] (some (.int ((fX6_goPlay pe to so pg a).1))) [(mm, .inr (6, [.int 0, .ref m1, .int ts, .int pc, .int pe, .int tu, .ref m6, .ref m7, .int rp, .int rt, .ref ma, .ref mb, .ref mc, .ref md, .ref me, .int ac, .ref mg, .ref mh, .int sn, .ref mj, .ref mk, .long sd, .int sl])), (m6, .inl (E.2.1.1, 36, .inl to)), (m7, .inl (E.2.1.1, 12, .inl so)), (pp, .inl (E.2.1.1, 21, .inl ((fX6_goPlay pe to so pg a).2)))] := by
  refine hC_intro (cc := cX6_goPlay) (maxL := 5) (ret := (some .int)) (lv0 := [(0, .ref mm), (1, .ref pp), (2, .int a)]) (by decide) rfl (Nat.le_of_ble_eq_true rfl) rfl ?_
  intro p e s m below meth c A C
  refine hg_aload_n C dX6_goPlay_0 rfl 0 rfl ?_
  refine hg_get C (Cn := RX6) (T := TX6) (N := 23) (v := .ref m7) mrX6_goPlay_6 0 rfl rfl 7 (by decide) mmX6_goPlay_f16 rfl dX6_goPlay_1 ?_
  refine hg_iconst C (v := 3) dX6_goPlay_4 (by decide) ?_
  refine hg_iload_n C dX6_goPlay_5 rfl 2 rfl ?_
  refine hg_imul C dX6_goPlay_6 ?_
  refine hg_iconst C (v := 2) dX6_goPlay_7 (by decide) ?_
  refine hg_iadd C dX6_goPlay_8 ?_
  refine hg_iald C 2 rfl (ix_32 ht) dX6_goPlay_9 ?_
  refine hg_aload_n C dX6_goPlay_10 rfl 1 rfl ?_
  refine hg_bipush C (v := 17) dX6_goPlay_11 (by decide) ?_
  refine hg_iload_n C dX6_goPlay_13 rfl 2 rfl ?_
  refine hg_iadd C dX6_goPlay_14 ?_
  refine hg_iald C 3 rfl (ix_17 ht) dX6_goPlay_15 ?_
  refine hg_isub C dX6_goPlay_16 ?_
  refine hg_join (J := 41) (v := if (0 : Int32) ≤ ((so ((3 * a) + 2).toNatClampNeg) - (pg (17 + a).toNatClampNeg)) then ((so ((3 * a) + 2).toNatClampNeg) - (pg (17 + a).toNatClampNeg)) else (0 : Int32)) (st1 := []) (fun jj => ?_) ?_
  · refine hg_if_ge C (tgt := 24) dX6_goPlay_17 (by decide) (fun c1 => ?_) (fun c1 => ?_)
    · refine hg_aload_n C dX6_goPlay_24 rfl 0 rfl ?_
      refine hg_get C (Cn := RX6) (T := TX6) (N := 23) (v := .ref m7) mrX6_goPlay_6 0 rfl rfl 7 (by decide) mmX6_goPlay_f16 rfl dX6_goPlay_25 ?_
      refine hg_iconst C (v := 3) dX6_goPlay_28 (by decide) ?_
      refine hg_iload_n C dX6_goPlay_29 rfl 2 rfl ?_
      refine hg_imul C dX6_goPlay_30 ?_
      refine hg_iconst C (v := 2) dX6_goPlay_31 (by decide) ?_
      refine hg_iadd C dX6_goPlay_32 ?_
      refine hg_iald C 2 rfl (ix_32 ht) dX6_goPlay_33 ?_
      refine hg_aload_n C dX6_goPlay_34 rfl 1 rfl ?_
      refine hg_bipush C (v := 17) dX6_goPlay_35 (by decide) ?_
      refine hg_iload_n C dX6_goPlay_37 rfl 2 rfl ?_
      refine hg_iadd C dX6_goPlay_38 ?_
      refine hg_iald C 3 rfl (ix_17 ht) dX6_goPlay_39 ?_
      refine hg_isub C dX6_goPlay_40 ?_
      exact hg_top (v := if (0 : Int32) ≤ ((so ((3 * a) + 2).toNatClampNeg) - (pg (17 + a).toNatClampNeg)) then ((so ((3 * a) + 2).toNatClampNeg) - (pg (17 + a).toNatClampNeg)) else (0 : Int32)) (v' := (so ((3 * a) + 2).toNatClampNeg) - (pg (17 + a).toNatClampNeg)) ((if_pos c1).trans rfl) jj
    · refine hg_iconst C (v := 0) dX6_goPlay_20 (by decide) ?_
      refine hg_goto C (tgt := 41) dX6_goPlay_21 (by decide) ?_
      exact hg_top (v := if (0 : Int32) ≤ ((so ((3 * a) + 2).toNatClampNeg) - (pg (17 + a).toNatClampNeg)) then ((so ((3 * a) + 2).toNatClampNeg) - (pg (17 + a).toNatClampNeg)) else (0 : Int32)) (v' := 0) ((if_neg c1).trans rfl) jj
  refine hg_istore_n C (lv' := [(3, .int (if (0 : Int32) ≤ ((so ((3 * a) + 2).toNatClampNeg) - (pg (17 + a).toNatClampNeg)) then ((so ((3 * a) + 2).toNatClampNeg) - (pg (17 + a).toNatClampNeg)) else (0 : Int32))), (0, .ref mm), (1, .ref pp), (2, .int a)]) dX6_goPlay_41 rfl (by decide) rfl ?_
  refine hg_iconst C (v := 0) dX6_goPlay_42 (by decide) ?_
  refine hg_istore C (lv' := [(4, .int 0), (3, .int (if (0 : Int32) ≤ ((so ((3 * a) + 2).toNatClampNeg) - (pg (17 + a).toNatClampNeg)) then ((so ((3 * a) + 2).toNatClampNeg) - (pg (17 + a).toNatClampNeg)) else (0 : Int32))), (0, .ref mm), (1, .ref pp), (2, .int a)]) dX6_goPlay_43 (by decide) rfl ?_
  refine hg_sub [2, 3, 4, 1, 0] rfl ?_
  refine lpX6_goPlay_45 C mm m1 m6 m7 ma mb mc md me mg mh mj mk ts pc pe tu rp rt ac sn sd sl to so pp pg a (if (0 : Int32) ≤ ((so ((3 * a) + 2).toNatClampNeg) - (pg (17 + a).toNatClampNeg)) then ((so ((3 * a) + 2).toNatClampNeg) - (pg (17 + a).toNatClampNeg)) else (0 : Int32)) hpe ht pg ?_ pe.toNatClampNeg 0 pg (by omega) rfl
  refine hg_iconst C (v := 0) dX6_goPlay_177 (by decide) ?_
  refine hg_istore C (lv' := [(4, .int 0), (0, .ref mm), (1, .ref pp), (2, .int a)]) dX6_goPlay_178 (by decide) rfl ?_
  refine hg_sub [1, 2, 3, 0] rfl ?_
  refine lpX6_goPlay_180 C mm m1 m6 m7 ma mb mc md me mg mh mj mk ts pc pe tu rp rt ac sn sd sl to so pp pg a hpe ht (itN (stX6_goPlay_45 to so a (if (0 : Int32) ≤ ((so ((3 * a) + 2).toNatClampNeg) - (pg (17 + a).toNatClampNeg)) then ((so ((3 * a) + 2).toNatClampNeg) - (pg (17 + a).toNatClampNeg)) else (0 : Int32))) pe.toNatClampNeg pg) ?_ pe.toNatClampNeg 0 (itN (stX6_goPlay_45 to so a (if (0 : Int32) ≤ ((so ((3 * a) + 2).toNatClampNeg) - (pg (17 + a).toNatClampNeg)) then ((so ((3 * a) + 2).toNatClampNeg) - (pg (17 + a).toNatClampNeg)) else (0 : Int32))) pe.toNatClampNeg pg) (by omega) rfl
  refine hg_aload_n C dX6_goPlay_253 rfl 1 rfl ?_
  refine hg_bipush C (v := 17) dX6_goPlay_254 (by decide) ?_
  refine hg_iload_n C dX6_goPlay_256 rfl 2 rfl ?_
  refine hg_iadd C dX6_goPlay_257 ?_
  refine hg_dup2 C dX6_goPlay_258 rfl rfl ?_
  refine hg_iald C 3 rfl (ix_17 ht) dX6_goPlay_259 ?_
  refine hg_iconst C (v := 1) dX6_goPlay_260 (by decide) ?_
  refine hg_iadd C dX6_goPlay_261 ?_
  refine hg_iast C (ws' := [(mm, .inr (6, [.int 0, .ref m1, .int ts, .int pc, .int pe, .int tu, .ref m6, .ref m7, .int rp, .int rt, .ref ma, .ref mb, .ref mc, .ref md, .ref me, .int ac, .ref mg, .ref mh, .int sn, .ref mj, .ref mk, .long sd, .int sl])), (m6, .inl (E.2.1.1, 36, .inl to)), (m7, .inl (E.2.1.1, 12, .inl so)), (pp, .inl (E.2.1.1, 21, .inl (upd (itN (stX6_goPlay_180 to) pe.toNatClampNeg (itN (stX6_goPlay_45 to so a (if (0 : Int32) ≤ ((so ((3 * a) + 2).toNatClampNeg) - (pg (17 + a).toNatClampNeg)) then ((so ((3 * a) + 2).toNatClampNeg) - (pg (17 + a).toNatClampNeg)) else (0 : Int32))) pe.toNatClampNeg pg)) (17 + a).toNatClampNeg (((itN (stX6_goPlay_180 to) pe.toNatClampNeg (itN (stX6_goPlay_45 to so a (if (0 : Int32) ≤ ((so ((3 * a) + 2).toNatClampNeg) - (pg (17 + a).toNatClampNeg)) then ((so ((3 * a) + 2).toNatClampNeg) - (pg (17 + a).toNatClampNeg)) else (0 : Int32))) pe.toNatClampNeg pg)) (17 + a).toNatClampNeg) + 1))))]) 3 rfl (ix_17 ht) rfl dX6_goPlay_262 ?_
  refine hg_aload_n C dX6_goPlay_263 rfl 1 rfl ?_
  refine hg_bipush C (v := 14) dX6_goPlay_264 (by decide) ?_
  refine hg_dup2 C dX6_goPlay_266 rfl rfl ?_
  refine hg_iald C 3 rfl (by unfold vp_in; decide) dX6_goPlay_267 ?_
  refine hg_aload_n C dX6_goPlay_268 rfl 0 rfl ?_
  refine hg_get C (Cn := RX6) (T := TX6) (N := 23) (v := .ref m7) mrX6_goPlay_6 0 rfl rfl 7 (by decide) mmX6_goPlay_f16 rfl dX6_goPlay_269 ?_
  refine hg_iconst C (v := 3) dX6_goPlay_272 (by decide) ?_
  refine hg_iload_n C dX6_goPlay_273 rfl 2 rfl ?_
  refine hg_imul C dX6_goPlay_274 ?_
  refine hg_iconst C (v := 1) dX6_goPlay_275 (by decide) ?_
  refine hg_iadd C dX6_goPlay_276 ?_
  refine hg_iald C 2 rfl (ix_31 ht) dX6_goPlay_277 ?_
  refine hg_iadd C dX6_goPlay_278 ?_
  refine hg_iast C (ws' := [(mm, .inr (6, [.int 0, .ref m1, .int ts, .int pc, .int pe, .int tu, .ref m6, .ref m7, .int rp, .int rt, .ref ma, .ref mb, .ref mc, .ref md, .ref me, .int ac, .ref mg, .ref mh, .int sn, .ref mj, .ref mk, .long sd, .int sl])), (m6, .inl (E.2.1.1, 36, .inl to)), (m7, .inl (E.2.1.1, 12, .inl so)), (pp, .inl (E.2.1.1, 21, .inl (upd (upd (itN (stX6_goPlay_180 to) pe.toNatClampNeg (itN (stX6_goPlay_45 to so a (if (0 : Int32) ≤ ((so ((3 * a) + 2).toNatClampNeg) - (pg (17 + a).toNatClampNeg)) then ((so ((3 * a) + 2).toNatClampNeg) - (pg (17 + a).toNatClampNeg)) else (0 : Int32))) pe.toNatClampNeg pg)) (17 + a).toNatClampNeg (((itN (stX6_goPlay_180 to) pe.toNatClampNeg (itN (stX6_goPlay_45 to so a (if (0 : Int32) ≤ ((so ((3 * a) + 2).toNatClampNeg) - (pg (17 + a).toNatClampNeg)) then ((so ((3 * a) + 2).toNatClampNeg) - (pg (17 + a).toNatClampNeg)) else (0 : Int32))) pe.toNatClampNeg pg)) (17 + a).toNatClampNeg) + 1)) (14 : Int32).toNatClampNeg (((upd (itN (stX6_goPlay_180 to) pe.toNatClampNeg (itN (stX6_goPlay_45 to so a (if (0 : Int32) ≤ ((so ((3 * a) + 2).toNatClampNeg) - (pg (17 + a).toNatClampNeg)) then ((so ((3 * a) + 2).toNatClampNeg) - (pg (17 + a).toNatClampNeg)) else (0 : Int32))) pe.toNatClampNeg pg)) (17 + a).toNatClampNeg (((itN (stX6_goPlay_180 to) pe.toNatClampNeg (itN (stX6_goPlay_45 to so a (if (0 : Int32) ≤ ((so ((3 * a) + 2).toNatClampNeg) - (pg (17 + a).toNatClampNeg)) then ((so ((3 * a) + 2).toNatClampNeg) - (pg (17 + a).toNatClampNeg)) else (0 : Int32))) pe.toNatClampNeg pg)) (17 + a).toNatClampNeg) + 1)) (14 : Int32).toNatClampNeg) + (so ((3 * a) + 1).toNatClampNeg)))))]) 3 rfl (by unfold vp_in; decide) rfl dX6_goPlay_279 ?_
  refine hg_aload_n C dX6_goPlay_280 rfl 1 rfl ?_
  refine hg_bipush C (v := 12) dX6_goPlay_281 (by decide) ?_
  refine hg_iald C 3 rfl (by unfold vp_in; decide) dX6_goPlay_283 ?_
  refine hg_callS C (ws' := [(mm, .inr (6, [.int 0, .ref m1, .int ts, .int pc, .int pe, .int tu, .ref m6, .ref m7, .int rp, .int rt, .ref ma, .ref mb, .ref mc, .ref md, .ref me, .int ac, .ref mg, .ref mh, .int sn, .ref mj, .ref mk, .long sd, .int sl])), (m6, .inl (E.2.1.1, 36, .inl to)), (m7, .inl (E.2.1.1, 12, .inl so)), (pp, .inl (E.2.1.1, 21, .inl (upd (upd (itN (stX6_goPlay_180 to) pe.toNatClampNeg (itN (stX6_goPlay_45 to so a (if (0 : Int32) ≤ ((so ((3 * a) + 2).toNatClampNeg) - (pg (17 + a).toNatClampNeg)) then ((so ((3 * a) + 2).toNatClampNeg) - (pg (17 + a).toNatClampNeg)) else (0 : Int32))) pe.toNatClampNeg pg)) (17 + a).toNatClampNeg (((itN (stX6_goPlay_180 to) pe.toNatClampNeg (itN (stX6_goPlay_45 to so a (if (0 : Int32) ≤ ((so ((3 * a) + 2).toNatClampNeg) - (pg (17 + a).toNatClampNeg)) then ((so ((3 * a) + 2).toNatClampNeg) - (pg (17 + a).toNatClampNeg)) else (0 : Int32))) pe.toNatClampNeg pg)) (17 + a).toNatClampNeg) + 1)) (14 : Int32).toNatClampNeg (((upd (itN (stX6_goPlay_180 to) pe.toNatClampNeg (itN (stX6_goPlay_45 to so a (if (0 : Int32) ≤ ((so ((3 * a) + 2).toNatClampNeg) - (pg (17 + a).toNatClampNeg)) then ((so ((3 * a) + 2).toNatClampNeg) - (pg (17 + a).toNatClampNeg)) else (0 : Int32))) pe.toNatClampNeg pg)) (17 + a).toNatClampNeg (((itN (stX6_goPlay_180 to) pe.toNatClampNeg (itN (stX6_goPlay_45 to so a (if (0 : Int32) ≤ ((so ((3 * a) + 2).toNatClampNeg) - (pg (17 + a).toNatClampNeg)) then ((so ((3 * a) + 2).toNatClampNeg) - (pg (17 + a).toNatClampNeg)) else (0 : Int32))) pe.toNatClampNeg pg)) (17 + a).toNatClampNeg) + 1)) (14 : Int32).toNatClampNeg) + (so ((3 * a) + 1).toNatClampNeg)))))]) (rest := []) (kX6_many l E ((upd (upd (itN (stX6_goPlay_180 to) pe.toNatClampNeg (itN (stX6_goPlay_45 to so a (if (0 : Int32) ≤ ((so ((3 * a) + 2).toNatClampNeg) - (pg (17 + a).toNatClampNeg)) then ((so ((3 * a) + 2).toNatClampNeg) - (pg (17 + a).toNatClampNeg)) else (0 : Int32))) pe.toNatClampNeg pg)) (17 + a).toNatClampNeg (((itN (stX6_goPlay_180 to) pe.toNatClampNeg (itN (stX6_goPlay_45 to so a (if (0 : Int32) ≤ ((so ((3 * a) + 2).toNatClampNeg) - (pg (17 + a).toNatClampNeg)) then ((so ((3 * a) + 2).toNatClampNeg) - (pg (17 + a).toNatClampNeg)) else (0 : Int32))) pe.toNatClampNeg pg)) (17 + a).toNatClampNeg) + 1)) (14 : Int32).toNatClampNeg (((upd (itN (stX6_goPlay_180 to) pe.toNatClampNeg (itN (stX6_goPlay_45 to so a (if (0 : Int32) ≤ ((so ((3 * a) + 2).toNatClampNeg) - (pg (17 + a).toNatClampNeg)) then ((so ((3 * a) + 2).toNatClampNeg) - (pg (17 + a).toNatClampNeg)) else (0 : Int32))) pe.toNatClampNeg pg)) (17 + a).toNatClampNeg (((itN (stX6_goPlay_180 to) pe.toNatClampNeg (itN (stX6_goPlay_45 to so a (if (0 : Int32) ≤ ((so ((3 * a) + 2).toNatClampNeg) - (pg (17 + a).toNatClampNeg)) then ((so ((3 * a) + 2).toNatClampNeg) - (pg (17 + a).toNatClampNeg)) else (0 : Int32))) pe.toNatClampNeg pg)) (17 + a).toNatClampNeg) + 1)) (14 : Int32).toNatClampNeg) + (so ((3 * a) + 1).toNatClampNeg))) (12 : Int32).toNatClampNeg)) hfX6_many gX6_goPlay_X6_many ⟨Nat.le_of_ble_eq_true rfl, Nat.le_of_ble_eq_true rfl⟩ ⟨Nat.zero_le _, Nat.zero_le _⟩ [] rfl (by decide) [] rfl rfl rfl rfl (Nat.le_of_ble_eq_true rfl) dX6_goPlay_284 ?_
  have e9 : (fX6_goPlay pe to so pg a) = (fX6_many ((upd (upd (itN (stX6_goPlay_180 to) pe.toNatClampNeg (itN (stX6_goPlay_45 to so a (if (0 : Int32) ≤ ((so ((3 * a) + 2).toNatClampNeg) - (pg (17 + a).toNatClampNeg)) then ((so ((3 * a) + 2).toNatClampNeg) - (pg (17 + a).toNatClampNeg)) else (0 : Int32))) pe.toNatClampNeg pg)) (17 + a).toNatClampNeg (((itN (stX6_goPlay_180 to) pe.toNatClampNeg (itN (stX6_goPlay_45 to so a (if (0 : Int32) ≤ ((so ((3 * a) + 2).toNatClampNeg) - (pg (17 + a).toNatClampNeg)) then ((so ((3 * a) + 2).toNatClampNeg) - (pg (17 + a).toNatClampNeg)) else (0 : Int32))) pe.toNatClampNeg pg)) (17 + a).toNatClampNeg) + 1)) (14 : Int32).toNatClampNeg (((upd (itN (stX6_goPlay_180 to) pe.toNatClampNeg (itN (stX6_goPlay_45 to so a (if (0 : Int32) ≤ ((so ((3 * a) + 2).toNatClampNeg) - (pg (17 + a).toNatClampNeg)) then ((so ((3 * a) + 2).toNatClampNeg) - (pg (17 + a).toNatClampNeg)) else (0 : Int32))) pe.toNatClampNeg pg)) (17 + a).toNatClampNeg (((itN (stX6_goPlay_180 to) pe.toNatClampNeg (itN (stX6_goPlay_45 to so a (if (0 : Int32) ≤ ((so ((3 * a) + 2).toNatClampNeg) - (pg (17 + a).toNatClampNeg)) then ((so ((3 * a) + 2).toNatClampNeg) - (pg (17 + a).toNatClampNeg)) else (0 : Int32))) pe.toNatClampNeg pg)) (17 + a).toNatClampNeg) + 1)) (14 : Int32).toNatClampNeg) + (so ((3 * a) + 1).toNatClampNeg))) (12 : Int32).toNatClampNeg), upd (upd (itN (stX6_goPlay_180 to) pe.toNatClampNeg (itN (stX6_goPlay_45 to so a (if (0 : Int32) ≤ ((so ((3 * a) + 2).toNatClampNeg) - (pg (17 + a).toNatClampNeg)) then ((so ((3 * a) + 2).toNatClampNeg) - (pg (17 + a).toNatClampNeg)) else (0 : Int32))) pe.toNatClampNeg pg)) (17 + a).toNatClampNeg (((itN (stX6_goPlay_180 to) pe.toNatClampNeg (itN (stX6_goPlay_45 to so a (if (0 : Int32) ≤ ((so ((3 * a) + 2).toNatClampNeg) - (pg (17 + a).toNatClampNeg)) then ((so ((3 * a) + 2).toNatClampNeg) - (pg (17 + a).toNatClampNeg)) else (0 : Int32))) pe.toNatClampNeg pg)) (17 + a).toNatClampNeg) + 1)) (14 : Int32).toNatClampNeg (((upd (itN (stX6_goPlay_180 to) pe.toNatClampNeg (itN (stX6_goPlay_45 to so a (if (0 : Int32) ≤ ((so ((3 * a) + 2).toNatClampNeg) - (pg (17 + a).toNatClampNeg)) then ((so ((3 * a) + 2).toNatClampNeg) - (pg (17 + a).toNatClampNeg)) else (0 : Int32))) pe.toNatClampNeg pg)) (17 + a).toNatClampNeg (((itN (stX6_goPlay_180 to) pe.toNatClampNeg (itN (stX6_goPlay_45 to so a (if (0 : Int32) ≤ ((so ((3 * a) + 2).toNatClampNeg) - (pg (17 + a).toNatClampNeg)) then ((so ((3 * a) + 2).toNatClampNeg) - (pg (17 + a).toNatClampNeg)) else (0 : Int32))) pe.toNatClampNeg pg)) (17 + a).toNatClampNeg) + 1)) (14 : Int32).toNatClampNeg) + (so ((3 * a) + 1).toNatClampNeg))) := hid_eq _
  rw [e9]
  exact hg_iret C dX6_goPlay_287 rfl rfl
theorem mmX6_goRound_f123 : (Cond.fieldLink RX6 123 "HatRoundModel" "slipped" "I") ∈ wsX6_goRound := (List.mem_cons_of_mem _ (List.mem_append_left _ (List.mem_of_getElem? (i := 0) rfl)))
theorem mrX6_goRound_6 : ∀ w ∈ u_ws RX6 TX6 23, w ∈ wsX6_goRound := fun _ h => (List.mem_cons_of_mem _ (List.mem_append_right _ h))
theorem mmX6_goRound_f51 : (Cond.fieldLink RX6 51 "HatRoundModel" "people" "I") ∈ wsX6_goRound := (List.mem_cons_of_mem _ (List.mem_append_left _ (List.mem_of_getElem? (i := 1) rfl)))
theorem mmX6_goRound_f13 : (Cond.fieldLink RX6 13 "HatRoundModel" "told" "[I") ∈ wsX6_goRound := (List.mem_cons_of_mem _ (List.mem_append_left _ (List.mem_of_getElem? (i := 2) rfl)))
abbrev rmX6_goRound : Room := { frames := 1, cells := 0, slots := 0, locals := 22 }
theorem hfX6_goRound : hCF yX6_goRound wsX6_goRound rmX6_goRound cX6_goRound 8 (some .int) 2 := ⟨⟨_, rfl⟩, by decide +kernel, rfl, rfl⟩
noncomputable def stX6_goRound_37 (to : Nat → Int32) (x5 : Int32) (i : Nat) (σ : (Nat → Int32)) : (Nat → Int32) := hid (if (fX6_has (σ (12 : Int32).toNatClampNeg) (nI i)) = 0 then σ else if (to (6 * (nI i)).toNatClampNeg) = x5 then upd (upd (upd σ (15 : Int32).toNatClampNeg ((σ (15 : Int32).toNatClampNeg) + (fX6_giftOf σ (nI i)))) (16 : Int32).toNatClampNeg (if (fX6_giftOf σ (nI i)) ≤ ((upd σ (15 : Int32).toNatClampNeg ((σ (15 : Int32).toNatClampNeg) + (fX6_giftOf σ (nI i)))) (16 : Int32).toNatClampNeg) then ((upd σ (15 : Int32).toNatClampNeg ((σ (15 : Int32).toNatClampNeg) + (fX6_giftOf σ (nI i)))) (16 : Int32).toNatClampNeg) else (fX6_giftOf σ (nI i)))) (nI i).toNatClampNeg 0 else σ)
set_option maxHeartbeats 4000000 in
set_option maxRecDepth 100000 in
theorem lpX6_goRound_37 {p : Program} {l : Launch} {e : Env} {s : State} {m : MethodId} {args : Array Value} {below : List Frame} {meth : Method} {c : Code} {E : hE} {A : Nat → Prop} {Q : State → Prop} (C : hX p s m args meth c E A cX6_goRound 8 RX6 wsX6_goRound (some .int)) (mm : Nat) (m1 : Nat) (m6 : Nat) (m7 : Nat) (ma : Nat) (mb : Nat) (mc : Nat) (md : Nat) (me : Nat) (mg : Nat) (mh : Nat) (mj : Nat) (mk : Nat) (ts : Int32) (pc : Int32) (pe : Int32) (tu : Int32) (rp : Int32) (rt : Int32) (ac : Int32) (sn : Int32) (sd : Int64) (sl : Int32) (to : Nat → Int32) (so : Nat → Int32) (pp : Nat) (pg : Nat → Int32) (a : Int32) (x3 : Int32) (x4 : Int32) (x5 : Int32) (v0_22 : Int32) (hpe : pe.toNatClampNeg ≤ 6) (σ0 : (Nat → Int32)) (k : hG p l e rmX6_goRound s m args below meth c E A 8 Q 0 0 123 [(0, .ref mm), (1, .ref pp), (2, .int a), (3, .int x3), (4, .int x4), (5, .int x5)] [] [(mm, .inr (6, [.int 0, .ref m1, .int ts, .int pc, .int pe, .int tu, .ref m6, .ref m7, .int rp, .int rt, .ref ma, .ref mb, .ref mc, .ref md, .ref me, .int ac, .ref mg, .ref mh, .int sn, .ref mj, .ref mk, .long sd, .int v0_22])), (m6, .inl (E.2.1.1, 36, .inl to)), (m7, .inl (E.2.1.1, 12, .inl so)), (pp, .inl (E.2.1.1, 21, .inl (itN (stX6_goRound_37 to x5) pe.toNatClampNeg σ0)))]) : ∀ (n i : Nat) (σ : (Nat → Int32)), i + n = pe.toNatClampNeg → σ = itN (stX6_goRound_37 to x5) i σ0 → hG p l e rmX6_goRound s m args below meth c E A 8 Q 0 0 37 [(0, .ref mm), (1, .ref pp), (2, .int a), (3, .int x3), (4, .int x4), (5, .int x5), (6, .int (nI i))] [] [(mm, .inr (6, [.int 0, .ref m1, .int ts, .int pc, .int pe, .int tu, .ref m6, .ref m7, .int rp, .int rt, .ref ma, .ref mb, .ref mc, .ref md, .ref me, .int ac, .ref mg, .ref mh, .int sn, .ref mj, .ref mk, .long sd, .int v0_22])), (m6, .inl (E.2.1.1, 36, .inl to)), (m7, .inl (E.2.1.1, 12, .inl so)), (pp, .inl (E.2.1.1, 21, .inl σ))] := by
  intro n
  induction n with
  | zero =>
    intro i σ hi hσ
    have hi : i = pe.toNatClampNeg := by omega
    rw [hi] at hσ
    rw [hi]
    subst hσ
    refine hg_iload C dX6_goRound_37 6 rfl ?_
    refine hg_aload_n C dX6_goRound_39 rfl 0 rfl ?_
    refine hg_get C (Cn := RX6) (T := TX6) (N := 23) (v := .int pe) mrX6_goRound_6 0 rfl rfl 4 (by decide) mmX6_goRound_f51 rfl dX6_goRound_40 ?_
    refine hg_icmp_ge C (tgt := 123) dX6_goRound_43 (by decide) (fun _ => ?_) (fun h => absurd (cl_done _) h)
    exact hg_sub [0, 1, 2, 3, 4, 5] rfl k
  | succ n ih =>
    intro i σ hi hσ
    have hlt : i < pe.toNatClampNeg := by omega
    refine hg_iload C dX6_goRound_37 6 rfl ?_
    refine hg_aload_n C dX6_goRound_39 rfl 0 rfl ?_
    refine hg_get C (Cn := RX6) (T := TX6) (N := 23) (v := .int pe) mrX6_goRound_6 0 rfl rfl 4 (by decide) mmX6_goRound_f51 rfl dX6_goRound_40 ?_
    refine hg_icmp_ge C (tgt := 123) dX6_goRound_43 (by decide) (fun h => absurd h (cl_cont hlt)) (fun _ => ?_)
    refine hg_aload_n C dX6_goRound_46 rfl 1 rfl ?_
    refine hg_bipush C (v := 12) dX6_goRound_47 (by decide) ?_
    refine hg_iald C 3 rfl (by unfold vp_in; decide) dX6_goRound_49 ?_
    refine hg_iload C dX6_goRound_50 6 rfl ?_
    refine hg_callS C (ws' := [(mm, .inr (6, [.int 0, .ref m1, .int ts, .int pc, .int pe, .int tu, .ref m6, .ref m7, .int rp, .int rt, .ref ma, .ref mb, .ref mc, .ref md, .ref me, .int ac, .ref mg, .ref mh, .int sn, .ref mj, .ref mk, .long sd, .int v0_22])), (m6, .inl (E.2.1.1, 36, .inl to)), (m7, .inl (E.2.1.1, 12, .inl so)), (pp, .inl (E.2.1.1, 21, .inl σ))]) (rest := []) (kX6_has l E (σ (12 : Int32).toNatClampNeg) (nI i)) hfX6_has gX6_goRound_X6_has ⟨Nat.le_of_ble_eq_true rfl, Nat.le_of_ble_eq_true rfl⟩ ⟨Nat.zero_le _, Nat.zero_le _⟩ [] rfl (by decide) [] rfl rfl rfl rfl (Nat.le_of_ble_eq_true rfl) dX6_goRound_52 ?_
    refine hg_if_eq C (tgt := 117) dX6_goRound_55 (by decide) (fun c5 => ?_) (fun c5 => ?_)
    · refine hg_iinc C (v := nI (i + 1)) (lv' := [(6, .int (nI (i + 1))), (0, .ref mm), (1, .ref pp), (2, .int a), (3, .int x3), (4, .int x4), (5, .int x5)]) dX6_goRound_117 6 rfl (nI_inc _) (by decide) rfl ?_
      refine hg_goto C (tgt := 37) dX6_goRound_120 (by decide) ?_
      have e9 : (stX6_goRound_37 to x5) i σ = σ := (hid_eq _).trans ((if_pos c5).trans rfl)
      have h9 := ih (i + 1) σ (by omega) (e9.symm.trans (congrArg ((stX6_goRound_37 to x5) i) hσ))
      exact hg_sub [1, 2, 3, 4, 5, 6, 0] rfl h9
    · refine hg_aload_n C dX6_goRound_58 rfl 0 rfl ?_
      refine hg_get C (Cn := RX6) (T := TX6) (N := 23) (v := .ref m6) mrX6_goRound_6 0 rfl rfl 6 (by decide) mmX6_goRound_f13 rfl dX6_goRound_59 ?_
      refine hg_bipush C (v := 6) dX6_goRound_62 (by decide) ?_
      refine hg_iload C dX6_goRound_64 6 rfl ?_
      refine hg_imul C dX6_goRound_66 ?_
      refine hg_iald C 1 rfl (ix_60 (by omega)) dX6_goRound_67 ?_
      refine hg_iload C dX6_goRound_68 5 rfl ?_
      refine hg_icmp_ne C (tgt := 117) dX6_goRound_70 (by decide) (fun c6 => ?_) (fun c6 => ?_)
      · refine hg_iinc C (v := nI (i + 1)) (lv' := [(6, .int (nI (i + 1))), (0, .ref mm), (1, .ref pp), (2, .int a), (3, .int x3), (4, .int x4), (5, .int x5)]) dX6_goRound_117 6 rfl (nI_inc _) (by decide) rfl ?_
        refine hg_goto C (tgt := 37) dX6_goRound_120 (by decide) ?_
        have e9 : (stX6_goRound_37 to x5) i σ = σ := (hid_eq _).trans ((if_neg c5).trans ((if_neg c6).trans rfl))
        have h9 := ih (i + 1) σ (by omega) (e9.symm.trans (congrArg ((stX6_goRound_37 to x5) i) hσ))
        exact hg_sub [1, 2, 3, 4, 5, 6, 0] rfl h9
      · refine hg_aload_n C dX6_goRound_73 rfl 1 rfl ?_
        refine hg_iload C dX6_goRound_74 6 rfl ?_
        refine hg_callS C (ws' := [(mm, .inr (6, [.int 0, .ref m1, .int ts, .int pc, .int pe, .int tu, .ref m6, .ref m7, .int rp, .int rt, .ref ma, .ref mb, .ref mc, .ref md, .ref me, .int ac, .ref mg, .ref mh, .int sn, .ref mj, .ref mk, .long sd, .int v0_22])), (m6, .inl (E.2.1.1, 36, .inl to)), (m7, .inl (E.2.1.1, 12, .inl so)), (pp, .inl (E.2.1.1, 21, .inl σ))]) (rest := []) (kX6_giftOf l E pp σ (nI i) (vp_in_nI (by omega) (by decide))) hfX6_giftOf gX6_goRound_X6_giftOf ⟨Nat.le_of_ble_eq_true rfl, Nat.le_of_ble_eq_true rfl⟩ ⟨Nat.zero_le _, Nat.zero_le _⟩ [3] rfl (by decide) [pp] rfl rfl rfl rfl (Nat.le_of_ble_eq_true rfl) dX6_goRound_76 ?_
        refine hg_istore C (lv' := [(7, .int (fX6_giftOf σ (nI i))), (0, .ref mm), (1, .ref pp), (2, .int a), (3, .int x3), (4, .int x4), (5, .int x5), (6, .int (nI i))]) dX6_goRound_79 (by decide) rfl ?_
        refine hg_aload_n C dX6_goRound_81 rfl 2 rfl ?_
        refine hg_bipush C (v := 15) dX6_goRound_82 (by decide) ?_
        refine hg_dup2 C dX6_goRound_84 rfl rfl ?_
        refine hg_iald C 3 rfl (by unfold vp_in; decide) dX6_goRound_85 ?_
        refine hg_iload C dX6_goRound_86 0 rfl ?_
        refine hg_iadd C dX6_goRound_88 ?_
        refine hg_iast C (ws' := [(mm, .inr (6, [.int 0, .ref m1, .int ts, .int pc, .int pe, .int tu, .ref m6, .ref m7, .int rp, .int rt, .ref ma, .ref mb, .ref mc, .ref md, .ref me, .int ac, .ref mg, .ref mh, .int sn, .ref mj, .ref mk, .long sd, .int v0_22])), (m6, .inl (E.2.1.1, 36, .inl to)), (m7, .inl (E.2.1.1, 12, .inl so)), (pp, .inl (E.2.1.1, 21, .inl (upd σ (15 : Int32).toNatClampNeg ((σ (15 : Int32).toNatClampNeg) + (fX6_giftOf σ (nI i))))))]) 3 rfl (by unfold vp_in; decide) rfl dX6_goRound_89 ?_
        refine hg_aload_n C dX6_goRound_90 rfl 2 rfl ?_
        refine hg_bipush C (v := 16) dX6_goRound_91 (by decide) ?_
        refine hg_iload C dX6_goRound_93 0 rfl ?_
        refine hg_aload_n C dX6_goRound_95 rfl 2 rfl ?_
        refine hg_bipush C (v := 16) dX6_goRound_96 (by decide) ?_
        refine hg_iald C 3 rfl (by unfold vp_in; decide) dX6_goRound_98 ?_
        refine hg_join (J := 111) (v := if (fX6_giftOf σ (nI i)) ≤ ((upd σ (15 : Int32).toNatClampNeg ((σ (15 : Int32).toNatClampNeg) + (fX6_giftOf σ (nI i)))) (16 : Int32).toNatClampNeg) then ((upd σ (15 : Int32).toNatClampNeg ((σ (15 : Int32).toNatClampNeg) + (fX6_giftOf σ (nI i)))) (16 : Int32).toNatClampNeg) else (fX6_giftOf σ (nI i))) (st1 := [.int 16, .ref pp]) (fun jj => ?_) ?_
        · refine hg_icmp_le C (tgt := 107) dX6_goRound_99 (by decide) (fun c7 => ?_) (fun c7 => ?_)
          · refine hg_aload_n C dX6_goRound_107 rfl 2 rfl ?_
            refine hg_bipush C (v := 16) dX6_goRound_108 (by decide) ?_
            refine hg_iald C 3 rfl (by unfold vp_in; decide) dX6_goRound_110 ?_
            exact hg_top (v := if (fX6_giftOf σ (nI i)) ≤ ((upd σ (15 : Int32).toNatClampNeg ((σ (15 : Int32).toNatClampNeg) + (fX6_giftOf σ (nI i)))) (16 : Int32).toNatClampNeg) then ((upd σ (15 : Int32).toNatClampNeg ((σ (15 : Int32).toNatClampNeg) + (fX6_giftOf σ (nI i)))) (16 : Int32).toNatClampNeg) else (fX6_giftOf σ (nI i))) (v' := (upd σ (15 : Int32).toNatClampNeg ((σ (15 : Int32).toNatClampNeg) + (fX6_giftOf σ (nI i)))) (16 : Int32).toNatClampNeg) ((if_pos c7).trans rfl) jj
          · refine hg_iload C dX6_goRound_102 0 rfl ?_
            refine hg_goto C (tgt := 111) dX6_goRound_104 (by decide) ?_
            exact hg_top (v := if (fX6_giftOf σ (nI i)) ≤ ((upd σ (15 : Int32).toNatClampNeg ((σ (15 : Int32).toNatClampNeg) + (fX6_giftOf σ (nI i)))) (16 : Int32).toNatClampNeg) then ((upd σ (15 : Int32).toNatClampNeg ((σ (15 : Int32).toNatClampNeg) + (fX6_giftOf σ (nI i)))) (16 : Int32).toNatClampNeg) else (fX6_giftOf σ (nI i))) (v' := fX6_giftOf σ (nI i)) ((if_neg c7).trans rfl) jj
        refine hg_iast C (ws' := [(mm, .inr (6, [.int 0, .ref m1, .int ts, .int pc, .int pe, .int tu, .ref m6, .ref m7, .int rp, .int rt, .ref ma, .ref mb, .ref mc, .ref md, .ref me, .int ac, .ref mg, .ref mh, .int sn, .ref mj, .ref mk, .long sd, .int v0_22])), (m6, .inl (E.2.1.1, 36, .inl to)), (m7, .inl (E.2.1.1, 12, .inl so)), (pp, .inl (E.2.1.1, 21, .inl (upd (upd σ (15 : Int32).toNatClampNeg ((σ (15 : Int32).toNatClampNeg) + (fX6_giftOf σ (nI i)))) (16 : Int32).toNatClampNeg (if (fX6_giftOf σ (nI i)) ≤ ((upd σ (15 : Int32).toNatClampNeg ((σ (15 : Int32).toNatClampNeg) + (fX6_giftOf σ (nI i)))) (16 : Int32).toNatClampNeg) then ((upd σ (15 : Int32).toNatClampNeg ((σ (15 : Int32).toNatClampNeg) + (fX6_giftOf σ (nI i)))) (16 : Int32).toNatClampNeg) else (fX6_giftOf σ (nI i))))))]) 3 rfl (by unfold vp_in; decide) rfl dX6_goRound_111 ?_
        refine hg_aload_n C dX6_goRound_112 rfl 2 rfl ?_
        refine hg_iload C dX6_goRound_113 7 rfl ?_
        refine hg_iconst C (v := 0) dX6_goRound_115 (by decide) ?_
        refine hg_iast C (ws' := [(mm, .inr (6, [.int 0, .ref m1, .int ts, .int pc, .int pe, .int tu, .ref m6, .ref m7, .int rp, .int rt, .ref ma, .ref mb, .ref mc, .ref md, .ref me, .int ac, .ref mg, .ref mh, .int sn, .ref mj, .ref mk, .long sd, .int v0_22])), (m6, .inl (E.2.1.1, 36, .inl to)), (m7, .inl (E.2.1.1, 12, .inl so)), (pp, .inl (E.2.1.1, 21, .inl (upd (upd (upd σ (15 : Int32).toNatClampNeg ((σ (15 : Int32).toNatClampNeg) + (fX6_giftOf σ (nI i)))) (16 : Int32).toNatClampNeg (if (fX6_giftOf σ (nI i)) ≤ ((upd σ (15 : Int32).toNatClampNeg ((σ (15 : Int32).toNatClampNeg) + (fX6_giftOf σ (nI i)))) (16 : Int32).toNatClampNeg) then ((upd σ (15 : Int32).toNatClampNeg ((σ (15 : Int32).toNatClampNeg) + (fX6_giftOf σ (nI i)))) (16 : Int32).toNatClampNeg) else (fX6_giftOf σ (nI i)))) (nI i).toNatClampNeg 0)))]) 3 rfl (vp_in_nI (by omega) (by decide)) rfl dX6_goRound_116 ?_
        refine hg_iinc C (v := nI (i + 1)) (lv' := [(6, .int (nI (i + 1))), (7, .int (fX6_giftOf σ (nI i))), (0, .ref mm), (1, .ref pp), (2, .int a), (3, .int x3), (4, .int x4), (5, .int x5)]) dX6_goRound_117 7 rfl (nI_inc _) (by decide) rfl ?_
        refine hg_goto C (tgt := 37) dX6_goRound_120 (by decide) ?_
        have e9 : (stX6_goRound_37 to x5) i σ = upd (upd (upd σ (15 : Int32).toNatClampNeg ((σ (15 : Int32).toNatClampNeg) + (fX6_giftOf σ (nI i)))) (16 : Int32).toNatClampNeg (if (fX6_giftOf σ (nI i)) ≤ ((upd σ (15 : Int32).toNatClampNeg ((σ (15 : Int32).toNatClampNeg) + (fX6_giftOf σ (nI i)))) (16 : Int32).toNatClampNeg) then ((upd σ (15 : Int32).toNatClampNeg ((σ (15 : Int32).toNatClampNeg) + (fX6_giftOf σ (nI i)))) (16 : Int32).toNatClampNeg) else (fX6_giftOf σ (nI i)))) (nI i).toNatClampNeg 0 := (hid_eq _).trans ((if_neg c5).trans ((if_pos c6).trans rfl))
        have h9 := ih (i + 1) (upd (upd (upd σ (15 : Int32).toNatClampNeg ((σ (15 : Int32).toNatClampNeg) + (fX6_giftOf σ (nI i)))) (16 : Int32).toNatClampNeg (if (fX6_giftOf σ (nI i)) ≤ ((upd σ (15 : Int32).toNatClampNeg ((σ (15 : Int32).toNatClampNeg) + (fX6_giftOf σ (nI i)))) (16 : Int32).toNatClampNeg) then ((upd σ (15 : Int32).toNatClampNeg ((σ (15 : Int32).toNatClampNeg) + (fX6_giftOf σ (nI i)))) (16 : Int32).toNatClampNeg) else (fX6_giftOf σ (nI i)))) (nI i).toNatClampNeg 0) (by omega) (e9.symm.trans (congrArg ((stX6_goRound_37 to x5) i) hσ))
        exact hg_sub [2, 3, 4, 5, 6, 7, 0] rfl h9
noncomputable def stX6_goRound_126 (to : Nat → Int32) (a : Int32) (x5 : Int32) (i : Nat) (σ : Int32 × (Nat → Int32)) : Int32 × (Nat → Int32) := hid (if (fX6_has (σ.2 (12 : Int32).toNatClampNeg) (nI i)) = 0 then (σ.1, σ.2) else if (if a = 0 then ((to (6 * (nI i)).toNatClampNeg) - x5) else (x5 - (to (6 * (nI i)).toNatClampNeg))) ≤ 0 then (σ.1, σ.2) else if (to ((6 * (nI i)) + 3).toNatClampNeg) < (if a = 0 then ((to (6 * (nI i)).toNatClampNeg) - x5) else (x5 - (to (6 * (nI i)).toNatClampNeg))) then (σ.1, σ.2) else (σ.1 ||| (1 <<< ((nI i) &&& 31)), upd σ.2 (12 : Int32).toNatClampNeg ((σ.2 (12 : Int32).toNatClampNeg) &&& ((1 <<< ((nI i) &&& 31)) ^^^ (-1)))))
set_option maxHeartbeats 4000000 in
set_option maxRecDepth 100000 in
theorem lpX6_goRound_126 {p : Program} {l : Launch} {e : Env} {s : State} {m : MethodId} {args : Array Value} {below : List Frame} {meth : Method} {c : Code} {E : hE} {A : Nat → Prop} {Q : State → Prop} (C : hX p s m args meth c E A cX6_goRound 8 RX6 wsX6_goRound (some .int)) (mm : Nat) (m1 : Nat) (m6 : Nat) (m7 : Nat) (ma : Nat) (mb : Nat) (mc : Nat) (md : Nat) (me : Nat) (mg : Nat) (mh : Nat) (mj : Nat) (mk : Nat) (ts : Int32) (pc : Int32) (pe : Int32) (tu : Int32) (rp : Int32) (rt : Int32) (ac : Int32) (sn : Int32) (sd : Int64) (sl : Int32) (to : Nat → Int32) (so : Nat → Int32) (pp : Nat) (pg : Nat → Int32) (a : Int32) (x3 : Int32) (x4 : Int32) (x5 : Int32) (hpe : pe.toNatClampNeg ≤ 6) (σ0 : Int32 × (Nat → Int32)) (k : hG p l e rmX6_goRound s m args below meth c E A 8 Q 0 0 236 [(0, .ref mm), (1, .ref pp), (2, .int a), (3, .int x3), (4, .int x4)] [] [(mm, .inr (6, [.int 0, .ref m1, .int ts, .int pc, .int pe, .int tu, .ref m6, .ref m7, .int rp, .int rt, .ref ma, .ref mb, .ref mc, .ref md, .ref me, .int ac, .ref mg, .ref mh, .int sn, .ref mj, .ref mk, .long sd, .int ((itN (stX6_goRound_126 to a x5) pe.toNatClampNeg σ0).1)])), (m6, .inl (E.2.1.1, 36, .inl to)), (m7, .inl (E.2.1.1, 12, .inl so)), (pp, .inl (E.2.1.1, 21, .inl ((itN (stX6_goRound_126 to a x5) pe.toNatClampNeg σ0).2)))]) : ∀ (n i : Nat) (σ : Int32 × (Nat → Int32)), i + n = pe.toNatClampNeg → σ = itN (stX6_goRound_126 to a x5) i σ0 → hG p l e rmX6_goRound s m args below meth c E A 8 Q 0 0 126 [(0, .ref mm), (1, .ref pp), (2, .int a), (3, .int x3), (4, .int x4), (5, .int x5), (6, .int (nI i))] [] [(mm, .inr (6, [.int 0, .ref m1, .int ts, .int pc, .int pe, .int tu, .ref m6, .ref m7, .int rp, .int rt, .ref ma, .ref mb, .ref mc, .ref md, .ref me, .int ac, .ref mg, .ref mh, .int sn, .ref mj, .ref mk, .long sd, .int σ.1])), (m6, .inl (E.2.1.1, 36, .inl to)), (m7, .inl (E.2.1.1, 12, .inl so)), (pp, .inl (E.2.1.1, 21, .inl σ.2))] := by
  intro n
  induction n with
  | zero =>
    intro i σ hi hσ
    have hi : i = pe.toNatClampNeg := by omega
    rw [hi] at hσ
    rw [hi]
    subst hσ
    refine hg_iload C dX6_goRound_126 6 rfl ?_
    refine hg_aload_n C dX6_goRound_128 rfl 0 rfl ?_
    refine hg_get C (Cn := RX6) (T := TX6) (N := 23) (v := .int pe) mrX6_goRound_6 0 rfl rfl 4 (by decide) mmX6_goRound_f51 rfl dX6_goRound_129 ?_
    refine hg_icmp_ge C (tgt := 236) dX6_goRound_132 (by decide) (fun _ => ?_) (fun h => absurd (cl_done _) h)
    exact hg_sub [0, 1, 2, 3, 4] rfl k
  | succ n ih =>
    intro i σ hi hσ
    have hlt : i < pe.toNatClampNeg := by omega
    refine hg_iload C dX6_goRound_126 6 rfl ?_
    refine hg_aload_n C dX6_goRound_128 rfl 0 rfl ?_
    refine hg_get C (Cn := RX6) (T := TX6) (N := 23) (v := .int pe) mrX6_goRound_6 0 rfl rfl 4 (by decide) mmX6_goRound_f51 rfl dX6_goRound_129 ?_
    refine hg_icmp_ge C (tgt := 236) dX6_goRound_132 (by decide) (fun h => absurd h (cl_cont hlt)) (fun _ => ?_)
    refine hg_iload_n C dX6_goRound_135 rfl 2 rfl ?_
    refine hg_join (J := 168) (v := if a = 0 then ((to (6 * (nI i)).toNatClampNeg) - x5) else (x5 - (to (6 * (nI i)).toNatClampNeg))) (st1 := []) (fun jj => ?_) ?_
    · refine hg_if_ne C (tgt := 155) dX6_goRound_136 (by decide) (fun c12 => ?_) (fun c12 => ?_)
      · refine hg_iload C dX6_goRound_155 5 rfl ?_
        refine hg_aload_n C dX6_goRound_157 rfl 0 rfl ?_
        refine hg_get C (Cn := RX6) (T := TX6) (N := 23) (v := .ref m6) mrX6_goRound_6 0 rfl rfl 6 (by decide) mmX6_goRound_f13 rfl dX6_goRound_158 ?_
        refine hg_bipush C (v := 6) dX6_goRound_161 (by decide) ?_
        refine hg_iload C dX6_goRound_163 6 rfl ?_
        refine hg_imul C dX6_goRound_165 ?_
        refine hg_iald C 1 rfl (ix_60 (by omega)) dX6_goRound_166 ?_
        refine hg_isub C dX6_goRound_167 ?_
        exact hg_top (v := if a = 0 then ((to (6 * (nI i)).toNatClampNeg) - x5) else (x5 - (to (6 * (nI i)).toNatClampNeg))) (v' := x5 - (to (6 * (nI i)).toNatClampNeg)) ((if_neg c12).trans rfl) jj
      · refine hg_aload_n C dX6_goRound_139 rfl 0 rfl ?_
        refine hg_get C (Cn := RX6) (T := TX6) (N := 23) (v := .ref m6) mrX6_goRound_6 0 rfl rfl 6 (by decide) mmX6_goRound_f13 rfl dX6_goRound_140 ?_
        refine hg_bipush C (v := 6) dX6_goRound_143 (by decide) ?_
        refine hg_iload C dX6_goRound_145 6 rfl ?_
        refine hg_imul C dX6_goRound_147 ?_
        refine hg_iald C 1 rfl (ix_60 (by omega)) dX6_goRound_148 ?_
        refine hg_iload C dX6_goRound_149 5 rfl ?_
        refine hg_isub C dX6_goRound_151 ?_
        refine hg_goto C (tgt := 168) dX6_goRound_152 (by decide) ?_
        exact hg_top (v := if a = 0 then ((to (6 * (nI i)).toNatClampNeg) - x5) else (x5 - (to (6 * (nI i)).toNatClampNeg))) (v' := (to (6 * (nI i)).toNatClampNeg) - x5) ((if_pos c12).trans rfl) jj
    refine hg_istore C (lv' := [(7, .int (if a = 0 then ((to (6 * (nI i)).toNatClampNeg) - x5) else (x5 - (to (6 * (nI i)).toNatClampNeg)))), (0, .ref mm), (1, .ref pp), (2, .int a), (3, .int x3), (4, .int x4), (5, .int x5), (6, .int (nI i))]) dX6_goRound_168 (by decide) rfl ?_
    refine hg_aload_n C dX6_goRound_170 rfl 2 rfl ?_
    refine hg_bipush C (v := 12) dX6_goRound_171 (by decide) ?_
    refine hg_iald C 3 rfl (by unfold vp_in; decide) dX6_goRound_173 ?_
    refine hg_iload C dX6_goRound_174 7 rfl ?_
    refine hg_callS C (ws' := [(mm, .inr (6, [.int 0, .ref m1, .int ts, .int pc, .int pe, .int tu, .ref m6, .ref m7, .int rp, .int rt, .ref ma, .ref mb, .ref mc, .ref md, .ref me, .int ac, .ref mg, .ref mh, .int sn, .ref mj, .ref mk, .long sd, .int σ.1])), (m6, .inl (E.2.1.1, 36, .inl to)), (m7, .inl (E.2.1.1, 12, .inl so)), (pp, .inl (E.2.1.1, 21, .inl σ.2))]) (rest := []) (kX6_has l E (σ.2 (12 : Int32).toNatClampNeg) (nI i)) hfX6_has gX6_goRound_X6_has ⟨Nat.le_of_ble_eq_true rfl, Nat.le_of_ble_eq_true rfl⟩ ⟨Nat.zero_le _, Nat.zero_le _⟩ [] rfl (by decide) [] rfl rfl rfl rfl (Nat.le_of_ble_eq_true rfl) dX6_goRound_176 ?_
    refine hg_if_eq C (tgt := 230) dX6_goRound_179 (by decide) (fun c13 => ?_) (fun c13 => ?_)
    · refine hg_iinc C (v := nI (i + 1)) (lv' := [(6, .int (nI (i + 1))), (7, .int (if a = 0 then ((to (6 * (nI i)).toNatClampNeg) - x5) else (x5 - (to (6 * (nI i)).toNatClampNeg)))), (0, .ref mm), (1, .ref pp), (2, .int a), (3, .int x3), (4, .int x4), (5, .int x5)]) dX6_goRound_230 7 rfl (nI_inc _) (by decide) rfl ?_
      refine hg_goto C (tgt := 126) dX6_goRound_233 (by decide) ?_
      have e9 : (stX6_goRound_126 to a x5) i σ = (σ.1, σ.2) := (hid_eq _).trans ((if_pos c13).trans rfl)
      have h9 := ih (i + 1) (σ.1, σ.2) (by omega) (e9.symm.trans (congrArg ((stX6_goRound_126 to a x5) i) hσ))
      exact hg_sub [2, 3, 4, 5, 6, 7, 0] rfl h9
    · refine hg_iload C dX6_goRound_182 0 rfl ?_
      refine hg_if_le C (tgt := 230) dX6_goRound_184 (by decide) (fun c14 => ?_) (fun c14 => ?_)
      · refine hg_iinc C (v := nI (i + 1)) (lv' := [(6, .int (nI (i + 1))), (7, .int (if a = 0 then ((to (6 * (nI i)).toNatClampNeg) - x5) else (x5 - (to (6 * (nI i)).toNatClampNeg)))), (0, .ref mm), (1, .ref pp), (2, .int a), (3, .int x3), (4, .int x4), (5, .int x5)]) dX6_goRound_230 7 rfl (nI_inc _) (by decide) rfl ?_
        refine hg_goto C (tgt := 126) dX6_goRound_233 (by decide) ?_
        have e9 : (stX6_goRound_126 to a x5) i σ = (σ.1, σ.2) := (hid_eq _).trans ((if_neg c13).trans ((if_pos c14).trans rfl))
        have h9 := ih (i + 1) (σ.1, σ.2) (by omega) (e9.symm.trans (congrArg ((stX6_goRound_126 to a x5) i) hσ))
        exact hg_sub [2, 3, 4, 5, 6, 7, 0] rfl h9
      · refine hg_iload C dX6_goRound_187 0 rfl ?_
        refine hg_aload_n C dX6_goRound_189 rfl 1 rfl ?_
        refine hg_get C (Cn := RX6) (T := TX6) (N := 23) (v := .ref m6) mrX6_goRound_6 0 rfl rfl 6 (by decide) mmX6_goRound_f13 rfl dX6_goRound_190 ?_
        refine hg_bipush C (v := 6) dX6_goRound_193 (by decide) ?_
        refine hg_iload C dX6_goRound_195 7 rfl ?_
        refine hg_imul C dX6_goRound_197 ?_
        refine hg_iconst C (v := 3) dX6_goRound_198 (by decide) ?_
        refine hg_iadd C dX6_goRound_199 ?_
        refine hg_iald C 1 rfl (ix_6k (c := 3) (by omega) (by decide)) dX6_goRound_200 ?_
        refine hg_icmp_gt C (tgt := 230) dX6_goRound_201 (by decide) (fun c15 => ?_) (fun c15 => ?_)
        · refine hg_iinc C (v := nI (i + 1)) (lv' := [(6, .int (nI (i + 1))), (7, .int (if a = 0 then ((to (6 * (nI i)).toNatClampNeg) - x5) else (x5 - (to (6 * (nI i)).toNatClampNeg)))), (0, .ref mm), (1, .ref pp), (2, .int a), (3, .int x3), (4, .int x4), (5, .int x5)]) dX6_goRound_230 7 rfl (nI_inc _) (by decide) rfl ?_
          refine hg_goto C (tgt := 126) dX6_goRound_233 (by decide) ?_
          have e9 : (stX6_goRound_126 to a x5) i σ = (σ.1, σ.2) := (hid_eq _).trans ((if_neg c13).trans ((if_neg c14).trans ((if_pos c15).trans rfl)))
          have h9 := ih (i + 1) (σ.1, σ.2) (by omega) (e9.symm.trans (congrArg ((stX6_goRound_126 to a x5) i) hσ))
          exact hg_sub [2, 3, 4, 5, 6, 7, 0] rfl h9
        · refine hg_aload_n C dX6_goRound_204 rfl 1 rfl ?_
          refine hg_dup C dX6_goRound_205 rfl ?_
          refine hg_get C (Cn := RX6) (T := TX6) (N := 23) (v := .int σ.1) mrX6_goRound_6 0 rfl rfl 22 (by decide) mmX6_goRound_f123 rfl dX6_goRound_206 ?_
          refine hg_iconst C (v := 1) dX6_goRound_209 (by decide) ?_
          refine hg_iload C dX6_goRound_210 7 rfl ?_
          refine hg_ishl C dX6_goRound_212 ?_
          refine hg_ior C dX6_goRound_213 ?_
          refine hg_put C (Cn := RX6) (T := TX6) (N := 23) (ws' := [(mm, .inr (6, [.int 0, .ref m1, .int ts, .int pc, .int pe, .int tu, .ref m6, .ref m7, .int rp, .int rt, .ref ma, .ref mb, .ref mc, .ref md, .ref me, .int ac, .ref mg, .ref mh, .int sn, .ref mj, .ref mk, .long sd, .int (σ.1 ||| (1 <<< ((nI i) &&& 31)))])), (m6, .inl (E.2.1.1, 36, .inl to)), (m7, .inl (E.2.1.1, 12, .inl so)), (pp, .inl (E.2.1.1, 21, .inl σ.2))]) mrX6_goRound_6 tyX6 tyX6_ok nmX6 0 rfl rfl 22 (by decide) mmX6_goRound_f123 rfl rfl rfl rfl (Nat.le_of_ble_eq_true rfl) rfl dX6_goRound_214 ?_
          refine hg_aload_n C dX6_goRound_217 rfl 2 rfl ?_
          refine hg_bipush C (v := 12) dX6_goRound_218 (by decide) ?_
          refine hg_dup2 C dX6_goRound_220 rfl rfl ?_
          refine hg_iald C 3 rfl (by unfold vp_in; decide) dX6_goRound_221 ?_
          refine hg_iconst C (v := 1) dX6_goRound_222 (by decide) ?_
          refine hg_iload C dX6_goRound_223 7 rfl ?_
          refine hg_ishl C dX6_goRound_225 ?_
          refine hg_iconst C (v := (-1)) dX6_goRound_226 (by decide) ?_
          refine hg_ixor C dX6_goRound_227 ?_
          refine hg_iand C dX6_goRound_228 ?_
          refine hg_iast C (ws' := [(mm, .inr (6, [.int 0, .ref m1, .int ts, .int pc, .int pe, .int tu, .ref m6, .ref m7, .int rp, .int rt, .ref ma, .ref mb, .ref mc, .ref md, .ref me, .int ac, .ref mg, .ref mh, .int sn, .ref mj, .ref mk, .long sd, .int (σ.1 ||| (1 <<< ((nI i) &&& 31)))])), (m6, .inl (E.2.1.1, 36, .inl to)), (m7, .inl (E.2.1.1, 12, .inl so)), (pp, .inl (E.2.1.1, 21, .inl (upd σ.2 (12 : Int32).toNatClampNeg ((σ.2 (12 : Int32).toNatClampNeg) &&& ((1 <<< ((nI i) &&& 31)) ^^^ (-1))))))]) 3 rfl (by unfold vp_in; decide) rfl dX6_goRound_229 ?_
          refine hg_iinc C (v := nI (i + 1)) (lv' := [(6, .int (nI (i + 1))), (7, .int (if a = 0 then ((to (6 * (nI i)).toNatClampNeg) - x5) else (x5 - (to (6 * (nI i)).toNatClampNeg)))), (0, .ref mm), (1, .ref pp), (2, .int a), (3, .int x3), (4, .int x4), (5, .int x5)]) dX6_goRound_230 7 rfl (nI_inc _) (by decide) rfl ?_
          refine hg_goto C (tgt := 126) dX6_goRound_233 (by decide) ?_
          have e9 : (stX6_goRound_126 to a x5) i σ = (σ.1 ||| (1 <<< ((nI i) &&& 31)), upd σ.2 (12 : Int32).toNatClampNeg ((σ.2 (12 : Int32).toNatClampNeg) &&& ((1 <<< ((nI i) &&& 31)) ^^^ (-1)))) := (hid_eq _).trans ((if_neg c13).trans ((if_neg c14).trans ((if_neg c15).trans rfl)))
          have h9 := ih (i + 1) (σ.1 ||| (1 <<< ((nI i) &&& 31)), upd σ.2 (12 : Int32).toNatClampNeg ((σ.2 (12 : Int32).toNatClampNeg) &&& ((1 <<< ((nI i) &&& 31)) ^^^ (-1)))) (by omega) (e9.symm.trans (congrArg ((stX6_goRound_126 to a x5) i) hσ))
          exact hg_sub [2, 3, 4, 5, 6, 7, 0] rfl h9
noncomputable def stX6_goRound_13 (pe : Int32) (to : Nat → Int32) (a : Int32) (i : Nat) (σ : Int32 × (Nat → Int32)) : Int32 × (Nat → Int32) := hid (((itN (stX6_goRound_126 to a (if a = 0 then (nI i) else (3 - (nI i)))) pe.toNatClampNeg (σ.1, (itN (stX6_goRound_37 to (if a = 0 then (nI i) else (3 - (nI i)))) pe.toNatClampNeg σ.2))).1, (itN (stX6_goRound_126 to a (if a = 0 then (nI i) else (3 - (nI i)))) pe.toNatClampNeg (σ.1, (itN (stX6_goRound_37 to (if a = 0 then (nI i) else (3 - (nI i)))) pe.toNatClampNeg σ.2))).2))
set_option maxHeartbeats 4000000 in
set_option maxRecDepth 100000 in
theorem lpX6_goRound_13 {p : Program} {l : Launch} {e : Env} {s : State} {m : MethodId} {args : Array Value} {below : List Frame} {meth : Method} {c : Code} {E : hE} {A : Nat → Prop} {Q : State → Prop} (C : hX p s m args meth c E A cX6_goRound 8 RX6 wsX6_goRound (some .int)) (mm : Nat) (m1 : Nat) (m6 : Nat) (m7 : Nat) (ma : Nat) (mb : Nat) (mc : Nat) (md : Nat) (me : Nat) (mg : Nat) (mh : Nat) (mj : Nat) (mk : Nat) (ts : Int32) (pc : Int32) (pe : Int32) (tu : Int32) (rp : Int32) (rt : Int32) (ac : Int32) (sn : Int32) (sd : Int64) (sl : Int32) (to : Nat → Int32) (so : Nat → Int32) (pp : Nat) (pg : Nat → Int32) (a : Int32) (x3 : Int32) (hpe : pe.toNatClampNeg ≤ 6) (σ0 : Int32 × (Nat → Int32)) (k : hG p l e rmX6_goRound s m args below meth c E A 8 Q 0 0 242 [(1, .ref pp), (3, .int x3)] [] [(mm, .inr (6, [.int 0, .ref m1, .int ts, .int pc, .int pe, .int tu, .ref m6, .ref m7, .int rp, .int rt, .ref ma, .ref mb, .ref mc, .ref md, .ref me, .int ac, .ref mg, .ref mh, .int sn, .ref mj, .ref mk, .long sd, .int ((itN (stX6_goRound_13 pe to a) 4 σ0).1)])), (m6, .inl (E.2.1.1, 36, .inl to)), (m7, .inl (E.2.1.1, 12, .inl so)), (pp, .inl (E.2.1.1, 21, .inl ((itN (stX6_goRound_13 pe to a) 4 σ0).2)))]) : ∀ (n i : Nat) (σ : Int32 × (Nat → Int32)), i + n = 4 → σ = itN (stX6_goRound_13 pe to a) i σ0 → hG p l e rmX6_goRound s m args below meth c E A 8 Q 0 0 13 [(0, .ref mm), (1, .ref pp), (2, .int a), (3, .int x3), (4, .int (nI i))] [] [(mm, .inr (6, [.int 0, .ref m1, .int ts, .int pc, .int pe, .int tu, .ref m6, .ref m7, .int rp, .int rt, .ref ma, .ref mb, .ref mc, .ref md, .ref me, .int ac, .ref mg, .ref mh, .int sn, .ref mj, .ref mk, .long sd, .int σ.1])), (m6, .inl (E.2.1.1, 36, .inl to)), (m7, .inl (E.2.1.1, 12, .inl so)), (pp, .inl (E.2.1.1, 21, .inl σ.2))] := by
  intro n
  induction n with
  | zero =>
    intro i σ hi hσ
    have hi : i = 4 := by omega
    rw [hi] at hσ
    rw [hi]
    subst hσ
    refine hg_iload C dX6_goRound_13 4 rfl ?_
    refine hg_iconst C (v := 4) dX6_goRound_15 (by decide) ?_
    refine hg_icmp_ge C (tgt := 242) dX6_goRound_16 (by decide) (fun _ => ?_) (fun h => absurd (by decide) h)
    exact hg_sub [1, 3] rfl k
  | succ n ih =>
    intro i σ hi hσ
    have hlt : i < 4 := by omega
    refine hg_iload C dX6_goRound_13 4 rfl ?_
    refine hg_iconst C (v := 4) dX6_goRound_15 (by decide) ?_
    refine hg_icmp_ge C (tgt := 242) dX6_goRound_16 (by decide) (fun h => absurd h (nI_ge hlt (by decide))) (fun _ => ?_)
    refine hg_iload_n C dX6_goRound_19 rfl 2 rfl ?_
    refine hg_join (J := 32) (v := if a = 0 then (nI i) else (3 - (nI i))) (st1 := []) (fun jj => ?_) ?_
    · refine hg_if_ne C (tgt := 28) dX6_goRound_20 (by decide) (fun c16 => ?_) (fun c16 => ?_)
      · refine hg_iconst C (v := 3) dX6_goRound_28 (by decide) ?_
        refine hg_iload C dX6_goRound_29 4 rfl ?_
        refine hg_isub C dX6_goRound_31 ?_
        exact hg_top (v := if a = 0 then (nI i) else (3 - (nI i))) (v' := 3 - (nI i)) ((if_neg c16).trans rfl) jj
      · refine hg_iload C dX6_goRound_23 4 rfl ?_
        refine hg_goto C (tgt := 32) dX6_goRound_25 (by decide) ?_
        exact hg_top (v := if a = 0 then (nI i) else (3 - (nI i))) (v' := nI i) ((if_pos c16).trans rfl) jj
    refine hg_istore C (lv' := [(5, .int (if a = 0 then (nI i) else (3 - (nI i)))), (0, .ref mm), (1, .ref pp), (2, .int a), (3, .int x3), (4, .int (nI i))]) dX6_goRound_32 (by decide) rfl ?_
    refine hg_iconst C (v := 0) dX6_goRound_34 (by decide) ?_
    refine hg_istore C (lv' := [(6, .int 0), (5, .int (if a = 0 then (nI i) else (3 - (nI i)))), (0, .ref mm), (1, .ref pp), (2, .int a), (3, .int x3), (4, .int (nI i))]) dX6_goRound_35 (by decide) rfl ?_
    refine hg_sub [2, 3, 4, 5, 6, 1, 0] rfl ?_
    refine lpX6_goRound_37 C mm m1 m6 m7 ma mb mc md me mg mh mj mk ts pc pe tu rp rt ac sn sd sl to so pp pg a x3 (nI i) (if a = 0 then (nI i) else (3 - (nI i))) σ.1 hpe σ.2 ?_ pe.toNatClampNeg 0 σ.2 (by omega) rfl
    refine hg_iconst C (v := 0) dX6_goRound_123 (by decide) ?_
    refine hg_istore C (lv' := [(6, .int 0), (0, .ref mm), (1, .ref pp), (2, .int a), (3, .int x3), (4, .int (nI i)), (5, .int (if a = 0 then (nI i) else (3 - (nI i))))]) dX6_goRound_124 (by decide) rfl ?_
    refine hg_sub [1, 2, 3, 4, 5, 6, 0] rfl ?_
    refine lpX6_goRound_126 C mm m1 m6 m7 ma mb mc md me mg mh mj mk ts pc pe tu rp rt ac sn sd sl to so pp pg a x3 (nI i) (if a = 0 then (nI i) else (3 - (nI i))) hpe (σ.1, (itN (stX6_goRound_37 to (if a = 0 then (nI i) else (3 - (nI i)))) pe.toNatClampNeg σ.2)) ?_ pe.toNatClampNeg 0 (σ.1, (itN (stX6_goRound_37 to (if a = 0 then (nI i) else (3 - (nI i)))) pe.toNatClampNeg σ.2)) (by omega) rfl
    refine hg_iinc C (v := nI (i + 1)) (lv' := [(4, .int (nI (i + 1))), (0, .ref mm), (1, .ref pp), (2, .int a), (3, .int x3)]) dX6_goRound_236 4 rfl (nI_inc _) (by decide) rfl ?_
    refine hg_goto C (tgt := 13) dX6_goRound_239 (by decide) ?_
    have e9 : (stX6_goRound_13 pe to a) i σ = ((itN (stX6_goRound_126 to a (if a = 0 then (nI i) else (3 - (nI i)))) pe.toNatClampNeg (σ.1, (itN (stX6_goRound_37 to (if a = 0 then (nI i) else (3 - (nI i)))) pe.toNatClampNeg σ.2))).1, (itN (stX6_goRound_126 to a (if a = 0 then (nI i) else (3 - (nI i)))) pe.toNatClampNeg (σ.1, (itN (stX6_goRound_37 to (if a = 0 then (nI i) else (3 - (nI i)))) pe.toNatClampNeg σ.2))).2) := hid_eq _
    have h9 := ih (i + 1) ((itN (stX6_goRound_126 to a (if a = 0 then (nI i) else (3 - (nI i)))) pe.toNatClampNeg (σ.1, (itN (stX6_goRound_37 to (if a = 0 then (nI i) else (3 - (nI i)))) pe.toNatClampNeg σ.2))).1, (itN (stX6_goRound_126 to a (if a = 0 then (nI i) else (3 - (nI i)))) pe.toNatClampNeg (σ.1, (itN (stX6_goRound_37 to (if a = 0 then (nI i) else (3 - (nI i)))) pe.toNatClampNeg σ.2))).2) (by omega) (e9.symm.trans (congrArg ((stX6_goRound_13 pe to a) i) hσ))
    exact hg_sub [1, 2, 3, 4, 0] rfl h9
noncomputable def fX6_goRound (pe : Int32) (to : Nat → Int32) (pg : Nat → Int32) (a : Int32) : Int32 × Int32 × (Nat → Int32) := hid ((((upd ((itN (stX6_goRound_13 pe to a) 4 (0, pg)).2) (14 : Int32).toNatClampNeg ((((itN (stX6_goRound_13 pe to a) 4 (0, pg)).2) (14 : Int32).toNatClampNeg) + 1)) (15 : Int32).toNatClampNeg) - (pg (15 : Int32).toNatClampNeg), (itN (stX6_goRound_13 pe to a) 4 (0, pg)).1, upd ((itN (stX6_goRound_13 pe to a) 4 (0, pg)).2) (14 : Int32).toNatClampNeg ((((itN (stX6_goRound_13 pe to a) 4 (0, pg)).2) (14 : Int32).toNatClampNeg) + 1)))
set_option maxHeartbeats 4000000 in
set_option maxRecDepth 100000 in
theorem kX6_goRound (l : Launch) (E : hE) (mm : Nat) (m1 : Nat) (m6 : Nat) (m7 : Nat) (ma : Nat) (mb : Nat) (mc : Nat) (md : Nat) (me : Nat) (mg : Nat) (mh : Nat) (mj : Nat) (mk : Nat) (ts : Int32) (pc : Int32) (pe : Int32) (tu : Int32) (rp : Int32) (rt : Int32) (ac : Int32) (sn : Int32) (sd : Int64) (sl : Int32) (to : Nat → Int32) (so : Nat → Int32) (pp : Nat) (pg : Nat → Int32) (a : Int32) (hpe : pe.toNatClampNeg ≤ 6) : hC l yX6_goRound wsX6_goRound rmX6_goRound E [.ref mm, .ref pp, .int a] [(mm, .inr (6, [.int 0, .ref m1, .int ts, .int pc, .int pe, .int tu, .ref m6, .ref m7, .int rp, .int rt, .ref ma, .ref mb, .ref mc, .ref md, .ref me, .int ac, .ref mg, .ref mh, .int sn, .ref mj, .ref mk, .long sd, .int sl])), (m6, .inl (E.2.1.1, 36, .inl to)), (m7, .inl (E.2.1.1, 12, .inl so)), (pp, .inl (E.2.1.1, 21, .inl pg))] (some (.int ((fX6_goRound pe to pg a).1))) [(mm, .inr (6, [.int 0, .ref m1, .int ts, .int pc, .int pe, .int tu, .ref m6, .ref m7, .int rp, .int rt, .ref ma, .ref mb, .ref mc, .ref md, .ref me, .int ac, .ref mg, .ref mh, .int sn, .ref mj, .ref mk, .long sd, .int ((fX6_goRound pe to pg a).2.1)])), (m6, .inl (E.2.1.1, 36, .inl to)), (m7, .inl (E.2.1.1, 12, .inl so)), (pp, .inl (E.2.1.1, 21, .inl ((fX6_goRound pe to pg a).2.2)))] := by
  refine hC_intro (cc := cX6_goRound) (maxL := 8) (ret := (some .int)) (lv0 := [(0, .ref mm), (1, .ref pp), (2, .int a)]) (by decide) rfl (Nat.le_of_ble_eq_true rfl) rfl ?_
  intro p e s m below meth c A C
  refine hg_aload_n C dX6_goRound_0 rfl 1 rfl ?_
  refine hg_bipush C (v := 15) dX6_goRound_1 (by decide) ?_
  refine hg_iald C 3 rfl (by unfold vp_in; decide) dX6_goRound_3 ?_
  refine hg_istore_n C (lv' := [(3, .int (pg (15 : Int32).toNatClampNeg)), (0, .ref mm), (1, .ref pp), (2, .int a)]) dX6_goRound_4 rfl (by decide) rfl ?_
  refine hg_aload_n C dX6_goRound_5 rfl 1 rfl ?_
  refine hg_iconst C (v := 0) dX6_goRound_6 (by decide) ?_
  refine hg_put C (Cn := RX6) (T := TX6) (N := 23) (ws' := [(mm, .inr (6, [.int 0, .ref m1, .int ts, .int pc, .int pe, .int tu, .ref m6, .ref m7, .int rp, .int rt, .ref ma, .ref mb, .ref mc, .ref md, .ref me, .int ac, .ref mg, .ref mh, .int sn, .ref mj, .ref mk, .long sd, .int 0])), (m6, .inl (E.2.1.1, 36, .inl to)), (m7, .inl (E.2.1.1, 12, .inl so)), (pp, .inl (E.2.1.1, 21, .inl pg))]) mrX6_goRound_6 tyX6 tyX6_ok nmX6 0 rfl rfl 22 (by decide) mmX6_goRound_f123 rfl rfl rfl rfl (Nat.le_of_ble_eq_true rfl) rfl dX6_goRound_7 ?_
  refine hg_iconst C (v := 0) dX6_goRound_10 (by decide) ?_
  refine hg_istore C (lv' := [(4, .int 0), (3, .int (pg (15 : Int32).toNatClampNeg)), (0, .ref mm), (1, .ref pp), (2, .int a)]) dX6_goRound_11 (by decide) rfl ?_
  refine hg_sub [2, 3, 4, 1, 0] rfl ?_
  refine lpX6_goRound_13 C mm m1 m6 m7 ma mb mc md me mg mh mj mk ts pc pe tu rp rt ac sn sd sl to so pp pg a (pg (15 : Int32).toNatClampNeg) hpe (0, pg) ?_ 4 0 (0, pg) (by omega) rfl
  refine hg_aload_n C dX6_goRound_242 rfl 0 rfl ?_
  refine hg_bipush C (v := 14) dX6_goRound_243 (by decide) ?_
  refine hg_dup2 C dX6_goRound_245 rfl rfl ?_
  refine hg_iald C 3 rfl (by unfold vp_in; decide) dX6_goRound_246 ?_
  refine hg_iconst C (v := 1) dX6_goRound_247 (by decide) ?_
  refine hg_iadd C dX6_goRound_248 ?_
  refine hg_iast C (ws' := [(mm, .inr (6, [.int 0, .ref m1, .int ts, .int pc, .int pe, .int tu, .ref m6, .ref m7, .int rp, .int rt, .ref ma, .ref mb, .ref mc, .ref md, .ref me, .int ac, .ref mg, .ref mh, .int sn, .ref mj, .ref mk, .long sd, .int ((itN (stX6_goRound_13 pe to a) 4 (0, pg)).1)])), (m6, .inl (E.2.1.1, 36, .inl to)), (m7, .inl (E.2.1.1, 12, .inl so)), (pp, .inl (E.2.1.1, 21, .inl (upd ((itN (stX6_goRound_13 pe to a) 4 (0, pg)).2) (14 : Int32).toNatClampNeg ((((itN (stX6_goRound_13 pe to a) 4 (0, pg)).2) (14 : Int32).toNatClampNeg) + 1))))]) 3 rfl (by unfold vp_in; decide) rfl dX6_goRound_249 ?_
  refine hg_aload_n C dX6_goRound_250 rfl 0 rfl ?_
  refine hg_bipush C (v := 15) dX6_goRound_251 (by decide) ?_
  refine hg_iald C 3 rfl (by unfold vp_in; decide) dX6_goRound_253 ?_
  refine hg_iload_n C dX6_goRound_254 rfl 1 rfl ?_
  refine hg_isub C dX6_goRound_255 ?_
  have e9 : (fX6_goRound pe to pg a) = (((upd ((itN (stX6_goRound_13 pe to a) 4 (0, pg)).2) (14 : Int32).toNatClampNeg ((((itN (stX6_goRound_13 pe to a) 4 (0, pg)).2) (14 : Int32).toNatClampNeg) + 1)) (15 : Int32).toNatClampNeg) - (pg (15 : Int32).toNatClampNeg), (itN (stX6_goRound_13 pe to a) 4 (0, pg)).1, upd ((itN (stX6_goRound_13 pe to a) 4 (0, pg)).2) (14 : Int32).toNatClampNeg ((((itN (stX6_goRound_13 pe to a) 4 (0, pg)).2) (14 : Int32).toNatClampNeg) + 1)) := hid_eq _
  rw [e9]
  exact hg_iret C dX6_goRound_256 rfl rfl
theorem mmX6_begin_f28 : (Cond.fieldLink RX6 28 "HatRoundModel" "trial" "[I") ∈ wsX6_begin := (List.mem_cons_of_mem _ (List.mem_append_left _ (List.mem_of_getElem? (i := 0) rfl)))
theorem mrX6_begin_6 : ∀ w ∈ u_ws RX6 TX6 23, w ∈ wsX6_begin := fun _ h => (List.mem_cons_of_mem _ (List.mem_append_right _ h))
theorem mmX6_begin_f25 : (Cond.fieldLink RX6 25 "HatRoundModel" "page" "[I") ∈ wsX6_begin := (List.mem_cons_of_mem _ (List.mem_append_left _ (List.mem_of_getElem? (i := 1) rfl)))
abbrev rmX6_begin : Room := { frames := 0, cells := 0, slots := 0, locals := 0 }
theorem hfX6_begin : hCF yX6_begin wsX6_begin rmX6_begin cX6_begin 2 none 0 := ⟨⟨_, rfl⟩, by decide +kernel, rfl, rfl⟩
noncomputable def stX6_begin_2 (pg : Nat → Int32) (i : Nat) (σ : (Nat → Int32)) : (Nat → Int32) := hid (upd σ (nI i).toNatClampNeg (pg (nI i).toNatClampNeg))
set_option maxHeartbeats 4000000 in
set_option maxRecDepth 100000 in
theorem lpX6_begin_2 {p : Program} {l : Launch} {e : Env} {s : State} {m : MethodId} {args : Array Value} {below : List Frame} {meth : Method} {c : Code} {E : hE} {A : Nat → Prop} {Q : State → Prop} (C : hX p s m args meth c E A cX6_begin 2 RX6 wsX6_begin none) (mm : Nat) (m1 : Nat) (m6 : Nat) (m7 : Nat) (ma : Nat) (mb : Nat) (mc : Nat) (md : Nat) (me : Nat) (mg : Nat) (mh : Nat) (mj : Nat) (mk : Nat) (ts : Int32) (pc : Int32) (pe : Int32) (tu : Int32) (rp : Int32) (rt : Int32) (ac : Int32) (sn : Int32) (sd : Int64) (sl : Int32) (pg : Nat → Int32) (tr : Nat → Int32) (σ0 : (Nat → Int32)) (k : hG p l e rmX6_begin s m args below meth c E A 2 Q 0 0 26 [] [] [(mm, .inr (6, [.int 0, .ref m1, .int ts, .int pc, .int pe, .int tu, .ref m6, .ref m7, .int rp, .int rt, .ref ma, .ref mb, .ref mc, .ref md, .ref me, .int ac, .ref mg, .ref mh, .int sn, .ref mj, .ref mk, .long sd, .int sl])), (mc, .inl (E.2.1.1, 21, .inl pg)), (md, .inl (E.2.1.1, 21, .inl (itN (stX6_begin_2 pg) 21 σ0)))]) : ∀ (n i : Nat) (σ : (Nat → Int32)), i + n = 21 → σ = itN (stX6_begin_2 pg) i σ0 → hG p l e rmX6_begin s m args below meth c E A 2 Q 0 0 2 [(0, .ref mm), (1, .int (nI i))] [] [(mm, .inr (6, [.int 0, .ref m1, .int ts, .int pc, .int pe, .int tu, .ref m6, .ref m7, .int rp, .int rt, .ref ma, .ref mb, .ref mc, .ref md, .ref me, .int ac, .ref mg, .ref mh, .int sn, .ref mj, .ref mk, .long sd, .int sl])), (mc, .inl (E.2.1.1, 21, .inl pg)), (md, .inl (E.2.1.1, 21, .inl σ))] := by
  intro n
  induction n with
  | zero =>
    intro i σ hi hσ
    have hi : i = 21 := by omega
    rw [hi] at hσ
    rw [hi]
    subst hσ
    refine hg_iload_n C dX6_begin_2 rfl 1 rfl ?_
    refine hg_bipush C (v := 21) dX6_begin_3 (by decide) ?_
    refine hg_icmp_ge C (tgt := 26) dX6_begin_5 (by decide) (fun _ => ?_) (fun h => absurd (by decide) h)
    exact hg_sub [] rfl k
  | succ n ih =>
    intro i σ hi hσ
    have hlt : i < 21 := by omega
    refine hg_iload_n C dX6_begin_2 rfl 1 rfl ?_
    refine hg_bipush C (v := 21) dX6_begin_3 (by decide) ?_
    refine hg_icmp_ge C (tgt := 26) dX6_begin_5 (by decide) (fun h => absurd h (nI_ge hlt (by decide))) (fun _ => ?_)
    refine hg_aload_n C dX6_begin_8 rfl 0 rfl ?_
    refine hg_get C (Cn := RX6) (T := TX6) (N := 23) (v := .ref md) mrX6_begin_6 0 rfl rfl 13 (by decide) mmX6_begin_f28 rfl dX6_begin_9 ?_
    refine hg_iload_n C dX6_begin_12 rfl 1 rfl ?_
    refine hg_aload_n C dX6_begin_13 rfl 0 rfl ?_
    refine hg_get C (Cn := RX6) (T := TX6) (N := 23) (v := .ref mc) mrX6_begin_6 0 rfl rfl 12 (by decide) mmX6_begin_f25 rfl dX6_begin_14 ?_
    refine hg_iload_n C dX6_begin_17 rfl 1 rfl ?_
    refine hg_iald C 1 rfl (vp_in_nI (by omega) (by decide)) dX6_begin_18 ?_
    refine hg_iast C (ws' := [(mm, .inr (6, [.int 0, .ref m1, .int ts, .int pc, .int pe, .int tu, .ref m6, .ref m7, .int rp, .int rt, .ref ma, .ref mb, .ref mc, .ref md, .ref me, .int ac, .ref mg, .ref mh, .int sn, .ref mj, .ref mk, .long sd, .int sl])), (mc, .inl (E.2.1.1, 21, .inl pg)), (md, .inl (E.2.1.1, 21, .inl (upd σ (nI i).toNatClampNeg (pg (nI i).toNatClampNeg))))]) 2 rfl (vp_in_nI (by omega) (by decide)) rfl dX6_begin_19 ?_
    refine hg_iinc C (v := nI (i + 1)) (lv' := [(1, .int (nI (i + 1))), (0, .ref mm)]) dX6_begin_20 1 rfl (nI_inc _) (by decide) rfl ?_
    refine hg_goto C (tgt := 2) dX6_begin_23 (by decide) ?_
    have e9 : (stX6_begin_2 pg) i σ = upd σ (nI i).toNatClampNeg (pg (nI i).toNatClampNeg) := hid_eq _
    have h9 := ih (i + 1) (upd σ (nI i).toNatClampNeg (pg (nI i).toNatClampNeg)) (by omega) (e9.symm.trans (congrArg ((stX6_begin_2 pg) i) hσ))
    exact hg_sub [1, 0] rfl h9
noncomputable def fX6_begin (pg : Nat → Int32) (tr : Nat → Int32) : (Nat → Int32) := hid ((itN (stX6_begin_2 pg) 21 tr))
set_option maxHeartbeats 4000000 in
set_option maxRecDepth 100000 in
theorem kX6_begin (l : Launch) (E : hE) (mm : Nat) (m1 : Nat) (m6 : Nat) (m7 : Nat) (ma : Nat) (mb : Nat) (mc : Nat) (md : Nat) (me : Nat) (mg : Nat) (mh : Nat) (mj : Nat) (mk : Nat) (ts : Int32) (pc : Int32) (pe : Int32) (tu : Int32) (rp : Int32) (rt : Int32) (ac : Int32) (sn : Int32) (sd : Int64) (sl : Int32) (pg : Nat → Int32) (tr : Nat → Int32) : hC l yX6_begin wsX6_begin rmX6_begin E [.ref mm] [(mm, .inr (6, [.int 0, .ref m1, .int ts, .int pc, .int pe, .int tu, .ref m6, .ref m7, .int rp, .int rt, .ref ma, .ref mb, .ref mc, .ref md, .ref me, .int ac, .ref mg, .ref mh, .int sn, .ref mj, .ref mk, .long sd, .int sl])), (mc, .inl (E.2.1.1, 21, .inl pg)), (md, .inl (E.2.1.1, 21, .inl tr))] none [(mm, .inr (6, [.int 0, .ref m1, .int ts, .int pc, .int pe, .int tu, .ref m6, .ref m7, .int rp, .int rt, .ref ma, .ref mb, .ref mc, .ref md, .ref me, .int ac, .ref mg, .ref mh, .int sn, .ref mj, .ref mk, .long sd, .int sl])), (mc, .inl (E.2.1.1, 21, .inl pg)), (md, .inl (E.2.1.1, 21, .inl (fX6_begin pg tr)))] := by
  refine hC_intro (cc := cX6_begin) (maxL := 2) (ret := none) (lv0 := [(0, .ref mm)]) (by decide) rfl (Nat.le_of_ble_eq_true rfl) rfl ?_
  intro p e s m below meth c A C
  refine hg_iconst C (v := 0) dX6_begin_0 (by decide) ?_
  refine hg_istore_n C (lv' := [(1, .int 0), (0, .ref mm)]) dX6_begin_1 rfl (by decide) rfl ?_
  refine hg_sub [1, 0] rfl ?_
  refine lpX6_begin_2 C mm m1 m6 m7 ma mb mc md me mg mh mj mk ts pc pe tu rp rt ac sn sd sl pg tr tr ?_ 21 0 tr (by omega) rfl
  have e9 : (fX6_begin pg tr) = (itN (stX6_begin_2 pg) 21 tr) := hid_eq _
  rw [e9]
  exact hg_vret C dX6_begin_26 rfl rfl
theorem mmX6_note_f97 : (Cond.fieldLink RX6 97 "HatRoundModel" "acts" "I") ∈ wsX6_note := (List.mem_cons_of_mem _ (List.mem_append_left _ (List.mem_of_getElem? (i := 0) rfl)))
theorem mrX6_note_6 : ∀ w ∈ u_ws RX6 TX6 23, w ∈ wsX6_note := fun _ h => (List.mem_cons_of_mem _ (List.mem_append_right _ h))
theorem mmX6_note_f31 : (Cond.fieldLink RX6 31 "HatRoundModel" "book" "[I") ∈ wsX6_note := (List.mem_cons_of_mem _ (List.mem_append_left _ (List.mem_of_getElem? (i := 1) rfl)))
theorem mmX6_note_f25 : (Cond.fieldLink RX6 25 "HatRoundModel" "page" "[I") ∈ wsX6_note := (List.mem_cons_of_mem _ (List.mem_append_left _ (List.mem_of_getElem? (i := 2) rfl)))
abbrev rmX6_note : Room := { frames := 0, cells := 0, slots := 0, locals := 0 }
theorem hfX6_note : hCF yX6_note wsX6_note rmX6_note cX6_note 2 none 0 := ⟨⟨_, rfl⟩, by decide +kernel, rfl, rfl⟩
noncomputable def stX6_note_51 (pg : Nat → Int32) (v0_15 : Int32) (i : Nat) (σ : (Nat → Int32)) : (Nat → Int32) := hid (upd σ ((21 * v0_15) + (nI i)).toNatClampNeg (pg (nI i).toNatClampNeg))
set_option maxHeartbeats 4000000 in
set_option maxRecDepth 100000 in
theorem lpX6_note_51 {p : Program} {l : Launch} {e : Env} {s : State} {m : MethodId} {args : Array Value} {below : List Frame} {meth : Method} {c : Code} {E : hE} {A : Nat → Prop} {Q : State → Prop} (C : hX p s m args meth c E A cX6_note 2 RX6 wsX6_note none) (mm : Nat) (m1 : Nat) (m6 : Nat) (m7 : Nat) (ma : Nat) (mb : Nat) (mc : Nat) (md : Nat) (me : Nat) (mg : Nat) (mh : Nat) (mj : Nat) (mk : Nat) (ts : Int32) (pc : Int32) (pe : Int32) (tu : Int32) (rp : Int32) (rt : Int32) (ac : Int32) (sn : Int32) (sd : Int64) (sl : Int32) (pg : Nat → Int32) (bk : Nat → Int32) (v0_15 : Int32) (hac : vp_in ac 13) (hc2 : vp_in v0_15 12) (σ0 : (Nat → Int32)) (k : hG p l e rmX6_note s m args below meth c E A 2 Q 0 0 83 [(0, .ref mm)] [] [(mm, .inr (6, [.int 0, .ref m1, .int ts, .int pc, .int pe, .int tu, .ref m6, .ref m7, .int rp, .int rt, .ref ma, .ref mb, .ref mc, .ref md, .ref me, .int v0_15, .ref mg, .ref mh, .int sn, .ref mj, .ref mk, .long sd, .int sl])), (mc, .inl (E.2.1.1, 21, .inl pg)), (me, .inl (E.2.1.1, 252, .inl (itN (stX6_note_51 pg v0_15) 21 σ0)))]) : ∀ (n i : Nat) (σ : (Nat → Int32)), i + n = 21 → σ = itN (stX6_note_51 pg v0_15) i σ0 → hG p l e rmX6_note s m args below meth c E A 2 Q 0 0 51 [(0, .ref mm), (1, .int (nI i))] [] [(mm, .inr (6, [.int 0, .ref m1, .int ts, .int pc, .int pe, .int tu, .ref m6, .ref m7, .int rp, .int rt, .ref ma, .ref mb, .ref mc, .ref md, .ref me, .int v0_15, .ref mg, .ref mh, .int sn, .ref mj, .ref mk, .long sd, .int sl])), (mc, .inl (E.2.1.1, 21, .inl pg)), (me, .inl (E.2.1.1, 252, .inl σ))] := by
  intro n
  induction n with
  | zero =>
    intro i σ hi hσ
    have hi : i = 21 := by omega
    rw [hi] at hσ
    rw [hi]
    subst hσ
    refine hg_iload_n C dX6_note_51 rfl 1 rfl ?_
    refine hg_bipush C (v := 21) dX6_note_52 (by decide) ?_
    refine hg_icmp_ge C (tgt := 83) dX6_note_54 (by decide) (fun _ => ?_) (fun h => absurd (by decide) h)
    exact hg_sub [0] rfl k
  | succ n ih =>
    intro i σ hi hσ
    have hlt : i < 21 := by omega
    refine hg_iload_n C dX6_note_51 rfl 1 rfl ?_
    refine hg_bipush C (v := 21) dX6_note_52 (by decide) ?_
    refine hg_icmp_ge C (tgt := 83) dX6_note_54 (by decide) (fun h => absurd h (nI_ge hlt (by decide))) (fun _ => ?_)
    refine hg_aload_n C dX6_note_57 rfl 0 rfl ?_
    refine hg_get C (Cn := RX6) (T := TX6) (N := 23) (v := .ref me) mrX6_note_6 0 rfl rfl 14 (by decide) mmX6_note_f31 rfl dX6_note_58 ?_
    refine hg_bipush C (v := 21) dX6_note_61 (by decide) ?_
    refine hg_aload_n C dX6_note_63 rfl 0 rfl ?_
    refine hg_get C (Cn := RX6) (T := TX6) (N := 23) (v := .int v0_15) mrX6_note_6 0 rfl rfl 15 (by decide) mmX6_note_f97 rfl dX6_note_64 ?_
    refine hg_imul C dX6_note_67 ?_
    refine hg_iload_n C dX6_note_68 rfl 1 rfl ?_
    refine hg_iadd C dX6_note_69 ?_
    refine hg_aload_n C dX6_note_70 rfl 0 rfl ?_
    refine hg_get C (Cn := RX6) (T := TX6) (N := 23) (v := .ref mc) mrX6_note_6 0 rfl rfl 12 (by decide) mmX6_note_f25 rfl dX6_note_71 ?_
    refine hg_iload_n C dX6_note_74 rfl 1 rfl ?_
    refine hg_iald C 1 rfl (vp_in_nI (by omega) (by decide)) dX6_note_75 ?_
    refine hg_iast C (ws' := [(mm, .inr (6, [.int 0, .ref m1, .int ts, .int pc, .int pe, .int tu, .ref m6, .ref m7, .int rp, .int rt, .ref ma, .ref mb, .ref mc, .ref md, .ref me, .int v0_15, .ref mg, .ref mh, .int sn, .ref mj, .ref mk, .long sd, .int sl])), (mc, .inl (E.2.1.1, 21, .inl pg)), (me, .inl (E.2.1.1, 252, .inl (upd σ ((21 * v0_15) + (nI i)).toNatClampNeg (pg (nI i).toNatClampNeg))))]) 2 rfl (ix_21 hc2 hlt) rfl dX6_note_76 ?_
    refine hg_iinc C (v := nI (i + 1)) (lv' := [(1, .int (nI (i + 1))), (0, .ref mm)]) dX6_note_77 1 rfl (nI_inc _) (by decide) rfl ?_
    refine hg_goto C (tgt := 51) dX6_note_80 (by decide) ?_
    have e9 : (stX6_note_51 pg v0_15) i σ = upd σ ((21 * v0_15) + (nI i)).toNatClampNeg (pg (nI i).toNatClampNeg) := hid_eq _
    have h9 := ih (i + 1) (upd σ ((21 * v0_15) + (nI i)).toNatClampNeg (pg (nI i).toNatClampNeg)) (by omega) (e9.symm.trans (congrArg ((stX6_note_51 pg v0_15) i) hσ))
    exact hg_sub [1, 0] rfl h9
noncomputable def stX6_note_11  (i : Nat) (σ : (Nat → Int32)) : (Nat → Int32) := hid (upd σ (nI i).toNatClampNeg (σ ((nI i) + 21).toNatClampNeg))
set_option maxHeartbeats 4000000 in
set_option maxRecDepth 100000 in
theorem lpX6_note_11 {p : Program} {l : Launch} {e : Env} {s : State} {m : MethodId} {args : Array Value} {below : List Frame} {meth : Method} {c : Code} {E : hE} {A : Nat → Prop} {Q : State → Prop} (C : hX p s m args meth c E A cX6_note 2 RX6 wsX6_note none) (mm : Nat) (m1 : Nat) (m6 : Nat) (m7 : Nat) (ma : Nat) (mb : Nat) (mc : Nat) (md : Nat) (me : Nat) (mg : Nat) (mh : Nat) (mj : Nat) (mk : Nat) (ts : Int32) (pc : Int32) (pe : Int32) (tu : Int32) (rp : Int32) (rt : Int32) (ac : Int32) (sn : Int32) (sd : Int64) (sl : Int32) (pg : Nat → Int32) (bk : Nat → Int32) (hac : vp_in ac 13) (σ0 : (Nat → Int32)) (k : hG p l e rmX6_note s m args below meth c E A 2 Q 0 0 39 [(0, .ref mm)] [] [(mm, .inr (6, [.int 0, .ref m1, .int ts, .int pc, .int pe, .int tu, .ref m6, .ref m7, .int rp, .int rt, .ref ma, .ref mb, .ref mc, .ref md, .ref me, .int ac, .ref mg, .ref mh, .int sn, .ref mj, .ref mk, .long sd, .int sl])), (mc, .inl (E.2.1.1, 21, .inl pg)), (me, .inl (E.2.1.1, 252, .inl (itN stX6_note_11 231 σ0)))]) : ∀ (n i : Nat) (σ : (Nat → Int32)), i + n = 231 → σ = itN stX6_note_11 i σ0 → hG p l e rmX6_note s m args below meth c E A 2 Q 0 0 11 [(0, .ref mm), (1, .int (nI i))] [] [(mm, .inr (6, [.int 0, .ref m1, .int ts, .int pc, .int pe, .int tu, .ref m6, .ref m7, .int rp, .int rt, .ref ma, .ref mb, .ref mc, .ref md, .ref me, .int ac, .ref mg, .ref mh, .int sn, .ref mj, .ref mk, .long sd, .int sl])), (mc, .inl (E.2.1.1, 21, .inl pg)), (me, .inl (E.2.1.1, 252, .inl σ))] := by
  intro n
  induction n with
  | zero =>
    intro i σ hi hσ
    have hi : i = 231 := by omega
    rw [hi] at hσ
    rw [hi]
    subst hσ
    refine hg_iload_n C dX6_note_11 rfl 1 rfl ?_
    refine hg_sipush C (v := 231) dX6_note_12 (by decide) ?_
    refine hg_icmp_ge C (tgt := 39) dX6_note_15 (by decide) (fun _ => ?_) (fun h => absurd (by decide) h)
    exact hg_sub [0] rfl k
  | succ n ih =>
    intro i σ hi hσ
    have hlt : i < 231 := by omega
    refine hg_iload_n C dX6_note_11 rfl 1 rfl ?_
    refine hg_sipush C (v := 231) dX6_note_12 (by decide) ?_
    refine hg_icmp_ge C (tgt := 39) dX6_note_15 (by decide) (fun h => absurd h (nI_ge hlt (by decide))) (fun _ => ?_)
    refine hg_aload_n C dX6_note_18 rfl 0 rfl ?_
    refine hg_get C (Cn := RX6) (T := TX6) (N := 23) (v := .ref me) mrX6_note_6 0 rfl rfl 14 (by decide) mmX6_note_f31 rfl dX6_note_19 ?_
    refine hg_iload_n C dX6_note_22 rfl 1 rfl ?_
    refine hg_aload_n C dX6_note_23 rfl 0 rfl ?_
    refine hg_get C (Cn := RX6) (T := TX6) (N := 23) (v := .ref me) mrX6_note_6 0 rfl rfl 14 (by decide) mmX6_note_f31 rfl dX6_note_24 ?_
    refine hg_iload_n C dX6_note_27 rfl 1 rfl ?_
    refine hg_bipush C (v := 21) dX6_note_28 (by decide) ?_
    refine hg_iadd C dX6_note_30 ?_
    refine hg_iald C 2 rfl (ix_p21 hlt) dX6_note_31 ?_
    refine hg_iast C (ws' := [(mm, .inr (6, [.int 0, .ref m1, .int ts, .int pc, .int pe, .int tu, .ref m6, .ref m7, .int rp, .int rt, .ref ma, .ref mb, .ref mc, .ref md, .ref me, .int ac, .ref mg, .ref mh, .int sn, .ref mj, .ref mk, .long sd, .int sl])), (mc, .inl (E.2.1.1, 21, .inl pg)), (me, .inl (E.2.1.1, 252, .inl (upd σ (nI i).toNatClampNeg (σ ((nI i) + 21).toNatClampNeg))))]) 2 rfl (vp_in_nI (by omega) (by decide)) rfl dX6_note_32 ?_
    refine hg_iinc C (v := nI (i + 1)) (lv' := [(1, .int (nI (i + 1))), (0, .ref mm)]) dX6_note_33 1 rfl (nI_inc _) (by decide) rfl ?_
    refine hg_goto C (tgt := 11) dX6_note_36 (by decide) ?_
    have e9 : stX6_note_11 i σ = upd σ (nI i).toNatClampNeg (σ ((nI i) + 21).toNatClampNeg) := hid_eq _
    have h9 := ih (i + 1) (upd σ (nI i).toNatClampNeg (σ ((nI i) + 21).toNatClampNeg)) (by omega) (e9.symm.trans (congrArg (stX6_note_11 i) hσ))
    exact hg_sub [1, 0] rfl h9
noncomputable def fX6_note (ac : Int32) (pg : Nat → Int32) (bk : Nat → Int32) : Int32 × (Nat → Int32) := hid (if ac = 12 then ((ac - 1) + 1, (itN (stX6_note_51 pg (ac - 1)) 21 (itN stX6_note_11 231 bk))) else (ac + 1, (itN (stX6_note_51 pg ac) 21 bk)))
set_option maxHeartbeats 4000000 in
set_option maxRecDepth 100000 in
theorem kX6_note (l : Launch) (E : hE) (mm : Nat) (m1 : Nat) (m6 : Nat) (m7 : Nat) (ma : Nat) (mb : Nat) (mc : Nat) (md : Nat) (me : Nat) (mg : Nat) (mh : Nat) (mj : Nat) (mk : Nat) (ts : Int32) (pc : Int32) (pe : Int32) (tu : Int32) (rp : Int32) (rt : Int32) (ac : Int32) (sn : Int32) (sd : Int64) (sl : Int32) (pg : Nat → Int32) (bk : Nat → Int32) (hac : vp_in ac 13) : hC l yX6_note wsX6_note rmX6_note E [.ref mm] [(mm, .inr (6, [.int 0, .ref m1, .int ts, .int pc, .int pe, .int tu, .ref m6, .ref m7, .int rp, .int rt, .ref ma, .ref mb, .ref mc, .ref md, .ref me, .int ac, .ref mg, .ref mh, .int sn, .ref mj, .ref mk, .long sd, .int sl])), (mc, .inl (E.2.1.1, 21, .inl pg)), (me, .inl (E.2.1.1, 252, .inl bk))] none [(mm, .inr (6, [.int 0, .ref m1, .int ts, .int pc, .int pe, .int tu, .ref m6, .ref m7, .int rp, .int rt, .ref ma, .ref mb, .ref mc, .ref md, .ref me, .int ((fX6_note ac pg bk).1), .ref mg, .ref mh, .int sn, .ref mj, .ref mk, .long sd, .int sl])), (mc, .inl (E.2.1.1, 21, .inl pg)), (me, .inl (E.2.1.1, 252, .inl ((fX6_note ac pg bk).2)))] := by
  refine hC_intro (cc := cX6_note) (maxL := 2) (ret := none) (lv0 := [(0, .ref mm)]) (by decide) rfl (Nat.le_of_ble_eq_true rfl) rfl ?_
  intro p e s m below meth c A C
  refine hg_aload_n C dX6_note_0 rfl 0 rfl ?_
  refine hg_get C (Cn := RX6) (T := TX6) (N := 23) (v := .int ac) mrX6_note_6 0 rfl rfl 15 (by decide) mmX6_note_f97 rfl dX6_note_1 ?_
  refine hg_bipush C (v := 12) dX6_note_4 (by decide) ?_
  refine hg_icmp_ne C (tgt := 49) dX6_note_6 (by decide) (fun c1 => ?_) (fun c1 => ?_)
  · refine hg_iconst C (v := 0) dX6_note_49 (by decide) ?_
    refine hg_istore_n C (lv' := [(1, .int 0), (0, .ref mm)]) dX6_note_50 rfl (by decide) rfl ?_
    refine hg_sub [1, 0] rfl ?_
    refine lpX6_note_51 C mm m1 m6 m7 ma mb mc md me mg mh mj mk ts pc pe tu rp rt ac sn sd sl pg bk ac hac (ac_lt hac (by assumption)) bk ?_ 21 0 bk (by omega) rfl
    refine hg_aload_n C dX6_note_83 rfl 0 rfl ?_
    refine hg_dup C dX6_note_84 rfl ?_
    refine hg_get C (Cn := RX6) (T := TX6) (N := 23) (v := .int ac) mrX6_note_6 0 rfl rfl 15 (by decide) mmX6_note_f97 rfl dX6_note_85 ?_
    refine hg_iconst C (v := 1) dX6_note_88 (by decide) ?_
    refine hg_iadd C dX6_note_89 ?_
    refine hg_put C (Cn := RX6) (T := TX6) (N := 23) (ws' := [(mm, .inr (6, [.int 0, .ref m1, .int ts, .int pc, .int pe, .int tu, .ref m6, .ref m7, .int rp, .int rt, .ref ma, .ref mb, .ref mc, .ref md, .ref me, .int (ac + 1), .ref mg, .ref mh, .int sn, .ref mj, .ref mk, .long sd, .int sl])), (mc, .inl (E.2.1.1, 21, .inl pg)), (me, .inl (E.2.1.1, 252, .inl (itN (stX6_note_51 pg ac) 21 bk)))]) mrX6_note_6 tyX6 tyX6_ok nmX6 0 rfl rfl 15 (by decide) mmX6_note_f97 rfl rfl rfl rfl (Nat.le_of_ble_eq_true rfl) rfl dX6_note_90 ?_
    have e9 : (fX6_note ac pg bk) = (ac + 1, (itN (stX6_note_51 pg ac) 21 bk)) := (hid_eq _).trans ((if_neg c1).trans rfl)
    rw [e9]
    exact hg_vret C dX6_note_93 rfl rfl
  · refine hg_iconst C (v := 0) dX6_note_9 (by decide) ?_
    refine hg_istore_n C (lv' := [(1, .int 0), (0, .ref mm)]) dX6_note_10 rfl (by decide) rfl ?_
    refine hg_sub [1, 0] rfl ?_
    refine lpX6_note_11 C mm m1 m6 m7 ma mb mc md me mg mh mj mk ts pc pe tu rp rt ac sn sd sl pg bk hac bk ?_ 231 0 bk (by omega) rfl
    refine hg_aload_n C dX6_note_39 rfl 0 rfl ?_
    refine hg_dup C dX6_note_40 rfl ?_
    refine hg_get C (Cn := RX6) (T := TX6) (N := 23) (v := .int ac) mrX6_note_6 0 rfl rfl 15 (by decide) mmX6_note_f97 rfl dX6_note_41 ?_
    refine hg_iconst C (v := 1) dX6_note_44 (by decide) ?_
    refine hg_isub C dX6_note_45 ?_
    refine hg_put C (Cn := RX6) (T := TX6) (N := 23) (ws' := [(mm, .inr (6, [.int 0, .ref m1, .int ts, .int pc, .int pe, .int tu, .ref m6, .ref m7, .int rp, .int rt, .ref ma, .ref mb, .ref mc, .ref md, .ref me, .int (ac - 1), .ref mg, .ref mh, .int sn, .ref mj, .ref mk, .long sd, .int sl])), (mc, .inl (E.2.1.1, 21, .inl pg)), (me, .inl (E.2.1.1, 252, .inl (itN stX6_note_11 231 bk)))]) mrX6_note_6 tyX6 tyX6_ok nmX6 0 rfl rfl 15 (by decide) mmX6_note_f97 rfl rfl rfl rfl (Nat.le_of_ble_eq_true rfl) rfl dX6_note_46 ?_
    refine hg_iconst C (v := 0) dX6_note_49 (by decide) ?_
    refine hg_istore_n C (lv' := [(1, .int 0), (0, .ref mm)]) dX6_note_50 rfl (by decide) rfl ?_
    refine hg_sub [1, 0] rfl ?_
    refine lpX6_note_51 C mm m1 m6 m7 ma mb mc md me mg mh mj mk ts pc pe tu rp rt ac sn sd sl pg bk (ac - 1) hac (ac_m1 (by assumption)) (itN stX6_note_11 231 bk) ?_ 21 0 (itN stX6_note_11 231 bk) (by omega) rfl
    refine hg_aload_n C dX6_note_83 rfl 0 rfl ?_
    refine hg_dup C dX6_note_84 rfl ?_
    refine hg_get C (Cn := RX6) (T := TX6) (N := 23) (v := .int (ac - 1)) mrX6_note_6 0 rfl rfl 15 (by decide) mmX6_note_f97 rfl dX6_note_85 ?_
    refine hg_iconst C (v := 1) dX6_note_88 (by decide) ?_
    refine hg_iadd C dX6_note_89 ?_
    refine hg_put C (Cn := RX6) (T := TX6) (N := 23) (ws' := [(mm, .inr (6, [.int 0, .ref m1, .int ts, .int pc, .int pe, .int tu, .ref m6, .ref m7, .int rp, .int rt, .ref ma, .ref mb, .ref mc, .ref md, .ref me, .int ((ac - 1) + 1), .ref mg, .ref mh, .int sn, .ref mj, .ref mk, .long sd, .int sl])), (mc, .inl (E.2.1.1, 21, .inl pg)), (me, .inl (E.2.1.1, 252, .inl (itN (stX6_note_51 pg (ac - 1)) 21 (itN stX6_note_11 231 bk))))]) mrX6_note_6 tyX6 tyX6_ok nmX6 0 rfl rfl 15 (by decide) mmX6_note_f97 rfl rfl rfl rfl (Nat.le_of_ble_eq_true rfl) rfl dX6_note_90 ?_
    have e9 : (fX6_note ac pg bk) = ((ac - 1) + 1, (itN (stX6_note_51 pg (ac - 1)) 21 (itN stX6_note_11 231 bk))) := (hid_eq _).trans ((if_pos c1).trans rfl)
    rw [e9]
    exact hg_vret C dX6_note_93 rfl rfl
