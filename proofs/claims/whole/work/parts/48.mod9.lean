theorem pwX (j : Nat) : ∀ n : Nat, itN (stX6_power_4 (nI j)) n 1 = nI (j ^ n)
  | 0 => rfl
  | n + 1 => by
    show stX6_power_4 (nI j) n (itN (stX6_power_4 (nI j)) n 1) = _
    rw [pwX j n]
    unfold stX6_power_4
    rw [hid_eq, pk_mul, Nat.pow_succ]
theorem pw6 (j n : Nat) (hn : n < 2 ^ 31) : fX6_power (nI j) (nI n) = nI (j ^ n) := by
  unfold fX6_power
  rw [hid_eq, nI_clamp hn]
  exact pwX j n
/-- how many of the six lowest bits -/
def cnt (w : Nat) : Nat := w % 2 + w / 2 % 2 + w / 4 % 2 + w / 8 % 2 + w / 16 % 2 + w / 32 % 2
theorem cnt_le (w : Nat) : cnt w ≤ 6 := by
  unfold cnt
  omega
def manyC (a : Int32) : Int32 := itN (fun i σ => σ + ((a >>> ((nI i) &&& 31)) &&& 1)) 6 0
theorem many_C (a : Int32) : fX6_many a = manyC a := by
  unfold fX6_many manyC
  rw [hid_eq, show stX6_many_4 a = fun i σ => σ + ((a >>> ((nI i) &&& 31)) &&& 1) from funext fun i => funext fun σ => hid_eq _]
theorem manyC_nI : ∀ w : Fin 64, manyC (nI w.1) = nI (cnt w.1) := by decide +kernel
theorem many_nI {w : Nat} (h : w < 64) : fX6_many (nI w) = nI (cnt w) := (many_C _).trans (manyC_nI ⟨w, h⟩)
theorem manyC_sub : ∀ u w : Fin 64, (nI w.1 &&& (nI u.1 ^^^ (-1))) = 0 → manyC (nI u.1 &&& (nI w.1 ^^^ (-1))) = nI (cnt u.1 - cnt w.1) ∧ cnt w.1 ≤ cnt u.1 := by decide +kernel
theorem many_sub {u w : Nat} (hu : u < 64) (hw : w < 64) (h : (nI w &&& (nI u ^^^ (-1))) = 0) : fX6_many (nI u &&& (nI w ^^^ (-1))) = nI (cnt u - cnt w) ∧ cnt w ≤ cnt u := by
  rw [many_C]
  exact manyC_sub ⟨u, hu⟩ ⟨w, hw⟩ h
theorem lk_term {x n m : Nat} (hx : x ≤ 10) (h : n + m ≤ 6) : x ^ n * (10 - x) ^ m ≤ 10 ^ 6 :=
  Nat.le_trans (Nat.mul_le_mul (Nat.pow_le_pow_left hx n) (Nat.pow_le_pow_left (show 10 - x ≤ 10 by omega) m)) (by
    rw [← Nat.pow_add]
    exact Nat.pow_le_pow_right (by decide) h)
theorem it_bd {st : Nat → Int32 → Int32} {B : Nat} (hst : ∀ (i k : Nat), i < 64 → ∃ j : Nat, st i (nI k) = nI (k + j) ∧ j ≤ B) : ∀ n : Nat, n ≤ 64 → ∃ k : Nat, itN st n 0 = nI k ∧ k ≤ n * B
  | 0, _ => ⟨0, rfl, Nat.zero_le _⟩
  | n + 1, h => by
    obtain ⟨k, h1, h2⟩ := it_bd hst n (by omega)
    obtain ⟨j, h3, h4⟩ := hst n k (by omega)
    refine ⟨k + j, ?_, ?_⟩
    · show st n (itN st n 0) = _
      rw [h1, h3]
    · rw [Nat.succ_mul]
      omega
theorem shl_pe {pe : Int32} (h : vp_in pe 7) : ∃ k : Nat, k ≤ 6 ∧ pe = nI k ∧ ((1 : Int32) <<< (pe &&& 31)) = nI (2 ^ k) := by
  obtain ⟨k, hk, rfl⟩ := vp_in_of h (by decide)
  refine ⟨k, by omega, rfl, ?_⟩
  match k, hk with
  | 0, _ | 1, _ | 2, _ | 3, _ | 4, _ | 5, _ | 6, _ => decide +kernel
  | k + 7, hk => exact absurd hk (by omega)
theorem shl_le {pe : Int32} (h : vp_in pe 7) : ((1 : Int32) <<< (pe &&& 31)).toNatClampNeg ≤ 64 := by
  obtain ⟨k, hk, rfl, h2⟩ := shl_pe h
  have h3 : 2 ^ k ≤ 2 ^ 6 := Nat.pow_le_pow_right (by decide) hk
  rw [h2, nI_clamp (by omega)]
  exact h3
theorem in_10 {a : Int32} (h : ¬ fX6_in a.toInt64 0 10 = 0) : ∃ j : Nat, j ≤ 10 ∧ a = nI j := by
  rw [show (0 : Int64) = (0 : Int32).toInt64 from rfl, show (10 : Int64) = (10 : Int32).toInt64 from rfl, in_eq] at h
  obtain ⟨h1, h2⟩ := isW_in h
  obtain ⟨j, hj, rfl⟩ := nI_of h1
  have := lt_nI2 (N := 10) hj h2
  exact ⟨j, by omega, rfl⟩
/-- the reference's course of division gives the greatest common divisor -/
theorem dv_gcd : ∀ (n i j k : Nat), k < n → j < 2 ^ 31 → k < 2 ^ 31 → frX6_divisor_4 n i (nI j, nI k) = nI (Nat.gcd j k)
  | 0, _, _, k, h, _, _ => absurd h (Nat.not_lt_zero k)
  | n + 1, i, j, k, h, hj, hk => by
    unfold frX6_divisor_4
    rw [hid_eq]
    rcases Nat.eq_zero_or_pos k with rfl | q
    · rw [Nat.gcd_zero_right]
      exact if_pos rfl
    · have h1 := Nat.mod_lt j q
      refine (if_neg (nI_ne0 q hk)).trans ?_
      show frX6_divisor_4 n (i + 1) (nI k, nI j - nI j / nI k * nI k) = _
      rw [pk_rem hj q hk, dv_gcd n (i + 1) k (j % k) (by omega) hk (by omega), Nat.gcd_comm j k, Nat.gcd_rec k j, Nat.gcd_comm]
theorem dv_eq {j k : Nat} (hj : j < 2 ^ 31) (hk : k < 2 ^ 31) : fX6_divisor (nI j) (nI k) = nI (Nat.gcd j k) := by
  unfold fX6_divisor
  rw [hid_eq, nI_clamp hk]
  exact dv_gcd (k + 1) 0 j k (by omega) hj hk
theorem lk_all {u : Nat} (hu : u < 64) : fX6_power 10 (fX6_many (nI u)) = nI (10 ^ cnt u) ∧ 0 < 10 ^ cnt u ∧ 10 ^ cnt u < 2 ^ 31 := by
  rw [many_nI hu]
  have h := cnt_le u
  have h1 : 10 ^ cnt u ≤ 10 ^ 6 := Nat.pow_le_pow_right (by decide) h
  exact ⟨pw6 10 (cnt u) (by omega), Nat.pow_pos (by decide), Nat.lt_of_le_of_lt h1 (by decide)⟩

theorem mmX6_luck_f47 : (Cond.fieldLink RX6 47 "HatRoundModel" "thrown" "I") ∈ wsX6_luck := (List.mem_cons_of_mem _ (List.mem_append_left _ (List.mem_append_left _ (List.mem_of_getElem? (i := 0) rfl))))
theorem mrX6_luck_6 : ∀ w ∈ u_ws RX6 TX6 23, w ∈ wsX6_luck := fun _ h => (List.mem_cons_of_mem _ (List.mem_append_right _ h))
theorem mmX6_luck_k164 : (Cond.constantLong RX6 164 (10)) ∈ wsX6_luck := (List.mem_cons_of_mem _ (List.mem_append_left _ (List.mem_append_left _ (List.mem_of_getElem? (i := 1) rfl))))
theorem mmX6_luck_k159 : (Cond.constantLong RX6 159 (99)) ∈ wsX6_luck := (List.mem_cons_of_mem _ (List.mem_append_left _ (List.mem_append_left _ (List.mem_of_getElem? (i := 2) rfl))))
theorem mmX6_luck_f25 : (Cond.fieldLink RX6 25 "HatRoundModel" "page" "[I") ∈ wsX6_luck := (List.mem_cons_of_mem _ (List.mem_append_left _ (List.mem_append_left _ (List.mem_of_getElem? (i := 3) rfl))))
theorem mmX6_luck_f51 : (Cond.fieldLink RX6 51 "HatRoundModel" "people" "I") ∈ wsX6_luck := (List.mem_cons_of_mem _ (List.mem_append_left _ (List.mem_append_left _ (List.mem_of_getElem? (i := 4) rfl))))
abbrev rmX6_luck : Room := { frames := 2, cells := 0, slots := 0, locals := 45 }
theorem hfX6_luck : hCF yX6_luck wsX6_luck rmX6_luck cX6_luck 8 (some .int) 3 := ⟨⟨_, rfl⟩, by decide +kernel, rfl, rfl⟩
noncomputable def stX6_luck_47 (pe : Int32) (pg : Nat → Int32) (a : Int32) (b : Int32) (x4 : Int32) (i : Nat) (σ : Int32) : Int32 := hid (if ((nI i) &&& (x4 ^^^ (-1))) = 0 then (if (fX6_giftsOf pe pg (nI i)) < b then σ else σ + ((fX6_power a (fX6_many (nI i))) * (fX6_power (10 - a) (fX6_many (x4 &&& ((nI i) ^^^ (-1))))))) else σ)
set_option maxHeartbeats 4000000 in
set_option maxRecDepth 100000 in
theorem lpX6_luck_47 {p : Program} {l : Launch} {e : Env} {s : State} {m : MethodId} {args : Array Value} {below : List Frame} {meth : Method} {c : Code} {E : hE} {A : Nat → Prop} {Q : State → Prop} (C : hX p s m args meth c E A cX6_luck 8 RX6 wsX6_luck (some .int)) (mm : Nat) (m1 : Nat) (m6 : Nat) (m7 : Nat) (ma : Nat) (mb : Nat) (mc : Nat) (md : Nat) (me : Nat) (mg : Nat) (mh : Nat) (mj : Nat) (mk : Nat) (ts : Int32) (pc : Int32) (pe : Int32) (tu : Int32) (rp : Int32) (rt : Int32) (ac : Int32) (sn : Int32) (sd : Int64) (sl : Int32) (pg : Nat → Int32) (a : Int32) (b : Int32) (q : Int32) (x4 : Int32) (hp7 : vp_in pe 7) (hst : vp_in (pg (12 : Int32).toNatClampNeg) 64) (σ0 : Int32) (k : hG p l e rmX6_luck s m args below meth c E A 8 Q 0 0 116 [(3, .int q), (4, .int x4), (5, .int (itN (stX6_luck_47 pe pg a b x4) (((1 : Int32) <<< (pe &&& 31)).toNatClampNeg) σ0))] [] [(mm, .inr (6, [.int 0, .ref m1, .int ts, .int pc, .int pe, .int tu, .ref m6, .ref m7, .int rp, .int rt, .ref ma, .ref mb, .ref mc, .ref md, .ref me, .int ac, .ref mg, .ref mh, .int sn, .ref mj, .ref mk, .long sd, .int sl])), (mc, .inl (E.2.1.1, 21, .inl pg))]) : ∀ (n i : Nat) (σ : Int32), i + n = ((1 : Int32) <<< (pe &&& 31)).toNatClampNeg → σ = itN (stX6_luck_47 pe pg a b x4) i σ0 → hG p l e rmX6_luck s m args below meth c E A 8 Q 0 0 47 [(0, .ref mm), (1, .int a), (2, .int b), (3, .int q), (4, .int x4), (5, .int σ), (6, .int (nI i))] [] [(mm, .inr (6, [.int 0, .ref m1, .int ts, .int pc, .int pe, .int tu, .ref m6, .ref m7, .int rp, .int rt, .ref ma, .ref mb, .ref mc, .ref md, .ref me, .int ac, .ref mg, .ref mh, .int sn, .ref mj, .ref mk, .long sd, .int sl])), (mc, .inl (E.2.1.1, 21, .inl pg))] := by
  intro n
  induction n with
  | zero =>
    intro i σ hi hσ
    have hi : i = ((1 : Int32) <<< (pe &&& 31)).toNatClampNeg := by omega
    rw [hi] at hσ
    rw [hi]
    subst hσ
    refine hg_iload C dX6_luck_47 6 rfl ?_
    refine hg_iconst C (v := 1) dX6_luck_49 (by decide) ?_
    refine hg_aload_n C dX6_luck_50 rfl 0 rfl ?_
    refine hg_get C (Cn := RX6) (T := TX6) (N := 23) (v := .int pe) mrX6_luck_6 0 rfl rfl 4 (by decide) mmX6_luck_f51 rfl dX6_luck_51 ?_
    refine hg_ishl C dX6_luck_54 ?_
    refine hg_icmp_ge C (tgt := 116) dX6_luck_55 (by decide) (fun _ => ?_) (fun h => absurd (cl_done _) h)
    exact hg_sub [3, 4, 5] rfl k
  | succ n ih =>
    intro i σ hi hσ
    have hlt : i < ((1 : Int32) <<< (pe &&& 31)).toNatClampNeg := by omega
    refine hg_iload C dX6_luck_47 6 rfl ?_
    refine hg_iconst C (v := 1) dX6_luck_49 (by decide) ?_
    refine hg_aload_n C dX6_luck_50 rfl 0 rfl ?_
    refine hg_get C (Cn := RX6) (T := TX6) (N := 23) (v := .int pe) mrX6_luck_6 0 rfl rfl 4 (by decide) mmX6_luck_f51 rfl dX6_luck_51 ?_
    refine hg_ishl C dX6_luck_54 ?_
    refine hg_icmp_ge C (tgt := 116) dX6_luck_55 (by decide) (fun h => absurd h (cl_cont hlt)) (fun _ => ?_)
    refine hg_iload C dX6_luck_58 6 rfl ?_
    refine hg_iload C dX6_luck_60 4 rfl ?_
    refine hg_iconst C (v := (-1)) dX6_luck_62 (by decide) ?_
    refine hg_ixor C dX6_luck_63 ?_
    refine hg_iand C dX6_luck_64 ?_
    refine hg_if_ne C (tgt := 110) dX6_luck_65 (by decide) (fun c5 => ?_) (fun c5 => ?_)
    · refine hg_iinc C (v := nI (i + 1)) (lv' := [(6, .int (nI (i + 1))), (0, .ref mm), (1, .int a), (2, .int b), (3, .int q), (4, .int x4), (5, .int σ)]) dX6_luck_110 6 rfl (nI_inc _) (by decide) rfl ?_
      refine hg_goto C (tgt := 47) dX6_luck_113 (by decide) ?_
      have e9 : (stX6_luck_47 pe pg a b x4) i σ = σ := (hid_eq _).trans ((if_neg c5).trans rfl)
      have h9 := ih (i + 1) σ (by omega) (e9.symm.trans (congrArg ((stX6_luck_47 pe pg a b x4) i) hσ))
      exact hg_sub [1, 2, 3, 4, 5, 6, 0] rfl h9
    · refine hg_aload_n C dX6_luck_68 rfl 0 rfl ?_
      refine hg_iload C dX6_luck_69 6 rfl ?_
      refine hg_callV C (ws' := [(mm, .inr (6, [.int 0, .ref m1, .int ts, .int pc, .int pe, .int tu, .ref m6, .ref m7, .int rp, .int rt, .ref ma, .ref mb, .ref mc, .ref md, .ref me, .int ac, .ref mg, .ref mh, .int sn, .ref mj, .ref mk, .long sd, .int sl])), (mc, .inl (E.2.1.1, 21, .inl pg))]) (rest := []) (kX6_giftsOf l E mm m1 m6 m7 ma mb mc md me mg mh mj mk ts pc pe tu rp rt ac sn sd sl pg (nI i) (Nat.le_of_lt_succ (vp_cl hp7))) hfX6_giftsOf gX6_luck_X6_giftsOf ⟨Nat.le_of_ble_eq_true rfl, Nat.le_of_ble_eq_true rfl⟩ ⟨Nat.zero_le _, Nat.zero_le _⟩ [0, 1] rfl (by decide) [mm, mc] rfl rfl rfl 0 rfl rfl rfl rfl (Nat.le_of_ble_eq_true rfl) dX6_luck_71 ?_
      refine hg_iload_n C dX6_luck_74 rfl 2 rfl ?_
      refine hg_icmp_lt C (tgt := 110) dX6_luck_75 (by decide) (fun c6 => ?_) (fun c6 => ?_)
      · refine hg_iinc C (v := nI (i + 1)) (lv' := [(6, .int (nI (i + 1))), (0, .ref mm), (1, .int a), (2, .int b), (3, .int q), (4, .int x4), (5, .int σ)]) dX6_luck_110 6 rfl (nI_inc _) (by decide) rfl ?_
        refine hg_goto C (tgt := 47) dX6_luck_113 (by decide) ?_
        have e9 : (stX6_luck_47 pe pg a b x4) i σ = σ := (hid_eq _).trans ((if_pos c5).trans ((if_pos c6).trans rfl))
        have h9 := ih (i + 1) σ (by omega) (e9.symm.trans (congrArg ((stX6_luck_47 pe pg a b x4) i) hσ))
        exact hg_sub [1, 2, 3, 4, 5, 6, 0] rfl h9
      · refine hg_iload C dX6_luck_78 5 rfl ?_
        refine hg_iload_n C dX6_luck_80 rfl 1 rfl ?_
        refine hg_iload C dX6_luck_81 6 rfl ?_
        refine hg_callS C (ws' := [(mm, .inr (6, [.int 0, .ref m1, .int ts, .int pc, .int pe, .int tu, .ref m6, .ref m7, .int rp, .int rt, .ref ma, .ref mb, .ref mc, .ref md, .ref me, .int ac, .ref mg, .ref mh, .int sn, .ref mj, .ref mk, .long sd, .int sl])), (mc, .inl (E.2.1.1, 21, .inl pg))]) (rest := [.int a, .int σ]) (kX6_many l E (nI i)) hfX6_many gX6_luck_X6_many ⟨Nat.le_of_ble_eq_true rfl, Nat.le_of_ble_eq_true rfl⟩ ⟨Nat.zero_le _, Nat.zero_le _⟩ [] rfl (by decide) [] rfl rfl rfl rfl (Nat.le_of_ble_eq_true rfl) dX6_luck_83 ?_
        refine hg_callS C (ws' := [(mm, .inr (6, [.int 0, .ref m1, .int ts, .int pc, .int pe, .int tu, .ref m6, .ref m7, .int rp, .int rt, .ref ma, .ref mb, .ref mc, .ref md, .ref me, .int ac, .ref mg, .ref mh, .int sn, .ref mj, .ref mk, .long sd, .int sl])), (mc, .inl (E.2.1.1, 21, .inl pg))]) (rest := [.int σ]) (kX6_power l E a (fX6_many (nI i))) hfX6_power gX6_luck_X6_power ⟨Nat.le_of_ble_eq_true rfl, Nat.le_of_ble_eq_true rfl⟩ ⟨Nat.zero_le _, Nat.zero_le _⟩ [] rfl (by decide) [] rfl rfl rfl rfl (Nat.le_of_ble_eq_true rfl) dX6_luck_86 ?_
        refine hg_bipush C (v := 10) dX6_luck_89 (by decide) ?_
        refine hg_iload_n C dX6_luck_91 rfl 1 rfl ?_
        refine hg_isub C dX6_luck_92 ?_
        refine hg_iload C dX6_luck_93 4 rfl ?_
        refine hg_iload C dX6_luck_95 6 rfl ?_
        refine hg_iconst C (v := (-1)) dX6_luck_97 (by decide) ?_
        refine hg_ixor C dX6_luck_98 ?_
        refine hg_iand C dX6_luck_99 ?_
        refine hg_callS C (ws' := [(mm, .inr (6, [.int 0, .ref m1, .int ts, .int pc, .int pe, .int tu, .ref m6, .ref m7, .int rp, .int rt, .ref ma, .ref mb, .ref mc, .ref md, .ref me, .int ac, .ref mg, .ref mh, .int sn, .ref mj, .ref mk, .long sd, .int sl])), (mc, .inl (E.2.1.1, 21, .inl pg))]) (rest := [.int (10 - a), .int (fX6_power a (fX6_many (nI i))), .int σ]) (kX6_many l E (x4 &&& ((nI i) ^^^ (-1)))) hfX6_many gX6_luck_X6_many ⟨Nat.le_of_ble_eq_true rfl, Nat.le_of_ble_eq_true rfl⟩ ⟨Nat.zero_le _, Nat.zero_le _⟩ [] rfl (by decide) [] rfl rfl rfl rfl (Nat.le_of_ble_eq_true rfl) dX6_luck_100 ?_
        refine hg_callS C (ws' := [(mm, .inr (6, [.int 0, .ref m1, .int ts, .int pc, .int pe, .int tu, .ref m6, .ref m7, .int rp, .int rt, .ref ma, .ref mb, .ref mc, .ref md, .ref me, .int ac, .ref mg, .ref mh, .int sn, .ref mj, .ref mk, .long sd, .int sl])), (mc, .inl (E.2.1.1, 21, .inl pg))]) (rest := [.int (fX6_power a (fX6_many (nI i))), .int σ]) (kX6_power l E (10 - a) (fX6_many (x4 &&& ((nI i) ^^^ (-1))))) hfX6_power gX6_luck_X6_power ⟨Nat.le_of_ble_eq_true rfl, Nat.le_of_ble_eq_true rfl⟩ ⟨Nat.zero_le _, Nat.zero_le _⟩ [] rfl (by decide) [] rfl rfl rfl rfl (Nat.le_of_ble_eq_true rfl) dX6_luck_103 ?_
        refine hg_imul C dX6_luck_106 ?_
        refine hg_iadd C dX6_luck_107 ?_
        refine hg_istore C (lv' := [(5, .int (σ + ((fX6_power a (fX6_many (nI i))) * (fX6_power (10 - a) (fX6_many (x4 &&& ((nI i) ^^^ (-1)))))))), (0, .ref mm), (1, .int a), (2, .int b), (3, .int q), (4, .int x4), (6, .int (nI i))]) dX6_luck_108 (by decide) rfl ?_
        refine hg_iinc C (v := nI (i + 1)) (lv' := [(6, .int (nI (i + 1))), (5, .int (σ + ((fX6_power a (fX6_many (nI i))) * (fX6_power (10 - a) (fX6_many (x4 &&& ((nI i) ^^^ (-1)))))))), (0, .ref mm), (1, .int a), (2, .int b), (3, .int q), (4, .int x4)]) dX6_luck_110 6 rfl (nI_inc _) (by decide) rfl ?_
        refine hg_goto C (tgt := 47) dX6_luck_113 (by decide) ?_
        have e9 : (stX6_luck_47 pe pg a b x4) i σ = σ + ((fX6_power a (fX6_many (nI i))) * (fX6_power (10 - a) (fX6_many (x4 &&& ((nI i) ^^^ (-1)))))) := (hid_eq _).trans ((if_pos c5).trans ((if_neg c6).trans rfl))
        have h9 := ih (i + 1) (σ + ((fX6_power a (fX6_many (nI i))) * (fX6_power (10 - a) (fX6_many (x4 &&& ((nI i) ^^^ (-1))))))) (by omega) (e9.symm.trans (congrArg ((stX6_luck_47 pe pg a b x4) i) hσ))
        exact hg_sub [2, 3, 4, 5, 6, 1, 0] rfl h9
theorem lk_st {pe a b : Int32} {pg : Nat → Int32} {u x : Nat} (hu : u < 64) (hx : x ≤ 10) (ha : a = nI x) (i k : Nat) (hi : i < 64) : ∃ j : Nat, stX6_luck_47 pe pg a b (nI u) i (nI k) = nI (k + j) ∧ j ≤ 10 ^ 6 := by
  subst ha
  unfold stX6_luck_47
  rw [hid_eq]
  split
  · rename_i h1
    split
    · exact ⟨0, rfl, Nat.zero_le _⟩
    · obtain ⟨h2, h3⟩ := many_sub hu hi h1
      have h4 := cnt_le u
      refine ⟨x ^ cnt i * (10 - x) ^ (cnt u - cnt i), ?_, lk_term hx (by omega)⟩
      rw [h2, many_nI hi, show (10 : Int32) = nI 10 from rfl, pk_sub hx, pw6 _ _ (by omega), pw6 _ _ (by omega), pk_mul, nI_add]
  · exact ⟨0, rfl, Nat.zero_le _⟩
theorem lk_sum {pe a b : Int32} {pg : Nat → Int32} (hp : vp_in pe 7) (hs : vp_in (pg (12 : Int32).toNatClampNeg) 64) (ha : ¬ fX6_in a.toInt64 0 10 = 0) : ∃ k : Nat, itN (stX6_luck_47 pe pg a b (pg (12 : Int32).toNatClampNeg)) ((1 : Int32) <<< (pe &&& 31)).toNatClampNeg 0 = nI k ∧ k < 2 ^ 31 := by
  obtain ⟨x, hx, rfl⟩ := in_10 ha
  obtain ⟨u, hu, hu2⟩ := vp_in_of hs (by decide)
  rw [hu2]
  have h1 := shl_le hp
  obtain ⟨k, h2, h3⟩ := it_bd (B := 10 ^ 6) (fun i k hi => lk_st (pe := pe) (b := b) (pg := pg) hu hx rfl i k hi) _ h1
  exact ⟨k, h2, Nat.lt_of_le_of_lt h3 (Nat.lt_of_le_of_lt (Nat.mul_le_mul_right _ h1) (by decide))⟩
theorem lk_s0 {pe a b : Int32} {pg : Nat → Int32} (hp : vp_in pe 7) (hs : vp_in (pg (12 : Int32).toNatClampNeg) 64) (ha : ¬ fX6_in a.toInt64 0 10 = 0) : ¬ itN (stX6_luck_47 pe pg a b (pg (12 : Int32).toNatClampNeg)) ((1 : Int32) <<< (pe &&& 31)).toNatClampNeg 0 < 0 := by
  obtain ⟨k, h1, h2⟩ := lk_sum (b := b) hp hs ha
  rw [h1]
  exact nI_pos h2
theorem lk_a0 {x : Int32} (hs : vp_in x 64) : ¬ fX6_power 10 (fX6_many x) < 0 := by
  obtain ⟨u, hu, rfl⟩ := vp_in_of hs (by decide)
  obtain ⟨h1, h2, h3⟩ := lk_all hu
  rw [h1]
  exact nI_pos h3
theorem lk_g0 {pe a b : Int32} {pg : Nat → Int32} (hp : vp_in pe 7) (hs : vp_in (pg (12 : Int32).toNatClampNeg) 64) (ha : ¬ fX6_in a.toInt64 0 10 = 0) : ¬ fX6_divisor (itN (stX6_luck_47 pe pg a b (pg (12 : Int32).toNatClampNeg)) ((1 : Int32) <<< (pe &&& 31)).toNatClampNeg 0) (fX6_power 10 (fX6_many (pg (12 : Int32).toNatClampNeg))) = 0 := by
  obtain ⟨k, h1, h2⟩ := lk_sum (b := b) hp hs ha
  obtain ⟨u, hu, hu2⟩ := vp_in_of hs (by decide)
  obtain ⟨h3, h4, h5⟩ := lk_all hu
  rw [h1, hu2, h3, dv_eq h2 h5]
  have h6 := Nat.gcd_pos_of_pos_right k h4
  have h7 := Nat.gcd_le_right k h4
  exact nI_ne0 h6 (by omega)
noncomputable def fX6_luck (pe : Int32) (pg : Nat → Int32) (a : Int32) (b : Int32) (q : Int32) : Int32 := hid (if (fX6_in a.toInt64 0 10) = 0 then (-2) else if (fX6_in b.toInt64 0 99) = 0 then (-2) else if q = 0 then ((fX6_power 10 (fX6_many (pg (12 : Int32).toNatClampNeg))) / (fX6_divisor (itN (stX6_luck_47 pe pg a b (pg (12 : Int32).toNatClampNeg)) (((1 : Int32) <<< (pe &&& 31)).toNatClampNeg) 0) (fX6_power 10 (fX6_many (pg (12 : Int32).toNatClampNeg))))) else ((itN (stX6_luck_47 pe pg a b (pg (12 : Int32).toNatClampNeg)) (((1 : Int32) <<< (pe &&& 31)).toNatClampNeg) 0) / (fX6_divisor (itN (stX6_luck_47 pe pg a b (pg (12 : Int32).toNatClampNeg)) (((1 : Int32) <<< (pe &&& 31)).toNatClampNeg) 0) (fX6_power 10 (fX6_many (pg (12 : Int32).toNatClampNeg))))))
set_option maxHeartbeats 4000000 in
set_option maxRecDepth 100000 in
theorem kX6_luck (l : Launch) (E : hE) (mm : Nat) (m1 : Nat) (m6 : Nat) (m7 : Nat) (ma : Nat) (mb : Nat) (mc : Nat) (md : Nat) (me : Nat) (mg : Nat) (mh : Nat) (mj : Nat) (mk : Nat) (ts : Int32) (pc : Int32) (pe : Int32) (tu : Int32) (rp : Int32) (rt : Int32) (ac : Int32) (sn : Int32) (sd : Int64) (sl : Int32) (pg : Nat → Int32) (a : Int32) (b : Int32) (q : Int32) (hp7 : vp_in pe 7) (hst : vp_in (pg (12 : Int32).toNatClampNeg) 64) : hC l yX6_luck wsX6_luck rmX6_luck E [.ref mm, .int a, .int b, .int q] [(mm, .inr (6, [.int 0, .ref m1, .int ts, .int pc, .int pe, .int tu, .ref m6, .ref m7, .int rp, .int rt, .ref ma, .ref mb, .ref mc, .ref md, .ref me, .int ac, .ref mg, .ref mh, .int sn, .ref mj, .ref mk, .long sd, .int sl])), (mc, .inl (E.2.1.1, 21, .inl pg))] (some (.int (fX6_luck pe pg a b q))) [(mm, .inr (6, [.int 0, .ref m1, .int ts, .int pc, .int pe, .int tu, .ref m6, .ref m7, .int rp, .int rt, .ref ma, .ref mb, .ref mc, .ref md, .ref me, .int ac, .ref mg, .ref mh, .int sn, .ref mj, .ref mk, .long sd, .int sl])), (mc, .inl (E.2.1.1, 21, .inl pg))] := by
  refine hC_intro (cc := cX6_luck) (maxL := 8) (ret := (some .int)) (lv0 := [(0, .ref mm), (1, .int a), (2, .int b), (3, .int q)]) (by decide) rfl (Nat.le_of_ble_eq_true rfl) rfl ?_
  intro p e s m below meth c A C
  refine hg_aload_n C dX6_luck_0 rfl 0 rfl ?_
  refine hg_iconst C (v := 0) dX6_luck_1 (by decide) ?_
  refine hg_put C (Cn := RX6) (T := TX6) (N := 23) (ws' := [(mm, .inr (6, [.int 0, .ref m1, .int ts, .int pc, .int pe, .int tu, .ref m6, .ref m7, .int rp, .int rt, .ref ma, .ref mb, .ref mc, .ref md, .ref me, .int ac, .ref mg, .ref mh, .int sn, .ref mj, .ref mk, .long sd, .int sl])), (mc, .inl (E.2.1.1, 21, .inl pg))]) mrX6_luck_6 tyX6 tyX6_ok nmX6 0 rfl rfl 0 (by decide) mmX6_luck_f47 rfl rfl rfl rfl (Nat.le_of_ble_eq_true rfl) rfl dX6_luck_2 ?_
  refine hg_iload_n C dX6_luck_5 rfl 1 rfl ?_
  refine hg_i2l C dX6_luck_6 ?_
  refine hg_lconst C (v := 0) dX6_luck_7 rfl ?_
  refine hg_ldc2 C mmX6_luck_k164 dX6_luck_8 ?_
  refine hg_callS C (ws' := [(mm, .inr (6, [.int 0, .ref m1, .int ts, .int pc, .int pe, .int tu, .ref m6, .ref m7, .int rp, .int rt, .ref ma, .ref mb, .ref mc, .ref md, .ref me, .int ac, .ref mg, .ref mh, .int sn, .ref mj, .ref mk, .long sd, .int sl])), (mc, .inl (E.2.1.1, 21, .inl pg))]) (rest := []) (kX6_in l E a.toInt64 0 10) hfX6_in gX6_luck_X6_in ⟨Nat.le_of_ble_eq_true rfl, Nat.le_of_ble_eq_true rfl⟩ ⟨Nat.zero_le _, Nat.zero_le _⟩ [] rfl (by decide) [] rfl rfl rfl rfl (Nat.le_of_ble_eq_true rfl) dX6_luck_11 ?_
  refine hg_if_eq C (tgt := 29) dX6_luck_14 (by decide) (fun c1 => ?_) (fun c1 => ?_)
  · refine hg_bipush C (v := (-2)) dX6_luck_29 (by decide) ?_
    have e9 : (fX6_luck pe pg a b q) = (-2) := (hid_eq _).trans ((if_pos c1).trans rfl)
    rw [e9]
    exact hg_iret C dX6_luck_31 rfl rfl
  · refine hg_iload_n C dX6_luck_17 rfl 2 rfl ?_
    refine hg_i2l C dX6_luck_18 ?_
    refine hg_lconst C (v := 0) dX6_luck_19 rfl ?_
    refine hg_ldc2 C mmX6_luck_k159 dX6_luck_20 ?_
    refine hg_callS C (ws' := [(mm, .inr (6, [.int 0, .ref m1, .int ts, .int pc, .int pe, .int tu, .ref m6, .ref m7, .int rp, .int rt, .ref ma, .ref mb, .ref mc, .ref md, .ref me, .int ac, .ref mg, .ref mh, .int sn, .ref mj, .ref mk, .long sd, .int sl])), (mc, .inl (E.2.1.1, 21, .inl pg))]) (rest := []) (kX6_in l E b.toInt64 0 99) hfX6_in gX6_luck_X6_in ⟨Nat.le_of_ble_eq_true rfl, Nat.le_of_ble_eq_true rfl⟩ ⟨Nat.zero_le _, Nat.zero_le _⟩ [] rfl (by decide) [] rfl rfl rfl rfl (Nat.le_of_ble_eq_true rfl) dX6_luck_23 ?_
    refine hg_if_ne C (tgt := 32) dX6_luck_26 (by decide) (fun c2 => ?_) (fun c2 => ?_)
    · refine hg_aload_n C dX6_luck_32 rfl 0 rfl ?_
      refine hg_get C (Cn := RX6) (T := TX6) (N := 23) (v := .ref mc) mrX6_luck_6 0 rfl rfl 12 (by decide) mmX6_luck_f25 rfl dX6_luck_33 ?_
      refine hg_bipush C (v := 12) dX6_luck_36 (by decide) ?_
      refine hg_iald C 1 rfl (by unfold vp_in; decide) dX6_luck_38 ?_
      refine hg_istore C (lv' := [(4, .int (pg (12 : Int32).toNatClampNeg)), (0, .ref mm), (1, .int a), (2, .int b), (3, .int q)]) dX6_luck_39 (by decide) rfl ?_
      refine hg_iconst C (v := 0) dX6_luck_41 (by decide) ?_
      refine hg_istore C (lv' := [(5, .int 0), (4, .int (pg (12 : Int32).toNatClampNeg)), (0, .ref mm), (1, .int a), (2, .int b), (3, .int q)]) dX6_luck_42 (by decide) rfl ?_
      refine hg_iconst C (v := 0) dX6_luck_44 (by decide) ?_
      refine hg_istore C (lv' := [(6, .int 0), (5, .int 0), (4, .int (pg (12 : Int32).toNatClampNeg)), (0, .ref mm), (1, .int a), (2, .int b), (3, .int q)]) dX6_luck_45 (by decide) rfl ?_
      refine hg_sub [3, 4, 5, 6, 2, 1, 0] rfl ?_
      refine lpX6_luck_47 C mm m1 m6 m7 ma mb mc md me mg mh mj mk ts pc pe tu rp rt ac sn sd sl pg a b q (pg (12 : Int32).toNatClampNeg) hp7 hst 0 ?_ (((1 : Int32) <<< (pe &&& 31)).toNatClampNeg) 0 0 (by omega) rfl
      refine hg_bipush C (v := 10) dX6_luck_116 (by decide) ?_
      refine hg_iload C dX6_luck_118 1 rfl ?_
      refine hg_callS C (ws' := [(mm, .inr (6, [.int 0, .ref m1, .int ts, .int pc, .int pe, .int tu, .ref m6, .ref m7, .int rp, .int rt, .ref ma, .ref mb, .ref mc, .ref md, .ref me, .int ac, .ref mg, .ref mh, .int sn, .ref mj, .ref mk, .long sd, .int sl])), (mc, .inl (E.2.1.1, 21, .inl pg))]) (rest := [.int 10]) (kX6_many l E (pg (12 : Int32).toNatClampNeg)) hfX6_many gX6_luck_X6_many ⟨Nat.le_of_ble_eq_true rfl, Nat.le_of_ble_eq_true rfl⟩ ⟨Nat.zero_le _, Nat.zero_le _⟩ [] rfl (by decide) [] rfl rfl rfl rfl (Nat.le_of_ble_eq_true rfl) dX6_luck_120 ?_
      refine hg_callS C (ws' := [(mm, .inr (6, [.int 0, .ref m1, .int ts, .int pc, .int pe, .int tu, .ref m6, .ref m7, .int rp, .int rt, .ref ma, .ref mb, .ref mc, .ref md, .ref me, .int ac, .ref mg, .ref mh, .int sn, .ref mj, .ref mk, .long sd, .int sl])), (mc, .inl (E.2.1.1, 21, .inl pg))]) (rest := []) (kX6_power l E 10 (fX6_many (pg (12 : Int32).toNatClampNeg))) hfX6_power gX6_luck_X6_power ⟨Nat.le_of_ble_eq_true rfl, Nat.le_of_ble_eq_true rfl⟩ ⟨Nat.zero_le _, Nat.zero_le _⟩ [] rfl (by decide) [] rfl rfl rfl rfl (Nat.le_of_ble_eq_true rfl) dX6_luck_123 ?_
      refine hg_istore C (lv' := [(6, .int (fX6_power 10 (fX6_many (pg (12 : Int32).toNatClampNeg)))), (3, .int q), (4, .int (pg (12 : Int32).toNatClampNeg)), (5, .int (itN (stX6_luck_47 pe pg a b (pg (12 : Int32).toNatClampNeg)) (((1 : Int32) <<< (pe &&& 31)).toNatClampNeg) 0))]) dX6_luck_126 (by decide) rfl ?_
      refine hg_iload C dX6_luck_128 3 rfl ?_
      refine hg_iload C dX6_luck_130 0 rfl ?_
      refine hg_callS C (ws' := [(mm, .inr (6, [.int 0, .ref m1, .int ts, .int pc, .int pe, .int tu, .ref m6, .ref m7, .int rp, .int rt, .ref ma, .ref mb, .ref mc, .ref md, .ref me, .int ac, .ref mg, .ref mh, .int sn, .ref mj, .ref mk, .long sd, .int sl])), (mc, .inl (E.2.1.1, 21, .inl pg))]) (rest := []) (kX6_divisor l E (itN (stX6_luck_47 pe pg a b (pg (12 : Int32).toNatClampNeg)) (((1 : Int32) <<< (pe &&& 31)).toNatClampNeg) 0) (fX6_power 10 (fX6_many (pg (12 : Int32).toNatClampNeg))) (lk_s0 hp7 hst (by assumption)) (lk_a0 hst)) hfX6_divisor gX6_luck_X6_divisor ⟨Nat.le_of_ble_eq_true rfl, Nat.le_of_ble_eq_true rfl⟩ ⟨Nat.zero_le _, Nat.zero_le _⟩ [] rfl (by decide) [] rfl rfl rfl rfl (Nat.le_of_ble_eq_true rfl) dX6_luck_132 ?_
      refine hg_istore C (lv' := [(7, .int (fX6_divisor (itN (stX6_luck_47 pe pg a b (pg (12 : Int32).toNatClampNeg)) (((1 : Int32) <<< (pe &&& 31)).toNatClampNeg) 0) (fX6_power 10 (fX6_many (pg (12 : Int32).toNatClampNeg))))), (6, .int (fX6_power 10 (fX6_many (pg (12 : Int32).toNatClampNeg)))), (3, .int q), (4, .int (pg (12 : Int32).toNatClampNeg)), (5, .int (itN (stX6_luck_47 pe pg a b (pg (12 : Int32).toNatClampNeg)) (((1 : Int32) <<< (pe &&& 31)).toNatClampNeg) 0))]) dX6_luck_135 (by decide) rfl ?_
      refine hg_iload_n C dX6_luck_137 rfl 2 rfl ?_
      refine hg_join (J := 154) (v := if q = 0 then ((fX6_power 10 (fX6_many (pg (12 : Int32).toNatClampNeg))) / (fX6_divisor (itN (stX6_luck_47 pe pg a b (pg (12 : Int32).toNatClampNeg)) (((1 : Int32) <<< (pe &&& 31)).toNatClampNeg) 0) (fX6_power 10 (fX6_many (pg (12 : Int32).toNatClampNeg))))) else ((itN (stX6_luck_47 pe pg a b (pg (12 : Int32).toNatClampNeg)) (((1 : Int32) <<< (pe &&& 31)).toNatClampNeg) 0) / (fX6_divisor (itN (stX6_luck_47 pe pg a b (pg (12 : Int32).toNatClampNeg)) (((1 : Int32) <<< (pe &&& 31)).toNatClampNeg) 0) (fX6_power 10 (fX6_many (pg (12 : Int32).toNatClampNeg)))))) (st1 := []) (fun jj => ?_) ?_
      · refine hg_if_eq C (tgt := 149) dX6_luck_138 (by decide) (fun c7 => ?_) (fun c7 => ?_)
        · refine hg_iload C dX6_luck_149 1 rfl ?_
          refine hg_iload C dX6_luck_151 0 rfl ?_
          refine hg_idiv C dX6_luck_153 (lk_g0 hp7 hst (by assumption)) ?_
          exact hg_top (v := if q = 0 then ((fX6_power 10 (fX6_many (pg (12 : Int32).toNatClampNeg))) / (fX6_divisor (itN (stX6_luck_47 pe pg a b (pg (12 : Int32).toNatClampNeg)) (((1 : Int32) <<< (pe &&& 31)).toNatClampNeg) 0) (fX6_power 10 (fX6_many (pg (12 : Int32).toNatClampNeg))))) else ((itN (stX6_luck_47 pe pg a b (pg (12 : Int32).toNatClampNeg)) (((1 : Int32) <<< (pe &&& 31)).toNatClampNeg) 0) / (fX6_divisor (itN (stX6_luck_47 pe pg a b (pg (12 : Int32).toNatClampNeg)) (((1 : Int32) <<< (pe &&& 31)).toNatClampNeg) 0) (fX6_power 10 (fX6_many (pg (12 : Int32).toNatClampNeg)))))) (v' := (fX6_power 10 (fX6_many (pg (12 : Int32).toNatClampNeg))) / (fX6_divisor (itN (stX6_luck_47 pe pg a b (pg (12 : Int32).toNatClampNeg)) (((1 : Int32) <<< (pe &&& 31)).toNatClampNeg) 0) (fX6_power 10 (fX6_many (pg (12 : Int32).toNatClampNeg))))) ((if_pos c7).trans rfl) jj
        · refine hg_iload C dX6_luck_141 4 rfl ?_
          refine hg_iload C dX6_luck_143 0 rfl ?_
          refine hg_idiv C dX6_luck_145 (lk_g0 hp7 hst (by assumption)) ?_
          refine hg_goto C (tgt := 154) dX6_luck_146 (by decide) ?_
          exact hg_top (v := if q = 0 then ((fX6_power 10 (fX6_many (pg (12 : Int32).toNatClampNeg))) / (fX6_divisor (itN (stX6_luck_47 pe pg a b (pg (12 : Int32).toNatClampNeg)) (((1 : Int32) <<< (pe &&& 31)).toNatClampNeg) 0) (fX6_power 10 (fX6_many (pg (12 : Int32).toNatClampNeg))))) else ((itN (stX6_luck_47 pe pg a b (pg (12 : Int32).toNatClampNeg)) (((1 : Int32) <<< (pe &&& 31)).toNatClampNeg) 0) / (fX6_divisor (itN (stX6_luck_47 pe pg a b (pg (12 : Int32).toNatClampNeg)) (((1 : Int32) <<< (pe &&& 31)).toNatClampNeg) 0) (fX6_power 10 (fX6_many (pg (12 : Int32).toNatClampNeg)))))) (v' := (itN (stX6_luck_47 pe pg a b (pg (12 : Int32).toNatClampNeg)) (((1 : Int32) <<< (pe &&& 31)).toNatClampNeg) 0) / (fX6_divisor (itN (stX6_luck_47 pe pg a b (pg (12 : Int32).toNatClampNeg)) (((1 : Int32) <<< (pe &&& 31)).toNatClampNeg) 0) (fX6_power 10 (fX6_many (pg (12 : Int32).toNatClampNeg))))) ((if_neg c7).trans rfl) jj
      have e9 : (fX6_luck pe pg a b q) = if q = 0 then ((fX6_power 10 (fX6_many (pg (12 : Int32).toNatClampNeg))) / (fX6_divisor (itN (stX6_luck_47 pe pg a b (pg (12 : Int32).toNatClampNeg)) (((1 : Int32) <<< (pe &&& 31)).toNatClampNeg) 0) (fX6_power 10 (fX6_many (pg (12 : Int32).toNatClampNeg))))) else ((itN (stX6_luck_47 pe pg a b (pg (12 : Int32).toNatClampNeg)) (((1 : Int32) <<< (pe &&& 31)).toNatClampNeg) 0) / (fX6_divisor (itN (stX6_luck_47 pe pg a b (pg (12 : Int32).toNatClampNeg)) (((1 : Int32) <<< (pe &&& 31)).toNatClampNeg) 0) (fX6_power 10 (fX6_many (pg (12 : Int32).toNatClampNeg))))) := (hid_eq _).trans ((if_neg c1).trans ((if_neg c2).trans rfl))
      rw [e9]
      exact hg_iret C dX6_luck_154 rfl rfl
    · refine hg_bipush C (v := (-2)) dX6_luck_29 (by decide) ?_
      have e9 : (fX6_luck pe pg a b q) = (-2) := (hid_eq _).trans ((if_neg c1).trans ((if_pos c2).trans rfl))
      rw [e9]
      exact hg_iret C dX6_luck_31 rfl rfl
