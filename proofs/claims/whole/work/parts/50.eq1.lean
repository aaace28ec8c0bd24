theorem it_sim {α β : Type} {f : Nat → α → α} {g : Nat → β → β} (R : Nat → α → β → Prop) (n : Nat) (h : ∀ i a b, i < n → R i a b → R (i + 1) (f i a) (g i b)) {a : α} {b : β} (h0 : R 0 a b) : R n (itN f n a) (itN g n b) := by
  have key : ∀ m, m ≤ n → R m (itN f m a) (itN g m b) := by
    intro m
    induction m with
    | zero => exact fun _ => h0
    | succ m ih => exact fun hm => h m _ _ (by omega) (ih (by omega))
  exact key n (Nat.le_refl n)
theorem it_inv {α : Type} {f : Nat → α → α} (R : Nat → α → Prop) (n : Nat) (h : ∀ i a, i < n → R i a → R (i + 1) (f i a)) {a : α} (h0 : R 0 a) : R n (itN f n a) := by
  have key : ∀ m, m ≤ n → R m (itN f m a) := by
    intro m
    induction m with
    | zero => exact fun _ => h0
    | succ m ih => exact fun hm => h m _ (by omega) (ih (by omega))
  exact key n (Nat.le_refl n)
theorem it_stay {α : Type} {f : Nat → α → α} {m : Nat} {a : α} : ∀ n, m ≤ n → (∀ i, m ≤ i → i < n → f i (itN f m a) = itN f m a) → itN f n a = itN f m a := by
  intro n
  induction n with
  | zero => exact fun h _ => by rw [show m = 0 by omega]
  | succ n ih =>
    intro h hs
    by_cases hm : m = n + 1
    · rw [hm]
    · show f n (itN f n a) = _
      rw [ih (by omega) (fun i h1 h2 => hs i h1 (by omega))]
      exact hs n (by omega) (by omega)
theorem it_eq {α : Type} {f g : Nat → α → α} {a : α} (n : Nat) (h : ∀ i x, i < n → f i x = g i x) : itN f n a = itN g n a := by
  have key : ∀ m, m ≤ n → itN f m a = itN g m a := by
    intro m
    induction m with
    | zero => exact fun _ => rfl
    | succ m ih =>
      intro hm
      show f m (itN f m a) = g m (itN g m a)
      rw [ih (by omega), h m _ (by omega)]
  exact key n (Nat.le_refl n)
def bitN (u i : Nat) : Nat := u / 2 ^ i % 2
theorem bit01 (u i : Nat) : bitN u i = 0 ∨ bitN u i = 1 := by
  unfold bitN
  omega
theorem bit_big {u i P : Nat} (hu : u < 2 ^ P) (hi : P ≤ i) : bitN u i = 0 := by
  unfold bitN
  rw [Nat.div_eq_of_lt (Nat.lt_of_lt_of_le hu (Nat.pow_le_pow_right (by decide) hi))]
theorem lt64 {u P : Nat} (hP : P ≤ 6) (hu : u < 2 ^ P) : u < 64 := Nat.lt_of_lt_of_le hu (Nat.pow_le_pow_right (n := 2) (by decide) hP)
theorem hasC5 : ∀ (u : Fin 64) (i : Fin 6), (if ((nI u.1 >>> (nI i.1 &&& 31)) &&& 1) = 0 then (0 : Int32) else 1) = nI (bitN u.1 i.1) := by decide +kernel
theorem hasC6 : ∀ (u : Fin 64) (i : Fin 6), (if ((nI u.1 >>> (nI i.1 &&& 31)) &&& 1) = 1 then (1 : Int32) else 0) = nI (bitN u.1 i.1) := by decide +kernel
theorem has5 {u i : Nat} (hu : u < 64) (hi : i < 6) : fX5_has (nI u) (nI i) = nI (bitN u i) := by
  unfold fX5_has
  rw [hid_eq]
  exact hasC5 ⟨u, hu⟩ ⟨i, hi⟩
theorem has6 {u i : Nat} (hu : u < 64) (hi : i < 6) : fX6_has (nI u) (nI i) = nI (bitN u i) := by
  unfold fX6_has
  rw [hid_eq]
  exact hasC6 ⟨u, hu⟩ ⟨i, hi⟩
def clrN (u i : Nat) : Nat := u &&& (63 ^^^ 2 ^ i)
def setN (u i : Nat) : Nat := u ||| 2 ^ i
theorem clrC : ∀ (u : Fin 64) (i : Fin 6), (nI u.1 &&& ((1 <<< (nI i.1 &&& 31)) ^^^ (-1))) = nI (clrN u.1 i.1) := by decide +kernel
theorem setC : ∀ (u : Fin 64) (i : Fin 6), (nI u.1 ||| (1 <<< (nI i.1 &&& 31))) = nI (setN u.1 i.1) := by decide +kernel
theorem clr_eq {u i : Nat} (hu : u < 64) (hi : i < 6) : (nI u &&& ((1 <<< (nI i &&& 31)) ^^^ (-1))) = nI (clrN u i) := clrC ⟨u, hu⟩ ⟨i, hi⟩
theorem set_eq {u i : Nat} (hu : u < 64) (hi : i < 6) : (nI u ||| (1 <<< (nI i &&& 31))) = nI (setN u i) := setC ⟨u, hu⟩ ⟨i, hi⟩
theorem clr_lt {u i P : Nat} (hu : u < 2 ^ P) : clrN u i < 2 ^ P := Nat.lt_of_le_of_lt Nat.and_le_left hu
theorem set_lt {u i P : Nat} (hu : u < 2 ^ P) (hi : i < P) : setN u i < 2 ^ P := Nat.or_lt_two_pow hu (Nat.pow_lt_pow_right (by decide) hi)
theorem bc_all : ∀ u : Nat, u < 64 → fJ6_bitCount_0f7a4 (nI u) = nI (cnt u) := by
  intro u hu
  unfold fJ6_bitCount_0f7a4
  rw [hid_eq]
  revert u
  decide +kernel
theorem ring_eq {u : Nat} (hu : u < 64) : fX3_ringSize (nI u) = nI (cnt u) := by
  unfold fX3_ringSize
  rw [hid_eq]
  exact bc_all u hu
theorem k6 {i : Nat} (hi : i < 6) : ((6 : Int32) + nI i).toNatClampNeg = 6 + i := by
  rw [show (6 : Int32) + nI i = nI (6 + i) from nI_add 6 i, nI_clamp (by omega)]
theorem k17 {t : Nat} (ht : t < 4) : ((17 : Int32) + nI t).toNatClampNeg = 17 + t := by
  rw [show (17 : Int32) + nI t = nI (17 + t) from nI_add 17 t, nI_clamp (by omega)]
theorem k60 {i : Nat} (hi : i < 6) : ((6 : Int32) * nI i).toNatClampNeg = 6 * i := by
  rw [show (6 : Int32) * nI i = nI (6 * i) from pk_mul 6 i, nI_clamp (by omega)]
theorem k6k {i c : Nat} (hi : i < 6) (hc : c < 6) : ((6 : Int32) * nI i + nI c).toNatClampNeg = 6 * i + c := by
  rw [show (6 : Int32) * nI i = nI (6 * i) from pk_mul 6 i, nI_add, nI_clamp (by omega)]
theorem k30 {t : Nat} (ht : t < 4) : ((3 : Int32) * nI t).toNatClampNeg = 3 * t := by
  rw [show (3 : Int32) * nI t = nI (3 * t) from pk_mul 3 t, nI_clamp (by omega)]
theorem k3k {t c : Nat} (ht : t < 4) (hc : c < 3) : ((3 : Int32) * nI t + nI c).toNatClampNeg = 3 * t + c := by
  rw [show (3 : Int32) * nI t = nI (3 * t) from pk_mul 3 t, nI_add, nI_clamp (by omega)]
theorem kI {i : Nat} (hi : i < 64) : (nI i).toNatClampNeg = i := nI_clamp (by omega)
theorem ofP {pf : Nat → Int32} {i k : Nat} (hi : i < 6) (hk : k < 6) : fX2_ofPerson pf (nI i) (nI k) = pf (6 * i + k) := by
  unfold fX2_ofPerson fpX2_figureOf
  rw [hid_eq, hid_eq, show nI i * 6 = nI (i * 6) from pk_mul i 6, nI_add, if_neg (nI_pos (by omega)), if_neg (show ¬ (36 : Int32) ≤ nI (i * 6 + k) from nI_ge (b := 36) (by omega) (by decide)), nI_clamp (by omega), Nat.mul_comm]
theorem ofT {tf : Nat → Int32} {t k : Nat} (ht : t < 4) (hk : k < 3) : fX2_ofTune tf (nI t) (nI k) = tf (3 * t + k) := by
  unfold fX2_ofTune ftX2_figureOf
  rw [hid_eq, hid_eq, show nI t * 3 = nI (t * 3) from pk_mul t 3, nI_add, if_neg (nI_pos (by omega)), if_neg (show ¬ (12 : Int32) ≤ nI (t * 3 + k) from nI_ge (b := 12) (by omega) (by decide)), nI_clamp (by omega), Nat.mul_comm]
theorem uu {f : Nat → Int32} {k : Nat} {x y : Int32} : upd (upd f k x) k y = upd f k y := by
  funext j
  by_cases h : j = k
  · rw [h, pk_us, pk_us]
  · rw [pk_un h, pk_un h, pk_un h]
theorem usame {f : Nat → Int32} {k : Nat} : upd f k (f k) = f := by
  funext j
  by_cases h : j = k
  · rw [h, pk_us]
  · rw [pk_un h]
/-- what the text told: P people, T tunes -/
def FR (P T : Nat) (pf tf to so : Nat → Int32) : Prop :=
  (P ≤ 6 ∧ T ≤ 4) ∧ (∀ j, j < 6 * P → pf j = to j) ∧ (∀ j, j < 3 * T → tf j = so j) ∧ (∀ p, p < P → ∃ r, r ≤ 3 ∧ to (6 * p) = nI r) ∧ (∀ p, p < P → ∃ r, r ≤ 3 ∧ to (6 * p + 3) = nI r) ∧ (∀ t, t < T → ∃ g, g ≤ 9 ∧ so (3 * t + 2) = nI g)
/-- a scene of the class and a page of the reference -/
def PR (P T K : Nat) (S : Sc) (pg : Nat → Int32) : Prop :=
  (pg 14 = S.1 ∧ pg 15 = S.2.1 ∧ pg 16 = S.2.2.1 ∧ pg 12 = S.2.2.2.1 ∧ pg 13 = S.2.2.2.2.1) ∧
  (∀ p, p < P → pg p = S.2.2.2.2.2.1 p) ∧ (∀ p, p < P → pg (6 + p) = S.2.2.2.2.2.2.1 p) ∧ (∀ t, t < T → pg (17 + t) = S.2.2.2.2.2.2.2 t) ∧
  (∃ u, u < 2 ^ P ∧ S.2.2.2.1 = nI u) ∧ (∃ w, w < 2 ^ P ∧ S.2.2.2.2.1 = nI w) ∧ (∃ b, b ≤ 10 ∧ S.2.2.1 = nI b) ∧ (∀ p, p < P → ∃ m, m ≤ 20 ∧ S.2.2.2.2.2.1 p = nI m) ∧ (∀ t, t < T → ∃ k, k ≤ K ∧ S.2.2.2.2.2.2.2 t = nI k)
section PRS
variable {P T K : Nat} {mi ha ba st wa : Int32} {mo pa pl pg : Nat → Int32}
theorem PR_st (hP : P ≤ 6) (h : PR P T K (mi, ha, ba, st, wa, mo, pa, pl) pg) {u : Nat} (hu : u < 2 ^ P) : PR P T K (mi, ha, ba, nI u, wa, mo, pa, pl) (upd pg 12 (nI u)) := by
  obtain ⟨⟨h1, h2, h3, h4, h5⟩, h6, h7, h8, h9, h10, h11, h12, h13⟩ := h
  exact ⟨⟨(pk_un (by decide)).trans h1, (pk_un (by decide)).trans h2, (pk_un (by decide)).trans h3, pk_us, (pk_un (by decide)).trans h5⟩, fun p hp => (pk_un (by omega)).trans (h6 p hp), fun p hp => (pk_un (by omega)).trans (h7 p hp), fun t ht => (pk_un (by omega)).trans (h8 t ht), ⟨u, hu, rfl⟩, h10, h11, h12, h13⟩
theorem PR_wa (hP : P ≤ 6) (h : PR P T K (mi, ha, ba, st, wa, mo, pa, pl) pg) {u : Nat} (hu : u < 2 ^ P) : PR P T K (mi, ha, ba, st, nI u, mo, pa, pl) (upd pg 13 (nI u)) := by
  obtain ⟨⟨h1, h2, h3, h4, h5⟩, h6, h7, h8, h9, h10, h11, h12, h13⟩ := h
  exact ⟨⟨(pk_un (by decide)).trans h1, (pk_un (by decide)).trans h2, (pk_un (by decide)).trans h3, (pk_un (by decide)).trans h4, pk_us⟩, fun p hp => (pk_un (by omega)).trans (h6 p hp), fun p hp => (pk_un (by omega)).trans (h7 p hp), fun t ht => (pk_un (by omega)).trans (h8 t ht), h9, ⟨u, hu, rfl⟩, h11, h12, h13⟩
theorem PR_mi (hP : P ≤ 6) (h : PR P T K (mi, ha, ba, st, wa, mo, pa, pl) pg) {x : Int32} : PR P T K (x, ha, ba, st, wa, mo, pa, pl) (upd pg 14 x) := by
  obtain ⟨⟨h1, h2, h3, h4, h5⟩, h6, h7, h8, h9, h10, h11, h12, h13⟩ := h
  exact ⟨⟨pk_us, (pk_un (by decide)).trans h2, (pk_un (by decide)).trans h3, (pk_un (by decide)).trans h4, (pk_un (by decide)).trans h5⟩, fun p hp => (pk_un (by omega)).trans (h6 p hp), fun p hp => (pk_un (by omega)).trans (h7 p hp), fun t ht => (pk_un (by omega)).trans (h8 t ht), h9, h10, h11, h12, h13⟩
theorem PR_ha (hP : P ≤ 6) (h : PR P T K (mi, ha, ba, st, wa, mo, pa, pl) pg) {x : Int32} : PR P T K (mi, x, ba, st, wa, mo, pa, pl) (upd pg 15 x) := by
  obtain ⟨⟨h1, h2, h3, h4, h5⟩, h6, h7, h8, h9, h10, h11, h12, h13⟩ := h
  exact ⟨⟨(pk_un (by decide)).trans h1, pk_us, (pk_un (by decide)).trans h3, (pk_un (by decide)).trans h4, (pk_un (by decide)).trans h5⟩, fun p hp => (pk_un (by omega)).trans (h6 p hp), fun p hp => (pk_un (by omega)).trans (h7 p hp), fun t ht => (pk_un (by omega)).trans (h8 t ht), h9, h10, h11, h12, h13⟩
theorem PR_ba (hP : P ≤ 6) (h : PR P T K (mi, ha, ba, st, wa, mo, pa, pl) pg) {b : Nat} (hb : b ≤ 10) : PR P T K (mi, ha, nI b, st, wa, mo, pa, pl) (upd pg 16 (nI b)) := by
  obtain ⟨⟨h1, h2, h3, h4, h5⟩, h6, h7, h8, h9, h10, h11, h12, h13⟩ := h
  exact ⟨⟨(pk_un (by decide)).trans h1, (pk_un (by decide)).trans h2, pk_us, (pk_un (by decide)).trans h4, (pk_un (by decide)).trans h5⟩, fun p hp => (pk_un (by omega)).trans (h6 p hp), fun p hp => (pk_un (by omega)).trans (h7 p hp), fun t ht => (pk_un (by omega)).trans (h8 t ht), h9, h10, ⟨b, hb, rfl⟩, h12, h13⟩
theorem PR_mo (hP : P ≤ 6) (h : PR P T K (mi, ha, ba, st, wa, mo, pa, pl) pg) {i m : Nat} (hi : i < P) (hm : m ≤ 20) : PR P T K (mi, ha, ba, st, wa, upd mo i (nI m), pa, pl) (upd pg i (nI m)) := by
  obtain ⟨⟨h1, h2, h3, h4, h5⟩, h6, h7, h8, h9, h10, h11, h12, h13⟩ := h
  refine ⟨⟨(pk_un (by omega)).trans h1, (pk_un (by omega)).trans h2, (pk_un (by omega)).trans h3, (pk_un (by omega)).trans h4, (pk_un (by omega)).trans h5⟩, fun p hp => ?_, fun p hp => (pk_un (by omega)).trans (h7 p hp), fun t ht => (pk_un (by omega)).trans (h8 t ht), h9, h10, h11, fun p hp => ?_, h13⟩
  · show upd pg i (nI m) p = upd mo i (nI m) p
    by_cases e : p = i
    · rw [e, pk_us, pk_us]
    · rw [pk_un e, pk_un e]
      exact h6 p hp
  · show ∃ m', m' ≤ 20 ∧ upd mo i (nI m) p = nI m'
    by_cases e : p = i
    · exact ⟨m, hm, by rw [e, pk_us]⟩
    · rw [pk_un e]
      exact h12 p hp
theorem PR_pa (hP : P ≤ 6) (h : PR P T K (mi, ha, ba, st, wa, mo, pa, pl) pg) {i : Nat} {x : Int32} (hi : i < P) : PR P T K (mi, ha, ba, st, wa, mo, upd pa i x, pl) (upd pg (6 + i) x) := by
  obtain ⟨⟨h1, h2, h3, h4, h5⟩, h6, h7, h8, h9, h10, h11, h12, h13⟩ := h
  refine ⟨⟨(pk_un (by omega)).trans h1, (pk_un (by omega)).trans h2, (pk_un (by omega)).trans h3, (pk_un (by omega)).trans h4, (pk_un (by omega)).trans h5⟩, fun p hp => (pk_un (by omega)).trans (h6 p hp), fun p hp => ?_, fun t ht => (pk_un (by omega)).trans (h8 t ht), h9, h10, h11, h12, h13⟩
  show upd pg (6 + i) x (6 + p) = upd pa i x p
  by_cases e : p = i
  · rw [e, pk_us, pk_us]
  · rw [pk_un e, pk_un (by omega)]
    exact h7 p hp
theorem PR_pl (hT : T ≤ 4) (hP : P ≤ 6) (h : PR P T K (mi, ha, ba, st, wa, mo, pa, pl) pg) {i k : Nat} (hi : i < T) (hk : k ≤ K) : PR P T K (mi, ha, ba, st, wa, mo, pa, upd pl i (nI k)) (upd pg (17 + i) (nI k)) := by
  obtain ⟨⟨h1, h2, h3, h4, h5⟩, h6, h7, h8, h9, h10, h11, h12, h13⟩ := h
  refine ⟨⟨(pk_un (by omega)).trans h1, (pk_un (by omega)).trans h2, (pk_un (by omega)).trans h3, (pk_un (by omega)).trans h4, (pk_un (by omega)).trans h5⟩, fun p hp => (pk_un (by omega)).trans (h6 p hp), fun p hp => (pk_un (by omega)).trans (h7 p hp), fun t ht => ?_, h9, h10, h11, h12, fun t ht => ?_⟩
  · show upd pg (17 + i) (nI k) (17 + t) = upd pl i (nI k) t
    by_cases e : t = i
    · rw [e, pk_us, pk_us]
    · rw [pk_un e, pk_un (by omega)]
      exact h8 t ht
  · show ∃ k', k' ≤ K ∧ upd pl i (nI k) t = nI k'
    by_cases e : t = i
    · exact ⟨k, hk, by rw [e, pk_us]⟩
    · rw [pk_un e]
      exact h13 t ht
end PRS
theorem PR_up {P T K K' : Nat} {S : Sc} {pg : Nat → Int32} (h : PR P T K S pg) (hK : K ≤ K') : PR P T K' S pg := by
  obtain ⟨h1, h6, h7, h8, h9, h10, h11, h12, h13⟩ := h
  exact ⟨h1, h6, h7, h8, h9, h10, h11, h12, fun t ht => by obtain ⟨k, a, b⟩ := h13 t ht; exact ⟨k, by omega, b⟩⟩
theorem PR_cong {P T K : Nat} {S : Sc} {pg pg' : Nat → Int32} (hP : P ≤ 6) (hT : T ≤ 4) (h : PR P T K S pg) (he : ∀ j, j < 21 → pg' j = pg j) : PR P T K S pg' := by
  obtain ⟨⟨h1, h2, h3, h4, h5⟩, h6, h7, h8, h9⟩ := h
  exact ⟨⟨(he 14 (by decide)).trans h1, (he 15 (by decide)).trans h2, (he 16 (by decide)).trans h3, (he 12 (by decide)).trans h4, (he 13 (by decide)).trans h5⟩, fun p hp => (he p (by omega)).trans (h6 p hp), fun p hp => (he (6 + p) (by omega)).trans (h7 p hp), fun t ht => (he (17 + t) (by omega)).trans (h8 t ht), h9⟩
