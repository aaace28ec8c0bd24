theorem copy_it {f : Nat → (Nat → Int32) → (Nat → Int32)} {d N : Nat} {src σ0 : Nat → Int32} (h : ∀ i σ, i < N → f i σ = upd σ (d + i) (src i)) : ∀ n, n ≤ N → ∀ j, itN f n σ0 j = if d ≤ j ∧ j < d + n then src (j - d) else σ0 j := by
  intro n
  induction n with
  | zero =>
    intro _ j
    rw [if_neg (by omega)]
    rfl
  | succ n ih =>
    intro hn j
    show f n (itN f n σ0) j = _
    rw [h n _ (by omega)]
    by_cases e : j = d + n
    · rw [e, pk_us, if_pos (by omega), show d + n - d = n by omega]
    · rw [pk_un e, ih (by omega) j]
      by_cases e2 : d ≤ j ∧ j < d + n
      · rw [if_pos e2, if_pos (by omega)]
      · rw [if_neg e2, if_neg (by omega)]
theorem begin_at {pg tr : Nat → Int32} {j : Nat} (hj : j < 21) : fX6_begin pg tr j = pg j := by
  unfold fX6_begin
  rw [hid_eq, copy_it (d := 0) (N := 21) (src := pg) (fun i σ hi => by unfold stX6_begin_2; rw [hid_eq, nI_clamp (by omega), Nat.zero_add]) 21 (Nat.le_refl _) j, if_pos (by omega), Nat.sub_zero]
theorem PR_begin {P T K : Nat} {S : Sc} {pg tr : Nat → Int32} (hP : P ≤ 6) (hT : T ≤ 4) (h : PR P T K S pg) : PR P T K S (fX6_begin pg tr) := PR_cong hP hT h (fun j hj => begin_at hj)
def pageOf (bk : Nat → Int32) (i : Nat) : Nat → Int32 := fun k => bk (21 * i + k)
/-- the acts that can be undone: a ring of scenes, a book of pages -/
def AR (P T K : Nat) (af ac : Int32) (B : Nat → Sc) (ac' : Int32) (bk : Nat → Int32) : Prop :=
  ∃ c f, c ≤ 12 ∧ f < 12 ∧ ac = nI c ∧ ac' = nI c ∧ af = nI f ∧ ∀ i, i < c → PR P T K (B ((f + i) % 12)) (pageOf bk i)
theorem k21 {c i : Nat} (hc : c < 100) (hi : i < 21) : ((21 : Int32) * nI c + nI i).toNatClampNeg = 21 * c + i := by
  rw [show (21 : Int32) * nI c = nI (21 * c) from pk_mul 21 c, nI_add, nI_clamp (by omega)]
theorem note_write {bk pg : Nat → Int32} {c : Nat} (hc : c < 12) (j : Nat) : itN (stX6_note_51 pg (nI c)) 21 bk j = if 21 * c ≤ j ∧ j < 21 * c + 21 then pg (j - 21 * c) else bk j :=
  copy_it (d := 21 * c) (N := 21) (src := pg) (fun i σ hi => by unfold stX6_note_51; rw [hid_eq, nI_clamp (by omega), k21 (by omega) hi]) 21 (Nat.le_refl _) j
theorem note_shift {bk : Nat → Int32} : ∀ n, n ≤ 231 → ∀ j, itN stX6_note_11 n bk j = if j < n then bk (j + 21) else bk j := by
  intro n
  induction n with
  | zero =>
    intro _ j
    rw [if_neg (by omega)]
    rfl
  | succ n ih =>
    intro hn j
    show stX6_note_11 n (itN stX6_note_11 n bk) j = _
    unfold stX6_note_11
    rw [hid_eq, show nI n + 21 = nI (n + 21) from nI_add n 21, nI_clamp (by omega), nI_clamp (by omega)]
    by_cases e : j = n
    · rw [e, pk_us, if_pos (by omega)]
      show itN stX6_note_11 n bk (n + 21) = _
      rw [ih (by omega) (n + 21), if_neg (by omega)]
    · rw [pk_un e]
      show itN stX6_note_11 n bk j = _
      rw [ih (by omega) j]
      by_cases e2 : j < n
      · rw [if_pos e2, if_pos (by omega)]
      · rw [if_neg e2, if_neg (by omega)]
theorem ring_ix {f c : Nat} (hf : f < 12) (hc : c ≤ 12) : (nI f + nI c) - (nI f + nI c) / 12 * 12 = nI ((f + c) % 12) := by
  rw [nI_add]
  exact pk_rem (d := 12) (by omega) (by decide) (by decide)
theorem AR_ix {P T K : Nat} {af ac ac' : Int32} {B : Nat → Sc} {bk : Nat → Int32} (h : AR P T K af ac B ac' bk) : vp_in ((af + ac) - (af + ac) / 12 * 12) 12 := by
  obtain ⟨c, f, hc, hf, rfl, rfl, rfl, hp⟩ := h
  rw [ring_ix hf hc]
  exact vp_in_nI (Nat.mod_lt _ (by decide)) (by decide)
theorem updS_s {B : Nat → Sc} {k : Nat} {S : Sc} : updS B k S k = S := if_pos rfl
theorem updS_n {B : Nat → Sc} {k j : Nat} {S : Sc} (h : j ≠ k) : updS B k S j = B j := if_neg h
theorem AR_up {P T K K' : Nat} {af ac ac' : Int32} {B : Nat → Sc} {bk : Nat → Int32} (h : AR P T K af ac B ac' bk) (hK : K ≤ K') : AR P T K' af ac B ac' bk := by
  obtain ⟨c, f, hc, hf, h1, h2, h3, hp⟩ := h
  exact ⟨c, f, hc, hf, h1, h2, h3, fun i hi => PR_up (hp i hi) hK⟩
theorem AR_note {P T K : Nat} {S : Sc} {pg : Nat → Int32} {af ac ac' : Int32} {B : Nat → Sc} {bk : Nat → Int32} (hP : P ≤ 6) (hT : T ≤ 4) (hS : PR P T K S pg) (h : AR P T K af ac B ac' bk) :
    AR P T K (fX0_remember af ac B S).1 (fX0_remember af ac B S).2.1 (fX0_remember af ac B S).2.2 (fX6_note ac' pg bk).1 (fX6_note ac' pg bk).2 := by
  obtain ⟨c, f, hc, hf, rfl, rfl, rfl, hp⟩ := h
  unfold fX0_remember
  dsimp only
  rw [ring_ix hf hc, nI_clamp (by have := Nat.mod_lt (f + c) (show 0 < 12 by decide); omega)]
  by_cases e : c = 12
  · subst e
    have e2 : fX6_note (nI 12) pg bk = (nI 12, itN (stX6_note_51 pg (nI 11)) 21 (itN stX6_note_11 231 bk)) := by
      unfold fX6_note
      rw [hid_eq, if_pos (show nI 12 = 12 from rfl)]
      rfl
    rw [e2, if_pos (show (12 : Int32) ≤ nI 12 by decide), if_pos (show (12 : Int32) ≤ nI 12 by decide)]
    refine ⟨12, (f + 1) % 12, by omega, Nat.mod_lt _ (by decide), rfl, rfl, ?_, fun i hi => ?_⟩
    · exact ring_ix (c := 1) hf (by decide)
    · by_cases ei : i = 11
      · rw [ei, show ((f + 1) % 12 + 11) % 12 = (f + 12) % 12 by omega, updS_s]
        refine PR_cong hP hT hS (fun j hj => ?_)
        show itN (stX6_note_51 pg (nI 11)) 21 (itN stX6_note_11 231 bk) (21 * 11 + j) = pg j
        rw [note_write (c := 11) (by decide), if_pos (by omega), show 21 * 11 + j - 21 * 11 = j by omega]
      · rw [updS_n (by omega), show ((f + 1) % 12 + i) % 12 = (f + (i + 1)) % 12 by omega]
        refine PR_cong hP hT (hp (i + 1) (by omega)) (fun j hj => ?_)
        show itN (stX6_note_51 pg (nI 11)) 21 (itN stX6_note_11 231 bk) (21 * i + j) = bk (21 * (i + 1) + j)
        rw [note_write (c := 11) (by decide), if_neg (by omega), note_shift 231 (Nat.le_refl _), if_pos (by omega), show 21 * i + j + 21 = 21 * (i + 1) + j by omega]
  · have e2 : fX6_note (nI c) pg bk = (nI (c + 1), itN (stX6_note_51 pg (nI c)) 21 bk) := by
      unfold fX6_note
      rw [hid_eq, if_neg (show ¬ nI c = 12 from fun q => e ((nI_eq (b := 12) (by omega) (by decide)).mp q)), nI_1]
    have hn : ¬ (12 : Int32) ≤ nI c := nI_ge (b := 12) (by omega) (by decide)
    rw [e2, if_neg hn, if_neg hn]
    refine ⟨c + 1, f, by omega, hf, nI_1 c, rfl, rfl, fun i hi => ?_⟩
    by_cases ei : i = c
    · rw [ei, updS_s]
      refine PR_cong hP hT hS (fun j hj => ?_)
      show itN (stX6_note_51 pg (nI c)) 21 bk (21 * c + j) = pg j
      rw [note_write (c := c) (by omega), if_pos (by omega), show 21 * c + j - 21 * c = j by omega]
    · rw [updS_n (by omega)]
      refine PR_cong hP hT (hp i (by omega)) (fun j hj => ?_)
      show itN (stX6_note_51 pg (nI c)) 21 bk (21 * i + j) = bk (21 * i + j)
      rw [note_write (c := c) (by omega), if_neg (by omega)]
theorem AR_pos {P T K : Nat} {af ac ac' : Int32} {B : Nat → Sc} {bk : Nat → Int32} (h : AR P T K af ac B ac' bk) : ¬ ac < 0 ∧ vp_in ac' 13 ∧ ac = ac' := by
  obtain ⟨c, f, hc, hf, rfl, rfl, rfl, hp⟩ := h
  exact ⟨nI_pos (by omega), vp_in_nI (by omega) (by decide), rfl⟩
theorem AR_ixu {P T K : Nat} {af ac ac' : Int32} {B : Nat → Sc} {bk : Nat → Int32} (h : AR P T K af ac B ac' bk) (h0 : ¬ ac = 0) : vp_in ((af + (ac - 1)) - (af + (ac - 1)) / 12 * 12) 12 := by
  obtain ⟨c, f, hc, hf, rfl, rfl, rfl, hp⟩ := h
  have : c ≠ 0 := fun q => h0 (by rw [q]; rfl)
  rw [show nI c - 1 = nI (c - 1) from pk_sub (b := 1) (by omega), ring_ix hf (by omega)]
  exact vp_in_nI (Nat.mod_lt _ (by decide)) (by decide)
theorem AR_undo {P T K : Nat} {pg : Nat → Int32} {af ac ac' : Int32} {B : Nat → Sc} {bk : Nat → Int32} (hP : P ≤ 6) (hT : T ≤ 4) (h : AR P T K af ac B ac' bk) (h0 : ¬ ac = 0) :
    AR P T K af (fX0_takeBackInto af ac B).1 B (ac' - 1) bk ∧ PR P T K (fX0_takeBackInto af ac B).2 (itN (stX6_undo_27 bk (ac' - 1)) 21 pg) ∧ (fX0_takeBackInto af ac B).1 = ac' - 1 := by
  obtain ⟨c, f, hc, hf, rfl, rfl, rfl, hp⟩ := h
  have hc0 : c ≠ 0 := fun q => h0 (by rw [q]; rfl)
  unfold fX0_takeBackInto
  dsimp only
  rw [show nI c - 1 = nI (c - 1) from pk_sub (b := 1) (by omega), ring_ix hf (by omega), nI_clamp (by have := Nat.mod_lt (f + (c - 1)) (show 0 < 12 by decide); omega)]
  refine ⟨⟨c - 1, f, by omega, hf, rfl, rfl, rfl, fun i hi => hp i (by omega)⟩, ?_, rfl⟩
  refine PR_cong hP hT (hp (c - 1) (by omega)) (fun j hj => ?_)
  rw [copy_it (d := 0) (N := 21) (src := fun i => bk (21 * (c - 1) + i)) (fun i σ hi => by unfold stX6_undo_27; rw [hid_eq, nI_clamp (by omega), k21 (by omega) hi, Nat.zero_add]) 21 (Nat.le_refl _) j, if_pos (by omega), Nat.sub_zero]
  rfl
/-- the two slots -/
def KR (P T K : Nat) (KB : Nat → Sc) (kf kp ik : Nat → Int32) : Prop := ∀ k, k < 2 → kf k = ik k ∧ (¬ kf k = 0 → PR P T K (KB k) (pageOf kp k))
theorem KR_up {P T K K' : Nat} {KB : Nat → Sc} {kf kp ik : Nat → Int32} (h : KR P T K KB kf kp ik) (hK : K ≤ K') : KR P T K' KB kf kp ik := fun k hk => ⟨(h k hk).1, fun h0 => PR_up ((h k hk).2 h0) hK⟩
theorem KR_keep {P T K : Nat} {S : Sc} {pg : Nat → Int32} {KB : Nat → Sc} {kf kp ik : Nat → Int32} (hP : P ≤ 6) (hT : T ≤ 4) (hS : PR P T K S pg) (h : KR P T K KB kf kp ik) {s : Nat} (hs : s < 2) (x : Int32) :
    KR P T K (updS KB s S) (upd kf s x) (itN (stX6_keep_26 pg (nI s)) 21 kp) (upd ik s x) := by
  intro k hk
  have hw : ∀ j, itN (stX6_keep_26 pg (nI s)) 21 kp j = if 21 * s ≤ j ∧ j < 21 * s + 21 then pg (j - 21 * s) else kp j := fun j =>
    copy_it (d := 21 * s) (N := 21) (src := pg) (fun i σ hi => by unfold stX6_keep_26; rw [hid_eq, nI_clamp (by omega), k21 (by omega) hi]) 21 (Nat.le_refl _) j
  by_cases e : k = s
  · subst e
    rw [pk_us, pk_us, updS_s]
    refine ⟨rfl, fun _ => PR_cong hP hT hS (fun j hj => ?_)⟩
    show itN (stX6_keep_26 pg (nI k)) 21 kp (21 * k + j) = pg j
    rw [hw, if_pos (by omega), show 21 * k + j - 21 * k = j by omega]
  · rw [pk_un e, pk_un e, updS_n e]
    refine ⟨(h k hk).1, fun h0 => PR_cong hP hT ((h k hk).2 h0) (fun j hj => ?_)⟩
    show itN (stX6_keep_26 pg (nI s)) 21 kp (21 * k + j) = kp (21 * k + j)
    rw [hw, if_neg (by omega)]
theorem again_page {P T K : Nat} {pg : Nat → Int32} {KB : Nat → Sc} {kf kp ik : Nat → Int32} (hP : P ≤ 6) (hT : T ≤ 4) (h : KR P T K KB kf kp ik) {s : Nat} (hs : s < 2) (h0 : ¬ kf s = 0) : PR P T K (KB s) (itN (stX6_again_31 kp (nI s)) 21 pg) := by
  refine PR_cong hP hT ((h s hs).2 h0) (fun j hj => ?_)
  rw [copy_it (d := 0) (N := 21) (src := fun i => kp (21 * s + i)) (fun i σ hi => by unfold stX6_again_31; rw [hid_eq, nI_clamp (by omega), k21 (by omega) hi, Nat.zero_add]) 21 (Nat.le_refl _) j, if_pos (by omega), Nat.sub_zero]
  rfl
