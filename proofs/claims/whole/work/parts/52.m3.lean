-- needs: 33 34 35 36 37 38 39 40 41 50 51
/-! which cubes can tell which figure -/
theorem bit1 {x k : Nat} : x >>> k &&& 1 = 1 ↔ x.testBit k = true := by
  rw [Nat.testBit]
  rw [Nat.and_comm]
  constructor
  · intro h; rw [h]; rfl
  · intro h
    have h0 : 1 &&& x >>> k ≤ 1 := Nat.and_le_left
    rcases (show 1 &&& x >>> k = 0 ∨ 1 &&& x >>> k = 1 by omega) with e | e
    · rw [e] at h; exact absurd h (by decide)
    · exact e
theorem cwA_bit {nf : Nat → Nat} {bl : Int32} {f c : Nat} : ∀ i, ((cwA nf bl i f).testBit c = true ↔ ∃ j, j < i ∧ j / 6 = c ∧ ¬ nI j = bl ∧ nf j = f) := by
  intro i
  induction i with
  | zero =>
    show (0 : Nat).testBit c = true ↔ _
    rw [Nat.zero_testBit]
    exact ⟨fun h => Bool.noConfusion h, fun ⟨j, hj, _⟩ => absurd hj (Nat.not_lt_zero _)⟩
  | succ i ih =>
    unfold cwA
    by_cases q : nI i = bl
    · rw [if_pos q, ih]
      constructor
      · rintro ⟨j, h1, h2⟩; exact ⟨j, by omega, h2⟩
      · rintro ⟨j, h1, h2, h3, h4⟩
        rcases Nat.lt_or_ge j i with w | w
        · exact ⟨j, w, h2, h3, h4⟩
        · rw [show j = i by omega] at h3; exact absurd q h3
    · rw [if_neg q]
      by_cases e : f = nf i
      · rw [e, mUp_eq, Nat.testBit_or, Bool.or_eq_true, ← e, ih, Nat.one_shiftLeft, Nat.testBit_two_pow, decide_eq_true_iff]
        constructor
        · rintro (⟨j, h1, h2⟩ | h)
          · exact ⟨j, by omega, h2⟩
          · exact ⟨i, by omega, h, q, e.symm⟩
        · rintro ⟨j, h1, h2, h3, h4⟩
          rcases Nat.lt_or_ge j i with w | w
          · exact Or.inl ⟨j, w, h2, h3, h4⟩
          · rw [show j = i by omega] at h2; exact Or.inr h2
      · rw [mUp_ne _ _ e, ih]
        constructor
        · rintro ⟨j, h1, h2⟩; exact ⟨j, by omega, h2⟩
        · rintro ⟨j, h1, h2, h3, h4⟩
          rcases Nat.lt_or_ge j i with w | w
          · exact ⟨j, w, h2, h3, h4⟩
          · rw [show j = i by omega] at h4; exact absurd h4.symm e
theorem cwT_bit {nf : Nat → Nat} {bo : Bool} {bl : Int32} {cu f c : Nat} (hc : c < cu) : cwT nf bo bl cu f >>> c &&& 1 = 1 ↔ ∃ s, s < 6 ∧ ¬ nI (c * 6 + s) = bl ∧ fit bo (nf (c * 6 + s)) f = true := by
  rw [bit1]
  have tr : ∀ (P : Nat → Prop), (∃ j, j < cu * 6 ∧ j / 6 = c ∧ ¬ nI j = bl ∧ P (nf j)) ↔ ∃ s, s < 6 ∧ ¬ nI (c * 6 + s) = bl ∧ P (nf (c * 6 + s)) := by
    intro P
    constructor
    · rintro ⟨j, h1, h2, h3, h4⟩
      refine ⟨j - c * 6, by omega, ?_, ?_⟩
      · rw [show c * 6 + (j - c * 6) = j by omega]; exact h3
      · rw [show c * 6 + (j - c * 6) = j by omega]; exact h4
    · rintro ⟨s, h1, h2, h3⟩
      exact ⟨c * 6 + s, by omega, by omega, h2, h3⟩
  have two : ∀ f1 f2, ((cwA nf bl (cu * 6) f1 ||| cwA nf bl (cu * 6) f2).testBit c = true ↔ ∃ j, j < cu * 6 ∧ j / 6 = c ∧ ¬ nI j = bl ∧ (nf j = f1 ∨ nf j = f2)) := by
    intro f1 f2
    rw [Nat.testBit_or, Bool.or_eq_true, cwA_bit, cwA_bit]
    constructor
    · rintro (⟨j, h1, h2, h3, h4⟩ | ⟨j, h1, h2, h3, h4⟩)
      · exact ⟨j, h1, h2, h3, Or.inl h4⟩
      · exact ⟨j, h1, h2, h3, Or.inr h4⟩
    · rintro ⟨j, h1, h2, h3, h4 | h4⟩
      · exact Or.inl ⟨j, h1, h2, h3, h4⟩
      · exact Or.inr ⟨j, h1, h2, h3, h4⟩
  unfold cwT cwB fit upr
  cases bo with
  | false =>
    rw [if_neg (by decide), cwA_bit, tr (fun x => x = f)]
    simp
  | true =>
    rw [if_pos rfl]
    by_cases q9 : f = 9
    · subst q9
      rw [mUp_eq, mUp_eq, two, tr (fun x => x = 6 ∨ x = 9)]
      constructor
      · rintro ⟨s, h1, h2, h3⟩
        exact ⟨s, h1, h2, decide_eq_true (by simp only [true_and, if_true]; split <;> omega)⟩
      · rintro ⟨s, h1, h2, h3⟩
        have := of_decide_eq_true h3
        simp only [true_and, if_true] at this
        exact ⟨s, h1, h2, by split at this <;> omega⟩
    · rw [mUp_ne _ _ q9]
      by_cases q6 : f = 6
      · subst q6
        rw [mUp_eq, two, tr (fun x => x = 6 ∨ x = 9)]
        constructor
        · rintro ⟨s, h1, h2, h3⟩
          exact ⟨s, h1, h2, decide_eq_true (by simp only [true_and, show ¬ (6 : Nat) = 9 by decide, if_false]; split <;> omega)⟩
        · rintro ⟨s, h1, h2, h3⟩
          have := of_decide_eq_true h3
          simp only [true_and, show ¬ (6 : Nat) = 9 by decide, if_false] at this
          exact ⟨s, h1, h2, by split at this <;> omega⟩
      · rw [mUp_ne _ _ q6, cwA_bit, tr (fun x => x = f)]
        constructor
        · rintro ⟨s, h1, h2, h3⟩
          exact ⟨s, h1, h2, decide_eq_true (by simp only [true_and, q9, if_false]; split <;> omega)⟩
        · rintro ⟨s, h1, h2, h3⟩
          have := of_decide_eq_true h3
          simp only [true_and, q9, if_false] at this
          exact ⟨s, h1, h2, by split at this <;> omega⟩
theorem hfB_iff {nw : Nat → Nat} {bo : Bool} {c v bl : Nat} : ∀ n, hfB nw bo c v bl n = true ↔ ∃ s, s < n ∧ ¬ s = bl ∧ fit bo (nw (6 * c + s)) v = true := by
  intro n
  induction n with
  | zero => exact ⟨fun h => Bool.noConfusion h, fun ⟨j, hj, _⟩ => absurd hj (Nat.not_lt_zero _)⟩
  | succ n ih =>
    unfold hfB
    rw [Bool.or_eq_true, ih, Bool.and_eq_true, decide_eq_true_iff]
    constructor
    · rintro (⟨s, h1, h2⟩ | h)
      · exact ⟨s, by omega, h2⟩
      · exact ⟨n, by omega, h⟩
    · rintro ⟨s, h1, h2⟩
      rcases Nat.lt_or_ge s n with q | q
      · exact Or.inl ⟨s, q, h2⟩
      · rw [show s = n by omega] at h2; exact Or.inr h2
theorem can_eq {nw nf : Nat → Nat} {bo : Bool} {bl : Int32} {cu mo n c sb : Nat} {od : Nat → Nat} (hcu : cu ≤ 4) (h : ∀ j, j < cu * 6 → nw j = nf j) (hO : oAll cu mo od) (hbl : ∀ x s, x < cu → s < 6 → (nI (x * 6 + s) = bl ↔ s = if x = c then sb else 6)) : canR nw bo cu mo od n c sb = canT (cwT nf bo bl cu) cu n := by
  refine bEq ?_
  rw [canT_iff hcu]
  unfold canR
  rw [hO.any (ordB nw bo cu n c sb)]
  have key : ∀ o, PO cu o → (ordB nw bo cu n c sb o = true ↔ ∀ p, p < cu → cwT nf bo bl cu (fgo cu n p) >>> cIn o p &&& 1 = 1) := by
    intro o ho
    unfold ordB
    rw [allF_iff]
    have one : ∀ p, p < cu → (ordP nw bo cu n c sb o p = true ↔ cwT nf bo bl cu (fgo cu n p) >>> cIn o p &&& 1 = 1) := by
      intro p hp
      have hx := (PO_lt hcu ho).2 p hp
      rw [cwT_bit hx]
      unfold ordP
      rw [hfB_iff]
      constructor
      · rintro ⟨s, h1, h2, h3⟩
        refine ⟨s, h1, fun z => h2 ((hbl _ _ hx h1).mp z), ?_⟩
        rw [← h _ (by omega), Nat.mul_comm]
        exact h3
      · rintro ⟨s, h1, h2, h3⟩
        refine ⟨s, h1, fun z => h2 ((hbl _ _ hx h1).mpr z), ?_⟩
        rw [← h _ (by omega), Nat.mul_comm] at h3
        exact h3
    exact ⟨fun q p hp => (one p hp).mp (q p (Nat.zero_le _) (by omega)), fun q p _ hp => (one p (by omega)).mpr (q p (by omega))⟩
  constructor
  · rintro ⟨o, ho, q⟩; exact ⟨o, ho, (key o ho).mp q⟩
  · rintro ⟨o, ho, q⟩; exact ⟨o, ho, (key o ho).mpr q⟩
theorem nI_inj {x y : Nat} (hx : x < 2 ^ 31) (hy : y < 2 ^ 31) (h : nI x = nI y) : x = y := by
  have := congrArg Int32.toInt h
  rw [nI_toInt hx, nI_toInt hy] at this
  omega
theorem bl_no {cu : Nat} (hcu : cu ≤ 4) : ∀ x s, x < cu → s < 6 → (nI (x * 6 + s) = -1 ↔ s = if x = 0 then 6 else 6) := by
  intro x s hx hs
  constructor
  · intro h
    have := congrArg Int32.toInt h
    rw [nI_toInt (by omega)] at this
    have e : (-1 : Int32).toInt = -1 := by decide
    omega
  · intro h
    split at h <;> omega
theorem bl_at {cu c sb : Nat} (hcu : cu ≤ 4) (hc : c < cu) (hs : sb < 6) : ∀ x s, x < cu → s < 6 → (nI (x * 6 + s) = nI (c * 6 + sb) ↔ s = if x = c then sb else 6) := by
  intro x s hx h6
  constructor
  · intro h
    have := nI_inj (by omega) (by omega) h
    split <;> omega
  · intro h
    split at h
    · rw [h]; rename_i e; rw [e]
    · omega
theorem dd_eq {f : Nat → Bool} {cw td : Nat → Nat} {cu : Nat} : ∀ d, (∀ j, j < d → f j = canT cw cu (td j)) → ddG f d = dd cw td cu d := by
  intro d
  induction d with
  | zero => intro _; rfl
  | succ d ih =>
    intro h
    unfold ddG dd
    rw [ih (fun j hj => h j (by omega)), h d (by omega)]
theorem lu_eq {f : Nat → Bool} {cw : Nat → Nat} {cu : Nat} : ∀ k n, (∀ j, n ≤ j → j < n + k → f j = canT cw cu j) → luR f n k = lu cw cu k n := by
  intro k
  induction k with
  | zero => intro n _; rfl
  | succ k ih =>
    intro n h
    unfold luR lu
    rw [ih _ (fun j h1 h2 => h j (by omega) (by omega)), h n (Nat.le_refl _) (by omega)]
theorem ddG_bit {f : Nat → Bool} : ∀ n d, (ddG f n >>> d &&& 1 = 1 ↔ d < n ∧ f d = true) := by
  intro n
  induction n with
  | zero =>
    intro d
    rw [bit1]
    show (0 : Nat).testBit d = true ↔ _
    rw [Nat.zero_testBit]
    exact ⟨fun h => Bool.noConfusion h, fun h => absurd h.1 (Nat.not_lt_zero _)⟩
  | succ n ih =>
    intro d
    unfold ddG
    by_cases q : f n = true
    · rw [if_pos q, bit1, Nat.testBit_or, Bool.or_eq_true, ← bit1, ih, Nat.one_shiftLeft, Nat.testBit_two_pow, decide_eq_true_iff]
      constructor
      · rintro (⟨h1, h2⟩ | h)
        · exact ⟨by omega, h2⟩
        · rw [← h]; exact ⟨by omega, q⟩
      · rintro ⟨h1, h2⟩
        rcases Nat.lt_or_ge d n with w | w
        · exact Or.inl ⟨w, h2⟩
        · exact Or.inr (by omega)
    · rw [if_neg q, ih]
      constructor
      · rintro ⟨h1, h2⟩; exact ⟨by omega, h2⟩
      · rintro ⟨h1, h2⟩
        rcases Nat.lt_or_ge d n with w | w
        · exact ⟨w, h2⟩
        · rw [show d = n by omega] at h2; exact absurd h2 q
theorem ddG_inj {f g : Nat → Bool} {n : Nat} (h : ddG f n = ddG g n) : ∀ d, d < n → f d = g d := by
  intro d hd
  refine bEq ?_
  have a := ddG_bit (f := f) n d
  have b := ddG_bit (f := g) n d
  rw [h] at a
  exact ⟨fun q => (b.mp (a.mpr ⟨hd, q⟩)).2, fun q => (a.mp (b.mpr ⟨hd, q⟩)).2⟩
/-- a blank side never helps -/
theorem can_mono {nw : Nat → Nat} {bo : Bool} {cu mo n c sb : Nat} {od : Nat → Nat} (h : canR nw bo cu mo od n c sb = true) : canR nw bo cu mo od n 0 6 = true := by
  unfold canR at h ⊢
  rw [anyF_iff] at h ⊢
  obtain ⟨k, h1, h2, h3⟩ := h
  refine ⟨k, h1, h2, ?_⟩
  unfold ordB at h3 ⊢
  rw [allF_iff] at h3 ⊢
  intro p hp hp2
  have := h3 p hp hp2
  unfold ordP at this ⊢
  rw [hfB_iff] at this ⊢
  obtain ⟨s, q1, q2, q3⟩ := this
  refine ⟨s, q1, ?_, q3⟩
  split <;> omega
theorem sn_eq {nw nf dg td : Nat → Nat} {bo : Bool} {cu dc mo c : Nat} {od : Nat → Nat} (hcu : cu ≤ 4) (h : ∀ j, j < cu * 6 → nw j = nf j) (hO : oAll cu mo od) (hc : c < cu) (hd : ∀ j, j < dc → dg j = td j) : ∀ k, k ≤ 6 → ddG (fun s => exB (fun d => decide (ddG (fun d => canR nw bo cu mo od (dg d) 0 6) dc >>> d &&& 1 = 1) && !(canR nw bo cu mo od (dg d) c s)) dc) k = snF nf td bo cu dc c (dd (cwT nf bo (-1) cu) td cu dc) k := by
  have e0 : dd (cwT nf bo (-1) cu) td cu dc = ddG (fun d => canR nw bo cu mo od (dg d) 0 6) dc := (dd_eq dc (fun j hj => by rw [can_eq hcu h hO (bl_no hcu), hd j hj])).symm
  intro k
  induction k with
  | zero => intro _; rfl
  | succ k ih =>
    intro hk
    have e1 : dd (cwT nf bo (nI (c * 6 + k)) cu) td cu dc = ddG (fun d => canR nw bo cu mo od (dg d) c k) dc := (dd_eq dc (fun j hj => by rw [can_eq hcu h hO (bl_at hcu hc (by omega)), hd j hj])).symm
    have e2 : exB (fun d => decide (ddG (fun d => canR nw bo cu mo od (dg d) 0 6) dc >>> d &&& 1 = 1) && !(canR nw bo cu mo od (dg d) c k)) dc = decide (¬ dd (cwT nf bo (nI (c * 6 + k)) cu) td cu dc = dd (cwT nf bo (-1) cu) td cu dc) := by
      refine bEq ?_
      rw [exB_iff, decide_eq_true_iff, e0, e1]
      constructor
      · rintro ⟨d, h1, h2⟩ hz
        rw [Bool.and_eq_true, decide_eq_true_iff, ddG_bit] at h2
        have := ddG_inj hz d h1
        rw [this, h2.1.2] at h2
        exact Bool.noConfusion h2.2
      · intro hz
        refine Classical.byContradiction fun hn => hz (ddG_cong dc (fun d hdd => ?_))
        refine bEq ⟨can_mono, fun q => ?_⟩
        refine Classical.byContradiction fun w => hn ⟨d, hdd, ?_⟩
        rw [Bool.and_eq_true, decide_eq_true_iff, ddG_bit]
        exact ⟨⟨hdd, q⟩, by rw [Bool.not_eq_true] at w; rw [w]; rfl⟩
    unfold snF
    by_cases q : dd (cwT nf bo (nI (c * 6 + k)) cu) td cu dc = dd (cwT nf bo (-1) cu) td cu dc
    · rw [if_pos q, ddG_f (d := k) (by rw [e2]; exact decide_eq_false (fun z => z q)), ih (by omega)]
    · rw [if_neg q, ddG_t (d := k) (by rw [e2]; exact decide_eq_true q), ih (by omega)]
