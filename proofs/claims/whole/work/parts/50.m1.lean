-- needs: 33 34 35 36 37 38 39 40 41
/-! both sides: simple answers -/
theorem fgs_cong {f g : Nat → Nat} {c : Nat} : ∀ s, (∀ j, j < s → f (c * 6 + j) = g (c * 6 + j)) → fgs f c s = fgs g c s := by
  intro s
  induction s with
  | zero => intro _; rfl
  | succ s ih =>
    intro h
    unfold fgs
    rw [ih (fun j hj => h j (by omega)), h s (by omega)]
theorem alB_iff {f : Nat → Bool} : ∀ n, alB f n = true ↔ ∀ j, j < n → f j = true := by
  intro n
  induction n with
  | zero => exact ⟨fun _ j hj => absurd hj (Nat.not_lt_zero _), fun _ => rfl⟩
  | succ n ih =>
    unfold alB
    rw [Bool.and_eq_true, ih]
    constructor
    · intro ⟨h1, h2⟩ j hj
      rcases Nat.lt_or_ge j n with q | q
      · exact h1 j q
      · rw [show j = n by omega]; exact h2
    · intro h
      exact ⟨fun j hj => h j (by omega), h n (by omega)⟩
theorem exB_iff {f : Nat → Bool} : ∀ n, exB f n = true ↔ ∃ j, j < n ∧ f j = true := by
  intro n
  induction n with
  | zero => exact ⟨fun h => Bool.noConfusion h, fun ⟨j, hj, _⟩ => absurd hj (Nat.not_lt_zero _)⟩
  | succ n ih =>
    unfold exB
    rw [Bool.or_eq_true, ih]
    constructor
    · rintro (⟨j, hj, h⟩ | h)
      · exact ⟨j, by omega, h⟩
      · exact ⟨n, by omega, h⟩
    · rintro ⟨j, hj, h⟩
      rcases Nat.lt_or_ge j n with q | q
      · exact Or.inl ⟨j, q, h⟩
      · rw [show j = n by omega] at h; exact Or.inr h
theorem anyF_iff {f : Nat → Bool} : ∀ k i, anyF f i k = true ↔ ∃ j, i ≤ j ∧ j < i + k ∧ f j = true := by
  intro k
  induction k with
  | zero => intro i; exact ⟨fun h => Bool.noConfusion h, fun ⟨j, h1, h2, _⟩ => absurd h1 (by omega)⟩
  | succ k ih =>
    intro i
    unfold anyF
    rw [Bool.or_eq_true, ih]
    constructor
    · rintro (h | ⟨j, h1, h2, h⟩)
      · exact ⟨i, Nat.le_refl _, by omega, h⟩
      · exact ⟨j, by omega, by omega, h⟩
    · rintro ⟨j, h1, h2, h⟩
      rcases Nat.lt_or_ge i j with q | q
      · exact Or.inr ⟨j, q, by omega, h⟩
      · rw [show j = i by omega] at h; exact Or.inl h
theorem bEq {a b : Bool} (h : a = true ↔ b = true) : a = b := by
  cases a <;> cases b
  · rfl
  · exact Bool.noConfusion (h.mpr rfl)
  · exact Bool.noConfusion (h.mp rfl)
  · rfl
theorem alB_all {f : Nat → Bool} {n : Nat} : alB f n = allF f 0 n := by
  refine bEq ?_
  rw [alB_iff, allF_iff]
  exact ⟨fun h j _ hj => h j (by omega), fun h j hj => h j (Nat.zero_le _) (by omega)⟩
theorem ddG_cong {f g : Nat → Bool} : ∀ n, (∀ j, j < n → f j = g j) → ddG f n = ddG g n := by
  intro n
  induction n with
  | zero => intro _; rfl
  | succ n ih =>
    intro h
    unfold ddG
    rw [ih (fun j hj => h j (by omega)), h n (by omega)]
theorem smG_cong {f g : Nat → Nat} : ∀ n, (∀ j, j < n → f j = g j) → smG f n = smG g n := by
  intro n
  induction n with
  | zero => intro _; rfl
  | succ n ih =>
    intro h
    unfold smG
    rw [ih (fun j hj => h j (by omega)), h n (by omega)]
/-! places -/
theorem plF_eq {g : Nat → Nat} {c p : Nat} : ∀ n, p < n → g p = c → (∀ i, i < n → g i = c → i = p) → plF g c n = p := by
  intro n
  induction n with
  | zero => intro h; exact absurd h (Nat.not_lt_zero _)
  | succ n ih =>
    intro hp hg hu
    unfold plF
    by_cases q : g n = c
    · rw [if_pos q]; exact hu n (by omega) q
    · rw [if_neg q]
      have hpn : p ≠ n := by intro e; rw [e] at hg; exact q hg
      exact ih (by omega) hg (fun i hi h => hu i (by omega) h)
/-- the relation of the desk as it stands -/
def sdR (cu : Nat) (nw : Nat → Nat) (wk : Nat) (nf ca fr : Nat → Nat) : Prop := (∀ j, j < cu * 6 → nw j = nf j) ∧ (∀ p, p < cu → nw (24 + p) = ca p) ∧ (∀ c, c < 4 → nw (28 + c) = fr c) ∧ nw 32 = wk
theorem nif_eq {cu wk : Nat} {nw nf ca fr : Nat → Nat} (h : sdR cu nw wk nf ca fr) (hcu : cu ≤ 4) (hca : ∀ j, j < cu → ca j < cu) (hfr : ∀ j, j < 4 → fr j < 6) : ∀ n, n ≤ cu → niR nw n = nif nf ca fr n := by
  obtain ⟨h1, h2, h3, h4⟩ := h
  intro n
  induction n with
  | zero => intro _; rfl
  | succ n ih =>
    intro hn
    unfold niR nif fAt
    have := hca n (by omega)
    have := hfr (ca n) (by omega)
    rw [ih (by omega), h2 n (by omega), h3 (ca n) (by omega), h1 _ (by omega), Nat.mul_comm 10, Nat.mul_comm 6]
theorem fgo_lo {cu n i : Nat} (hi : i < cu) : fgo cu n (cu - 1 - i) = n / 10 ^ i % 10 := by
  unfold fgo
  rw [show cu - 1 - (cu - 1 - i) = i by omega]
theorem itF_iff {nf ca fr : Nat → Nat} {bo : Bool} : ∀ q r, itF nf ca fr bo q r = true ↔ ∀ i, i < q → fit bo (fAt nf ca fr (q - 1 - i)) (r / 10 ^ i % 10) = true := by
  intro q
  induction q with
  | zero => intro r; exact ⟨fun _ i hi => absurd hi (Nat.not_lt_zero _), fun _ => rfl⟩
  | succ q ih =>
    intro r
    unfold itF
    rw [Bool.and_eq_true, ih]
    constructor
    · rintro ⟨h1, h2⟩ i hi
      cases i with
      | zero => rw [Nat.pow_zero, Nat.div_one]; exact h1
      | succ i =>
        have := h2 i (by omega)
        rw [Nat.div_div_eq_div_mul, Nat.mul_comm 10, ← Nat.pow_succ] at this
        rw [show q + 1 - 1 - (i + 1) = q - 1 - i by omega]
        exact this
    · intro h
      refine ⟨?_, fun i hi => ?_⟩
      · have := h 0 (by omega)
        rw [Nat.pow_zero, Nat.div_one] at this
        exact this
      · have := h (i + 1) (by omega)
        rw [Nat.div_div_eq_div_mul, Nat.mul_comm 10, ← Nat.pow_succ]
        rw [show q + 1 - 1 - (i + 1) = q - 1 - i by omega] at this
        exact this
theorem itF_eq {cu wk n : Nat} {bo : Bool} {nw nf ca fr : Nat → Nat} (h : sdR cu nw wk nf ca fr) (hcu : cu ≤ 4) (hca : ∀ j, j < cu → ca j < cu) (hfr : ∀ j, j < 4 → fr j < 6) : alB (fun p => fit bo (nw (6 * nw (24 + p) + nw (28 + nw (24 + p)))) (fgo cu n p)) cu = itF nf ca fr bo cu n := by
  obtain ⟨h1, h2, h3, h4⟩ := h
  refine bEq ?_
  rw [alB_iff, itF_iff]
  have key : ∀ p, p < cu → nw (6 * nw (24 + p) + nw (28 + nw (24 + p))) = fAt nf ca fr p := by
    intro p hp
    have := hca p hp
    have := hfr (ca p) (by omega)
    unfold fAt
    rw [h2 p (by omega), h3 (ca p) (by omega), h1 _ (by omega), Nat.mul_comm 6]
  constructor
  · intro q i hi
    have := q (cu - 1 - i) (by omega)
    rw [key _ (by omega), fgo_lo hi] at this
    exact this
  · intro q p hp
    have := q (cu - 1 - p) (by omega)
    rw [show cu - 1 - (cu - 1 - p) = p by omega] at this
    rw [key p hp]
    exact this
/-! what was seen -/
theorem wch_eq {sf st nw nf : Nat → Nat} {sn cu : Nat} (h : ∀ j, j < cu * 6 → nw j = nf j) : ∀ c, c ≤ cu → whR nw sf st sn c = wch nf sf st sn c := by
  intro c
  induction c with
  | zero => intro _; rfl
  | succ c ih =>
    intro hc
    have e : alB (seB nw sf st c) sn = mayB sf st sn (fgs nf c 6) := by
      rw [alB_all]
      unfold mayB
      rw [← fgs_cong 6 (fun j hj => h (c * 6 + j) (by omega))]
      rfl
    unfold whR at ih ⊢
    unfold ddG wch
    rw [ih (by omega), e]
theorem hmh_eq {nw nf : Nat → Nat} {f l cu : Nat} (h : ∀ j, j < cu * 6 → nw j = nf j) : ∀ c, c ≤ cu → hmh nw f l c = hmh nf f l c := by
  intro c
  induction c with
  | zero => intro _; rfl
  | succ c ih =>
    intro hc
    unfold hmh
    rw [ih (by omega), fgs_cong 6 (fun j hj => h (c * 6 + j) (by omega))]
theorem lk_eq {nw nf : Nat → Nat} {l a cu : Nat} (h : ∀ j, j < cu * 6 → nw j = nf j) : ∀ f, lk nw l a cu f = lk nf l a cu f := by
  intro f
  induction f with
  | zero => rfl
  | succ f ih =>
    unfold lk
    rw [ih, hmh_eq h cu (Nat.le_refl _)]
theorem look_eq {sf st nw nf : Nat → Nat} {sn cu : Nat} (h : ∀ j, j < cu * 6 → nw j = nf j) : (lk nw (whR nw sf st sn cu) (popc (whR nw sf st sn cu) 10) cu 10).1 = look nf sf st sn cu := by
  unfold look
  rw [lk_eq h, wch_eq h cu (Nat.le_refl _)]
/-! traces -/
theorem tr_eq (tr : Int64) : trF 1 tr 6 = tr + kT 0 ∧ trF 3 tr 6 = tr + kT 1 + kT 0 ∧ trF 5 tr 6 = tr + kT 2 + kT 0 ∧ trF 11 tr 6 = tr + kT 3 + kT 1 + kT 0 ∧ trF 21 tr 6 = tr + kT 4 + kT 2 + kT 0 ∧ trF 33 tr 6 = tr + kT 5 + kT 0 := by
  have e0 : kT 0 = 1 := by decide
  have e1 : kT 1 = 10 := by decide
  have e2 : kT 2 = 100 := by decide
  have e3 : kT 3 = 1000 := by decide
  have e4 : kT 4 = 10000 := by decide
  have e5 : kT 5 = 100000 := by decide
  have x1 : trF 1 tr 6 = tr + 1 + 0 + 0 + 0 + 0 + 0 := rfl
  have x3 : trF 3 tr 6 = tr + 1 + 10 + 0 + 0 + 0 + 0 := rfl
  have x5 : trF 5 tr 6 = tr + 1 + 0 + 100 + 0 + 0 + 0 := rfl
  have x11 : trF 11 tr 6 = tr + 1 + 10 + 0 + 1000 + 0 + 0 := rfl
  have x21 : trF 21 tr 6 = tr + 1 + 0 + 100 + 0 + 10000 + 0 := rfl
  have x33 : trF 33 tr 6 = tr + 1 + 0 + 0 + 0 + 0 + 100000 := rfl
  rw [x1, x3, x5, x11, x21, x33, e0, e1, e2, e3, e4, e5]
  simp only [Int64.add_zero, Int64.add_assoc]
  refine ⟨trivial, ?_, ?_, ?_, ?_, ?_⟩ <;> congr 1
