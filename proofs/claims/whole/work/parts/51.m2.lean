-- needs: 33 34 35 36 37 38 39 40 41 50
/-! orders -/
def PO (cu o : Nat) : Prop := o < 1 <<< (2 * cu) ∧ isOrd cu o = true
def oAll (cu mo : Nat) (od : Nat → Nat) : Prop := mo ≤ 24 ∧ (∀ k, k < mo → PO cu (od k)) ∧ ∀ o, PO cu o → ∃ k, k < mo ∧ od k = o
theorem toR_all {cu : Nat} (hcu : cu ≤ 4) (od : Nat → Nat) : oAll cu (toR cu od).1 (toR cu od).2 := by
  have h := iterF_ix (f := toS cu) (P := fun i x => x.1 = cnO cu i ∧ (∀ k, k < x.1 → x.2 k < i ∧ isOrd cu (x.2 k) = true) ∧ ∀ o, o < i → isOrd cu o = true → ∃ k, k < x.1 ∧ x.2 k = o) (1 <<< (2 * cu)) 0 (0, od) ⟨rfl, fun k hk => absurd hk (Nat.not_lt_zero _), fun o ho => absurd ho (Nat.not_lt_zero _)⟩ (by
    intro i y _ _ ⟨h1, h2, h3⟩
    unfold toS
    by_cases q : isOrd cu i = true
    · rw [if_pos q]
      refine ⟨by rw [cnO_s, if_pos q, ← h1], fun k hk => ?_, fun o ho hq => ?_⟩
      · dsimp only at hk ⊢
        by_cases e : k = y.1
        · rw [e, mUp_eq]; exact ⟨by omega, q⟩
        · rw [mUp_ne _ _ e]
          have := h2 k (by omega)
          exact ⟨by omega, this.2⟩
      · dsimp only
        by_cases e : o = i
        · exact ⟨y.1, by omega, by rw [mUp_eq, e]⟩
        · obtain ⟨k, hk, hk2⟩ := h3 o (by omega) hq
          exact ⟨k, by omega, by rw [mUp_ne _ _ (by omega)]; exact hk2⟩
    · rw [if_neg q]
      refine ⟨by rw [cnO_s, if_neg q, h1], fun k hk => ⟨by have := (h2 k hk).1; omega, (h2 k hk).2⟩, fun o ho hq => ?_⟩
      by_cases e : o = i
      · rw [e] at hq; exact absurd hq q
      · exact h3 o (by omega) hq)
  rw [Nat.zero_add] at h
  obtain ⟨h1, h2, h3⟩ := h
  exact ⟨Nat.le_trans (Nat.le_of_eq h1) (cnO_24 hcu), h2, fun o ho => h3 o ho.1 ho.2⟩
def rall (n : Nat) (f : Nat → Bool) : Bool := (List.range n).all f
theorem rall_at {n : Nat} {f : Nat → Bool} (h : rall n f = true) {i : Nat} (hi : i < n) : f i = true := List.all_eq_true.mp h i (List.mem_range.mpr hi)
theorem imp_of {a b : Bool} (h : (!a || b) = true) (ha : a = true) : b = true := by rw [ha] at h; exact h
theorem PO_lt {cu o : Nat} (hcu : cu ≤ 4) (h : PO cu o) : o < 256 ∧ ∀ p, p < cu → cIn o p < cu := by
  have key : rall 5 (fun x => rall 256 (fun o => !(decide (o < 1 <<< (2 * x)) && isOrd x o) || rall x (fun p => decide (cIn o p < x)))) = true := by decide +kernel
  have h256 : o < 256 := Nat.lt_of_lt_of_le h.1 (shl2 hcu)
  refine ⟨h256, fun p hp => ?_⟩
  have k1 := rall_at (rall_at key (show cu < 5 by omega)) h256
  have k2 := imp_of k1 (by rw [decide_eq_true h.1, h.2]; rfl)
  exact of_decide_eq_true (rall_at k2 hp)
theorem oAll.ok {cu mo : Nat} {od : Nat → Nat} (hcu : cu ≤ 4) (h : oAll cu mo od) : oOK cu mo od := ⟨h.1, fun k hk => (PO_lt hcu (h.2.1 k hk)).1, fun k p hk hp => (PO_lt hcu (h.2.1 k hk)).2 p hp⟩
theorem oAll.any {cu mo : Nat} {od : Nat → Nat} (h : oAll cu mo od) (f : Nat → Bool) : anyF (fun k => f (od k)) 0 mo = true ↔ ∃ o, PO cu o ∧ f o = true := by
  rw [anyF_iff]
  constructor
  · rintro ⟨j, _, h2, h3⟩
    exact ⟨od j, h.2.1 j (by omega), h3⟩
  · rintro ⟨o, h1, h2⟩
    obtain ⟨k, hk, rfl⟩ := h.2.2 o h1
    exact ⟨k, Nat.zero_le _, by omega, h2⟩
/-! rows of cubes, one for each figure, none twice -/
def chk (g : Nat → Nat) : Nat → Nat → Bool
  | 0, b => decide (b = 0)
  | k + 1, b => b.testBit (g k) && chk g k (b - 2 ^ g k)
theorem chk_cong {g g' : Nat → Nat} : ∀ k b, (∀ i, i < k → g i = g' i) → chk g k b = chk g' k b := by
  intro k
  induction k with
  | zero => intro b _; rfl
  | succ k ih =>
    intro b h
    unfold chk
    rw [h k (by omega), ih _ (fun i hi => h i (by omega))]
theorem onF_cong {g g' : Nat → Nat} : ∀ k, (∀ i, i < k → g i = g' i) → onF g k = onF g' k := by
  intro k
  induction k with
  | zero => intro _; rfl
  | succ k ih =>
    intro h
    unfold onF
    rw [h k (by omega), ih (fun i hi => h i (by omega))]
def g4 (a b c d : Nat) : Nat → Nat := fun i => if i = 0 then a else if i = 1 then b else if i = 2 then c else d
theorem g4_of (g : Nat → Nat) : ∀ i, i < 4 → g i = g4 (g 0) (g 1) (g 2) (g 3) i := by
  intro i hi
  rcases (show i = 0 ∨ i = 1 ∨ i = 2 ∨ i = 3 by omega) with rfl | rfl | rfl | rfl <;> rfl
def ordOf (g : Nat → Nat) (cu : Nat) : Nat := onF (fun p => g (cu - 1 - p)) cu
def fd1 (x a b c d t : Nat) : Bool := !(rall x (fun i => decide (g4 a b c d i < x)) && chk (g4 a b c d) x t) || (decide (ordOf (g4 a b c d) x < 1 <<< (2 * x)) && isOrd x (ordOf (g4 a b c d) x) && rall x (fun p => decide (cIn (ordOf (g4 a b c d) x) p = g4 a b c d (x - 1 - p))))
theorem fd1_all : rall 5 (fun x => rall 4 (fun a => rall 4 (fun b => rall 4 (fun c => rall 4 (fun d => rall 16 (fun t => fd1 x a b c d t)))))) = true := by decide +kernel
theorem rall_of {n : Nat} {f : Nat → Bool} (h : ∀ i, i < n → f i = true) : rall n f = true := List.all_eq_true.mpr (fun i hi => h i (List.mem_range.mp hi))
theorem ord_of {cu t : Nat} {g : Nat → Nat} (hcu : cu ≤ 4) (ht : t < 16) (hg : ∀ i, i < cu → g i < cu) (hc : chk g cu t = true) : PO cu (ordOf g cu) ∧ ∀ p, p < cu → cIn (ordOf g cu) p = g (cu - 1 - p) := by
  -- figures beyond cu are of no account
  let g' : Nat → Nat := fun i => if i < cu then g i else 0
  have e1 : ∀ i, i < cu → g i = g' i := fun i hi => (if_pos hi).symm
  have hlt : ∀ i, g' i < 4 := by
    intro i
    show (if i < cu then g i else 0) < 4
    split
    · rename_i q; have := hg i q; omega
    · decide
  have e2 : ∀ i, i < cu → g i = g4 (g' 0) (g' 1) (g' 2) (g' 3) i := fun i hi => (e1 i hi).trans (g4_of g' i (by omega))
  have hO : ordOf g cu = ordOf (g4 (g' 0) (g' 1) (g' 2) (g' 3)) cu := onF_cong cu (fun p hp => e2 _ (by omega))
  have k := rall_at (rall_at (rall_at (rall_at (rall_at (rall_at fd1_all (show cu < 5 by omega)) (hlt 0)) (hlt 1)) (hlt 2)) (hlt 3)) ht
  have k2 := imp_of k (by
    rw [Bool.and_eq_true]
    refine ⟨rall_of (fun i hi => decide_eq_true (by rw [← e2 i hi]; exact hg i hi)), ?_⟩
    rw [← chk_cong cu t e2]
    exact hc)
  rw [Bool.and_eq_true, Bool.and_eq_true, ← hO] at k2
  refine ⟨⟨of_decide_eq_true k2.1.1, k2.1.2⟩, fun p hp => ?_⟩
  rw [of_decide_eq_true (rall_at k2.2 hp), e2 _ (by omega)]
theorem of_ord {cu o : Nat} (hcu : cu ≤ 4) (h : PO cu o) : chk (fun i => cIn o (cu - 1 - i)) cu (2 ^ cu - 1) = true := by
  have key : rall 5 (fun x => rall 256 (fun o => !(decide (o < 1 <<< (2 * x)) && isOrd x o) || chk (fun i => cIn o (x - 1 - i)) x (2 ^ x - 1))) = true := by decide +kernel
  have k1 := rall_at (rall_at key (show cu < 5 by omega)) (PO_lt hcu h).1
  exact imp_of k1 (by rw [decide_eq_true h.1, h.2]; rfl)
/-! many sets of cubes in one number -/
theorem SW_lt : ∀ c, c < 4 → SW c <<< (1 <<< c) < 2 ^ 16 := by
  intro c hc
  rcases (show c = 0 ∨ c = 1 ∨ c = 2 ∨ c = 3 by omega) with rfl | rfl | rfl | rfl <;> decide
theorem womLt {cw : Nat → Nat} {s fg : Nat} : ∀ n, n ≤ 4 → wom cw s fg n < 2 ^ 16 := by
  intro n
  induction n with
  | zero => intro _; exact (by decide : (0 : Nat) < 2 ^ 16)
  | succ n ih =>
    intro hn
    unfold wom
    split
    · refine or_lt (ih (by omega)) (Nat.lt_of_le_of_lt ?_ (SW_lt n (by omega)))
      rw [Nat.shiftLeft_eq (s &&& SW n), Nat.shiftLeft_eq (SW n)]
      exact Nat.mul_le_mul_right _ Nat.and_le_right
    · exact ih (by omega)
theorem SW_bit {b c : Nat} (hb : b < 16) (hc : c < 4) : (decide (b ≥ 1 <<< c) && (SW c).testBit (b - 1 <<< c)) = b.testBit c := by
  have key : rall 16 (fun b => rall 4 (fun c => (decide (b ≥ 1 <<< c) && (SW c).testBit (b - 1 <<< c)) == b.testBit c)) = true := by decide +kernel
  exact eq_of_beq (rall_at (rall_at key hb) hc)
theorem wom_bit {cw : Nat → Nat} {s fg b : Nat} (hb : b < 16) : ∀ n, n ≤ 4 → ((wom cw s fg n).testBit b = true ↔ ∃ c, c < n ∧ cw fg >>> c &&& 1 = 1 ∧ b.testBit c = true ∧ s.testBit (b - 2 ^ c) = true) := by
  intro n
  induction n with
  | zero =>
    intro _
    show (0 : Nat).testBit b = true ↔ _
    rw [Nat.zero_testBit]
    exact ⟨fun h => Bool.noConfusion h, fun ⟨c, hc, _⟩ => absurd hc (Nat.not_lt_zero _)⟩
  | succ n ih =>
    intro hn
    unfold wom
    by_cases q : cw fg >>> n &&& 1 = 1
    · rw [if_pos q, Nat.testBit_or, Bool.or_eq_true, ih (by omega), Nat.testBit_shiftLeft, Nat.testBit_and]
      have e : (decide (b ≥ 1 <<< n) && (s.testBit (b - 1 <<< n) && (SW n).testBit (b - 1 <<< n))) = (b.testBit n && s.testBit (b - 2 ^ n)) := by
        rw [← SW_bit hb (show n < 4 by omega), Nat.one_shiftLeft]
        cases decide (b ≥ 2 ^ n) <;> cases s.testBit (b - 2 ^ n) <;> cases (SW n).testBit (b - 2 ^ n) <;> rfl
      rw [e, Bool.and_eq_true]
      constructor
      · rintro (⟨c, h1, h2⟩ | ⟨h1, h2⟩)
        · exact ⟨c, by omega, h2⟩
        · exact ⟨n, by omega, q, h1, h2⟩
      · rintro ⟨c, h1, h2, h3, h4⟩
        rcases Nat.lt_or_ge c n with w | w
        · exact Or.inl ⟨c, w, h2, h3, h4⟩
        · have e : c = n := by omega
          subst e
          exact Or.inr ⟨h3, h4⟩
    · rw [if_neg q, ih (by omega)]
      constructor
      · rintro ⟨c, h1, h2⟩
        exact ⟨c, by omega, h2⟩
      · rintro ⟨c, h1, h2, h3⟩
        rcases Nat.lt_or_ge c n with w | w
        · exact ⟨c, w, h2, h3⟩
        · rw [show c = n by omega] at h2; exact absurd h2 q
/-- the sets after k figures -/
def cS (cw : Nat → Nat) (cu r s : Nat) : Nat → Nat
  | 0 => s
  | k + 1 => wom cw (cS cw cu r s k) (r / 10 ^ k % 10) cu
theorem cS_sh {cw : Nat → Nat} {cu : Nat} : ∀ k r s, cS cw cu r s (k + 1) = cS cw cu (r / 10) (wom cw s (r % 10) cu) k := by
  intro k
  induction k with
  | zero => intro r s; show wom cw s (r / 10 ^ 0 % 10) cu = _; rw [Nat.pow_zero, Nat.div_one]; rfl
  | succ k ih =>
    intro r s
    show wom cw (cS cw cu r s (k + 1)) (r / 10 ^ (k + 1) % 10) cu = wom cw (cS cw cu (r / 10) (wom cw s (r % 10) cu) k) (r / 10 / 10 ^ k % 10) cu
    rw [ih, Nat.div_div_eq_div_mul, Nat.pow_succ, Nat.mul_comm 10]
theorem cTs_cS {cw : Nat → Nat} {cu : Nat} : ∀ k s r, cTs cw cu k s r = cS cw cu r s k := by
  intro k
  induction k with
  | zero => intro s r; rfl
  | succ k ih => intro s r; rw [cS_sh, ← ih]; rfl
theorem cS_lt {cw : Nat → Nat} {cu r : Nat} (hcu : cu ≤ 4) : ∀ k, cS cw cu r 1 k < 2 ^ 16 := by
  intro k
  cases k with
  | zero => exact (by decide : (1 : Nat) < 2 ^ 16)
  | succ k => exact womLt cu hcu
theorem cS_bit {cw : Nat → Nat} {cu r : Nat} (hcu : cu ≤ 4) : ∀ k b, b < 16 → ((cS cw cu r 1 k).testBit b = true ↔ ∃ g : Nat → Nat, (∀ i, i < k → g i < cu ∧ cw (r / 10 ^ i % 10) >>> g i &&& 1 = 1) ∧ chk g k b = true) := by
  intro k
  induction k with
  | zero =>
    intro b hb
    show (1 : Nat).testBit b = true ↔ _
    rw [Nat.testBit_one_eq_true_iff_self_eq_zero]
    exact ⟨fun h => ⟨fun _ => 0, fun i hi => absurd hi (Nat.not_lt_zero _), decide_eq_true h⟩, fun ⟨g, _, h⟩ => of_decide_eq_true h⟩
  | succ k ih =>
    intro b hb
    show (wom cw (cS cw cu r 1 k) (r / 10 ^ k % 10) cu).testBit b = true ↔ _
    rw [wom_bit hb cu hcu]
    constructor
    · rintro ⟨c, h1, h2, h3, h4⟩
      obtain ⟨g, hg, hc⟩ := (ih (b - 2 ^ c) (Nat.lt_of_le_of_lt (Nat.sub_le _ _) hb)).mp h4
      refine ⟨mUp g k c, fun i hi => ?_, ?_⟩
      · by_cases e : i = k
        · rw [e, mUp_eq]; exact ⟨h1, h2⟩
        · rw [mUp_ne _ _ e]; exact hg i (by omega)
      · unfold chk
        rw [mUp_eq, h3, chk_cong (g' := g) k _ (fun i hi => mUp_ne _ _ (by omega)), hc]
        rfl
    · rintro ⟨g, hg, hc⟩
      unfold chk at hc
      rw [Bool.and_eq_true] at hc
      exact ⟨g k, (hg k (by omega)).1, (hg k (by omega)).2, hc.1, (ih _ (Nat.lt_of_le_of_lt (Nat.sub_le _ _) hb)).mpr ⟨g, fun i hi => hg i (by omega), hc.2⟩⟩
theorem canT_iff {cw : Nat → Nat} {cu n : Nat} (hcu : cu ≤ 4) : canT cw cu n = true ↔ ∃ o, PO cu o ∧ ∀ p, p < cu → cw (fgo cu n p) >>> cIn o p &&& 1 = 1 := by
  unfold canT
  rw [cTs_cS, decide_eq_true_iff]
  constructor
  · intro h
    obtain ⟨b, hb⟩ := Nat.exists_testBit_of_ne_zero h
    have hb16 : b < 16 := by
      rcases Nat.lt_or_ge b 16 with q | q
      · exact q
      · rw [Nat.testBit_lt_two_pow (Nat.lt_of_lt_of_le (cS_lt hcu cu) (Nat.pow_le_pow_right (by decide) q))] at hb
        exact Bool.noConfusion hb
    obtain ⟨g, hg, hc⟩ := (cS_bit hcu cu b hb16).mp hb
    obtain ⟨h1, h2⟩ := ord_of hcu hb16 (fun i hi => (hg i hi).1) hc
    refine ⟨ordOf g cu, h1, fun p hp => ?_⟩
    rw [h2 p hp]
    exact (hg (cu - 1 - p) (by omega)).2
  · rintro ⟨o, ho, h⟩ hz
    have hk := of_ord hcu ho
    have h2 : 2 ^ cu ≤ 2 ^ 4 := Nat.pow_le_pow_right (by decide) hcu
    have := (cS_bit (cw := cw) (r := n) hcu cu (2 ^ cu - 1) (by omega)).mpr ⟨_, fun i hi => ⟨(PO_lt hcu ho).2 _ (by omega), by have := h (cu - 1 - i) (by omega); rw [fgo_lo hi] at this; exact this⟩, hk⟩
    rw [hz, Nat.zero_testBit] at this
    exact Bool.noConfusion this
