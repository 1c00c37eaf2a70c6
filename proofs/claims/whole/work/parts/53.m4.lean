-- needs: 33 34 35 36 37 38 39 40 41 50 51 52
/-! the fewest figures to be pasted -/
def chq (g : Nat → Nat) : Nat → Nat → Bool
  | 0, b => decide (b = 0)
  | k + 1, b => if g k = 4 then chq g k b else b.testBit (g k) && chq g k (b - 2 ^ g k)
def tq (g : Nat → Nat) : Nat → Nat
  | 0 => 0
  | k + 1 => if g k = 4 then tq g k else tq g k + 2 ^ g k
def cq4 (g : Nat → Nat) : Nat → Nat
  | 0 => 0
  | k + 1 => if g k = 4 then cq4 g k else cq4 g k + 1
theorem chq_cong {g g' : Nat → Nat} : ∀ k b, (∀ i, i < k → g i = g' i) → chq g k b = chq g' k b := by
  intro k
  induction k with
  | zero => intro b _; rfl
  | succ k ih =>
    intro b h
    unfold chq
    rw [h k (by omega), ih _ (fun i hi => h i (by omega)), ih _ (fun i hi => h i (by omega))]
theorem tq_cong {g g' : Nat → Nat} : ∀ k, (∀ i, i < k → g i = g' i) → tq g k = tq g' k := by
  intro k
  induction k with
  | zero => intro _; rfl
  | succ k ih =>
    intro h
    unfold tq
    rw [h k (by omega), ih (fun i hi => h i (by omega))]
theorem cq4_cong {g g' : Nat → Nat} : ∀ k, (∀ i, i < k → g i = g' i) → cq4 g k = cq4 g' k := by
  intro k
  induction k with
  | zero => intro _; rfl
  | succ k ih =>
    intro h
    unfold cq4
    rw [h k (by omega), ih (fun i hi => h i (by omega))]
def pS (cw : Nat → Nat) (cu r s : Nat) : Nat → Nat
  | 0 => s
  | k + 1 => pS cw cu r s k ||| wom cw (pS cw cu r s k) (r / 10 ^ k % 10) cu
theorem pS_sh {cw : Nat → Nat} {cu : Nat} : ∀ k r s, pS cw cu r s (k + 1) = pS cw cu (r / 10) (s ||| wom cw s (r % 10) cu) k := by
  intro k
  induction k with
  | zero => intro r s; show s ||| wom cw s (r / 10 ^ 0 % 10) cu = _; rw [Nat.pow_zero, Nat.div_one]; rfl
  | succ k ih =>
    intro r s
    show pS cw cu r s (k + 1) ||| wom cw (pS cw cu r s (k + 1)) (r / 10 ^ (k + 1) % 10) cu = pS cw cu (r / 10) (s ||| wom cw s (r % 10) cu) k ||| wom cw (pS cw cu (r / 10) (s ||| wom cw s (r % 10) cu) k) (r / 10 / 10 ^ k % 10) cu
    rw [ih, Nat.div_div_eq_div_mul, Nat.pow_succ, Nat.mul_comm 10]
theorem fpS_pS {cw : Nat → Nat} {cu : Nat} : ∀ k s r, fpS cw cu k s r = pS cw cu r s k := by
  intro k
  induction k with
  | zero => intro s r; rfl
  | succ k ih => intro s r; rw [pS_sh, ← ih]; rfl
theorem pS_bit {cw : Nat → Nat} {cu r : Nat} (hcu : cu ≤ 4) : ∀ k b, b < 16 → ((pS cw cu r 1 k).testBit b = true ↔ ∃ g : Nat → Nat, (∀ i, i < k → g i = 4 ∨ (g i < cu ∧ cw (r / 10 ^ i % 10) >>> g i &&& 1 = 1)) ∧ chq g k b = true) := by
  intro k
  induction k with
  | zero =>
    intro b hb
    show (1 : Nat).testBit b = true ↔ _
    rw [Nat.testBit_one_eq_true_iff_self_eq_zero]
    exact ⟨fun h => ⟨fun _ => 0, fun i hi => absurd hi (Nat.not_lt_zero _), decide_eq_true h⟩, fun ⟨g, _, h⟩ => of_decide_eq_true h⟩
  | succ k ih =>
    intro b hb
    show (pS cw cu r 1 k ||| wom cw (pS cw cu r 1 k) (r / 10 ^ k % 10) cu).testBit b = true ↔ _
    rw [Nat.testBit_or, Bool.or_eq_true, wom_bit hb cu hcu]
    constructor
    · rintro (h | ⟨c, h1, h2, h3, h4⟩)
      · obtain ⟨g, hg, hc⟩ := (ih b hb).mp h
        refine ⟨mUp g k 4, fun i hi => ?_, ?_⟩
        · by_cases e : i = k
          · rw [e, mUp_eq]; exact Or.inl rfl
          · rw [mUp_ne _ _ e]; exact hg i (by omega)
        · unfold chq
          rw [mUp_eq, if_pos rfl, chq_cong (g' := g) k _ (fun i hi => mUp_ne _ _ (by omega)), hc]
      · obtain ⟨g, hg, hc⟩ := (ih (b - 2 ^ c) (Nat.lt_of_le_of_lt (Nat.sub_le _ _) hb)).mp h4
        refine ⟨mUp g k c, fun i hi => ?_, ?_⟩
        · by_cases e : i = k
          · rw [e, mUp_eq]; exact Or.inr ⟨h1, h2⟩
          · rw [mUp_ne _ _ e]; exact hg i (by omega)
        · unfold chq
          rw [mUp_eq, if_neg (by omega), h3, chq_cong (g' := g) k _ (fun i hi => mUp_ne _ _ (by omega)), hc]
          rfl
    · rintro ⟨g, hg, hc⟩
      unfold chq at hc
      by_cases e : g k = 4
      · rw [if_pos e] at hc
        exact Or.inl ((ih b hb).mpr ⟨g, fun i hi => hg i (by omega), hc⟩)
      · rw [if_neg e, Bool.and_eq_true] at hc
        have := (hg k (by omega)).resolve_left e
        exact Or.inr ⟨g k, this.1, this.2, hc.1, (ih _ (Nat.lt_of_le_of_lt (Nat.sub_le _ _) hb)).mpr ⟨g, fun i hi => hg i (by omega), hc.2⟩⟩
/-! what is finite about it -/
def fd2 (x a b c d t : Nat) : Bool := !(rall x (fun i => decide (g4 a b c d i = 4) || decide (g4 a b c d i < x)) && chq (g4 a b c d) x t) || (decide (popc t 10 = cq4 (g4 a b c d) x) && (List.range 256).any (fun o => decide (o < 1 <<< (2 * x)) && isOrd x o && rall x (fun i => decide (g4 a b c d i = 4) || decide (cIn o (x - 1 - i) = g4 a b c d i))))
theorem fd2_all : rall 5 (fun x => rall 5 (fun a => rall 5 (fun b => rall 5 (fun c => rall 5 (fun d => rall 16 (fun t => fd2 x a b c d t)))))) = true := by decide +kernel
theorem part_ord {cu t : Nat} {g : Nat → Nat} (hcu : cu ≤ 4) (ht : t < 16) (hg : ∀ i, i < cu → g i = 4 ∨ g i < cu) (hc : chq g cu t = true) : popc t 10 = cq4 g cu ∧ ∃ o, PO cu o ∧ ∀ i, i < cu → g i ≠ 4 → cIn o (cu - 1 - i) = g i := by
  let g' : Nat → Nat := fun i => if i < cu then g i else 0
  have e1 : ∀ i, i < cu → g i = g' i := fun i hi => (if_pos hi).symm
  have hlt : ∀ i, g' i < 5 := by
    intro i
    show (if i < cu then g i else 0) < 5
    split
    · rename_i q; have := hg i q; omega
    · decide
  have e2 : ∀ i, i < cu → g i = g4 (g' 0) (g' 1) (g' 2) (g' 3) i := fun i hi => (e1 i hi).trans (g4_of g' i (by omega))
  have k := rall_at (rall_at (rall_at (rall_at (rall_at (rall_at fd2_all (show cu < 5 by omega)) (hlt 0)) (hlt 1)) (hlt 2)) (hlt 3)) ht
  have k2 := imp_of k (by
    rw [Bool.and_eq_true]
    refine ⟨rall_of (fun i hi => ?_), ?_⟩
    · rw [← e2 i hi, Bool.or_eq_true, decide_eq_true_iff, decide_eq_true_iff]; exact hg i hi
    · rw [← chq_cong cu t e2]
      exact hc)
  rw [Bool.and_eq_true, decide_eq_true_iff, List.any_eq_true] at k2
  obtain ⟨h1, o, _, h3⟩ := k2
  rw [Bool.and_eq_true, Bool.and_eq_true] at h3
  refine ⟨by rw [h1, cq4_cong cu e2], o, ⟨of_decide_eq_true h3.1.1, h3.1.2⟩, fun i hi h4 => ?_⟩
  have := rall_at h3.2 hi
  rw [← e2 i hi, Bool.or_eq_true, decide_eq_true_iff, decide_eq_true_iff] at this
  exact this.resolve_left h4
def gm (o x m : Nat) : Nat → Nat := fun i => if m.testBit i = true then cIn o (x - 1 - i) else 4
theorem ord_part {cu o m : Nat} (hcu : cu ≤ 4) (hm : m < 16) (h : PO cu o) : chq (gm o cu m) cu (tq (gm o cu m) cu) = true ∧ popc (tq (gm o cu m) cu) 10 = cq4 (gm o cu m) cu ∧ tq (gm o cu m) cu < 16 := by
  have key : rall 5 (fun x => rall 256 (fun o => !(decide (o < 1 <<< (2 * x)) && isOrd x o) || rall 16 (fun m => chq (gm o x m) x (tq (gm o x m) x) && (decide (popc (tq (gm o x m) x) 10 = cq4 (gm o x m) x) && decide (tq (gm o x m) x < 16))))) = true := by decide +kernel
  have k1 := rall_at (rall_at key (show cu < 5 by omega)) (PO_lt hcu h).1
  have k2 := rall_at (imp_of k1 (by rw [decide_eq_true h.1, h.2]; rfl)) hm
  rw [Bool.and_eq_true, Bool.and_eq_true, decide_eq_true_iff, decide_eq_true_iff] at k2
  exact k2
/-! least and greatest -/
theorem mxs_ge {s i : Nat} : ∀ n, i < n → s >>> i &&& 1 = 1 → popc i 10 ≤ mxs s n := by
  intro n
  induction n with
  | zero => intro h; exact absurd h (Nat.not_lt_zero _)
  | succ n ih =>
    intro hi hs
    unfold mxs
    by_cases e : i = n
    · subst e
      rw [if_pos hs]
      omega
    · have := ih (by omega) hs
      split <;> omega
theorem mxs_at {s : Nat} : ∀ n, mxs s n = 0 ∨ ∃ i, i < n ∧ s >>> i &&& 1 = 1 ∧ popc i 10 = mxs s n := by
  intro n
  induction n with
  | zero => exact Or.inl rfl
  | succ n ih =>
    unfold mxs
    by_cases q : s >>> n &&& 1 = 1
    · rw [if_pos q]
      rcases Nat.le_total (mxs s n) (popc n 10) with w | w
      · exact Or.inr ⟨n, by omega, q, by rw [Nat.max_eq_right w]⟩
      · rw [Nat.max_eq_left w]
        rcases ih with z | ⟨i, h1, h2, h3⟩
        · exact Or.inl z
        · exact Or.inr ⟨i, by omega, h2, h3⟩
    · rw [if_neg q]
      rcases ih with z | ⟨i, h1, h2, h3⟩
      · exact Or.inl z
      · exact Or.inr ⟨i, by omega, h2, h3⟩
theorem iterMin {f : Nat → Nat} : ∀ k i b, (iterF (fun k b => min b (f k)) i k b ≤ b ∧ ∀ j, i ≤ j → j < i + k → iterF (fun k b => min b (f k)) i k b ≤ f j) ∧ (iterF (fun k b => min b (f k)) i k b = b ∨ ∃ j, i ≤ j ∧ j < i + k ∧ iterF (fun k b => min b (f k)) i k b = f j) := by
  intro k
  induction k with
  | zero => intro i b; exact ⟨⟨Nat.le_refl _, fun j h1 h2 => absurd h1 (by omega)⟩, Or.inl rfl⟩
  | succ k ih =>
    intro i b
    rw [iterF_s]
    obtain ⟨⟨h1, h2⟩, h3⟩ := ih (i + 1) (min b (f i))
    refine ⟨⟨by omega, fun j hj hj2 => ?_⟩, ?_⟩
    · by_cases e : j = i
      · subst e; omega
      · exact h2 j (by omega) (by omega)
    · rcases h3 with h | ⟨j, g1, g2, g3⟩
      · rcases Nat.le_total b (f i) with w | w
        · left; rw [h, Nat.min_eq_left w]
        · right; exact ⟨i, Nat.le_refl _, by omega, by rw [h, Nat.min_eq_right w]⟩
      · right; exact ⟨j, by omega, by omega, g3⟩
/-- misfits of an order, and how many of its figures fit -/
theorem mis_cnt {cu n o m : Nat} {nw : Nat → Nat} {bo : Bool} (hcu : cu ≤ 4) (hm : ∀ i, i < cu → m.testBit i = hfB nw bo (cIn o (cu - 1 - i)) (fgo cu n (cu - 1 - i)) 6 6) (ho : ∀ p, p < cu → cIn o p < cu) : smG (ptP nw bo cu n o) cu + cq4 (gm o cu m) cu = cu := by
  have one : ∀ i, i < cu → ptP nw bo cu n o (cu - 1 - i) = if gm o cu m i = 4 then 1 else 0 := by
    intro i hi
    have h1 := ho (cu - 1 - i) (by omega)
    unfold ptP gm
    rw [hm i hi]
    cases hfB nw bo (cIn o (cu - 1 - i)) (fgo cu n (cu - 1 - i)) 6 6
    · rfl
    · rw [if_pos rfl, if_pos rfl, if_neg (by omega)]
  generalize gm o cu m = g at one
  generalize ptP nw bo cu n o = f at one
  rcases (show cu = 0 ∨ cu = 1 ∨ cu = 2 ∨ cu = 3 ∨ cu = 4 by omega) with rfl | rfl | rfl | rfl | rfl
  · rfl
  · have a0 := one 0 (by omega)
    simp only [smG, cq4]
    simp only [Nat.reduceSub, Nat.sub_zero] at a0
    split at a0 <;> simp_all <;> omega
  · have a0 := one 0 (by omega); have a1 := one 1 (by omega)
    simp only [smG, cq4]
    simp only [Nat.reduceSub, Nat.sub_zero] at a0 a1
    rw [a0, a1]
    split <;> split <;> simp_all
  · have a0 := one 0 (by omega); have a1 := one 1 (by omega); have a2 := one 2 (by omega)
    simp only [smG, cq4]
    simp only [Nat.reduceSub, Nat.sub_zero] at a0 a1 a2
    rw [a0, a1, a2]
    split <;> split <;> split <;> simp_all
  · have a0 := one 0 (by omega); have a1 := one 1 (by omega); have a2 := one 2 (by omega); have a3 := one 3 (by omega)
    simp only [smG, cq4]
    simp only [Nat.reduceSub, Nat.sub_zero] at a0 a1 a2 a3
    rw [a0, a1, a2, a3]
    split <;> split <;> split <;> split <;> simp_all
theorem cq4_mono {g g' : Nat → Nat} : ∀ k, (∀ i, i < k → g i ≠ 4 → g' i ≠ 4) → cq4 g k ≤ cq4 g' k := by
  intro k
  induction k with
  | zero => intro _; exact Nat.le_refl _
  | succ k ih =>
    intro h
    have h1 := ih (fun i hi => h i (by omega))
    unfold cq4
    by_cases q : g k = 4
    · rw [if_pos q]
      split <;> omega
    · rw [if_neg q, if_neg (h k (by omega) q)]
      omega
theorem maskF (f : Nat → Bool) (cu : Nat) (hcu : cu ≤ 4) : ∃ m, m < 16 ∧ ∀ i, i < cu → m.testBit i = f i := by
  refine ⟨ddG f cu, Nat.lt_of_lt_of_le (ddG_lt f cu) (Nat.pow_le_pow_right (by decide) hcu : 2 ^ cu ≤ 2 ^ 4), fun i hi => ?_⟩
  refine bEq ?_
  rw [← bit1, ddG_bit]
  exact ⟨fun h => h.2, fun h => ⟨hi, h⟩⟩
theorem PO_id {cu : Nat} (hcu : cu ≤ 4) : ∃ o, PO cu o := by
  have key : rall 5 (fun x => (List.range 256).any (fun o => decide (o < 1 <<< (2 * x)) && isOrd x o)) = true := by decide +kernel
  have k := rall_at key (show cu < 5 by omega)
  rw [List.any_eq_true] at k
  obtain ⟨o, _, h⟩ := k
  rw [Bool.and_eq_true] at h
  exact ⟨o, of_decide_eq_true h.1, h.2⟩
theorem cw_fit {nw nf : Nat → Nat} {bo : Bool} {cu v x : Nat} (hcu : cu ≤ 4) (h : ∀ j, j < cu * 6 → nw j = nf j) (hx : x < cu) : cwT nf bo (-1) cu v >>> x &&& 1 = 1 ↔ hfB nw bo x v 6 6 = true := by
  rw [cwT_bit hx, hfB_iff]
  constructor
  · rintro ⟨s, h1, h2, h3⟩
    refine ⟨s, h1, by omega, ?_⟩
    rw [← h _ (by omega), Nat.mul_comm] at h3
    exact h3
  · rintro ⟨s, h1, h2, h3⟩
    refine ⟨s, h1, fun z => ?_, ?_⟩
    · have := (bl_no hcu x s hx h1).mp z
      split at this <;> omega
    · rw [← h _ (by omega), Nat.mul_comm]
      exact h3
theorem pt_eq {nw nf : Nat → Nat} {bo : Bool} {cu mo n : Nat} {od : Nat → Nat} (hcu : cu ≤ 4) (h : ∀ j, j < cu * 6 → nw j = nf j) (hO : oAll cu mo od) : nI cu - nI (mxs (fpS (cwT nf bo (-1) cu) cu cu 1 n) 16) = nI (ptR nw bo cu mo od n) := by
  have main : ptR nw bo cu mo od n + mxs (fpS (cwT nf bo (-1) cu) cu cu 1 n) 16 = cu := by
    rw [fpS_pS]
    obtain ⟨⟨m1, m2⟩, m3⟩ := iterMin (f := fun k => smG (ptP nw bo cu n (od k)) cu) mo 0 100000
    have eR : ptR nw bo cu mo od n = iterF (fun k b => min b ((fun k => smG (ptP nw bo cu n (od k)) cu) k)) 0 mo 100000 := rfl
    rw [← eR] at m1 m2 m3
    have misle : ∀ o, smG (ptP nw bo cu n o) cu ≤ cu := by
      intro o
      have := smG_le (f := ptP nw bo cu n o) (m := 1) cu (fun _ _ => ptP_le)
      omega
    -- no order does better than the sets
    have A : ∀ o, PO cu o → cu ≤ smG (ptP nw bo cu n o) cu + mxs (pS (cwT nf bo (-1) cu) cu n 1 cu) 16 := by
      intro o ho
      obtain ⟨m, hm, hmb⟩ := maskF (fun i => hfB nw bo (cIn o (cu - 1 - i)) (fgo cu n (cu - 1 - i)) 6 6) cu hcu
      have hc := mis_cnt (n := n) (nw := nw) (bo := bo) hcu hmb (PO_lt hcu ho).2
      obtain ⟨q1, q2, q3⟩ := ord_part hcu hm ho
      have hb := (pS_bit (cw := cwT nf bo (-1) cu) (r := n) hcu cu (tq (gm o cu m) cu) q3).mpr ⟨gm o cu m, fun i hi => by
        have hx := (PO_lt hcu ho).2 (cu - 1 - i) (by omega)
        unfold gm
        by_cases z : m.testBit i = true
        · rw [if_pos z]
          refine Or.inr ⟨hx, ?_⟩
          rw [hmb i hi] at z
          rw [← fgo_lo hi]
          exact (cw_fit hcu h hx).mpr z
        · rw [if_neg z]; exact Or.inl rfl, q1⟩
      have := mxs_ge 16 q3 (bit1.mpr hb)
      omega
    -- an order does as well
    have B : ∃ o, PO cu o ∧ smG (ptP nw bo cu n o) cu + mxs (pS (cwT nf bo (-1) cu) cu n 1 cu) 16 ≤ cu := by
      rcases mxs_at (s := pS (cwT nf bo (-1) cu) cu n 1 cu) 16 with z | ⟨t, h1, h2, h3⟩
      · obtain ⟨o, ho⟩ := PO_id hcu
        exact ⟨o, ho, by rw [z]; have := misle o; omega⟩
      · obtain ⟨g, hg, hc⟩ := (pS_bit hcu cu t h1).mp (bit1.mp h2)
        obtain ⟨p1, o, ho, ho2⟩ := part_ord hcu h1 (fun i hi => (hg i hi).imp id (fun w => w.1)) hc
        refine ⟨o, ho, ?_⟩
        obtain ⟨m, hm, hmb⟩ := maskF (fun i => hfB nw bo (cIn o (cu - 1 - i)) (fgo cu n (cu - 1 - i)) 6 6) cu hcu
        have hcn := mis_cnt (n := n) (nw := nw) (bo := bo) hcu hmb (PO_lt hcu ho).2
        have hle : cq4 g cu ≤ cq4 (gm o cu m) cu := by
          refine cq4_mono cu (fun i hi h4 => ?_)
          have hx := (PO_lt hcu ho).2 (cu - 1 - i) (by omega)
          have hgi := (hg i hi).resolve_left h4
          have hz : m.testBit i = true := by
            rw [hmb i hi, ho2 i hi h4, fgo_lo hi]
            exact (cw_fit hcu h hgi.1).mp hgi.2
          unfold gm
          rw [if_pos hz]
          omega
        omega
    obtain ⟨o, ho, hB⟩ := B
    obtain ⟨k, hk, rfl⟩ := hO.2.2 o ho
    have h1 := m2 k (Nat.zero_le _) (by omega)
    have h0 := misle (od k)
    rcases m3 with z | ⟨j, _, j2, j3⟩
    · omega
    · have := A (od j) (hO.2.1 j (by omega))
      omega
  have e := pk_sub (show mxs (fpS (cwT nf bo (-1) cu) cu cu 1 n) 16 ≤ cu by omega)
  rw [e]
  congr 1
  omega
