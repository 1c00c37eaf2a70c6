-- needs: 33 34 35 36 37 38 39 40 41 50 51 52
/-! odds -/
theorem sum6 (f : Nat → Nat) : ∀ m, smG f (6 * m) = sumF (fun s => smG (fun y => f (s + 6 * y)) m) 0 6 := by
  intro m
  induction m with
  | zero => rfl
  | succ m ih =>
    show smG f (6 * m + 6) = _
    have e : smG f (6 * m + 6) = smG f (6 * m) + f (6 * m) + f (6 * m + 1) + f (6 * m + 2) + f (6 * m + 3) + f (6 * m + 4) + f (6 * m + 5) := rfl
    rw [e, ih]
    simp only [sumF, smG, Nat.zero_add, Nat.add_zero, Nat.reduceAdd]
    rw [Nat.add_comm 1 (6 * m), Nat.add_comm 2 (6 * m), Nat.add_comm 3 (6 * m), Nat.add_comm 4 (6 * m), Nat.add_comm 5 (6 * m)]
    omega
theorem sumF_cong {f g : Nat → Nat} : ∀ k i, (∀ j, i ≤ j → j < i + k → f j = g j) → sumF f i k = sumF g i k := by
  intro k
  induction k with
  | zero => intro i _; rfl
  | succ k ih =>
    intro i h
    unfold sumF
    rw [h i (Nat.le_refl _) (by omega), ih _ (fun j h1 h2 => h j (by omega) (by omega))]
def uF (nf : Nat → Nat) (bo : Bool) (c s : Nat) : Nat := upr bo (nf (c * 6 + s))
def ffI (nf : Nat → Nat) (bo : Bool) : Nat → Nat → (Nat → Nat) → Nat → Nat
  | 0, _, _, _ => 1
  | r + 1, c, g, sd => if 0 < g (uF nf bo c (sd % 6)) then ffI nf bo r (c + 1) (mUp g (uF nf bo c (sd % 6)) (g (uF nf bo c (sd % 6)) - 1)) (sd / 6) else 0
theorem smG_0 : ∀ n, smG (fun _ => 0) n = 0 := by
  intro n
  induction n with
  | zero => rfl
  | succ n ih => unfold smG; rw [ih]
theorem ff_sum {nf : Nat → Nat} {bo : Bool} : ∀ r c g, ff nf bo r c g = smG (ffI nf bo r c g) (6 ^ r) := by
  intro r
  induction r with
  | zero => intro c g; rfl
  | succ r ih =>
    intro c g
    rw [Nat.pow_succ, Nat.mul_comm, sum6]
    unfold ff
    refine sumF_cong 6 0 (fun s _ hs => ?_)
    have e : (fun y => ffI nf bo (r + 1) c g (s + 6 * y)) = fun y => if 0 < g (uF nf bo c s) then ffI nf bo r (c + 1) (mUp g (uF nf bo c s) (g (uF nf bo c s) - 1)) y else 0 := by
      funext y
      rw [ffI, show (s + 6 * y) % 6 = s by omega, show (s + 6 * y) / 6 = y by omega]
    rw [e]
    show (if 0 < g (uF nf bo c s) then ff nf bo r (c + 1) (mUp g (uF nf bo c s) (g (uF nf bo c s) - 1)) else 0) = _
    by_cases q : 0 < g (uF nf bo c s)
    · rw [if_pos q, ih]
      simp only [if_pos q]
    · rw [if_neg q]
      simp only [if_neg q]
      exact (smG_0 _).symm
/-- the figures that fall, cube by cube -/
def usL (nf : Nat → Nat) (bo : Bool) : Nat → Nat → Nat → List Nat
  | 0, _, _ => []
  | r + 1, c, sd => uF nf bo c (sd % 6) :: usL nf bo r (c + 1) (sd / 6)
theorem ffI_perm {nf : Nat → Nat} {bo : Bool} : ∀ r c g sd (V : List Nat), V.length = r → (∀ x, g x = V.count x) → ffI nf bo r c g sd = if (usL nf bo r c sd).isPerm V = true then 1 else 0 := by
  intro r
  induction r with
  | zero =>
    intro c g sd V hV _
    have : V = [] := List.length_eq_zero_iff.mp hV
    subst this
    rfl
  | succ r ih =>
    intro c g sd V hV hg
    unfold ffI usL
    generalize uF nf bo c (sd % 6) = u
    by_cases q : 0 < g u
    · rw [if_pos q]
      have hm : u ∈ V := by rw [hg] at q; exact List.count_pos_iff.mp q
      rw [ih (c + 1) _ (sd / 6) (V.erase u) (by rw [List.length_erase_of_mem hm]; omega) (by
        intro x
        rw [List.count_erase, ← hg x]
        unfold mUp
        by_cases e : x = u
        · subst e; simp
        · rw [if_neg e]
          have : (u == x) = false := by rw [beq_eq_false_iff_ne]; exact fun z => e z.symm
          rw [this]
          simp)]
      have e : (u :: usL nf bo r (c + 1) (sd / 6)).isPerm V = (usL nf bo r (c + 1) (sd / 6)).isPerm (V.erase u) := by
        rw [List.isPerm]
        have : V.contains u = true := List.contains_iff_mem.mpr hm
        rw [this]
        rfl
      rw [e]
    · rw [if_neg q]
      have hm : ¬ u ∈ V := by intro z; rw [hg] at q; exact q (List.count_pos_iff.mpr z)
      have e : (u :: usL nf bo r (c + 1) (sd / 6)).isPerm V = false := by
        rw [List.isPerm]
        have : V.contains u = false := by
          rw [Bool.eq_false_iff]
          intro z
          exact hm (List.contains_iff_mem.mp z)
        rw [this]
        rfl
      rw [e]
      rfl
/-- the figures that are wanted, the last first -/
def vsL (bo : Bool) : Nat → Nat → List Nat
  | 0, _ => []
  | k + 1, r => upr bo (r % 10) :: vsL bo k (r / 10)
theorem vsL_len {bo : Bool} : ∀ k r, (vsL bo k r).length = k := by
  intro k
  induction k with
  | zero => intro r; rfl
  | succ k ih => intro r; unfold vsL; rw [List.length_cons, ih]
theorem msF_count {bo : Bool} : ∀ k g r x, msF bo k g r x = g x + (vsL bo k r).count x := by
  intro k
  induction k with
  | zero => intro g r x; rfl
  | succ k ih =>
    intro g r x
    unfold msF vsL
    rw [ih, List.count_cons]
    unfold mUp
    by_cases e : x = upr bo (r % 10)
    · subst e
      rw [if_pos rfl]
      simp
      omega
    · rw [if_neg e]
      have : (upr bo (r % 10) == x) = false := by rw [beq_eq_false_iff_ne]; exact fun z => e z.symm
      rw [this]
      simp
theorem perm_map {u : Nat → Nat} {l1 l2 : List Nat} (h : l1.Perm l2) : ∀ L : List Nat, l1 = L.map u → ∃ L' : List Nat, L'.Perm L ∧ l2 = L'.map u := by
  induction h with
  | nil => intro L hL; exact ⟨L, List.Perm.refl _, hL⟩
  | cons x _ ih =>
    intro L hL
    cases L with
    | nil => cases hL
    | cons y L =>
      simp only [List.map_cons, List.cons.injEq] at hL
      obtain ⟨L', h1, h2⟩ := ih L hL.2
      exact ⟨y :: L', List.Perm.cons y h1, by rw [List.map_cons, ← hL.1, h2]⟩
  | swap x y l =>
    intro L hL
    cases L with
    | nil => cases hL
    | cons a L =>
      cases L with
      | nil => simp at hL
      | cons b L =>
        simp only [List.map_cons, List.cons.injEq] at hL
        exact ⟨b :: a :: L, List.Perm.swap a b L, by rw [List.map_cons, List.map_cons, hL.1, hL.2.1, hL.2.2]⟩
  | trans _ _ ih1 ih2 =>
    intro L hL
    obtain ⟨L1, h1, h2⟩ := ih1 L hL
    obtain ⟨L2, h3, h4⟩ := ih2 L1 h2
    exact ⟨L2, h3.trans h1, h4⟩
theorem usL_map {nf : Nat → Nat} {bo : Bool} : ∀ r c sd, usL nf bo r c sd = (List.range r).map (fun i => uF nf bo (c + i) (sd / 6 ^ i % 6)) := by
  intro r
  induction r with
  | zero => intro c sd; rfl
  | succ r ih =>
    intro c sd
    unfold usL
    rw [ih, List.range_succ_eq_map, List.map_cons, List.map_map]
    congr 1
    · rw [Nat.pow_zero, Nat.div_one]; rfl
    · refine List.map_congr_left (fun i _ => ?_)
      show uF nf bo (c + 1 + i) (sd / 6 / 6 ^ i % 6) = uF nf bo (c + (i + 1)) (sd / 6 ^ (i + 1) % 6)
      rw [Nat.div_div_eq_div_mul, Nat.pow_succ, Nat.mul_comm 6, show c + 1 + i = c + (i + 1) by omega]
theorem vsL_map {bo : Bool} : ∀ k r, vsL bo k r = (List.range k).map (fun i => upr bo (r / 10 ^ i % 10)) := by
  intro k
  induction k with
  | zero => intro r; rfl
  | succ k ih =>
    intro r
    unfold vsL
    rw [ih, List.range_succ_eq_map, List.map_cons, List.map_map]
    congr 1
    · rw [Nat.pow_zero, Nat.div_one]
    · refine List.map_congr_left (fun i _ => ?_)
      show upr bo (r / 10 / 10 ^ i % 10) = upr bo (r / 10 ^ (i + 1) % 10)
      rw [Nat.div_div_eq_div_mul, Nat.pow_succ, Nat.mul_comm 10]
/-! permutations and orders -/
theorem perm_ord {cu : Nat} {g : Nat → Nat} (hcu : cu ≤ 4) (hp : ((List.range cu).map g).Perm (List.range cu)) : PO cu (ordOf g cu) ∧ ∀ p, p < cu → cIn (ordOf g cu) p = g (cu - 1 - p) := by
  have key : rall 5 (fun x => rall 4 (fun a => rall 4 (fun b => rall 4 (fun c => rall 4 (fun d => !(((List.range x).map (g4 a b c d)).isPerm (List.range x)) || chk (g4 a b c d) x (2 ^ x - 1)))))) = true := by decide +kernel
  have hg : ∀ i, i < cu → g i < cu := fun i hi => List.mem_range.mp (hp.mem_iff.mp (List.mem_map.mpr ⟨i, List.mem_range.mpr hi, rfl⟩))
  let g' : Nat → Nat := fun i => if i < cu then g i else 0
  have e1 : ∀ i, i < cu → g i = g' i := fun i hi => (if_pos hi).symm
  have hlt : ∀ i, g' i < 4 := by
    intro i
    show (if i < cu then g i else 0) < 4
    split
    · rename_i q; have := hg i q; omega
    · decide
  have e2 : ∀ i, i < cu → g i = g4 (g' 0) (g' 1) (g' 2) (g' 3) i := fun i hi => (e1 i hi).trans (g4_of g' i (by omega))
  have k := rall_at (rall_at (rall_at (rall_at (rall_at key (show cu < 5 by omega)) (hlt 0)) (hlt 1)) (hlt 2)) (hlt 3)
  have h2 : 2 ^ cu ≤ 2 ^ 4 := Nat.pow_le_pow_right (by decide) hcu
  refine ord_of hcu (show 2 ^ cu - 1 < 16 by omega) hg ?_
  rw [chk_cong cu _ e2]
  refine imp_of k ?_
  rw [List.isPerm_iff]
  rw [← List.map_congr_left (fun i hi => e2 i (List.mem_range.mp hi))]
  exact hp
theorem ord_perm {cu o : Nat} (hcu : cu ≤ 4) (h : PO cu o) : ((List.range cu).map (fun i => cIn o (cu - 1 - i))).Perm (List.range cu) := by
  have key : rall 5 (fun x => rall 256 (fun o => !(decide (o < 1 <<< (2 * x)) && isOrd x o) || ((List.range x).map (fun i => cIn o (x - 1 - i))).isPerm (List.range x))) = true := by decide +kernel
  have k1 := rall_at (rall_at key (show cu < 5 by omega)) (PO_lt hcu h).1
  exact List.isPerm_iff.mp (imp_of k1 (by rw [decide_eq_true h.1, h.2]; rfl))
theorem by_iff {nw nf : Nat → Nat} {bo : Bool} {cu mo n sd : Nat} {od : Nat → Nat} (hcu : cu ≤ 4) (h : ∀ j, j < cu * 6 → nw j = nf j) (hO : oAll cu mo od) : byR nw bo cu mo od sd n = (usL nf bo cu 0 sd).isPerm (vsL bo cu n) := by
  refine bEq ?_
  unfold byR
  rw [hO.any (fun o => allF (byP nw bo cu sd n o) 0 cu), List.isPerm_iff, usL_map, vsL_map]
  simp only [Nat.zero_add]
  have one : ∀ o, PO cu o → (allF (byP nw bo cu sd n o) 0 cu = true ↔ ∀ i, i < cu → uF nf bo (cIn o (cu - 1 - i)) (sd / 6 ^ cIn o (cu - 1 - i) % 6) = upr bo (n / 10 ^ i % 10)) := by
    intro o ho
    rw [allF_iff]
    have st : ∀ p, p < cu → (byP nw bo cu sd n o p = true ↔ uF nf bo (cIn o p) (sd / 6 ^ cIn o p % 6) = upr bo (fgo cu n p)) := by
      intro p hp
      have hx := (PO_lt hcu ho).2 p hp
      have hm := Nat.mod_lt (sd / 6 ^ cIn o p) (show 0 < 6 by decide)
      unfold byP fit uF
      rw [decide_eq_true_iff, h _ (by omega), Nat.mul_comm 6]
    constructor
    · intro q i hi
      have := (st (cu - 1 - i) (by omega)).mp (q _ (Nat.zero_le _) (by omega))
      rw [fgo_lo hi] at this
      exact this
    · intro q p _ hp
      have hp' : p < cu := by omega
      have := q (cu - 1 - p) (by omega)
      rw [← fgo_lo (show cu - 1 - p < cu by omega), show cu - 1 - (cu - 1 - p) = p by omega] at this
      exact (st p hp').mpr this
  constructor
  · rintro ⟨o, ho, q⟩
    have q2 := (one o ho).mp q
    have e : (List.range cu).map (fun i => upr bo (n / 10 ^ i % 10)) = ((List.range cu).map (fun i => cIn o (cu - 1 - i))).map (fun i => uF nf bo i (sd / 6 ^ i % 6)) := by
      rw [List.map_map]
      exact List.map_congr_left (fun i hi => (q2 i (List.mem_range.mp hi)).symm)
    rw [e]
    exact ((ord_perm hcu ho).map _).symm
  · intro hp
    obtain ⟨L, hL, e⟩ := perm_map hp (List.range cu) rfl
    have hlen : L.length = cu := by rw [hL.length_eq, List.length_range]
    have hLg : L = (List.range cu).map (fun i => L.getD i 0) := by
      refine List.ext_getElem (by rw [List.length_map, List.length_range, hlen]) (fun i h1 h2 => ?_)
      rw [List.getElem_map, List.getElem_range, List.getD_eq_getElem?_getD, List.getElem?_eq_getElem h1]
      rfl
    obtain ⟨p1, p2⟩ := perm_ord (g := fun i => L.getD i 0) hcu (by rw [← hLg]; exact hL)
    refine ⟨_, p1, (one _ p1).mpr (fun i hi => ?_)⟩
    rw [p2 _ (by omega), show cu - 1 - (cu - 1 - i) = i by omega]
    rw [hLg, List.map_map] at e
    have := congrArg (fun l => l[i]?) e
    simp only [List.getElem?_map, List.getElem?_range hi, Option.map_some, Option.some.injEq] at this
    rw [this]
    rfl
theorem up_eq {nw nf : Nat → Nat} {bo : Bool} {cu mo n : Nat} {od : Nat → Nat} (hcu : cu ≤ 4) (h : ∀ j, j < cu * 6 → nw j = nf j) (hO : oAll cu mo od) : smG (fun s => (byR nw bo cu mo od s n).toNat) (6 ^ cu) = ff nf bo cu 0 (msF bo cu (fun _ => 0) n) := by
  rw [ff_sum]
  refine smG_cong _ (fun sd _ => ?_)
  rw [ffI_perm cu 0 _ sd (vsL bo cu n) (vsL_len cu n) (fun x => by rw [msF_count, Nat.zero_add]), by_iff hcu h hO]
  cases (usL nf bo cu 0 sd).isPerm (vsL bo cu n) <;> rfl
theorem od_eq {nw nf : Nat → Nat} {bo : Bool} {cu mo n : Nat} {od : Nat → Nat} (hcu : cu ≤ 4) (h : ∀ j, j < cu * 6 → nw j = nf j) (hO : oAll cu mo od) : (smG (fun s => (byR nw bo cu mo od s n).toNat) (6 ^ cu) / Nat.gcd (smG (fun s => (byR nw bo cu mo od s n).toNat) (6 ^ cu)) (6 ^ cu), 6 ^ cu / Nat.gcd (smG (fun s => (byR nw bo cu mo od s n).toNat) (6 ^ cu)) (6 ^ cu)) = odT nf bo cu n := by
  unfold odT
  rw [← up_eq hcu h hO]
  have hle : smG (fun s => (byR nw bo cu mo od s n).toNat) (6 ^ cu) ≤ 6 ^ cu := by
    have := smG_le (f := fun s => (byR nw bo cu mo od s n).toNat) (m := 1) (6 ^ cu) (fun j _ => by cases byR nw bo cu mo od j n <;> decide)
    omega
  generalize smG (fun s => (byR nw bo cu mo od s n).toNat) (6 ^ cu) = u at hle
  have key : rall 5 (fun x => rall 1297 (fun u => !(decide (u ≤ 6 ^ x)) || decide ((u / Nat.gcd u (6 ^ x), 6 ^ x / Nat.gcd u (6 ^ x)) = rdL x (u, 6 ^ x)))) = true := by decide +kernel
  have h6 : 6 ^ cu ≤ 6 ^ 4 := Nat.pow_le_pow_right (by decide) hcu
  have k := rall_at (rall_at key (show cu < 5 by omega)) (show u < 1297 by omega)
  exact of_decide_eq_true (imp_of k (decide_eq_true hle))
