/-! orders and changes -/
def ordL (x : Nat) : List Nat := (List.range (1 <<< (2 * x))).filter (isOrd x)
theorem ordL_mem {cu o : Nat} (h : PO cu o) : o ∈ ordL cu := List.mem_filter.mpr ⟨List.mem_range.mpr h.1, h.2⟩
theorem PO_inj {cu o p q : Nat} (hcu : cu ≤ 4) (h : PO cu o) (hp : p < cu) (hq : q < cu) (e : cIn o p = cIn o q) : p = q := by
  have key : rall 5 (fun x => (ordL x).all (fun o => rall x (fun p => rall x (fun q => !(decide (cIn o p = cIn o q)) || decide (p = q))))) = true := by decide +kernel
  have k1 := List.all_eq_true.mp (rall_at key (show cu < 5 by omega)) o (ordL_mem h)
  exact of_decide_eq_true (imp_of (rall_at (rall_at k1 hp) hq) (decide_eq_true e))
theorem on_cIn {cu o : Nat} (hcu : cu ≤ 4) (h : PO cu o) : onF (cIn o) cu = o := by
  have key : rall 5 (fun x => (ordL x).all (fun o => decide (onF (cIn o) x = o))) = true := by decide +kernel
  exact of_decide_eq_true (List.all_eq_true.mp (rall_at key (show cu < 5 by omega)) o (ordL_mem h))
theorem PO_eq {cu o o' : Nat} (hcu : cu ≤ 4) (h : PO cu o) (h' : PO cu o') (e : ∀ p, p < cu → cIn o p = cIn o' p) : o = o' := by
  rw [← on_cIn hcu h, ← on_cIn hcu h']
  exact onF_cong cu e
theorem PO_pl {cu o p : Nat} (hcu : cu ≤ 4) (h : PO cu o) (hp : p < cu) : plF (cIn o) (cIn o p) cu = p := plF_eq cu hp rfl (fun i hi e => PO_inj hcu h hi hp e)
def fd3 (x a b c d t : Nat) : Bool := !(rall x (fun i => decide (g4 a b c d i < x)) && chk (g4 a b c d) x t) || (decide (onF (g4 a b c d) x < 1 <<< (2 * x)) && isOrd x (onF (g4 a b c d) x) && rall x (fun p => decide (cIn (onF (g4 a b c d) x) p = g4 a b c d p)) && rall x (fun p => t.testBit p))
theorem fd3_all : rall 5 (fun x => rall 4 (fun a => rall 4 (fun b => rall 4 (fun c => rall 4 (fun d => rall 16 (fun t => fd3 x a b c d t)))))) = true := by decide +kernel
theorem ord_on {cu t : Nat} {g : Nat → Nat} (hcu : cu ≤ 4) (ht : t < 16) (hg : ∀ i, i < cu → g i < cu) (hc : chk g cu t = true) : PO cu (onF g cu) ∧ (∀ p, p < cu → cIn (onF g cu) p = g p) ∧ ∀ p, p < cu → t.testBit p = true := by
  let g' : Nat → Nat := fun i => if i < cu then g i else 0
  have e1 : ∀ i, i < cu → g i = g' i := fun i hi => (if_pos hi).symm
  have hlt : ∀ i, g' i < 4 := by
    intro i
    show (if i < cu then g i else 0) < 4
    split
    · rename_i q; have := hg i q; omega
    · decide
  have e2 : ∀ i, i < cu → g i = g4 (g' 0) (g' 1) (g' 2) (g' 3) i := fun i hi => (e1 i hi).trans (g4_of g' i (by omega))
  have hO : onF g cu = onF (g4 (g' 0) (g' 1) (g' 2) (g' 3)) cu := onF_cong cu (fun p hp => e2 _ hp)
  have k := rall_at (rall_at (rall_at (rall_at (rall_at (rall_at fd3_all (show cu < 5 by omega)) (hlt 0)) (hlt 1)) (hlt 2)) (hlt 3)) ht
  have k2 := imp_of k (by
    rw [Bool.and_eq_true]
    refine ⟨rall_of (fun i hi => decide_eq_true (by rw [← e2 i hi]; exact hg i hi)), ?_⟩
    rw [← chk_cong cu t e2]
    exact hc)
  rw [Bool.and_eq_true, Bool.and_eq_true, Bool.and_eq_true, ← hO] at k2
  refine ⟨⟨of_decide_eq_true k2.1.1.1, k2.1.1.2⟩, fun p hp => ?_, fun p hp => rall_at k2.2 hp⟩
  rw [of_decide_eq_true (rall_at k2.1.2 hp), e2 _ hp]
/-! sets of cubes that are used -/
theorem bs1 {b c d : Nat} (hb : b < 16) (hc : c < 4) (hd : d < 4) : (b.testBit c = true → (b - 2 ^ c).testBit d = true → b.testBit d = true) ∧ (b.testBit c = true → b.testBit d = true → d ≠ c → (b - 2 ^ c).testBit d = true) ∧ ((b ||| 1 <<< c).testBit d = (b.testBit d || decide (d = c))) ∧ (b.testBit c = false → (b ||| 1 <<< c) - 2 ^ c = b) := by
  have key : rall 16 (fun b => rall 4 (fun c => rall 4 (fun d => (!(b.testBit c && (b - 2 ^ c).testBit d) || b.testBit d) && ((!(b.testBit c && (b.testBit d && !(decide (d = c)))) || (b - 2 ^ c).testBit d) && (decide ((b ||| 1 <<< c).testBit d = (b.testBit d || decide (d = c))) && (!(!(b.testBit c)) || decide ((b ||| 1 <<< c) - 2 ^ c = b))))))) = true := by decide +kernel
  have k := rall_at (rall_at (rall_at key hb) hc) hd
  rw [Bool.and_eq_true, Bool.and_eq_true, Bool.and_eq_true] at k
  refine ⟨fun h1 h2 => imp_of k.1 (by rw [h1, h2]; rfl), fun h1 h2 h3 => imp_of k.2.1 (by rw [h1, h2, decide_eq_false h3]; rfl), of_decide_eq_true k.2.2.1, fun h => of_decide_eq_true (imp_of k.2.2.2 (by rw [h]; rfl))⟩
theorem chk_in {g : Nat → Nat} : ∀ p us, us < 16 → (∀ q, q < p → g q < 4) → chk g p us = true → ∀ q, q < p → us.testBit (g q) = true := by
  intro p
  induction p with
  | zero => intro us _ _ _ q hq; exact absurd hq (Nat.not_lt_zero _)
  | succ p ih =>
    intro us hus hg h q hq
    unfold chk at h
    rw [Bool.and_eq_true] at h
    by_cases e : q = p
    · rw [e]; exact h.1
    · have := ih (us - 2 ^ g p) (Nat.lt_of_le_of_lt (Nat.sub_le _ _) hus) (fun q hq => hg q (by omega)) h.2 q (by omega)
      exact (bs1 hus (hg p (by omega)) (hg q (by omega))).1 h.1 this
theorem chk_of {g : Nat → Nat} : ∀ p us, us < 16 → (∀ q, q < p → g q < 4) → chk g p us = true → ∀ c, c < 4 → us.testBit c = true → ∃ q, q < p ∧ g q = c := by
  intro p
  induction p with
  | zero =>
    intro us _ _ h c _ hb
    rw [of_decide_eq_true h, Nat.zero_testBit] at hb
    exact Bool.noConfusion hb
  | succ p ih =>
    intro us hus hg h c hc hb
    unfold chk at h
    rw [Bool.and_eq_true] at h
    by_cases e : c = g p
    · exact ⟨p, by omega, e.symm⟩
    · obtain ⟨q, hq, hq2⟩ := ih (us - 2 ^ g p) (Nat.lt_of_le_of_lt (Nat.sub_le _ _) hus) (fun q hq => hg q (by omega)) h.2 c hc ((bs1 hus (hg p (by omega)) hc).2.1 h.1 hb e)
      exact ⟨q, by omega, hq2⟩
theorem chk_add {g : Nat → Nat} {p us c : Nat} (hus : us < 16) (hc : c < 4) (h : chk g p us = true) (hb : us.testBit c = false) : chk (mUp g p c) (p + 1) (us ||| 1 <<< c) = true := by
  have k := bs1 hus hc hc
  unfold chk
  rw [mUp_eq, k.2.2.1, k.2.2.2 hb, chk_cong (g' := g) p us (fun i hi => mUp_ne _ _ (by omega)), h]
  simp
theorem bit0 {x k : Nat} : x >>> k &&& 1 = 0 ↔ x.testBit k = false := by
  have h1 := bit1 (x := x) (k := k)
  have h2 : x >>> k &&& 1 ≤ 1 := Nat.and_le_right
  constructor
  · intro h
    cases e : x.testBit k
    · rfl
    · have := h1.mpr e; omega
  · intro h
    rcases (show x >>> k &&& 1 = 0 ∨ x >>> k &&& 1 = 1 by omega) with e | e
    · exact e
    · rw [h1.mp e] at h; exact Bool.noConfusion h
/-! how many changes: rings, or one by one -/
def inU (s : Nat → Nat) : Nat → Nat → Nat → Nat
  | 0, l, _ => l
  | i + 1, l, q => if l >>> q &&& 1 = 0 then inU s i (l ||| 1 <<< q) (s q) else l
def chV (s : Nat → Nat) (cu p : Nat) (x : Nat × Nat) : Nat × Nat := (inU s cu x.1 p, if x.1 >>> p &&& 1 = 0 then x.2 + 1 else x.2)
def chU (s : Nat → Nat) (cu : Nat) : Nat := cu - (iterF (chV s cu) 0 cu (0, 0)).2
theorem inL_U {ca pl s : Nat → Nat} {k cu : Nat} (h : ∀ q, q < cu → pl (k * 4 + ca ((k - 1) * 4 + q)) = s q ∧ s q < cu) : ∀ i l q, q < cu → inL ca pl k i l q = inU s i l q := by
  intro i
  induction i with
  | zero => intro l q _; rfl
  | succ i ih =>
    intro l q hq
    unfold inL inU
    rw [(h q hq).1, ih _ _ (h q hq).2]
theorem iterF_cong {σ : Type} {f g : Nat → σ → σ} : ∀ n i x, (∀ j y, i ≤ j → j < i + n → f j y = g j y) → iterF f i n x = iterF g i n x := by
  intro n
  induction n with
  | zero => intro i x _; rfl
  | succ n ih =>
    intro i x h
    rw [iterF_s, iterF_s, h i x (Nat.le_refl _) (by omega)]
    exact ih _ _ (fun j y h1 h2 => h j y (by omega) (by omega))
theorem chT_U {ca pl s : Nat → Nat} {k cu : Nat} (h : ∀ q, q < cu → pl (k * 4 + ca ((k - 1) * 4 + q)) = s q ∧ s q < cu) : chT ca pl k cu = chU s cu := by
  unfold chT chU
  rw [iterF_cong cu 0 (0, 0) (fun j y _ hj => by
    show chS ca pl k cu j y = chV s cu j y
    unfold chS chV
    rw [inL_U h cu y.1 j (by omega)])]
theorem inU_cong {s s' : Nat → Nat} {cu : Nat} (h : ∀ q, q < cu → s q = s' q ∧ s q < cu) : ∀ i l q, q < cu → inU s i l q = inU s' i l q := by
  intro i
  induction i with
  | zero => intro l q _; rfl
  | succ i ih =>
    intro l q hq
    unfold inU
    rw [ih _ _ (h q hq).2, (h q hq).1]
theorem ch_all : rall 5 (fun x => (ordL x).all (fun o => (ordL x).all (fun o' => decide (chU (fun q => plF (cIn o') (cIn o q) x) x = cgF x o o')))) = true := by decide +kernel
theorem ch_cg {cu o o' : Nat} (hcu : cu ≤ 4) (h : PO cu o) (h' : PO cu o') : chU (fun q => plF (cIn o') (cIn o q) cu) cu = cgF cu o o' := of_decide_eq_true (List.all_eq_true.mp (List.all_eq_true.mp (rall_at ch_all (show cu < 5 by omega)) o (ordL_mem h)) o' (ordL_mem h'))
/-! sums -/
theorem smG_mo {f g : Nat → Nat} : ∀ n, (∀ j, j < n → f j ≤ g j) → smG f n ≤ smG g n := by
  intro n
  induction n with
  | zero => intro _; exact Nat.le_refl _
  | succ n ih => intro h; exact Nat.add_le_add (ih (fun j hj => h j (by omega))) (h n (by omega))
theorem smG_at {f : Nat → Nat} : ∀ n c, c < n → f c ≤ smG f n := by
  intro n
  induction n with
  | zero => intro c h; exact absurd h (Nat.not_lt_zero _)
  | succ n ih =>
    intro c h
    show f c ≤ smG f n + f n
    by_cases e : c = n
    · rw [e]; omega
    · have := ih c (by omega); omega
theorem smG_ch {f f' : Nat → Nat} : ∀ n c, c < n → (∀ j, j < n → j ≠ c → f' j = f j) → smG f' n + f c = smG f n + f' c := by
  intro n
  induction n with
  | zero => intro c h; exact absurd h (Nat.not_lt_zero _)
  | succ n ih =>
    intro c h hj
    show smG f' n + f' n + f c = smG f n + f n + f' c
    by_cases e : c = n
    · subst e
      rw [smG_cong c (fun j hj' => hj j (by omega) (by omega))]
      omega
    · have := ih c (by omega) (fun j h1 h2 => hj j (by omega) h2)
      have := hj n (by omega) (by omega)
      omega
/-! all work of some orders, one behind the other -/
def cgT (cu : Nat) (o : Nat → Nat) : Nat → Nat
  | 0 => 0
  | k + 1 => cgT cu o k + cgF cu (o k) (o (k + 1))
theorem cgT_le {cu : Nat} {o : Nat → Nat} : ∀ k, cgT cu o k ≤ k * cu := by
  intro k
  induction k with
  | zero => exact Nat.zero_le _
  | succ k ih =>
    have := cgF_le cu (o k) (o (k + 1))
    rw [Nat.succ_mul]
    exact Nat.add_le_add ih this
theorem cgT_mono {cu : Nat} {o : Nat → Nat} {k : Nat} : ∀ j, cgT cu o k ≤ cgT cu o (k + j) := by
  intro j
  induction j with
  | zero => exact Nat.le_refl _
  | succ j ih => exact Nat.le_trans ih (Nat.le_add_right _ _)
theorem cgT_cong {cu : Nat} {o o' : Nat → Nat} : ∀ k, (∀ j, j ≤ k → o j = o' j) → cgT cu o k = cgT cu o' k := by
  intro k
  induction k with
  | zero => intro _; rfl
  | succ k ih =>
    intro h
    unfold cgT
    rw [ih (fun j hj => h j (by omega)), h k (by omega), h (k + 1) (by omega)]
theorem pthO_cong {cu c : Nat} {o o' : Nat → Nat} : ∀ k, (∀ j, j ≤ k → o j = o' j) → pthO cu o c k = pthO cu o' c k := by
  intro k
  induction k with
  | zero => intro _; rfl
  | succ k ih =>
    intro h
    unfold pthO
    rw [ih (fun j hj => h j (by omega)), h (k + 1) (by omega)]
theorem vl_mono {nf fr : Nat → Nat} {bo : Bool} {wa : Nat → Nat} {c cu k : Nat} {o : Nat → Nat} (hcu : cu ≤ 4) (hc : c < cu) : ∀ j, vlC nf fr bo wa c k (pthO cu o c k) ≤ vlC nf fr bo wa c (k + j) (pthO cu o c (k + j)) := by
  intro j
  induction j with
  | zero => exact Nat.le_refl _
  | succ j ih => exact Nat.le_trans ih (vlC_mono (Nat.lt_of_lt_of_le (plF_cu (by omega)) hcu))
def tcO (nf fr : Nat → Nat) (bo : Bool) (wa : Nat → Nat) (cu la : Nat) (o : Nat → Nat) : Nat := cgT cu o la + smG (fun c => vlC nf fr bo wa c la (pthO cu o c la)) cu
