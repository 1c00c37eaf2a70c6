-- needs: 33 34 35 36 37 38 39 40 41 50 51 52 54
/-! how many numbers can be told: figures in every order -/
theorem wom_comm {cw : Nat → Nat} {s f g n : Nat} (hn : n ≤ 4) : wom cw (wom cw s f n) g n = wom cw (wom cw s g n) f n := by
  have fin : rall 16 (fun b => rall 4 (fun c => rall 4 (fun d => !(b.testBit c && (b - 2 ^ c).testBit d) || (b.testBit d && (b - 2 ^ d).testBit c)))) = true := by decide +kernel
  have half : ∀ f g b, b < 16 → (wom cw (wom cw s f n) g n).testBit b = true → (wom cw (wom cw s g n) f n).testBit b = true := by
    intro f g b hb h
    rw [wom_bit hb n hn] at h ⊢
    obtain ⟨c, h1, h2, h3, h4⟩ := h
    rw [wom_bit (Nat.lt_of_le_of_lt (Nat.sub_le _ _) hb) n hn] at h4
    obtain ⟨d, g1, g2, g3, g4⟩ := h4
    have k := imp_of (rall_at (rall_at (rall_at fin hb) (show c < 4 by omega)) (show d < 4 by omega)) (by rw [h3, g3]; rfl)
    rw [Bool.and_eq_true] at k
    refine ⟨d, g1, g2, k.1, ?_⟩
    rw [wom_bit (Nat.lt_of_le_of_lt (Nat.sub_le _ _) hb) n hn]
    refine ⟨c, h1, h2, k.2, ?_⟩
    rw [show b - 2 ^ d - 2 ^ c = b - 2 ^ c - 2 ^ d by omega]
    exact g4
  refine Nat.eq_of_testBit_eq (fun b => ?_)
  rcases Nat.lt_or_ge b 16 with q | q
  · exact bEq ⟨half f g b q, half g f b q⟩
  · rw [Nat.testBit_lt_two_pow (Nat.lt_of_lt_of_le (womLt n hn) (Nat.pow_le_pow_right (by decide) q)), Nat.testBit_lt_two_pow (Nat.lt_of_lt_of_le (womLt n hn) (Nat.pow_le_pow_right (by decide) q))]
theorem wom_0 {cw : Nat → Nat} {f : Nat} : ∀ n, wom cw 0 f n = 0 := by
  intro n
  induction n with
  | zero => rfl
  | succ n ih =>
    unfold wom
    rw [ih, Nat.zero_and, Nat.zero_shiftLeft]
    split <;> rfl
def stL (cw : Nat → Nat) (cu : Nat) : List Nat → Nat
  | [] => 1
  | d :: l => wom cw (stL cw cu l) d cu
theorem stL_perm {cw : Nat → Nat} {cu : Nat} (hcu : cu ≤ 4) {l l' : List Nat} (h : l.Perm l') : stL cw cu l = stL cw cu l' := by
  induction h with
  | nil => rfl
  | cons x _ ih => unfold stL; rw [ih]
  | swap x y l => exact wom_comm hcu
  | trans _ _ h1 h2 => exact h1.trans h2
def nzF (s : Nat) : Nat := if s = 0 then 0 else 1
/-- over all words -/
def allA : Nat → List Nat → (List Nat → Nat) → Nat
  | 0, l, F => F l
  | k + 1, l, F => sumF (fun d => allA k (d :: l) F) 0 10
/-- over words that never fall, each for all its orders -/
def srtS : Nat → Nat → List Nat → Nat → Nat → Nat → (List Nat → Nat) → Nat
  | 0, _, l, _, _, ord, F => ord * F l
  | r + 1, len, l, last, alike, ord, F => sumF (fun f => srtS r (len + 1) (f :: l) f (if f = last then alike + 1 else 1) (ord * (len + 1) / (if f = last then alike + 1 else 1)) F) last (10 - last)
theorem sumF_0 : ∀ k i, sumF (fun _ => 0) i k = 0 := by
  intro k
  induction k with
  | zero => intro i; rfl
  | succ k ih => intro i; unfold sumF; rw [ih]
theorem srt_0 {cw : Nat → Nat} {cu : Nat} : ∀ r len l last alike ord, stL cw cu l = 0 → srtS r len l last alike ord (fun x => nzF (stL cw cu x)) = 0 := by
  intro r
  induction r with
  | zero => intro len l last alike ord h; show ord * nzF (stL cw cu l) = 0; rw [h]; rfl
  | succ r ih =>
    intro len l last alike ord h
    unfold srtS
    rw [sumF_cong (g := fun _ => 0) _ _ (fun f _ _ => ih _ _ _ _ _ (by show wom cw (stL cw cu l) f cu = 0; rw [h, wom_0]))]
    exact sumF_0 _ _
theorem mnF_srt {cw : Nat → Nat} {cu : Nat} : ∀ r len l last alike ord, mnF cw cu r len (stL cw cu l) last alike ord = srtS r len l last alike ord (fun x => nzF (stL cw cu x)) := by
  intro r
  induction r with
  | zero =>
    intro len l last alike ord
    show (if stL cw cu l = 0 then 0 else ord) = ord * nzF (stL cw cu l)
    unfold nzF
    split <;> simp
  | succ r ih =>
    intro len l last alike ord
    by_cases q : stL cw cu l = 0
    · rw [srt_0 _ _ _ _ _ _ q]
      unfold mnF
      rw [if_pos q]
    · unfold mnF srtS
      rw [if_neg q]
      exact sumF_cong _ _ (fun f _ _ => ih _ (f :: l) _ _ _)
theorem sum10 (f : Nat → Nat) : ∀ m, smG f (10 * m) = sumF (fun s => smG (fun y => f (s + 10 * y)) m) 0 10 := by
  intro m
  induction m with
  | zero => rfl
  | succ m ih =>
    show smG f (10 * m + 10) = _
    have e : smG f (10 * m + 10) = smG f (10 * m) + f (10 * m) + f (10 * m + 1) + f (10 * m + 2) + f (10 * m + 3) + f (10 * m + 4) + f (10 * m + 5) + f (10 * m + 6) + f (10 * m + 7) + f (10 * m + 8) + f (10 * m + 9) := rfl
    rw [e, ih]
    simp only [sumF, smG, Nat.zero_add, Nat.add_zero, Nat.reduceAdd]
    rw [Nat.add_comm 1 (10 * m), Nat.add_comm 2 (10 * m), Nat.add_comm 3 (10 * m), Nat.add_comm 4 (10 * m), Nat.add_comm 5 (10 * m), Nat.add_comm 6 (10 * m), Nat.add_comm 7 (10 * m), Nat.add_comm 8 (10 * m), Nat.add_comm 9 (10 * m)]
    omega
theorem num_all {cw : Nat → Nat} {cu : Nat} : ∀ k l, smG (fun v => nzF (cTs cw cu k (stL cw cu l) v)) (10 ^ k) = allA k l (fun x => nzF (stL cw cu x)) := by
  intro k
  induction k with
  | zero => intro l; show 0 + nzF (stL cw cu l) = _; rw [Nat.zero_add]; rfl
  | succ k ih =>
    intro l
    rw [Nat.pow_succ, Nat.mul_comm, sum10]
    unfold allA
    refine sumF_cong _ _ (fun d _ hd => ?_)
    rw [← ih (d :: l)]
    refine smG_cong _ (fun y _ => ?_)
    show nzF (cTs cw cu k (wom cw (stL cw cu l) ((d + 10 * y) % 10) cu) ((d + 10 * y) / 10)) = nzF (cTs cw cu k (wom cw (stL cw cu l) d cu) y)
    rw [show (d + 10 * y) % 10 = d by omega, show (d + 10 * y) / 10 = y by omega]
/-! keys -/
def insL (a : Nat) : List Nat → List Nat
  | [] => [a]
  | b :: l => if a ≤ b then a :: b :: l else b :: insL a l
def isoL : List Nat → List Nat
  | [] => []
  | a :: l => insL a (isoL l)
theorem insL_perm (a : Nat) : ∀ l, (insL a l).Perm (a :: l) := by
  intro l
  induction l with
  | nil => exact List.Perm.refl _
  | cons b l ih =>
    unfold insL
    split
    · exact List.Perm.refl _
    · exact (List.Perm.cons b ih).trans (List.Perm.swap a b l)
theorem isoL_perm : ∀ l, (isoL l).Perm l := by
  intro l
  induction l with
  | nil => exact List.Perm.refl _
  | cons a l ih => exact (insL_perm a _).trans (List.Perm.cons a ih)
def encL : List Nat → Nat
  | [] => 0
  | a :: l => a + 10 * encL l
def decL : Nat → Nat → List Nat
  | 0, _ => []
  | n + 1, u => u % 10 :: decL n (u / 10)
theorem dec_enc : ∀ l : List Nat, (∀ d, d ∈ l → d < 10) → decL l.length (encL l) = l ∧ encL l < 10 ^ l.length := by
  intro l
  induction l with
  | nil => intro _; exact ⟨rfl, by decide⟩
  | cons a l ih =>
    intro h
    obtain ⟨h1, h2⟩ := ih (fun d hd => h d (List.mem_cons_of_mem _ hd))
    have ha := h a List.mem_cons_self
    unfold encL
    rw [List.length_cons]
    unfold decL
    rw [show (a + 10 * encL l) % 10 = a by omega, show (a + 10 * encL l) / 10 = encL l by omega, h1]
    refine ⟨rfl, ?_⟩
    rw [Nat.pow_succ]
    omega
def keyL (l : List Nat) : Nat := encL (isoL l)
/-! what is linear -/
def mLin (n : Nat) (Φ : (List Nat → Nat) → Nat) : Prop := (∀ F G, (∀ x : List Nat, x.length = n → (∀ d, d ∈ x → d < 10) → F x = G x) → Φ F = Φ G) ∧ (∀ F G, Φ (fun x => F x + G x) = Φ F + Φ G) ∧ (∀ F c, Φ (fun x => F x * c) = Φ F * c) ∧ Φ (fun _ => 0) = 0 ∧ ∀ F G, (∀ x, F x ≤ G x) → Φ F ≤ Φ G
theorem mLin.cong {n : Nat} {Φ : (List Nat → Nat) → Nat} (h : mLin n Φ) : ∀ F G, (∀ x : List Nat, x.length = n → (∀ d, d ∈ x → d < 10) → F x = G x) → Φ F = Φ G := h.1
theorem mLin.add {n : Nat} {Φ : (List Nat → Nat) → Nat} (h : mLin n Φ) : ∀ F G, Φ (fun x => F x + G x) = Φ F + Φ G := h.2.1
theorem mLin.mul {n : Nat} {Φ : (List Nat → Nat) → Nat} (h : mLin n Φ) : ∀ F c, Φ (fun x => F x * c) = Φ F * c := h.2.2.1
theorem mLin.zero {n : Nat} {Φ : (List Nat → Nat) → Nat} (h : mLin n Φ) : Φ (fun _ => 0) = 0 := h.2.2.2.1
theorem mLin.mono {n : Nat} {Φ : (List Nat → Nat) → Nat} (h : mLin n Φ) : ∀ F G, (∀ x, F x ≤ G x) → Φ F ≤ Φ G := h.2.2.2.2
theorem sumF_add (f g : Nat → Nat) : ∀ k i, sumF (fun j => f j + g j) i k = sumF f i k + sumF g i k := by
  intro k
  induction k with
  | zero => intro i; rfl
  | succ k ih => intro i; unfold sumF; rw [ih]; omega
theorem sumF_mul (f : Nat → Nat) (c : Nat) : ∀ k i, sumF (fun j => f j * c) i k = sumF f i k * c := by
  intro k
  induction k with
  | zero => intro i; exact (Nat.zero_mul _).symm
  | succ k ih => intro i; unfold sumF; rw [ih, Nat.add_mul]
theorem sumF_le {f g : Nat → Nat} (h : ∀ j, f j ≤ g j) : ∀ k i, sumF f i k ≤ sumF g i k := by
  intro k
  induction k with
  | zero => intro i; exact Nat.le_refl _
  | succ k ih => intro i; unfold sumF; have := h i; have := ih (i + 1); omega
theorem all_lin (n : Nat) : mLin n (allA n []) := by
  refine ⟨fun F G h => ?_, fun F G => ?_, fun F c => ?_, ?_, fun F G h => ?_⟩
  · have key : ∀ k l, (∀ d, d ∈ l → d < 10) → l.length + k = n → allA k l F = allA k l G := by
      intro k
      induction k with
      | zero => intro l hl hn; exact h l (by omega) hl
      | succ k ih =>
        intro l hl hn
        unfold allA
        exact sumF_cong _ _ (fun d _ hd => ih (d :: l) (fun x hx => by
          rcases List.mem_cons.mp hx with e | e
          · omega
          · exact hl x e) (by rw [List.length_cons]; omega))
    exact key n [] (fun d hd => by cases hd) (Nat.zero_add _)
  · have key : ∀ k l, allA k l (fun x => F x + G x) = allA k l F + allA k l G := by
      intro k
      induction k with
      | zero => intro l; rfl
      | succ k ih => intro l; unfold allA; simp only [ih]; exact sumF_add _ _ _ _
    exact key n []
  · have key : ∀ k l, allA k l (fun x => F x * c) = allA k l F * c := by
      intro k
      induction k with
      | zero => intro l; rfl
      | succ k ih => intro l; unfold allA; simp only [ih]; exact sumF_mul _ _ _ _
    exact key n []
  · have key : ∀ k l, allA k l (fun _ => 0) = 0 := by
      intro k
      induction k with
      | zero => intro l; rfl
      | succ k ih => intro l; unfold allA; simp only [ih]; exact sumF_0 _ _
    exact key n []
  · have key : ∀ k l, allA k l F ≤ allA k l G := by
      intro k
      induction k with
      | zero => intro l; exact h l
      | succ k ih => intro l; unfold allA; exact sumF_le (fun j => ih _) _ _
    exact key n []
theorem srt_lin (n : Nat) : mLin n (srtS n 0 [] 0 0 1) := by
  refine ⟨fun F G h => ?_, fun F G => ?_, fun F c => ?_, ?_, fun F G h => ?_⟩
  · have key : ∀ k len l last alike ord, (∀ d, d ∈ l → d < 10) → l.length + k = n → last < 10 → srtS k len l last alike ord F = srtS k len l last alike ord G := by
      intro k
      induction k with
      | zero => intro len l last alike ord hl hn _; show ord * F l = ord * G l; rw [h l (by omega) hl]
      | succ k ih =>
        intro len l last alike ord hl hn h10
        unfold srtS
        exact sumF_cong _ _ (fun d _ hd => ih _ (d :: l) _ _ _ (fun x hx => by
          rcases List.mem_cons.mp hx with e | e
          · omega
          · exact hl x e) (by rw [List.length_cons]; omega) (by omega))
    exact key n 0 [] 0 0 1 (fun d hd => by cases hd) (Nat.zero_add _) (by decide)
  · have key : ∀ k len l last alike ord, srtS k len l last alike ord (fun x => F x + G x) = srtS k len l last alike ord F + srtS k len l last alike ord G := by
      intro k
      induction k with
      | zero => intro len l last alike ord; exact Nat.mul_add _ _ _
      | succ k ih => intro len l last alike ord; unfold srtS; simp only [ih]; exact sumF_add _ _ _ _
    exact key n 0 [] 0 0 1
  · have key : ∀ k len l last alike ord, srtS k len l last alike ord (fun x => F x * c) = srtS k len l last alike ord F * c := by
      intro k
      induction k with
      | zero => intro len l last alike ord; exact (Nat.mul_assoc _ _ _).symm
      | succ k ih => intro len l last alike ord; unfold srtS; simp only [ih]; exact sumF_mul _ _ _ _
    exact key n 0 [] 0 0 1
  · have key : ∀ k len l last alike ord, srtS k len l last alike ord (fun _ => 0) = 0 := by
      intro k
      induction k with
      | zero => intro len l last alike ord; exact Nat.mul_zero _
      | succ k ih => intro len l last alike ord; unfold srtS; simp only [ih]; exact sumF_0 _ _
    exact key n 0 [] 0 0 1
  · have key : ∀ k len l last alike ord, srtS k len l last alike ord F ≤ srtS k len l last alike ord G := by
      intro k
      induction k with
      | zero => intro len l last alike ord; exact Nat.mul_le_mul_left _ (h l)
      | succ k ih => intro len l last alike ord; unfold srtS; exact sumF_le (fun j => ih _ _ _ _ _) _ _
    exact key n 0 [] 0 0 1
def indK (u : Nat) (x : List Nat) : Nat := if keyL x = u then 1 else 0
theorem ind_sum (c : Nat → Nat) (k : Nat) : ∀ N, smG (fun u => (if k = u then 1 else 0) * c u) N = if k < N then c k else 0 := by
  intro N
  induction N with
  | zero => rfl
  | succ N ih =>
    unfold smG
    rw [ih]
    by_cases e : k = N
    · subst e; rw [if_neg (Nat.lt_irrefl _), if_pos rfl, if_pos (Nat.lt_succ_self _)]; omega
    · rw [if_neg e]
      by_cases q : k < N
      · rw [if_pos q, if_pos (by omega)]; omega
      · rw [if_neg q, if_neg (by omega)]; omega
theorem lin_sum {n : Nat} {Φ : (List Nat → Nat) → Nat} (h : mLin n Φ) (c : Nat → Nat) : ∀ N, Φ (fun x => smG (fun u => indK u x * c u) N) = smG (fun u => Φ (indK u) * c u) N := by
  intro N
  induction N with
  | zero => exact h.zero
  | succ N ih =>
    show Φ (fun x => smG (fun u => indK u x * c u) N + indK N x * c N) = smG (fun u => Φ (indK u) * c u) N + Φ (indK N) * c N
    rw [h.add, ih, h.mul]
theorem key_lt {n : Nat} {x : List Nat} (hx : x.length = n) (hd : ∀ d, d ∈ x → d < 10) : keyL x < 10 ^ n ∧ decL n (keyL x) = isoL x := by
  have hp := isoL_perm x
  have h := dec_enc (isoL x) (fun d h => hd d (hp.mem_iff.mp h))
  rw [hp.length_eq, hx] at h
  exact ⟨h.2, h.1⟩
theorem lin_key {n : Nat} {Φ : (List Nat → Nat) → Nat} (h : mLin n Φ) (c : Nat → Nat) : Φ (fun x => c (keyL x)) = smG (fun u => Φ (indK u) * c u) (10 ^ n) := by
  rw [← lin_sum h c]
  refine h.cong _ _ (fun x hx hd => ?_)
  show c (keyL x) = smG (fun u => (if keyL x = u then 1 else 0) * c u) (10 ^ n)
  rw [ind_sum, if_pos (key_lt hx hd).1]
theorem base_lt {B : Nat} {a : Nat → Nat} : ∀ N, (∀ u, u < N → a u < B) → smG (fun u => a u * B ^ u) N < B ^ N := by
  intro N
  induction N with
  | zero => intro _; exact Nat.zero_lt_one
  | succ N ih =>
    intro h
    unfold smG
    have h1 := ih (fun u hu => h u (by omega))
    have h2 := h N (by omega)
    have h3 : (a N + 1) * B ^ N ≤ B * B ^ N := Nat.mul_le_mul_right _ h2
    rw [Nat.add_mul, Nat.one_mul] at h3
    rw [Nat.pow_succ, Nat.mul_comm (B ^ N) B]
    omega
theorem base_eq {B : Nat} {a b : Nat → Nat} : ∀ N, (∀ u, u < N → a u < B) → (∀ u, u < N → b u < B) → smG (fun u => a u * B ^ u) N = smG (fun u => b u * B ^ u) N → ∀ u, u < N → a u = b u := by
  intro N
  induction N with
  | zero => intro _ _ _ u hu; exact absurd hu (Nat.not_lt_zero _)
  | succ N ih =>
    intro ha hb he u hu
    unfold smG at he
    have h1 := base_lt N (fun u hu => ha u (by omega))
    have h2 := base_lt N (fun u hu => hb u (by omega))
    have hp : 0 < B ^ N := by omega
    have e1 : (smG (fun u => a u * B ^ u) N + a N * B ^ N) / B ^ N = a N := by rw [Nat.add_mul_div_right _ _ hp, Nat.div_eq_of_lt h1, Nat.zero_add]
    have e2 : (smG (fun u => b u * B ^ u) N + b N * B ^ N) / B ^ N = b N := by rw [Nat.add_mul_div_right _ _ hp, Nat.div_eq_of_lt h2, Nat.zero_add]
    have e3 : a N = b N := by rw [← e1, ← e2, he]
    by_cases e : u = N
    · rw [e, e3]
    · rw [e3] at he
      exact ih (fun u hu => ha u (by omega)) (fun u hu => hb u (by omega)) (by omega) u (by omega)
abbrev bigB : Nat := 16384
theorem big0 : allA 0 [] (fun x => bigB ^ keyL x) = srtS 0 0 [] 0 0 1 (fun x => bigB ^ keyL x) ∧ allA 0 [] (fun _ => 1) < bigB ∧ srtS 0 0 [] 0 0 1 (fun _ => 1) < bigB := by decide +kernel
theorem big1 : allA 1 [] (fun x => bigB ^ keyL x) = srtS 1 0 [] 0 0 1 (fun x => bigB ^ keyL x) ∧ allA 1 [] (fun _ => 1) < bigB ∧ srtS 1 0 [] 0 0 1 (fun _ => 1) < bigB := by decide +kernel
theorem big2 : allA 2 [] (fun x => bigB ^ keyL x) = srtS 2 0 [] 0 0 1 (fun x => bigB ^ keyL x) ∧ allA 2 [] (fun _ => 1) < bigB ∧ srtS 2 0 [] 0 0 1 (fun _ => 1) < bigB := by decide +kernel
theorem big3 : allA 3 [] (fun x => bigB ^ keyL x) = srtS 3 0 [] 0 0 1 (fun x => bigB ^ keyL x) ∧ allA 3 [] (fun _ => 1) < bigB ∧ srtS 3 0 [] 0 0 1 (fun _ => 1) < bigB := by decide +kernel
theorem big4 : allA 4 [] (fun x => bigB ^ keyL x) = srtS 4 0 [] 0 0 1 (fun x => bigB ^ keyL x) ∧ allA 4 [] (fun _ => 1) < bigB ∧ srtS 4 0 [] 0 0 1 (fun _ => 1) < bigB := by decide +kernel
theorem sym_eq {n : Nat} (big : allA n [] (fun x => bigB ^ keyL x) = srtS n 0 [] 0 0 1 (fun x => bigB ^ keyL x) ∧ allA n [] (fun _ => 1) < bigB ∧ srtS n 0 [] 0 0 1 (fun _ => 1) < bigB) (F : List Nat → Nat) (hF : ∀ l l' : List Nat, l.Perm l' → F l = F l') : allA n [] F = srtS n 0 [] 0 0 1 F := by
  have hA := all_lin n
  have hS := srt_lin n
  have one : ∀ u x, indK u x ≤ 1 := by intro u x; unfold indK; split <;> decide
  have cs : ∀ u, u < 10 ^ n → allA n [] (indK u) = srtS n 0 [] 0 0 1 (indK u) := by
    refine base_eq (B := bigB) (10 ^ n) (fun u _ => Nat.lt_of_le_of_lt (hA.mono _ _ (one u)) big.2.1) (fun u _ => Nat.lt_of_le_of_lt (hS.mono _ _ (one u)) big.2.2) ?_
    rw [← lin_key hA (fun u => bigB ^ u), ← lin_key hS (fun u => bigB ^ u)]
    exact big.1
  have dec : ∀ Φ, mLin n Φ → Φ F = Φ (fun x => F (decL n (keyL x))) := by
    intro Φ hΦ
    refine hΦ.cong _ _ (fun x hx hd => ?_)
    show F x = F (decL n (keyL x))
    rw [(key_lt hx hd).2]
    exact hF _ _ (isoL_perm x).symm
  rw [dec _ hA, dec _ hS, lin_key hA (fun u => F (decL n u)), lin_key hS (fun u => F (decL n u))]
  exact smG_cong _ (fun u hu => by rw [cs u hu])
theorem mn_eq {cw : Nat → Nat} {cu : Nat} (hcu : cu ≤ 4) : smG (fun v => (canT cw cu v).toNat) (10 ^ cu) = mnF cw cu cu 0 1 0 0 1 := by
  have e1 : smG (fun v => (canT cw cu v).toNat) (10 ^ cu) = smG (fun v => nzF (cTs cw cu cu (stL cw cu []) v)) (10 ^ cu) := by
    refine smG_cong _ (fun v _ => ?_)
    unfold canT nzF
    show (decide (¬ cTs cw cu cu 1 v = 0)).toNat = if cTs cw cu cu 1 v = 0 then 0 else 1
    by_cases q : cTs cw cu cu 1 v = 0
    · rw [if_pos q, decide_eq_false (fun z => z q)]; rfl
    · rw [if_neg q, decide_eq_true q]; rfl
  rw [e1, num_all]
  have e2 : mnF cw cu cu 0 1 0 0 1 = srtS cu 0 [] 0 0 1 (fun x => nzF (stL cw cu x)) := mnF_srt cu 0 [] 0 0 1
  rw [e2]
  have sym : ∀ l l' : List Nat, l.Perm l' → nzF (stL cw cu l) = nzF (stL cw cu l') := fun l l' h => by rw [stL_perm hcu h]
  rcases (show cu = 0 ∨ cu = 1 ∨ cu = 2 ∨ cu = 3 ∨ cu = 4 by omega) with rfl | rfl | rfl | rfl | rfl
  · exact sym_eq big0 _ sym
  · exact sym_eq big1 _ sym
  · exact sym_eq big2 _ sym
  · exact sym_eq big3 _ sym
  · exact sym_eq big4 _ sym
