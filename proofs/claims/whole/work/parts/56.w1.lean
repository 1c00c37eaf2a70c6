/-! the least work: a least value, begun at b -/
def mF (b : Nat) (P : Nat → Prop) (v : Nat) : Prop := v ≤ b ∧ (∀ w, P w → v ≤ w) ∧ (v = b ∨ P v)
theorem mF.no {b : Nat} {P : Nat → Prop} (h : ∀ w, P w → b ≤ w) : mF b P b := ⟨Nat.le_refl _, h, Or.inl rfl⟩
theorem mF.one (b w : Nat) : mF b (fun x => x = w) (min b w) := by
  refine ⟨Nat.min_le_left _ _, fun x hx => by rw [hx]; exact Nat.min_le_right _ _, ?_⟩
  rcases Nat.le_total b w with h | h
  · exact Or.inl (Nat.min_eq_left h)
  · exact Or.inr (Nat.min_eq_right h)
theorem mF.iff {b v : Nat} {P Q : Nat → Prop} (h : mF b P v) (e : ∀ w, Q w ↔ P w) : mF b Q v := ⟨h.1, fun w hw => h.2.1 w ((e w).mp hw), h.2.2.imp id (e v).mpr⟩
theorem mF.or {b v u : Nat} {P Q : Nat → Prop} (h : mF b P v) (k : mF v Q u) : mF b (fun w => P w ∨ Q w) u := by
  refine ⟨Nat.le_trans k.1 h.1, fun w hw => ?_, ?_⟩
  · rcases hw with hw | hw
    · exact Nat.le_trans k.1 (h.2.1 w hw)
    · exact k.2.1 w hw
  · rcases k.2.2 with e | e
    · rw [e]
      exact h.2.2.imp id Or.inl
    · exact Or.inr (Or.inr e)
theorem mF.iter {f : Nat → Nat → Nat} {P : Nat → Nat → Prop} : ∀ k i b, (∀ j b, i ≤ j → j < i + k → mF b (P j) (f j b)) → mF b (fun w => ∃ j, i ≤ j ∧ j < i + k ∧ P j w) (iterF f i k b) := by
  intro k
  induction k with
  | zero => intro i b _; exact mF.no (fun w ⟨j, h1, h2, _⟩ => absurd h1 (by omega))
  | succ k ih =>
    intro i b hf
    rw [iterF_s]
    have h1 := hf i b (Nat.le_refl _) (by omega)
    have h2 := ih (i + 1) (f i b) (fun j b' hj hj2 => hf j b' (by omega) (by omega))
    refine (h1.or h2).iff (fun w => ?_)
    constructor
    · rintro ⟨j, g1, g2, g3⟩
      by_cases e : j = i
      · rw [e] at g3; exact Or.inl g3
      · exact Or.inr ⟨j, by omega, by omega, g3⟩
    · rintro (g | ⟨j, g1, g2, g3⟩)
      · exact ⟨i, Nat.le_refl _, by omega, g⟩
      · exact ⟨j, by omega, by omega, g3⟩
/-! rows of sides: the least work till a side is in front -/
def mnR (R : Nat → Nat) (s : Nat) : Nat → Nat
  | 0 => 1000
  | t + 1 => min (mnR R s t) (R t + tW t s)
def nxR (nf : Nat → Nat) (bo : Bool) (c fg : Nat) (R : Nat → Nat) (s : Nat) : Nat := if fit bo (nf (c * 6 + s)) fg = true then mnR R s 6 else 1000
def mnS (R : Nat → Nat) : Nat → Nat
  | 0 => 1000
  | s + 1 => min (mnS R s) (R s)
def rwC (nf fr : Nat → Nat) (bo : Bool) (wa : Nat → Nat) (c : Nat) : Nat → Nat → Nat → Nat
  | 0, _ => fun s => if s = fr c then 0 else 1000
  | k + 1, m => nxR nf bo c (wa ((k + 1) * 4 + (m - 1) % 4)) (rwC nf fr bo wa c k ((m - 1) / 4))
def vlC (nf fr : Nat → Nat) (bo : Bool) (wa : Nat → Nat) (c k m : Nat) : Nat := mnS (rwC nf fr bo wa c k m) 6
theorem rwC_s {nf fr : Nat → Nat} {bo : Bool} {wa : Nat → Nat} {c k b p : Nat} (hp : p < 4) : rwC nf fr bo wa c (k + 1) (b * 4 + p + 1) = nxR nf bo c (wa ((k + 1) * 4 + p)) (rwC nf fr bo wa c k b) := by
  show nxR nf bo c (wa ((k + 1) * 4 + (b * 4 + p + 1 - 1) % 4)) (rwC nf fr bo wa c k ((b * 4 + p + 1 - 1) / 4)) = _
  rw [show (b * 4 + p + 1 - 1) % 4 = p by omega, show (b * 4 + p + 1 - 1) / 4 = b by omega]
theorem mnS_le {R : Nat → Nat} : ∀ n, mnS R n ≤ 1000 ∧ ∀ s, s < n → mnS R n ≤ R s := by
  intro n
  induction n with
  | zero => exact ⟨Nat.le_refl _, fun s h => absurd h (Nat.not_lt_zero _)⟩
  | succ n ih =>
    refine ⟨Nat.le_trans (Nat.min_le_left _ _) ih.1, fun s hs => ?_⟩
    by_cases e : s = n
    · rw [e]; exact Nat.min_le_right _ _
    · exact Nat.le_trans (Nat.min_le_left _ _) (ih.2 s (by omega))
theorem mnS_ge {R : Nat → Nat} {v : Nat} (hv : v ≤ 1000) : ∀ n, (∀ s, s < n → v ≤ R s) → v ≤ mnS R n := by
  intro n
  induction n with
  | zero => intro _; exact hv
  | succ n ih => intro h; exact Nat.le_min.mpr ⟨ih (fun s hs => h s (by omega)), h n (by omega)⟩
theorem mnR_ge {R : Nat → Nat} {s v : Nat} (hv : v ≤ 1000) : ∀ n, (∀ t, t < n → v ≤ R t) → v ≤ mnR R s n := by
  intro n
  induction n with
  | zero => intro _; exact hv
  | succ n ih => intro h; exact Nat.le_min.mpr ⟨ih (fun s hs => h s (by omega)), Nat.le_trans (h n (by omega)) (Nat.le_add_right _ _)⟩
theorem nxR_ge {nf : Nat → Nat} {bo : Bool} {c fg s : Nat} {R : Nat → Nat} : mnS R 6 ≤ nxR nf bo c fg R s := by
  unfold nxR
  split
  · exact mnR_ge (mnS_le 6).1 6 (mnS_le 6).2
  · exact (mnS_le 6).1
theorem vlC_mono {nf fr : Nat → Nat} {bo : Bool} {wa : Nat → Nat} {c k b p : Nat} (hp : p < 4) : vlC nf fr bo wa c k b ≤ vlC nf fr bo wa c (k + 1) (b * 4 + p + 1) := by
  unfold vlC
  rw [rwC_s hp]
  exact mnS_ge (mnS_le 6).1 6 (fun s _ => nxR_ge)
theorem vlC_le {nf fr : Nat → Nat} {bo : Bool} {wa : Nat → Nat} {c k m : Nat} : vlC nf fr bo wa c k m ≤ 1000 := (mnS_le 6).1
theorem vlC_0 {nf fr : Nat → Nat} {bo : Bool} {wa : Nat → Nat} {c : Nat} (h : fr c < 6) : vlC nf fr bo wa c 0 0 = 0 := by
  have := (mnS_le (R := rwC nf fr bo wa c 0 0) 6).2 (fr c) h
  have e : rwC nf fr bo wa c 0 0 (fr c) = 0 := if_pos rfl
  unfold vlC
  omega
/-! the class's rows -/
theorem mnW_R {g R : Nat → Nat} {k s : Nat} : ∀ n, (∀ t, t < n → g ((k - 1) * 6 + t) = R t) → mnW g k s n = mnR R s n := by
  intro n
  induction n with
  | zero => intro _; rfl
  | succ n ih =>
    intro h
    unfold mnW mnR
    rw [ih (fun t ht => h t (by omega)), h n (by omega)]
theorem rsT_at {nf : Nat → Nat} {bo : Bool} {c k fg : Nat} {g R : Nat → Nat} (hk : 1 ≤ k) (hR : ∀ t, t < 6 → g ((k - 1) * 6 + t) = R t) : (∀ s, s < 6 → (rsT nf bo c k fg g).1 (k * 6 + s) = nxR nf bo c fg R s) ∧ (∀ j, j < k * 6 → (rsT nf bo c k fg g).1 j = g j) ∧ (rsT nf bo c k fg g).2 = mnS (nxR nf bo c fg R) 6 := by
  have h := iterF_ix (f := rsS nf bo c k fg) (P := fun i x => (∀ s, s < i → x.1 (k * 6 + s) = nxR nf bo c fg R s) ∧ (∀ j, j < k * 6 → x.1 j = g j) ∧ x.2 = mnS (nxR nf bo c fg R) i) 6 0 (g, 1000) ⟨fun s hs => absurd hs (Nat.not_lt_zero _), fun _ _ => rfl, rfl⟩ (by
    intro i y _ hi ⟨h1, h2, h3⟩
    have e : rsW nf bo c k fg y.1 i = nxR nf bo c fg R i := by
      unfold rsW nxR
      rw [mnW_R 6 (fun t ht => (h2 _ (by omega)).trans (hR t ht))]
    refine ⟨fun s hs => ?_, fun j hj => ?_, ?_⟩
    · show mUp y.1 (k * 6 + i) _ (k * 6 + s) = _
      by_cases q : s = i
      · rw [q, mUp_eq, e]
      · rw [mUp_ne _ _ (by omega)]; exact h1 s (by omega)
    · show mUp y.1 (k * 6 + i) _ j = _
      rw [mUp_ne _ _ (by omega)]; exact h2 j hj
    · show min y.2 (rsW nf bo c k fg y.1 i) = min (mnS (nxR nf bo c fg R) i) (nxR nf bo c fg R i)
      rw [e, h3])
  exact h
/-! codes of paths -/
def exP (cu b : Nat) : Nat → Nat → Prop
  | 0, m => m = b
  | j + 1, m => ∃ m' p, exP cu b j m' ∧ p < cu ∧ m = m' * 4 + p + 1
theorem exP_head {cu b : Nat} : ∀ j m, exP cu b (j + 1) m → ∃ p, p < cu ∧ exP cu (b * 4 + p + 1) j m := by
  intro j
  induction j with
  | zero =>
    rintro m ⟨m', p, h1, h2, h3⟩
    have h1' : m' = b := h1
    exact ⟨p, h2, by rw [← h1']; exact h3⟩
  | succ j ih =>
    rintro m ⟨m', p, h1, h2, h3⟩
    obtain ⟨q, hq, hq2⟩ := ih m' h1
    exact ⟨q, hq, m', p, hq2, h2, h3⟩
theorem exP_mono {nf fr : Nat → Nat} {bo : Bool} {wa : Nat → Nat} {c k cu b : Nat} (hcu : cu ≤ 4) : ∀ j m, exP cu b j m → vlC nf fr bo wa c k b ≤ vlC nf fr bo wa c (k + j) m := by
  intro j
  induction j with
  | zero => intro m h; have h' : m = b := h; rw [h']; exact Nat.le_refl _
  | succ j ih =>
    rintro m ⟨m', p, h1, h2, h3⟩
    rw [h3]
    exact Nat.le_trans (ih m' h1) (vlC_mono (by omega))
def dpM (m : Nat) : Nat := if m = 0 then 0 else if m ≤ 4 then 1 else if m ≤ 20 then 2 else 3
theorem exP_dp {cu : Nat} (hcu : cu ≤ 4) {k m : Nat} (hk : k ≤ 3) (h : exP cu 0 k m) : dpM m = k ∧ m < 85 := by
  have e0 : ∀ m, exP cu 0 0 m → m = 0 := fun m h => h
  have e1 : ∀ m, exP cu 0 1 m → 1 ≤ m ∧ m ≤ 4 := by
    rintro m ⟨m', p, h1, h2, h3⟩
    have := e0 m' h1
    omega
  have e2 : ∀ m, exP cu 0 2 m → 5 ≤ m ∧ m ≤ 20 := by
    rintro m ⟨m', p, h1, h2, h3⟩
    have := e1 m' h1
    omega
  have e3 : ∀ m, exP cu 0 3 m → 21 ≤ m ∧ m ≤ 84 := by
    rintro m ⟨m', p, h1, h2, h3⟩
    have := e2 m' h1
    omega
  rcases (show k = 0 ∨ k = 1 ∨ k = 2 ∨ k = 3 by omega) with rfl | rfl | rfl | rfl
  · have := e0 m h
    rw [this]; exact ⟨rfl, by decide⟩
  · have := e1 m h
    unfold dpM
    exact ⟨by rw [if_neg (by omega), if_pos (by omega)], by omega⟩
  · have := e2 m h
    unfold dpM
    exact ⟨by rw [if_neg (by omega), if_neg (by omega), if_pos (by omega)], by omega⟩
  · have := e3 m h
    unfold dpM
    exact ⟨by rw [if_neg (by omega), if_neg (by omega), if_neg (by omega)], by omega⟩
/-- a table of turns is right -/
def tOK (nf fr : Nat → Nat) (bo : Bool) (cu la : Nat) (wa T : Nat → Nat) (c : Nat) : Prop := T (c * 85 + 0) = 0 ∧ ∀ k b p, k < la → exP cu 0 k b → p < cu → vlC nf fr bo wa c k b < 1000 → T (c * 85 + (b * 4 + p + 1)) = vlC nf fr bo wa c (k + 1) (b * 4 + p + 1)
abbrev mPa : Type := (Nat → Nat) × (Nat → Nat)
def rpI (nf fr : Nat → Nat) (bo : Bool) (wa : Nat → Nat) (c k : Nat) (x y : mPa) : Prop := (∀ j, j < k * 6 → y.1 j = x.1 j) ∧ (∀ m, m < 85 → x.2 (c * 85 + m) = vlC nf fr bo wa c (dpM m) m → y.2 (c * 85 + m) = vlC nf fr bo wa c (dpM m) m) ∧ ∀ j, (∀ m, m < 85 → j ≠ c * 85 + m) → y.2 j = x.2 j
theorem rpI.tr {nf fr : Nat → Nat} {bo : Bool} {wa : Nat → Nat} {c k k' : Nat} {x y z : mPa} (hk : k ≤ k') (h1 : rpI nf fr bo wa c k x y) (h2 : rpI nf fr bo wa c k' y z) : rpI nf fr bo wa c k x z := ⟨fun j hj => (h2.1 j (by omega)).trans (h1.1 j hj), fun m hm h => h2.2.1 m hm (h1.2.1 m hm h), fun j hj => (h2.2.2 j hj).trans (h1.2.2 j hj)⟩
theorem rpF_ok {nf fr : Nat → Nat} {bo : Bool} {wa : Nat → Nat} {c cu la : Nat} (hcu : cu ≤ 4) (hla : la ≤ 3) : ∀ r k b x, 1 ≤ k → k + r = la + 1 → exP cu 0 (k - 1) b → (∀ s, s < 6 → x.1 ((k - 1) * 6 + s) = rwC nf fr bo wa c (k - 1) b s) →
    rpI nf fr bo wa c k x (rpF nf bo cu wa c r k b x) ∧ ∀ j b' p, k - 1 + j < la → exP cu b j b' → p < cu → vlC nf fr bo wa c (k - 1 + j) b' < 1000 → (rpF nf bo cu wa c r k b x).2 (c * 85 + (b' * 4 + p + 1)) = vlC nf fr bo wa c (k - 1 + j + 1) (b' * 4 + p + 1) := by
  intro r
  induction r with
  | zero => intro k b x _ hk _ _; exact ⟨⟨fun _ _ => rfl, fun _ _ h => h, fun _ _ => rfl⟩, fun j b' p hj => absurd hj (by omega)⟩
  | succ r ih =>
    intro k b x hk1 hkr hb hx
    obtain ⟨k, rfl⟩ : ∃ k', k = k' + 1 := ⟨k - 1, by omega⟩
    rw [show k + 1 - 1 = k by omega] at hb hx ⊢
    have h := iterF_ix (f := rpS nf bo wa c (k + 1) b (fun b' y => rpF nf bo cu wa c r (k + 1 + 1) b' y)) (P := fun i y => rpI nf fr bo wa c (k + 1) x y ∧ ∀ p0, p0 < i → y.2 (c * 85 + (b * 4 + p0 + 1)) = vlC nf fr bo wa c (k + 1) (b * 4 + p0 + 1) ∧ ∀ j b' p, k + 1 + j < la → exP cu (b * 4 + p0 + 1) j b' → p < cu → vlC nf fr bo wa c (k + 1 + j) b' < 1000 → y.2 (c * 85 + (b' * 4 + p + 1)) = vlC nf fr bo wa c (k + 1 + j + 1) (b' * 4 + p + 1)) cu 0 x ⟨⟨fun _ _ => rfl, fun _ _ h => h, fun _ _ => rfl⟩, fun p0 hp0 => absurd hp0 (Nat.not_lt_zero _)⟩ (by
      intro i y _ hi ⟨hI, hP⟩
      have hex : exP cu 0 (k + 1) (b * 4 + i + 1) := ⟨b, i, hb, by omega, rfl⟩
      have hdp := exP_dp hcu (by omega) hex
      have hs := rsT_at (nf := nf) (bo := bo) (c := c) (fg := wa ((k + 1) * 4 + i)) (k := k + 1) (g := y.1) (R := rwC nf fr bo wa c k b) (by omega) (fun t ht => by
        rw [show k + 1 - 1 = k by omega, hI.1 _ (by omega)]; exact hx t ht)
      rw [← rwC_s (fr := fr) (show i < 4 by omega)] at hs
      have hv : (rsT nf bo c (k + 1) (wa ((k + 1) * 4 + i)) y.1).2 = vlC nf fr bo wa c (k + 1) (b * 4 + i + 1) := hs.2.2
      -- behind the write
      have hW : rpI nf fr bo wa c (k + 1) y ((rsT nf bo c (k + 1) (wa ((k + 1) * 4 + i)) y.1).1, mUp y.2 (c * 85 + (b * 4 + i + 1)) (rsT nf bo c (k + 1) (wa ((k + 1) * 4 + i)) y.1).2) := by
        refine ⟨hs.2.1, fun m hm h => ?_, fun j hj => ?_⟩
        · dsimp only
          by_cases e : m = b * 4 + i + 1
          · rw [e, mUp_eq, hv, hdp.1]
          · rw [mUp_ne _ _ (by omega)]; exact h
        · dsimp only
          rw [mUp_ne _ _ (hj _ hdp.2)]
      have hnew : mUp y.2 (c * 85 + (b * 4 + i + 1)) (rsT nf bo c (k + 1) (wa ((k + 1) * 4 + i)) y.1).2 (c * 85 + (b * 4 + i + 1)) = vlC nf fr bo wa c (dpM (b * 4 + i + 1)) (b * 4 + i + 1) := by rw [mUp_eq, hv, hdp.1]
      -- what was right stays right
      have keep : ∀ z, rpI nf fr bo wa c (k + 1) y z → ∀ p0, p0 < i → z.2 (c * 85 + (b * 4 + p0 + 1)) = vlC nf fr bo wa c (k + 1) (b * 4 + p0 + 1) ∧ ∀ j b' p, k + 1 + j < la → exP cu (b * 4 + p0 + 1) j b' → p < cu → vlC nf fr bo wa c (k + 1 + j) b' < 1000 → z.2 (c * 85 + (b' * 4 + p + 1)) = vlC nf fr bo wa c (k + 1 + j + 1) (b' * 4 + p + 1) := by
        intro z hz p0 hp0
        have hex0 : exP cu 0 (k + 1) (b * 4 + p0 + 1) := ⟨b, p0, hb, by omega, rfl⟩
        have hd0 := exP_dp hcu (by omega) hex0
        have app : ∀ j m, exP cu (b * 4 + p0 + 1) j m → exP cu 0 (k + 1 + j) m := by
          intro j
          induction j with
          | zero => intro m h; have h' : m = b * 4 + p0 + 1 := h; rw [h']; exact hex0
          | succ j ihj => rintro m ⟨m', p, g1, g2, g3⟩; exact ⟨m', p, ihj m' g1, g2, g3⟩
        refine ⟨?_, fun j b' p hj hb' hp hlt => ?_⟩
        · have := hz.2.1 _ hd0.2 (by rw [hd0.1]; exact (hP p0 hp0).1)
          rw [hd0.1] at this; exact this
        · have hex1 : exP cu 0 (k + 1 + j + 1) (b' * 4 + p + 1) := ⟨b', p, app j b' hb', hp, rfl⟩
          have hd1 := exP_dp hcu (by omega) hex1
          have := hz.2.1 _ hd1.2 (by rw [hd1.1]; exact (hP p0 hp0).2 j b' p hj hb' hp hlt)
          rw [hd1.1] at this; exact this
      have hgoal : ∀ z, rpI nf fr bo wa c (k + 1) y z → (z.2 (c * 85 + (b * 4 + i + 1)) = vlC nf fr bo wa c (k + 1) (b * 4 + i + 1)) → (∀ j b' p, k + 1 + j < la → exP cu (b * 4 + i + 1) j b' → p < cu → vlC nf fr bo wa c (k + 1 + j) b' < 1000 → z.2 (c * 85 + (b' * 4 + p + 1)) = vlC nf fr bo wa c (k + 1 + j + 1) (b' * 4 + p + 1)) → rpI nf fr bo wa c (k + 1) x z ∧ ∀ p0, p0 < i + 1 → z.2 (c * 85 + (b * 4 + p0 + 1)) = vlC nf fr bo wa c (k + 1) (b * 4 + p0 + 1) ∧ ∀ j b' p, k + 1 + j < la → exP cu (b * 4 + p0 + 1) j b' → p < cu → vlC nf fr bo wa c (k + 1 + j) b' < 1000 → z.2 (c * 85 + (b' * 4 + p + 1)) = vlC nf fr bo wa c (k + 1 + j + 1) (b' * 4 + p + 1) := by
        intro z hz g1 g2
        refine ⟨hI.tr (Nat.le_refl _) hz, fun p0 hp0 => ?_⟩
        by_cases e : p0 = i
        · rw [e]; exact ⟨g1, g2⟩
        · exact keep z hz p0 (by omega)
      unfold rpS
      split
      · rename_i hlt
        have hr := ih (k + 1 + 1) (b * 4 + i + 1) ((rsT nf bo c (k + 1) (wa ((k + 1) * 4 + i)) y.1).1, mUp y.2 (c * 85 + (b * 4 + i + 1)) (rsT nf bo c (k + 1) (wa ((k + 1) * 4 + i)) y.1).2) (by omega) (by omega) hex (fun s hs' => hs.1 s hs')
        rw [show k + 1 + 1 - 1 = k + 1 by omega] at hr
        refine hgoal _ (hW.tr (by omega) hr.1) ?_ hr.2
        have := hr.1.2.1 _ hdp.2 hnew
        rw [hdp.1] at this; exact this
      · rename_i hge
        refine hgoal _ hW (by rw [hdp.1] at hnew; exact hnew) (fun j b' p hj hb' hp hlt => ?_)
        have := exP_mono (nf := nf) (fr := fr) (bo := bo) (wa := wa) (c := c) (k := k + 1) hcu j b' hb'
        rw [hv] at hge
        omega)
    rw [Nat.zero_add] at h
    refine ⟨h.1, fun j b' p hj hb' hp hlt => ?_⟩
    cases j with
    | zero =>
      have e : b' = b := hb'
      rw [e]
      exact (h.2 p hp).1
    | succ j =>
      obtain ⟨p0, hp0, hp1⟩ := exP_head j b' hb'
      rw [show k + (j + 1) = k + 1 + j by omega] at hj hlt ⊢
      exact (h.2 p0 hp0).2 j b' p hj hp1 hp hlt
theorem rtF_ok {nf fr : Nat → Nat} {bo : Bool} {wa : Nat → Nat} {c cu la : Nat} (hcu : cu ≤ 4) (hla : la ≤ 3) (hfr : fr c < 6) (x : mPa) : tOK nf fr bo cu la wa (rtF nf fr bo cu wa la c x).2 c ∧ ∀ j, (∀ m, m < 85 → j ≠ c * 85 + m) → (rtF nf fr bo cu wa la c x).2 j = x.2 j := by
  have h0 := iterF_ix (f := rtI fr c) (P := fun i g => ∀ s, s < i → g s = if s = fr c then 0 else 1000) 6 0 x.1 (fun s hs => absurd hs (Nat.not_lt_zero _)) (by
    intro i g _ hi h s hs
    unfold rtI
    by_cases e : s = i
    · rw [e, mUp_eq]
    · rw [mUp_ne _ _ e]; exact h s (by omega))
  have h := rpF_ok (nf := nf) (fr := fr) (bo := bo) (wa := wa) (c := c) hcu hla la 1 0 (iterF (rtI fr c) 0 6 x.1, mUp x.2 (c * 85 + 0) 0) (Nat.le_refl _) (by omega) rfl (fun s hs => by
    rw [show (1 - 1) * 6 + s = s by omega]
    exact h0 s (by omega))
  refine ⟨⟨?_, fun k b p hk hb hp hlt => ?_⟩, fun j hj => ?_⟩
  · have := h.1.2.1 0 (by decide) ((mUp_eq x.2 (c * 85 + 0) 0).trans (vlC_0 hfr).symm)
    exact this.trans (vlC_0 hfr)
  · have := h.2 k b p (by omega) hb hp (by rw [show 1 - 1 + k = k by omega]; exact hlt)
    rw [show 1 - 1 + k = k by omega] at this
    exact this
  · refine (h.1.2.2 j hj).trans ?_
    dsimp only
    rw [mUp_ne _ _ (hj 0 (by decide))]
