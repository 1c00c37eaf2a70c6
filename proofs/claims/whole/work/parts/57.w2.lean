/-! the least work of one cube's turns: both sides -/
/-- a way of a cube along its path that ends with side s in front, and its work -/
def wyQ (nf fr : Nat → Nat) (bo : Bool) (wa : Nat → Nat) (c : Nat) : Nat → Nat → Nat → Nat → Prop
  | 0, _, s, w => s = fr c ∧ w = 0
  | k + 1, m, s, w => fit bo (nf (c * 6 + s)) (wa ((k + 1) * 4 + (m - 1) % 4)) = true ∧ ∃ t, t < 6 ∧ ∃ w', wyQ nf fr bo wa c k ((m - 1) / 4) t w' ∧ w = w' + tW t s
theorem wyQ_le {nf fr : Nat → Nat} {bo : Bool} {wa : Nat → Nat} {c : Nat} : ∀ k m s w, wyQ nf fr bo wa c k m s w → w ≤ 2 * k := by
  intro k
  induction k with
  | zero => rintro m s w ⟨_, h⟩; omega
  | succ k ih =>
    rintro m s w ⟨_, t, _, w', h1, h2⟩
    have := ih _ _ _ h1
    have := tW_le t s
    omega
theorem mnR_mF {R : Nat → Nat} {s : Nat} {Q : Nat → Nat → Prop} : ∀ n, (∀ t, t < n → mF 1000 (Q t) (R t)) → mF 1000 (fun w => ∃ t, t < n ∧ ∃ w', Q t w' ∧ w = w' + tW t s) (mnR R s n) := by
  intro n
  induction n with
  | zero => intro _; exact mF.no (fun w ⟨t, ht, _⟩ => absurd ht (Nat.not_lt_zero _))
  | succ n ih =>
    intro h
    have h1 := ih (fun t ht => h t (by omega))
    have h2 := h n (by omega)
    refine ⟨Nat.le_trans (Nat.min_le_left _ _) h1.1, fun w hw => ?_, ?_⟩
    · obtain ⟨t, ht, w', hw', e⟩ := hw
      by_cases q : t = n
      · rw [q] at hw' e
        have := h2.2.1 w' hw'
        have := Nat.min_le_right (mnR R s n) (R n + tW n s)
        show min (mnR R s n) (R n + tW n s) ≤ w
        omega
      · exact Nat.le_trans (Nat.min_le_left _ _) (h1.2.1 w ⟨t, by omega, w', hw', e⟩)
    · show min (mnR R s n) (R n + tW n s) = 1000 ∨ _
      rcases Nat.le_total (mnR R s n) (R n + tW n s) with q | q
      · rw [Nat.min_eq_left q]
        rcases h1.2.2 with e | ⟨t, ht, g⟩
        · exact Or.inl e
        · right
          show ∃ t, t < n + 1 ∧ ∃ w', Q t w' ∧ min (mnR R s n) (R n + tW n s) = w' + tW t s
          rw [Nat.min_eq_left q]
          exact ⟨t, by omega, g⟩
      · rcases h2.2.2 with e | g
        · left
          have := h1.1
          rw [Nat.min_eq_right q]
          omega
        · right
          refine ⟨n, by omega, R n, g, ?_⟩
          show min (mnR R s n) (R n + tW n s) = _
          rw [Nat.min_eq_right q]
theorem mnS_mF {R : Nat → Nat} {Q : Nat → Nat → Prop} : ∀ n, (∀ t, t < n → mF 1000 (Q t) (R t)) → mF 1000 (fun w => ∃ t, t < n ∧ Q t w) (mnS R n) := by
  intro n
  induction n with
  | zero => intro _; exact mF.no (fun w ⟨t, ht, _⟩ => absurd ht (Nat.not_lt_zero _))
  | succ n ih =>
    intro h
    have h1 := ih (fun t ht => h t (by omega))
    have h2 := h n (by omega)
    refine ⟨Nat.le_trans (Nat.min_le_left _ _) h1.1, fun w hw => ?_, ?_⟩
    · obtain ⟨t, ht, hw'⟩ := hw
      by_cases q : t = n
      · rw [q] at hw'
        exact Nat.le_trans (Nat.min_le_right _ _) (h2.2.1 w hw')
      · exact Nat.le_trans (Nat.min_le_left _ _) (h1.2.1 w ⟨t, by omega, hw'⟩)
    · show min (mnS R n) (R n) = 1000 ∨ ∃ t, t < n + 1 ∧ Q t (min (mnS R n) (R n))
      rcases Nat.le_total (mnS R n) (R n) with q | q
      · rw [Nat.min_eq_left q]
        rcases h1.2.2 with e | ⟨t, ht, g⟩
        · exact Or.inl e
        · exact Or.inr ⟨t, by omega, g⟩
      · rw [Nat.min_eq_right q]
        rcases h2.2.2 with e | g
        · exact Or.inl e
        · exact Or.inr ⟨n, by omega, g⟩
theorem rwC_mF {nf fr : Nat → Nat} {bo : Bool} {wa : Nat → Nat} {c : Nat} : ∀ k m s, mF 1000 (wyQ nf fr bo wa c k m s) (rwC nf fr bo wa c k m s) := by
  intro k
  induction k with
  | zero =>
    intro m s
    show mF 1000 (fun w => s = fr c ∧ w = 0) (if s = fr c then 0 else 1000)
    by_cases e : s = fr c
    · rw [if_pos e]; exact ⟨by decide, fun w _ => Nat.zero_le _, Or.inr ⟨e, rfl⟩⟩
    · rw [if_neg e]; exact mF.no (fun w hw => absurd hw.1 e)
  | succ k ih =>
    intro m s
    show mF 1000 (fun w => fit bo (nf (c * 6 + s)) (wa ((k + 1) * 4 + (m - 1) % 4)) = true ∧ ∃ t, t < 6 ∧ ∃ w', wyQ nf fr bo wa c k ((m - 1) / 4) t w' ∧ w = w' + tW t s) (nxR nf bo c (wa ((k + 1) * 4 + (m - 1) % 4)) (rwC nf fr bo wa c k ((m - 1) / 4)) s)
    unfold nxR
    split
    · rename_i q
      exact (mnR_mF 6 (fun t _ => ih ((m - 1) / 4) t)).iff (fun w => ⟨fun h => h.2, fun h => ⟨q, h⟩⟩)
    · rename_i q
      exact mF.no (fun w hw => absurd hw.1 q)
theorem vlC_mF {nf fr : Nat → Nat} {bo : Bool} {wa : Nat → Nat} {c k m : Nat} : mF 1000 (fun w => ∃ s, s < 6 ∧ wyQ nf fr bo wa c k m s w) (vlC nf fr bo wa c k m) := mnS_mF 6 (fun s _ => rwC_mF k m s)
/-! the reference's -/
theorem tf1 {nw : Nat → Nat} {bo : Bool} {c fi se th : Nat} : mF 100000 (fun w => ∃ a, a < 6 ∧ fit bo (nw (6 * c + a)) fi = true ∧ w = tW (nw (28 + c)) a) (tfR nw bo c fi se th 1) := by
  have h := mF.iter (f := t1S nw bo c fi se th 1) (P := fun a w => fit bo (nw (6 * c + a)) fi = true ∧ w = tW (nw (28 + c)) a) 6 0 100000 (by
    intro a b _ _
    unfold t1S
    split
    · rename_i q
      rw [if_neg (by decide)]
      show mF b _ (if 1 = 1 then min b (tW (nw (28 + c)) a) else b)
      rw [if_pos rfl]
      exact (mF.one b _).iff (fun w => ⟨fun h => h.2, fun h => ⟨q, h⟩⟩)
    · rename_i q
      exact mF.no (fun w hw => absurd hw.1 q))
  exact h.iff (fun w => ⟨fun ⟨a, h1, h2⟩ => ⟨a, Nat.zero_le _, by omega, h2⟩, fun ⟨a, _, h1, h2⟩ => ⟨a, by omega, h2⟩⟩)
theorem tf2 {nw : Nat → Nat} {bo : Bool} {c fi se th : Nat} : mF 100000 (fun w => ∃ a, a < 6 ∧ fit bo (nw (6 * c + a)) fi = true ∧ ∃ b, b < 6 ∧ fit bo (nw (6 * c + b)) se = true ∧ w = tW (nw (28 + c)) a + tW a b) (tfR nw bo c fi se th 2) := by
  have h := mF.iter (f := t1S nw bo c fi se th 2) (P := fun a w => fit bo (nw (6 * c + a)) fi = true ∧ ∃ b, b < 6 ∧ fit bo (nw (6 * c + b)) se = true ∧ w = tW (nw (28 + c)) a + tW a b) 6 0 100000 (by
    intro a bb _ _
    unfold t1S
    split
    · rename_i q
      rw [if_pos (by decide)]
      have e : t1B 2 bb (tW (nw (28 + c)) a) = bb := if_neg (by decide)
      rw [e]
      have h2 := mF.iter (f := t2S nw bo c se th 2 (tW (nw (28 + c)) a) a) (P := fun b w => fit bo (nw (6 * c + b)) se = true ∧ w = tW (nw (28 + c)) a + tW a b) 6 0 bb (by
        intro b b3 _ _
        unfold t2S
        split
        · rename_i q2
          rw [if_neg (by decide)]
          show mF b3 _ (if 2 = 2 then min b3 (tW (nw (28 + c)) a + tW a b) else b3)
          rw [if_pos rfl]
          exact (mF.one b3 _).iff (fun w => ⟨fun h => h.2, fun h => ⟨q2, h⟩⟩)
        · rename_i q2
          exact mF.no (fun w hw => absurd hw.1 q2))
      exact h2.iff (fun w => ⟨fun ⟨_, b, h1, h2⟩ => ⟨b, Nat.zero_le _, by omega, h2⟩, fun ⟨b, _, h1, h2⟩ => ⟨q, b, by omega, h2⟩⟩)
    · rename_i q
      exact mF.no (fun w hw => absurd hw.1 q))
  exact h.iff (fun w => ⟨fun ⟨a, h1, h2⟩ => ⟨a, Nat.zero_le _, by omega, h2⟩, fun ⟨a, _, h1, h2⟩ => ⟨a, by omega, h2⟩⟩)
theorem tf3 {nw : Nat → Nat} {bo : Bool} {c fi se th : Nat} : mF 100000 (fun w => ∃ a, a < 6 ∧ fit bo (nw (6 * c + a)) fi = true ∧ ∃ b, b < 6 ∧ fit bo (nw (6 * c + b)) se = true ∧ ∃ d, d < 6 ∧ fit bo (nw (6 * c + d)) th = true ∧ w = tW (nw (28 + c)) a + tW a b + tW b d) (tfR nw bo c fi se th 3) := by
  have h := mF.iter (f := t1S nw bo c fi se th 3) (P := fun a w => fit bo (nw (6 * c + a)) fi = true ∧ ∃ b, b < 6 ∧ fit bo (nw (6 * c + b)) se = true ∧ ∃ d, d < 6 ∧ fit bo (nw (6 * c + d)) th = true ∧ w = tW (nw (28 + c)) a + tW a b + tW b d) 6 0 100000 (by
    intro a bb _ _
    unfold t1S
    split
    · rename_i q
      rw [if_pos (by decide)]
      have e : t1B 3 bb (tW (nw (28 + c)) a) = bb := if_neg (by decide)
      rw [e]
      have h2 := mF.iter (f := t2S nw bo c se th 3 (tW (nw (28 + c)) a) a) (P := fun b w => fit bo (nw (6 * c + b)) se = true ∧ ∃ d, d < 6 ∧ fit bo (nw (6 * c + d)) th = true ∧ w = tW (nw (28 + c)) a + tW a b + tW b d) 6 0 bb (by
        intro b b3 _ _
        unfold t2S
        split
        · rename_i q2
          rw [if_pos (by decide)]
          have e2 : t2B 3 b3 (tW (nw (28 + c)) a + tW a b) = b3 := if_neg (by decide)
          rw [e2]
          have h3 := mF.iter (f := t3S nw bo c th (tW (nw (28 + c)) a + tW a b) b) (P := fun d w => fit bo (nw (6 * c + d)) th = true ∧ w = tW (nw (28 + c)) a + tW a b + tW b d) 6 0 b3 (by
            intro d b4 _ _
            unfold t3S
            split
            · rename_i q3
              exact (mF.one b4 _).iff (fun w => ⟨fun h => h.2, fun h => ⟨q3, h⟩⟩)
            · rename_i q3
              exact mF.no (fun w hw => absurd hw.1 q3))
          exact h3.iff (fun w => ⟨fun ⟨_, d, h1, h2⟩ => ⟨d, Nat.zero_le _, by omega, h2⟩, fun ⟨d, _, h1, h2⟩ => ⟨q2, d, by omega, h2⟩⟩)
        · rename_i q2
          exact mF.no (fun w hw => absurd hw.1 q2))
      exact h2.iff (fun w => ⟨fun ⟨_, b, h1, h2⟩ => ⟨b, Nat.zero_le _, by omega, h2⟩, fun ⟨b, _, h1, h2⟩ => ⟨q, b, by omega, h2⟩⟩)
    · rename_i q
      exact mF.no (fun w hw => absurd hw.1 q))
  exact h.iff (fun w => ⟨fun ⟨a, h1, h2⟩ => ⟨a, Nat.zero_le _, by omega, h2⟩, fun ⟨a, _, h1, h2⟩ => ⟨a, by omega, h2⟩⟩)
/-! a cube's way through orders -/
def pthO (cu : Nat) (o : Nat → Nat) (c : Nat) : Nat → Nat
  | 0 => 0
  | k + 1 => pthO cu o c k * 4 + plF (cIn (o (k + 1))) c cu + 1
theorem plF_cu {g : Nat → Nat} {c cu : Nat} (h : 0 < cu) : plF g c cu < cu := by
  cases cu with
  | zero => exact absurd h (Nat.lt_irrefl _)
  | succ n =>
    unfold plF
    split
    · omega
    · exact plF_lt g c n
theorem pthO_ex {cu c : Nat} {o : Nat → Nat} (h : 0 < cu) : ∀ k, exP cu 0 k (pthO cu o c k) := by
  intro k
  induction k with
  | zero => rfl
  | succ k ih => exact ⟨_, _, ih, plF_cu h, rfl⟩
/-- what the reference reckons for it -/
def tfO (nw : Nat → Nat) (bo : Bool) (cu fm my : Nat) (o : Nat → Nat) (c : Nat) : Nat := ttT nw bo cu fm my c (plF (cIn (o 1)) c cu) (plF (cIn (o 2)) c cu) (plF (cIn (o 3)) c cu)
def waOK (cu fm la : Nat) (wa : Nat → Nat) : Prop := ∀ k p, 1 ≤ k → k ≤ la → p < cu → wa (k * 4 + p) = fgo cu (fm + k - 1) p
theorem wyQ_s {nf fr : Nat → Nat} {bo : Bool} {wa : Nat → Nat} {c k b p s w : Nat} (hp : p < 4) : wyQ nf fr bo wa c (k + 1) (b * 4 + p + 1) s w ↔ fit bo (nf (c * 6 + s)) (wa ((k + 1) * 4 + p)) = true ∧ ∃ t, t < 6 ∧ ∃ w', wyQ nf fr bo wa c k b t w' ∧ w = w' + tW t s := by
  show (fit bo (nf (c * 6 + s)) (wa ((k + 1) * 4 + (b * 4 + p + 1 - 1) % 4)) = true ∧ ∃ t, t < 6 ∧ ∃ w', wyQ nf fr bo wa c k ((b * 4 + p + 1 - 1) / 4) t w' ∧ w = w' + tW t s) ↔ _
  rw [show (b * 4 + p + 1 - 1) % 4 = p by omega, show (b * 4 + p + 1 - 1) / 4 = b by omega]
theorem tf_mF {nw nf fr : Nat → Nat} {bo : Bool} {cu fm la c : Nat} {wa o : Nat → Nat} (hcu : cu ≤ 4) (hc : c < cu) (hl1 : 1 ≤ la) (hl3 : la ≤ 3) (hnf : ∀ j, j < cu * 6 → nw j = nf j) (hfr : nw (28 + c) = fr c) (hf6 : fr c < 6) (hwa : waOK cu fm la wa) : mF 100000 (fun w => ∃ s, s < 6 ∧ wyQ nf fr bo wa c la (pthO cu o c la) s w) (tfO nw bo cu fm la o c) := by
  have hp : ∀ i, plF (cIn (o i)) c cu < cu := fun i => plF_cu (by omega)
  have e : ∀ a, a < 6 → nw (6 * c + a) = nf (c * 6 + a) := fun a ha => by rw [Nat.mul_comm 6]; exact hnf _ (by omega)
  have w1 : wa (1 * 4 + plF (cIn (o 1)) c cu) = fgo cu fm (plF (cIn (o 1)) c cu) := hwa 1 _ (by omega) hl1 (hp 1)
  have e0 : ∀ t w, wyQ nf fr bo wa c 0 (pthO cu o c 0) t w ↔ t = fr c ∧ w = 0 := fun t w => Iff.rfl
  have e1 : ∀ s w, wyQ nf fr bo wa c 1 (pthO cu o c 1) s w ↔ fit bo (nf (c * 6 + s)) (fgo cu fm (plF (cIn (o 1)) c cu)) = true ∧ w = tW (fr c) s := by
    intro s w
    rw [show pthO cu o c 1 = pthO cu o c 0 * 4 + plF (cIn (o 1)) c cu + 1 from rfl, wyQ_s (Nat.lt_of_lt_of_le (hp 1) hcu), w1]
    constructor
    · rintro ⟨h1, t, h2, w', h3, h4⟩
      rw [e0] at h3
      rw [h3.1, h3.2, Nat.zero_add] at h4
      exact ⟨h1, h4⟩
    · rintro ⟨h1, h2⟩
      exact ⟨h1, fr c, hf6, 0, (e0 _ _).mpr ⟨rfl, rfl⟩, by omega⟩
  rcases (show la = 1 ∨ la = 2 ∨ la = 3 by omega) with rfl | rfl | rfl
  · refine tf1.iff (fun w => ?_)
    constructor
    · rintro ⟨s, hs, h⟩
      rw [e1] at h
      exact ⟨s, hs, by rw [e s hs]; exact h.1, by rw [hfr]; exact h.2⟩
    · rintro ⟨a, ha, h1, h2⟩
      rw [e a ha] at h1
      rw [hfr] at h2
      exact ⟨a, ha, (e1 a w).mpr ⟨h1, h2⟩⟩
  · have w2 : wa ((1 + 1) * 4 + plF (cIn (o 2)) c cu) = fgo cu (fm + 1) (plF (cIn (o 2)) c cu) := hwa 2 _ (by omega) (by omega) (hp 2)
    refine tf2.iff (fun w => ?_)
    rw [show pthO cu o c 2 = pthO cu o c 1 * 4 + plF (cIn (o 2)) c cu + 1 from rfl]
    constructor
    · rintro ⟨s, hs, h⟩
      rw [wyQ_s (Nat.lt_of_lt_of_le (hp 2) hcu), w2] at h
      obtain ⟨h1, t, ht, w', h2, h3⟩ := h
      rw [e1] at h2
      exact ⟨t, ht, by rw [e t ht]; exact h2.1, s, hs, by rw [e s hs]; exact h1, by rw [hfr, h3, h2.2]⟩
    · rintro ⟨a, ha, h1, b, hb, h2, h3⟩
      rw [e a ha] at h1
      rw [e b hb] at h2
      rw [hfr] at h3
      exact ⟨b, hb, (wyQ_s (Nat.lt_of_lt_of_le (hp 2) hcu)).mpr ⟨by rw [w2]; exact h2, a, ha, _, (e1 a _).mpr ⟨h1, rfl⟩, h3⟩⟩
  · have w2 : wa ((1 + 1) * 4 + plF (cIn (o 2)) c cu) = fgo cu (fm + 1) (plF (cIn (o 2)) c cu) := hwa 2 _ (by omega) (by omega) (hp 2)
    have w3 : wa ((2 + 1) * 4 + plF (cIn (o 3)) c cu) = fgo cu (fm + 2) (plF (cIn (o 3)) c cu) := hwa 3 _ (by omega) (by omega) (hp 3)
    refine tf3.iff (fun w => ?_)
    rw [show pthO cu o c 3 = (pthO cu o c 1 * 4 + plF (cIn (o 2)) c cu + 1) * 4 + plF (cIn (o 3)) c cu + 1 from rfl]
    constructor
    · rintro ⟨s, hs, h⟩
      rw [wyQ_s (Nat.lt_of_lt_of_le (hp 3) hcu), w3] at h
      obtain ⟨h1, t, ht, w', h2, h3⟩ := h
      rw [wyQ_s (Nat.lt_of_lt_of_le (hp 2) hcu), w2] at h2
      obtain ⟨g1, u, hu, w'', g2, g3⟩ := h2
      rw [e1] at g2
      exact ⟨u, hu, by rw [e u hu]; exact g2.1, t, ht, by rw [e t ht]; exact g1, s, hs, by rw [e s hs]; exact h1, by rw [hfr, h3, g3, g2.2]⟩
    · rintro ⟨a, ha, h1, b, hb, h2, d, hd, h3, h4⟩
      rw [e a ha] at h1
      rw [e b hb] at h2
      rw [e d hd] at h3
      rw [hfr] at h4
      exact ⟨d, hd, (wyQ_s (Nat.lt_of_lt_of_le (hp 3) hcu)).mpr ⟨by rw [w3]; exact h3, b, hb, _, (wyQ_s (Nat.lt_of_lt_of_le (hp 2) hcu)).mpr ⟨by rw [w2]; exact h2, a, ha, _, (e1 a _).mpr ⟨h1, rfl⟩, rfl⟩, h4⟩⟩
/-- both are alike, or there is no way -/
theorem vl_tf {nw nf fr : Nat → Nat} {bo : Bool} {cu fm la c : Nat} {wa o : Nat → Nat} (hcu : cu ≤ 4) (hc : c < cu) (hl1 : 1 ≤ la) (hl3 : la ≤ 3) (hnf : ∀ j, j < cu * 6 → nw j = nf j) (hfr : nw (28 + c) = fr c) (hf6 : fr c < 6) (hwa : waOK cu fm la wa) : (vlC nf fr bo wa c la (pthO cu o c la) ≤ 6 ∧ tfO nw bo cu fm la o c = vlC nf fr bo wa c la (pthO cu o c la)) ∨ (vlC nf fr bo wa c la (pthO cu o c la) = 1000 ∧ tfO nw bo cu fm la o c = 100000) := by
  have h1 := vlC_mF (nf := nf) (fr := fr) (bo := bo) (wa := wa) (c := c) (k := la) (m := pthO cu o c la)
  have h2 := tf_mF (bo := bo) (o := o) hcu hc hl1 hl3 hnf hfr hf6 hwa
  have hle : ∀ w, (∃ s, s < 6 ∧ wyQ nf fr bo wa c la (pthO cu o c la) s w) → w ≤ 6 := fun w ⟨s, _, h⟩ => by
    have := wyQ_le _ _ _ _ h
    omega
  rcases h1.2.2 with e | e
  · rcases h2.2.2 with e2 | e2
    · exact Or.inr ⟨e, e2⟩
    · have := h1.2.1 _ e2
      have := hle _ e2
      omega
  · have g1 := hle _ e
    have g2 := h2.2.1 _ e
    rcases h2.2.2 with e2 | e2
    · omega
    · have := h1.2.1 _ e2
      exact Or.inl ⟨g1, by omega⟩
/-- who has a way has fitting sides -/
theorem wy_fit {nf fr : Nat → Nat} {bo : Bool} {cu c : Nat} {wa o : Nat → Nat} (hcu : cu ≤ 4) (hc : c < cu) : ∀ k, (∃ s, s < 6 ∧ ∃ w, wyQ nf fr bo wa c k (pthO cu o c k) s w) → ∀ i, 1 ≤ i → i ≤ k → ∃ s, s < 6 ∧ fit bo (nf (c * 6 + s)) (wa (i * 4 + plF (cIn (o i)) c cu)) = true := by
  intro k
  induction k with
  | zero => intro _ i h1 h2; omega
  | succ k ih =>
    rintro ⟨s, hs, w, h⟩ i h1 h2
    rw [show pthO cu o c (k + 1) = pthO cu o c k * 4 + plF (cIn (o (k + 1))) c cu + 1 from rfl, wyQ_s (Nat.lt_of_lt_of_le (plF_cu (by omega)) hcu)] at h
    by_cases e : i = k + 1
    · rw [e]; exact ⟨s, hs, h.1⟩
    · obtain ⟨_, t, ht, w', g, _⟩ := h
      exact ih ⟨t, ht, w', g⟩ i h1 (by omega)
