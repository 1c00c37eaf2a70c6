/-! the least work: both sides agree -/
theorem tOK_cong {nf fr : Nat → Nat} {bo : Bool} {cu la : Nat} {wa T T' : Nat → Nat} {c : Nat} (hcu : cu ≤ 4) (hla : la ≤ 3) (h : tOK nf fr bo cu la wa T c) (e : ∀ m, m < 85 → T' (c * 85 + m) = T (c * 85 + m)) : tOK nf fr bo cu la wa T' c := by
  refine ⟨by rw [e 0 (by decide)]; exact h.1, fun k b p hk hb hp hv => ?_⟩
  have hd := exP_dp hcu (show k + 1 ≤ 3 by omega) (show exP cu 0 (k + 1) (b * 4 + p + 1) from ⟨b, p, hb, hp, rfl⟩)
  rw [e _ hd.2]
  exact h.2 k b p hk hb hp hv
theorem ltX_ok {nf fr ca : Nat → Nat} {bo : Bool} {cu la : Nat} {wa : Nat → Nat} (hcu : cu ≤ 4) (hla : la ≤ 3) (hfr : ∀ c, c < cu → fr c < 6) (y : mL4) : ∀ c, c < cu → tOK nf fr bo cu la wa (ltX nf fr ca bo cu wa la y).1.2 c ∧ (ltX nf fr ca bo cu wa la y).2.1 c = ca c ∧ (ltX nf fr ca bo cu wa la y).2.2 c = 0 := by
  have h := iterF_ix (f := ltS nf fr ca bo cu wa la) (P := fun i y => ∀ c, c < i → tOK nf fr bo cu la wa y.1.2 c ∧ y.2.1 c = ca c ∧ y.2.2 c = 0) cu 0 y (fun c hc => absurd hc (Nat.not_lt_zero _)) (by
    intro i y _ hi hy c hc
    have hr := rtF_ok (nf := nf) (fr := fr) (bo := bo) (wa := wa) (c := i) hcu hla (hfr i (by omega)) y.1
    show tOK nf fr bo cu la wa (rtF nf fr bo cu wa la i y.1).2 c ∧ mUp y.2.1 i (ca i) c = ca c ∧ mUp y.2.2 i 0 c = 0
    by_cases e : c = i
    · rw [e, mUp_eq, mUp_eq]; exact ⟨hr.1, rfl, rfl⟩
    · rw [mUp_ne _ _ e, mUp_ne _ _ e]
      have := hy c (by omega)
      refine ⟨tOK_cong hcu hla this.1 (fun m hm => hr.2 _ (fun m' hm' => ?_)), this.2⟩
      omega)
  rw [Nat.zero_add] at h
  exact h
theorem twF_at {k : Nat} : ∀ q w r, (∀ p, p < q → twF k q w r (k * 4 + p) = r / 10 ^ (q - 1 - p) % 10) ∧ ∀ j, (∀ p, p < q → j ≠ k * 4 + p) → twF k q w r j = w j := by
  intro q
  induction q with
  | zero => intro w r; exact ⟨fun p hp => absurd hp (Nat.not_lt_zero _), fun _ _ => rfl⟩
  | succ q ih =>
    intro w r
    have h := ih (mUp w (k * 4 + q) (r % 10)) (r / 10)
    refine ⟨fun p hp => ?_, fun j hj => ?_⟩
    · show twF k q (mUp w (k * 4 + q) (r % 10)) (r / 10) (k * 4 + p) = _
      by_cases e : p = q
      · rw [e, h.2 _ (fun p' hp' => by omega), mUp_eq, show q + 1 - 1 - q = 0 by omega, Nat.pow_zero, Nat.div_one]
      · rw [h.1 p (by omega), Nat.div_div_eq_div_mul, Nat.mul_comm 10, ← Nat.pow_succ, show (q - 1 - p).succ = q + 1 - 1 - p by omega]
    · show twF k q (mUp w (k * 4 + q) (r % 10)) (r / 10) j = _
      rw [h.2 j (fun p hp => hj p (by omega)), mUp_ne _ _ (hj q (by omega))]
theorem wnF_ok {cu fm la : Nat} (hcu : cu ≤ 4) (w : Nat → Nat) : waOK cu fm la (wnF cu fm la w) := by
  have h := iterF_ix (f := wnI cu fm) (P := fun i w => ∀ k p, 1 ≤ k → k < i → p < cu → w (k * 4 + p) = fgo cu (fm + k - 1) p) la 1 w (fun k p h1 h2 => absurd h1 (by omega)) (by
    intro i y _ _ hy k p h1 h2 hp
    unfold wnI
    by_cases e : k = i
    · rw [e]; exact (twF_at cu y (fm + i - 1)).1 p hp
    · rw [(twF_at cu y (fm + i - 1)).2 _ (fun p' hp' => by omega)]; exact hy k p h1 (by omega) hp)
  exact fun k p h1 h2 hp => h k p h1 (by omega) hp
/-- orders that go on from st -/
def seqO (cu la st : Nat) (o : Nat → Nat) : Prop := o 0 = st ∧ ∀ j, 1 ≤ j → j ≤ la → PO cu (o j)
theorem lt_mF {nf fr ca : Nat → Nat} {bo : Bool} {cu la st : Nat} {wa pl : Nat → Nat} {y : mL4} (hcu : cu ≤ 4) (hl1 : 1 ≤ la) (hla : la ≤ 3) (hfr : ∀ c, c < cu → fr c < 6) (hst : PO cu st) (hca : ∀ p, p < cu → cIn st p = ca p) : ∃ B, (ltZ nf fr ca bo cu la wa pl y).2.2.2 = nI B ∧ mF 1000 (fun w => ∃ o, seqO cu la st o ∧ w = tcO nf fr bo wa cu la o) B := by
  have hY := ltX_ok (nf := nf) (fr := fr) (ca := ca) (bo := bo) (wa := wa) hcu hla hfr y
  have e0 : spO nf fr bo wa cu 0 0 0 (fun _ => st) (fun _ => 0) = 0 := by
    unfold spO
    rw [smG_cong (g := fun _ => 0) cu (fun c hc => by
      unfold cuV
      rw [if_neg (by rw [Nat.zero_testBit]; exact Bool.noConfusion)]
      exact vlC_0 (hfr c hc)), smG_0]
    rfl
  have hfu : (la - (0 + 1)) * (cu + 2) + (cu - 0) < 20 := by
    have : (la - (0 + 1)) * (cu + 2) ≤ 2 * 6 := Nat.mul_le_mul (by omega) (by omega)
    omega
  have h := chF_sp (nf := nf) (fr := fr) (bo := bo) (wa := wa) (T := (ltX nf fr ca bo cu wa la y).1.2) hcu hla (fun c hc => (hY c hc).1) hfr 20 0 0 0 (fun _ => st) (fun _ => 0) ((ltX nf fr ca bo cu wa la y).2.1, pl, (ltX nf fr ca bo cu wa la y).2.2, nI 1000) 1000 (by omega) (Nat.zero_le _) (by decide) rfl (fun q hq => absurd hq (Nat.not_lt_zero _)) (fun _ _ => hst) ⟨fun j q hj hq => by
    rw [show j = 0 by omega, Nat.zero_mul, Nat.zero_add]
    exact ((hY q hq).2.1).trans (hca q hq).symm, fun j c h1 h2 => absurd h1 (by omega), fun j c hj hc => by
    rw [show j = 0 by omega, Nat.zero_mul, Nat.zero_add]
    exact (hY c hc).2.2, fun q hq => absurd hq (Nat.not_lt_zero _)⟩ rfl (Nat.le_refl _) hfu
  rw [e0] at h
  obtain ⟨B, h1, h2, _⟩ := h
  refine ⟨B, h1, h2.iff (fun w => ?_)⟩
  constructor
  · rintro ⟨o, ⟨g1, g2⟩, g3⟩
    exact ⟨o, fun j hj => by rw [show j = 0 by omega]; exact g1, fun j hj1 hj2 => g2 j (by omega) hj2, fun q hq => absurd hq (Nat.not_lt_zero _), g3⟩
  · rintro ⟨o, g1, g2, _, g3⟩
    exact ⟨o, ⟨g1 0 (Nat.le_refl _), fun j hj1 hj2 => g2 j (by omega) hj2⟩, g3⟩
/-! the reference's loops -/
def weR (ls : Nat → Nat) (cu my st : Nat) (od : Nat → Nat) (i j k : Nat) : Nat := (if 2 < my then (if 1 < my then cgF cu st (od i) + cgF cu (od i) (od j) else cgF cu st (od i)) + cgF cu (od j) (od k) else (if 1 < my then cgF cu st (od i) + cgF cu (od i) (od j) else cgF cu st (od i))) + wbR ls cu (od i) (od j) (od k)
theorem w0_mF {ls : Nat → Nat} {cu mo my st : Nat} {od : Nat → Nat} : mF 100000 (fun w => ∃ i, i < mo ∧ ∃ j, j < (if 1 < my then mo else 1) ∧ ∃ k, k < (if 2 < my then mo else 1) ∧ w = weR ls cu my st od i j k) (w0R ls cu mo my st od) := by
  have h3 : ∀ i j k b, mF b (fun w => w = weR ls cu my st od i j k) (w3S ls cu my od i j (if 1 < my then cgF cu st (od i) + cgF cu (od i) (od j) else cgF cu st (od i)) k b) := by
    intro i j k b
    unfold w3S
    by_cases q : (if 1 < my then cgF cu st (od i) + cgF cu (od i) (od j) else cgF cu st (od i)) < b
    · rw [if_pos q]; exact mF.one b _
    · rw [if_neg q]
      refine mF.no (fun w hw => ?_)
      rw [hw]
      unfold weR
      by_cases q2 : 2 < my
      · rw [if_pos q2]; omega
      · rw [if_neg q2]; omega
  have h2 : ∀ i j b, mF b (fun w => ∃ k, k < (if 2 < my then mo else 1) ∧ w = weR ls cu my st od i j k) (w2S ls cu mo my od i (cgF cu st (od i)) j b) := by
    intro i j b
    unfold w2S
    exact (mF.iter _ 0 b (fun k b _ _ => h3 i j k b)).iff (fun w => ⟨fun ⟨k, g1, g2⟩ => ⟨k, Nat.zero_le _, by omega, g2⟩, fun ⟨k, _, g1, g2⟩ => ⟨k, by omega, g2⟩⟩)
  have h1 : ∀ i b, mF b (fun w => ∃ j, j < (if 1 < my then mo else 1) ∧ ∃ k, k < (if 2 < my then mo else 1) ∧ w = weR ls cu my st od i j k) (w1S ls cu mo my st od i b) := by
    intro i b
    unfold w1S
    exact (mF.iter _ 0 b (fun j b _ _ => h2 i j b)).iff (fun w => ⟨fun ⟨k, g1, g2⟩ => ⟨k, Nat.zero_le _, by omega, g2⟩, fun ⟨k, _, g1, g2⟩ => ⟨k, by omega, g2⟩⟩)
  unfold w0R
  exact (mF.iter _ 0 100000 (fun i b _ _ => h1 i b)).iff (fun w => ⟨fun ⟨k, g1, g2⟩ => ⟨k, Nat.zero_le _, by omega, g2⟩, fun ⟨k, _, g1, g2⟩ => ⟨k, by omega, g2⟩⟩)
def s4 (a b c d : Nat) : Nat → Nat := fun n => if n = 0 then a else if n = 1 then b else if n = 2 then c else d
theorem wb_tf {nw : Nat → Nat} {bo : Bool} {cu fm my : Nat} {ls o : Nat → Nat} (hcu : cu ≤ 4) {a b c : Nat} (h1 : ∀ x, x < cu → ttT nw bo cu fm my x (plF (cIn a) x cu) (plF (cIn b) x cu) (plF (cIn c) x cu) = tfO nw bo cu fm my o x) : wbR (tt0 (ttT nw bo cu fm my) cu ls) cu a b c = smG (tfO nw bo cu fm my o) cu := by
  unfold wbR
  refine smG_cong cu (fun x hx => ?_)
  unfold wbF
  rw [tt0_at _ hcu _ x _ _ _ hx (plF_cu (by omega)) (plF_cu (by omega)) (plF_cu (by omega))]
  exact h1 x hx
theorem wk_mF {nw : Nat → Nat} {bo : Bool} {cu fm la mo st : Nat} {ls od : Nat → Nat} (hcu : cu ≤ 4) (hl1 : 1 ≤ la) (hla : la ≤ 3) (hO : oAll cu mo od) : mF 100000 (fun w => ∃ o, seqO cu la st o ∧ w = cgT cu o la + smG (tfO nw bo cu fm la o) cu) (w0R (tt0 (ttT nw bo cu fm la) cu ls) cu mo la st od) := by
  refine w0_mF.iff (fun w => ?_)
  rcases (show la = 1 ∨ la = 2 ∨ la = 3 by omega) with rfl | rfl | rfl
  · constructor
    · rintro ⟨o, ⟨g1, g2⟩, g3⟩
      obtain ⟨i, hi, ei⟩ := hO.2.2 (o 1) (g2 1 (by omega) (by omega))
      refine ⟨i, hi, 0, (by rw [if_neg (by decide)]; exact Nat.zero_lt_one), 0, (by rw [if_neg (by decide)]; exact Nat.zero_lt_one), ?_⟩
      rw [g3]
      show 0 + cgF cu (o 0) (o 1) + _ = cgF cu st (od i) + _
      rw [wb_tf (o := o) hcu (fun x hx => by rw [ei]; rfl), g1, ei, Nat.zero_add]
    · rintro ⟨i, hi, j, hj, k, hk, e⟩
      refine ⟨s4 st (od i) (od j) (od k), ⟨rfl, fun n h1 h2 => ?_⟩, ?_⟩
      · rw [show n = 1 by omega]; exact hO.2.1 i hi
      · rw [e]
        show cgF cu st (od i) + _ = 0 + cgF cu st (od i) + _
        rw [wb_tf (o := s4 st (od i) (od j) (od k)) (a := od i) (b := od j) (c := od k) hcu (fun x hx => rfl), Nat.zero_add]
  · constructor
    · rintro ⟨o, ⟨g1, g2⟩, g3⟩
      obtain ⟨i, hi, ei⟩ := hO.2.2 (o 1) (g2 1 (by omega) (by omega))
      obtain ⟨j, hj, ej⟩ := hO.2.2 (o 2) (g2 2 (by omega) (by omega))
      refine ⟨i, hi, j, hj, 0, (by rw [if_neg (by decide)]; exact Nat.zero_lt_one), ?_⟩
      rw [g3]
      show 0 + cgF cu (o 0) (o 1) + cgF cu (o 1) (o 2) + _ = cgF cu st (od i) + cgF cu (od i) (od j) + _
      rw [wb_tf (o := o) hcu (fun x hx => by rw [ei, ej]; rfl), g1, ei, ej, Nat.zero_add]
    · rintro ⟨i, hi, j, hj, k, hk, e⟩
      refine ⟨s4 st (od i) (od j) (od k), ⟨rfl, fun n h1 h2 => ?_⟩, ?_⟩
      · rcases (show n = 1 ∨ n = 2 by omega) with rfl | rfl
        · exact hO.2.1 i hi
        · exact hO.2.1 j hj
      · rw [e]
        show cgF cu st (od i) + cgF cu (od i) (od j) + _ = 0 + cgF cu st (od i) + cgF cu (od i) (od j) + _
        rw [wb_tf (o := s4 st (od i) (od j) (od k)) (a := od i) (b := od j) (c := od k) hcu (fun x hx => rfl), Nat.zero_add]
  · constructor
    · rintro ⟨o, ⟨g1, g2⟩, g3⟩
      obtain ⟨i, hi, ei⟩ := hO.2.2 (o 1) (g2 1 (by omega) (by omega))
      obtain ⟨j, hj, ej⟩ := hO.2.2 (o 2) (g2 2 (by omega) (by omega))
      obtain ⟨k, hk, ek⟩ := hO.2.2 (o 3) (g2 3 (by omega) (by omega))
      refine ⟨i, hi, j, hj, k, hk, ?_⟩
      rw [g3]
      show 0 + cgF cu (o 0) (o 1) + cgF cu (o 1) (o 2) + cgF cu (o 2) (o 3) + _ = cgF cu st (od i) + cgF cu (od i) (od j) + cgF cu (od j) (od k) + _
      rw [wb_tf (o := o) hcu (fun x hx => by rw [ei, ej, ek]; rfl), g1, ei, ej, ek, Nat.zero_add]
    · rintro ⟨i, hi, j, hj, k, hk, e⟩
      refine ⟨s4 st (od i) (od j) (od k), ⟨rfl, fun n h1 h2 => ?_⟩, ?_⟩
      · rcases (show n = 1 ∨ n = 2 ∨ n = 3 by omega) with rfl | rfl | rfl
        · exact hO.2.1 i hi
        · exact hO.2.1 j hj
        · exact hO.2.1 k hk
      · rw [e]
        show cgF cu st (od i) + cgF cu (od i) (od j) + cgF cu (od j) (od k) + _ = 0 + cgF cu st (od i) + cgF cu (od i) (od j) + cgF cu (od j) (od k) + _
        rw [wb_tf (o := s4 st (od i) (od j) (od k)) (a := od i) (b := od j) (c := od k) hcu (fun x hx => rfl), Nat.zero_add]
/-- a row of places is an order -/
theorem ca_ord {cu : Nat} {ca : Nat → Nat} (hcu : cu ≤ 4) (h1 : ∀ j, j < cu → ca j < cu) (h2 : ∀ i j, i < cu → j < cu → ca i = ca j → i = j) : PO cu (onF ca cu) ∧ ∀ p, p < cu → cIn (onF ca cu) p = ca p := by
  have key : ∀ p, p ≤ cu → ∃ us, us < 16 ∧ chk ca p us = true := by
    intro p
    induction p with
    | zero => intro _; exact ⟨0, by decide, rfl⟩
    | succ p ih =>
      intro hp
      obtain ⟨us, h3, h4⟩ := ih (by omega)
      have hcp := h1 p (by omega)
      have hb : us.testBit (ca p) = false := by
        cases e : us.testBit (ca p)
        · rfl
        · obtain ⟨q, hq, hq2⟩ := chk_of p us h3 (fun q hq => by have := h1 q (by omega); omega) h4 (ca p) (by omega) e
          have := h2 q p (by omega) (by omega) hq2
          omega
      refine ⟨us ||| 1 <<< ca p, or_bit_lt h3 (by omega), ?_⟩
      have := chk_add (g := ca) (p := p) h3 (show ca p < 4 by omega) h4 hb
      rw [chk_cong (g' := ca) (p + 1) _ (fun i hi => by
        by_cases e : i = p
        · rw [e, mUp_eq]
        · rw [mUp_ne _ _ e])] at this
      exact this
  obtain ⟨us, h3, h4⟩ := key cu (Nat.le_refl _)
  have := ord_on hcu h3 h1 h4
  exact ⟨this.1, this.2.1⟩
theorem lw_eq {nw nf fr ca : Nat → Nat} {bo : Bool} {cu fm la mo wk : Nat} {w pl ls od : Nat → Nat} {y : mL4} (hcu : cu ≤ 4) (hl1 : 1 ≤ la) (hla : la ≤ 3) (hs : sdR cu nw wk nf ca fr) (hfr : ∀ c, c < 4 → fr c < 6) (hc1 : ∀ j, j < cu → ca j < cu) (hc2 : ∀ i j, i < cu → j < cu → ca i = ca j → i = j) (hO : oAll cu mo od) : lwA nf fr ca bo cu la fm w pl y = wkR nw bo cu mo la fm od ls := by
  obtain ⟨s1, s2, s3, s4'⟩ := hs
  have hst := ca_ord hcu hc1 hc2
  have est : onF (fun p => nw (24 + p)) cu = onF ca cu := onF_cong cu (fun p hp => s2 p (by omega))
  have hwa := wnF_ok (fm := fm) (la := la) hcu w
  obtain ⟨B, hB, hmB⟩ := lt_mF (nf := nf) (fr := fr) (ca := ca) (bo := bo) (wa := wnF cu fm la w) (pl := pl) (y := y) hcu hl1 hla (fun c hc => hfr c (by omega)) hst.1 hst.2
  have hmW := wk_mF (nw := nw) (bo := bo) (fm := fm) (st := onF ca cu) (ls := ls) hcu hl1 hla hO
  have vt : ∀ (o : Nat → Nat) c, c < cu → (vlC nf fr bo (wnF cu fm la w) c la (pthO cu o c la) ≤ 6 ∧ tfO nw bo cu fm la o c = vlC nf fr bo (wnF cu fm la w) c la (pthO cu o c la)) ∨ (vlC nf fr bo (wnF cu fm la w) c la (pthO cu o c la) = 1000 ∧ tfO nw bo cu fm la o c = 100000) := fun o c hc => vl_tf hcu hc hl1 hla s1 (s3 c (by omega)) (hfr c (by omega)) hwa
  -- what costs less than too much costs the same on both sides
  have hA : ∀ o : Nat → Nat, tcO nf fr bo (wnF cu fm la w) cu la o < 1000 → cgT cu o la + smG (tfO nw bo cu fm la o) cu = tcO nf fr bo (wnF cu fm la w) cu la o := by
    intro o h
    unfold tcO at h ⊢
    rw [smG_cong cu (fun c hc => ?_)]
    rcases vt o c hc with e | e
    · exact e.2
    · have := smG_at (f := fun c => vlC nf fr bo (wnF cu fm la w) c la (pthO cu o c la)) cu c hc
      omega
  have hF : ∀ o : Nat → Nat, cgT cu o la + smG (tfO nw bo cu fm la o) cu < 100000 → ∀ c, c < cu → vlC nf fr bo (wnF cu fm la w) c la (pthO cu o c la) ≤ 6 ∧ tfO nw bo cu fm la o c = vlC nf fr bo (wnF cu fm la w) c la (pthO cu o c la) := by
    intro o h c hc
    rcases vt o c hc with e | e
    · exact e
    · have := smG_at (f := tfO nw bo cu fm la o) cu c hc
      omega
  have hBd : ∀ o : Nat → Nat, cgT cu o la + smG (tfO nw bo cu fm la o) cu < 100000 → tcO nf fr bo (wnF cu fm la w) cu la o = cgT cu o la + smG (tfO nw bo cu fm la o) cu ∧ tcO nf fr bo (wnF cu fm la w) cu la o ≤ 36 := by
    intro o h
    have h1 := hF o h
    have e : tcO nf fr bo (wnF cu fm la w) cu la o = cgT cu o la + smG (tfO nw bo cu fm la o) cu := by
      unfold tcO
      rw [smG_cong cu (fun c hc => (h1 c hc).2.symm)]
    refine ⟨e, ?_⟩
    unfold tcO
    have h2 := cgT_le (cu := cu) (o := o) la
    have h3 : smG (fun c => vlC nf fr bo (wnF cu fm la w) c la (pthO cu o c la)) cu ≤ cu * 6 := smG_le cu (fun c hc => (h1 c hc).1)
    have h4 : la * cu ≤ 3 * 4 := Nat.mul_le_mul hla hcu
    omega
  unfold wkR wfR lwA ltA
  rw [est, hB]
  by_cases hW : w0R (tt0 (ttT nw bo cu fm la) cu ls) cu mo la (onF ca cu) od < 100000
  · rw [if_pos hW]
    obtain ⟨o, ho, eo⟩ : ∃ o, seqO cu la (onF ca cu) o ∧ w0R (tt0 (ttT nw bo cu fm la) cu ls) cu mo la (onF ca cu) od = cgT cu o la + smG (tfO nw bo cu fm la o) cu := by
      rcases hmW.2.2 with e | e
      · omega
      · exact e
    have hb := hBd o (by omega)
    have h1 := hmB.2.1 _ ⟨o, ho, rfl⟩
    -- each number can be told
    have hcan : allF (fun i => canT (cwT nf bo (-1) cu) cu (fm + i)) 0 la = true := by
      rw [allF_iff]
      intro i _ hi
      rw [canT_iff hcu]
      have hPO := ho.2 (i + 1) (by omega) (by omega)
      refine ⟨o (i + 1), hPO, fun p hp => ?_⟩
      have hc := (PO_lt hcu hPO).2 p hp
      rw [cwT_bit hc]
      have hv := hF o (by omega) _ hc
      rcases (vlC_mF (nf := nf) (fr := fr) (bo := bo) (wa := wnF cu fm la w) (c := cIn (o (i + 1)) p) (k := la) (m := pthO cu o (cIn (o (i + 1)) p) la)).2.2 with e | ⟨s, hs, hq⟩
      · omega
      · obtain ⟨s', hs', hfit⟩ := wy_fit hcu hc la ⟨s, hs, _, hq⟩ (i + 1) (by omega) (by omega)
        rw [PO_pl hcu hPO hp, hwa (i + 1) p (by omega) (by omega) hp, show fm + (i + 1) - 1 = fm + i by omega] at hfit
        refine ⟨s', hs', fun z => ?_, hfit⟩
        have := (bl_no hcu _ s' hc hs').mp z
        split at this <;> omega
    rw [if_pos hcan]
    have hB2 : B = w0R (tt0 (ttT nw bo cu fm la) cu ls) cu mo la (onF ca cu) od := by
      rcases hmB.2.2 with e | ⟨o2, ho2, e2⟩
      · omega
      · have := hA o2 (by omega)
        have := hmW.2.1 B ⟨o2, ho2, by omega⟩
        omega
    rw [if_neg (fun z => by have := nI_inj (by omega) (by decide) z; omega), hB2]
  · rw [if_neg hW]
    split
    · rw [if_pos]
      rcases hmB.2.2 with e | ⟨o2, ho2, e2⟩
      · rw [e]
      · by_cases q : B < 1000
        · have := hA o2 (by omega)
          have := hmW.2.1 B ⟨o2, ho2, by omega⟩
          omega
        · have := hmB.1
          rw [show B = 1000 by omega]
    · rfl
